theorem mz_1_27 : Cond.instanceMethod Lib.objectInit ∈ TT := tt_in (tb_1 (List.mem_of_getElem? (i := 27) (by decide +kernel))) (by decide +kernel)
theorem mz_1_28 : Cond.code Lib.objectInit ⟨#[177]⟩ 1 none ∈ TT := tt_in (tb_1 (List.mem_of_getElem? (i := 28) (by decide +kernel))) (by decide +kernel)
theorem mz_1_106 : Cond.arrayClass .byte ∈ TT := tt_in (tb_1 (List.mem_of_getElem? (i := 106) (by decide +kernel))) (by decide +kernel)
theorem mz_1_107 : Cond.arrayClass .int ∈ TT := tt_in (tb_1 (List.mem_of_getElem? (i := 107) (by decide +kernel))) (by decide +kernel)
theorem mz_1_108 : Cond.arrayClass .long ∈ TT := tt_in (tb_1 (List.mem_of_getElem? (i := 108) (by decide +kernel))) (by decide +kernel)
theorem mz_5_17 : Cond.arrayClass .boolean ∈ TT := tt_in (tb_5 (List.mem_of_getElem? (i := 17) (by decide +kernel))) (by decide +kernel)
abbrev z0 : Nat → Int32 := fun _ => 0
abbrev z0L : Nat → Int64 := fun _ => 0
def frX0 : List Value := [.int 0, .int 0]
def frX1 : List Value := [.null, .int 0, .int 0, .int 0]
def frX2 : List Value := [.null, .int 0, .int 0]
def frX3 : List Value := [.null, .null, .int 0, .int 0, .int 0]
def frX4 : List Value := [.null, .int 0, .int 0, .int 0, .int 0, .int 0, .long 0]
def frX5 : List Value := [.int 0, .int 0, .int 0, .int 0, .null, .int 0, .int 0, .int 0, .int 0]
def frX6 : List Value := [.int 0, .int 0, .int 0, .int 0, .long 0, .null, .null, .null, .null, .null, .null, .null]
def frX7 : List Value := [.int 0, .int 0, .int 0]
def frX8 : List Value := [.null, .int 0, .int 0, .null, .null, .null, .null, .null, .null, .null, .null, .null]
def frX9 : List Value := [.int 0, .null, .int 0, .int 0, .int 0, .int 0, .int 0, .int 0, .null, .null, .null, .null, .int 0, .int 0, .null, .int 0, .int 0, .int 0, .null, .null, .null, .int 0, .int 0, .null, .null, .null, .null]
theorem frX0_ok : ∀ j, j < 2 → defaultValue (tyX0 j) = vp_V frX0 j := by
  intro j hj
  match j, hj with
  | 0, _ => rfl
  | 1, _ => rfl
  | (j + 2), hj => exact absurd hj (by omega)
theorem frX1_ok : ∀ j, j < 4 → defaultValue (tyX1 j) = vp_V frX1 j := by
  intro j hj
  match j, hj with
  | 0, _ => rfl
  | 1, _ => rfl
  | 2, _ => rfl
  | 3, _ => rfl
  | (j + 4), hj => exact absurd hj (by omega)
theorem frX2_ok : ∀ j, j < 3 → defaultValue (tyX2 j) = vp_V frX2 j := by
  intro j hj
  match j, hj with
  | 0, _ => rfl
  | 1, _ => rfl
  | 2, _ => rfl
  | (j + 3), hj => exact absurd hj (by omega)
theorem frX3_ok : ∀ j, j < 5 → defaultValue (tyX3 j) = vp_V frX3 j := by
  intro j hj
  match j, hj with
  | 0, _ => rfl
  | 1, _ => rfl
  | 2, _ => rfl
  | 3, _ => rfl
  | 4, _ => rfl
  | (j + 5), hj => exact absurd hj (by omega)
theorem frX4_ok : ∀ j, j < 7 → defaultValue (tyX4 j) = vp_V frX4 j := by
  intro j hj
  match j, hj with
  | 0, _ => rfl
  | 1, _ => rfl
  | 2, _ => rfl
  | 3, _ => rfl
  | 4, _ => rfl
  | 5, _ => rfl
  | 6, _ => rfl
  | (j + 7), hj => exact absurd hj (by omega)
theorem frX5_ok : ∀ j, j < 9 → defaultValue (tyX5 j) = vp_V frX5 j := by
  intro j hj
  match j, hj with
  | 0, _ => rfl
  | 1, _ => rfl
  | 2, _ => rfl
  | 3, _ => rfl
  | 4, _ => rfl
  | 5, _ => rfl
  | 6, _ => rfl
  | 7, _ => rfl
  | 8, _ => rfl
  | (j + 9), hj => exact absurd hj (by omega)
theorem frX6_ok : ∀ j, j < 12 → defaultValue (tyX6 j) = vp_V frX6 j := by
  intro j hj
  match j, hj with
  | 0, _ => rfl
  | 1, _ => rfl
  | 2, _ => rfl
  | 3, _ => rfl
  | 4, _ => rfl
  | 5, _ => rfl
  | 6, _ => rfl
  | 7, _ => rfl
  | 8, _ => rfl
  | 9, _ => rfl
  | 10, _ => rfl
  | 11, _ => rfl
  | (j + 12), hj => exact absurd hj (by omega)
theorem frX7_ok : ∀ j, j < 3 → defaultValue (tyX7 j) = vp_V frX7 j := by
  intro j hj
  match j, hj with
  | 0, _ => rfl
  | 1, _ => rfl
  | 2, _ => rfl
  | (j + 3), hj => exact absurd hj (by omega)
theorem frX8_ok : ∀ j, j < 12 → defaultValue (tyX8 j) = vp_V frX8 j := by
  intro j hj
  match j, hj with
  | 0, _ => rfl
  | 1, _ => rfl
  | 2, _ => rfl
  | 3, _ => rfl
  | 4, _ => rfl
  | 5, _ => rfl
  | 6, _ => rfl
  | 7, _ => rfl
  | 8, _ => rfl
  | 9, _ => rfl
  | 10, _ => rfl
  | 11, _ => rfl
  | (j + 12), hj => exact absurd hj (by omega)
theorem frX9_ok : ∀ j, j < 27 → defaultValue (tyX9 j) = vp_V frX9 j := by
  intro j hj
  match j, hj with
  | 0, _ => rfl
  | 1, _ => rfl
  | 2, _ => rfl
  | 3, _ => rfl
  | 4, _ => rfl
  | 5, _ => rfl
  | 6, _ => rfl
  | 7, _ => rfl
  | 8, _ => rfl
  | 9, _ => rfl
  | 10, _ => rfl
  | 11, _ => rfl
  | 12, _ => rfl
  | 13, _ => rfl
  | 14, _ => rfl
  | 15, _ => rfl
  | 16, _ => rfl
  | 17, _ => rfl
  | 18, _ => rfl
  | 19, _ => rfl
  | 20, _ => rfl
  | 21, _ => rfl
  | 22, _ => rfl
  | 23, _ => rfl
  | 24, _ => rfl
  | 25, _ => rfl
  | 26, _ => rfl
  | (j + 27), hj => exact absurd hj (by omega)
theorem mz_1_215 : Cond.methodLink RX0 3 Lib.objectInit ∈ TT := tt_in (tb_1 (List.mem_of_getElem? (i := 215) (by decide +kernel))) (by decide +kernel)
def fiX0 (h0 n : Nat) : List Value := [.int 0, .int 0]
def caX0 (G : Gx) (h0 n : Nat) : List va_E := []
set_option maxHeartbeats 4000000 in
set_option maxRecDepth 100000 in
theorem zX0 (G : Gx) (h0 n o : Nat) (E : Nat → va_E) (hE : E o = .inr (0, frX0)) (ho : o < n) : RunsZ 1 0 M_X0_init G h0 n o 0 E (fiX0 h0 n) (caX0 G h0 n) := by
  refine RunsZ.of (fs0 := frX0) (fs := fiX0 h0 n) (as := caX0 G h0 n) RX0 rfl rfl (by decide +kernel) (by decide) hE ho (fun X hF => ?_)
  refine Zj.aload_n 0 dX0_init_0 rfl ?_
  refine Zj.objInit mz_1_215 mz_1_27 mz_1_28 (Nat.le_of_ble_eq_true rfl) (Nat.le_of_ble_eq_true rfl) dX0_init_1 ?_
  refine Zj.aload_n 0 dX0_init_4 rfl ?_
  refine Zj.iconst (v := 0) dX0_init_5 (by decide) ?_
  refine Zj.put (i := 0) (C := RX0) (T := TX0) (N := 2) (v := .int 0) (ty := .int) (fs' := [.int 0, .int 0]) tyX0 tyX0_ok nmX0 ho rfl inX0 (Nat.le_of_ble_eq_true rfl) mw_1_216 rfl (by decide +kernel) rfl rfl (Nat.le_of_ble_eq_true rfl) dX0_init_6 rfl ?_
  refine Zj.aload_n 0 dX0_init_9 rfl ?_
  refine Zj.iconst (v := 0) dX0_init_10 (by decide) ?_
  refine Zj.put (i := 1) (C := RX0) (T := TX0) (N := 2) (v := .int 0) (ty := .int) (fs' := [.int 0, .int 0]) tyX0 tyX0_ok nmX0 ho rfl inX0 (Nat.le_of_ble_eq_true rfl) mw_1_218 rfl (by decide +kernel) rfl rfl (Nat.le_of_ble_eq_true rfl) dX0_init_11 rfl ?_
  exact Zj.vret hF rfl dX0_init_14
theorem mz_1_166 : Cond.methodLink RX1 3 Lib.objectInit ∈ TT := tt_in (tb_1 (List.mem_of_getElem? (i := 166) (by decide +kernel))) (by decide +kernel)
def fiX1 (h0 n : Nat) : List Value := [.ref (h0 + (n + 0)), .int 0, .int 0, .int 0]
def caX1 (G : Gx) (h0 n : Nat) : List va_E := [aI G 16 z0]
set_option maxHeartbeats 4000000 in
set_option maxRecDepth 100000 in
theorem zX1 (G : Gx) (h0 n o : Nat) (E : Nat → va_E) (hE : E o = .inr (1, frX1)) (ho : o < n) : RunsZ 1 16 M_X1_init G h0 n o 1 E (fiX1 h0 n) (caX1 G h0 n) := by
  refine RunsZ.of (fs0 := frX1) (fs := fiX1 h0 n) (as := caX1 G h0 n) RX1 rfl rfl (by decide +kernel) (by decide) hE ho (fun X hF => ?_)
  refine Zj.aload_n 0 dX1_init_0 rfl ?_
  refine Zj.objInit mz_1_166 mz_1_27 mz_1_28 (Nat.le_of_ble_eq_true rfl) (Nat.le_of_ble_eq_true rfl) dX1_init_1 ?_
  refine Zj.aload_n 0 dX1_init_4 rfl ?_
  refine Zj.bipush (v := 16) dX1_init_5 (by decide) ?_
  refine Zj.newa (atype := .int) (ty := .int) (ti := 1) (N := 16) (j := 0) (a0 := (16, .inl z0)) (as' := [aI G 16 z0]) (by omega) rfl rfl (fun _ _ h => h) mz_1_107 (fun _ => rfl) (by decide) (by decide +kernel) (Nat.le_of_ble_eq_true rfl) rfl (Nat.le_of_ble_eq_true rfl) (Nat.le_of_ble_eq_true rfl) dX1_init_7 rfl ?_
  refine Zj.putF hF (i := 0) (C := RX1) (T := TX1) (N := 4) (v := .ref (h0 + (n + 0))) (ty := (.array .int)) (fs' := [.ref (h0 + (n + 0)), .int 0, .int 0, .int 0]) tyX1 tyX1_ok nmX1 ho rfl inX1 (Nat.le_of_ble_eq_true rfl) mw_1_167 rfl rfl (by decide +kernel) rfl rfl (Nat.le_of_ble_eq_true rfl) dX1_init_9 rfl ?_
  refine Zj.aload_n 0 dX1_init_12 rfl ?_
  refine Zj.iconst (v := 0) dX1_init_13 (by decide) ?_
  refine Zj.put (i := 1) (C := RX1) (T := TX1) (N := 4) (v := .int 0) (ty := .int) (fs' := [.ref (h0 + (n + 0)), .int 0, .int 0, .int 0]) tyX1 tyX1_ok nmX1 ho rfl inX1 (Nat.le_of_ble_eq_true rfl) mw_1_170 rfl (by decide +kernel) rfl rfl (Nat.le_of_ble_eq_true rfl) dX1_init_14 rfl ?_
  refine Zj.aload_n 0 dX1_init_17 rfl ?_
  refine Zj.iconst (v := 0) dX1_init_18 (by decide) ?_
  refine Zj.put (i := 2) (C := RX1) (T := TX1) (N := 4) (v := .int 0) (ty := .int) (fs' := [.ref (h0 + (n + 0)), .int 0, .int 0, .int 0]) tyX1 tyX1_ok nmX1 ho rfl inX1 (Nat.le_of_ble_eq_true rfl) mw_1_173 rfl (by decide +kernel) rfl rfl (Nat.le_of_ble_eq_true rfl) dX1_init_19 rfl ?_
  refine Zj.aload_n 0 dX1_init_22 rfl ?_
  refine Zj.iconst (v := 0) dX1_init_23 (by decide) ?_
  refine Zj.put (i := 3) (C := RX1) (T := TX1) (N := 4) (v := .int 0) (ty := .int) (fs' := [.ref (h0 + (n + 0)), .int 0, .int 0, .int 0]) tyX1 tyX1_ok nmX1 ho rfl inX1 (Nat.le_of_ble_eq_true rfl) mw_1_175 rfl (by decide +kernel) rfl rfl (Nat.le_of_ble_eq_true rfl) dX1_init_24 rfl ?_
  exact Zj.vret hF rfl dX1_init_27
theorem mz_1_191 : Cond.methodLink RX3 3 Lib.objectInit ∈ TT := tt_in (tb_1 (List.mem_of_getElem? (i := 191) (by decide +kernel))) (by decide +kernel)
def fiX3 (h0 n : Nat) : List Value := [.ref (h0 + (n + 0)), .ref (h0 + (n + 1)), .int 0, .int 0, .int 0]
def caX3 (G : Gx) (h0 n : Nat) : List va_E := [aI G 16 z0, aI G 16 z0]
set_option maxHeartbeats 4000000 in
set_option maxRecDepth 100000 in
theorem zX3 (G : Gx) (h0 n o : Nat) (E : Nat → va_E) (hE : E o = .inr (3, frX3)) (ho : o < n) : RunsZ 1 32 M_X3_init G h0 n o 3 E (fiX3 h0 n) (caX3 G h0 n) := by
  refine RunsZ.of (fs0 := frX3) (fs := fiX3 h0 n) (as := caX3 G h0 n) RX3 rfl rfl (by decide +kernel) (by decide) hE ho (fun X hF => ?_)
  refine Zj.aload_n 0 dX3_init_0 rfl ?_
  refine Zj.objInit mz_1_191 mz_1_27 mz_1_28 (Nat.le_of_ble_eq_true rfl) (Nat.le_of_ble_eq_true rfl) dX3_init_1 ?_
  refine Zj.aload_n 0 dX3_init_4 rfl ?_
  refine Zj.bipush (v := 16) dX3_init_5 (by decide) ?_
  refine Zj.newa (atype := .int) (ty := .int) (ti := 1) (N := 16) (j := 0) (a0 := (16, .inl z0)) (as' := [aI G 16 z0]) (by omega) rfl rfl (fun _ _ h => h) mz_1_107 (fun _ => rfl) (by decide) (by decide +kernel) (Nat.le_of_ble_eq_true rfl) rfl (Nat.le_of_ble_eq_true rfl) (Nat.le_of_ble_eq_true rfl) dX3_init_7 rfl ?_
  refine Zj.putF hF (i := 0) (C := RX3) (T := TX3) (N := 5) (v := .ref (h0 + (n + 0))) (ty := (.array .int)) (fs' := [.ref (h0 + (n + 0)), .null, .int 0, .int 0, .int 0]) tyX3 tyX3_ok nmX3 ho rfl inX3 (Nat.le_of_ble_eq_true rfl) mw_1_192 rfl rfl (by decide +kernel) rfl rfl (Nat.le_of_ble_eq_true rfl) dX3_init_9 rfl ?_
  refine Zj.aload_n 0 dX3_init_12 rfl ?_
  refine Zj.bipush (v := 16) dX3_init_13 (by decide) ?_
  refine Zj.newa (atype := .int) (ty := .int) (ti := 1) (N := 16) (j := 1) (a0 := (16, .inl z0)) (as' := [aI G 16 z0, aI G 16 z0]) (by omega) rfl rfl (fun _ _ h => h) mz_1_107 (fun _ => rfl) (by decide) (by decide +kernel) (Nat.le_of_ble_eq_true rfl) rfl (Nat.le_of_ble_eq_true rfl) (Nat.le_of_ble_eq_true rfl) dX3_init_15 rfl ?_
  refine Zj.putF hF (i := 1) (C := RX3) (T := TX3) (N := 5) (v := .ref (h0 + (n + 1))) (ty := (.array .int)) (fs' := [.ref (h0 + (n + 0)), .ref (h0 + (n + 1)), .int 0, .int 0, .int 0]) tyX3 tyX3_ok nmX3 ho rfl inX3 (Nat.le_of_ble_eq_true rfl) mw_1_193 rfl rfl (by decide +kernel) rfl rfl (Nat.le_of_ble_eq_true rfl) dX3_init_17 rfl ?_
  refine Zj.aload_n 0 dX3_init_20 rfl ?_
  refine Zj.iconst (v := 0) dX3_init_21 (by decide) ?_
  refine Zj.put (i := 2) (C := RX3) (T := TX3) (N := 5) (v := .int 0) (ty := .int) (fs' := [.ref (h0 + (n + 0)), .ref (h0 + (n + 1)), .int 0, .int 0, .int 0]) tyX3 tyX3_ok nmX3 ho rfl inX3 (Nat.le_of_ble_eq_true rfl) mw_1_194 rfl (by decide +kernel) rfl rfl (Nat.le_of_ble_eq_true rfl) dX3_init_22 rfl ?_
  refine Zj.aload_n 0 dX3_init_25 rfl ?_
  refine Zj.iconst (v := 0) dX3_init_26 (by decide) ?_
  refine Zj.put (i := 3) (C := RX3) (T := TX3) (N := 5) (v := .int 0) (ty := .int) (fs' := [.ref (h0 + (n + 0)), .ref (h0 + (n + 1)), .int 0, .int 0, .int 0]) tyX3 tyX3_ok nmX3 ho rfl inX3 (Nat.le_of_ble_eq_true rfl) mw_1_195 rfl (by decide +kernel) rfl rfl (Nat.le_of_ble_eq_true rfl) dX3_init_27 rfl ?_
  refine Zj.aload_n 0 dX3_init_30 rfl ?_
  refine Zj.iconst (v := 0) dX3_init_31 (by decide) ?_
  refine Zj.put (i := 4) (C := RX3) (T := TX3) (N := 5) (v := .int 0) (ty := .int) (fs' := [.ref (h0 + (n + 0)), .ref (h0 + (n + 1)), .int 0, .int 0, .int 0]) tyX3 tyX3_ok nmX3 ho rfl inX3 (Nat.le_of_ble_eq_true rfl) mw_1_197 rfl (by decide +kernel) rfl rfl (Nat.le_of_ble_eq_true rfl) dX3_init_32 rfl ?_
  exact Zj.vret hF rfl dX3_init_35
theorem mz_1_230 : Cond.methodLink RX5 3 Lib.objectInit ∈ TT := tt_in (tb_1 (List.mem_of_getElem? (i := 230) (by decide +kernel))) (by decide +kernel)
def fiX5 (h0 n : Nat) : List Value := [.int 0, .int (-1), .int 0, .int 0, .ref (h0 + (n + 0)), .int 0, .int 0, .int 0, .int 0]
def caX5 (G : Gx) (h0 n : Nat) : List va_E := [aJ G 17 z0L]
set_option maxHeartbeats 4000000 in
set_option maxRecDepth 100000 in
theorem zX5 (G : Gx) (h0 n o : Nat) (E : Nat → va_E) (hE : E o = .inr (5, frX5)) (ho : o < n) : RunsZ 1 17 M_X5_init G h0 n o 5 E (fiX5 h0 n) (caX5 G h0 n) := by
  refine RunsZ.of (fs0 := frX5) (fs := fiX5 h0 n) (as := caX5 G h0 n) RX5 rfl rfl (by decide +kernel) (by decide) hE ho (fun X hF => ?_)
  refine Zj.aload_n 0 dX5_init_0 rfl ?_
  refine Zj.objInit mz_1_230 mz_1_27 mz_1_28 (Nat.le_of_ble_eq_true rfl) (Nat.le_of_ble_eq_true rfl) dX5_init_1 ?_
  refine Zj.aload_n 0 dX5_init_4 rfl ?_
  refine Zj.iconst (v := 0) dX5_init_5 (by decide) ?_
  refine Zj.put (i := 0) (C := RX5) (T := TX5) (N := 9) (v := .int 0) (ty := .int) (fs' := [.int 0, .int 0, .int 0, .int 0, .null, .int 0, .int 0, .int 0, .int 0]) tyX5 tyX5_ok nmX5 ho rfl inX5 (Nat.le_of_ble_eq_true rfl) mw_1_231 rfl (by decide +kernel) rfl rfl (Nat.le_of_ble_eq_true rfl) dX5_init_6 rfl ?_
  refine Zj.aload_n 0 dX5_init_9 rfl ?_
  refine Zj.iconst (v := (-1)) dX5_init_10 (by decide) ?_
  refine Zj.put (i := 1) (C := RX5) (T := TX5) (N := 9) (v := .int (-1)) (ty := .int) (fs' := [.int 0, .int (-1), .int 0, .int 0, .null, .int 0, .int 0, .int 0, .int 0]) tyX5 tyX5_ok nmX5 ho rfl inX5 (Nat.le_of_ble_eq_true rfl) mw_1_232 rfl (by decide +kernel) rfl rfl (Nat.le_of_ble_eq_true rfl) dX5_init_11 rfl ?_
  refine Zj.aload_n 0 dX5_init_14 rfl ?_
  refine Zj.iconst (v := 0) dX5_init_15 (by decide) ?_
  refine Zj.put (i := 2) (C := RX5) (T := TX5) (N := 9) (v := .int 0) (ty := .int) (fs' := [.int 0, .int (-1), .int 0, .int 0, .null, .int 0, .int 0, .int 0, .int 0]) tyX5 tyX5_ok nmX5 ho rfl inX5 (Nat.le_of_ble_eq_true rfl) mw_1_233 rfl (by decide +kernel) rfl rfl (Nat.le_of_ble_eq_true rfl) dX5_init_16 rfl ?_
  refine Zj.aload_n 0 dX5_init_19 rfl ?_
  refine Zj.iconst (v := 0) dX5_init_20 (by decide) ?_
  refine Zj.put (i := 3) (C := RX5) (T := TX5) (N := 9) (v := .int 0) (ty := .int) (fs' := [.int 0, .int (-1), .int 0, .int 0, .null, .int 0, .int 0, .int 0, .int 0]) tyX5 tyX5_ok nmX5 ho rfl inX5 (Nat.le_of_ble_eq_true rfl) mw_1_234 rfl (by decide +kernel) rfl rfl (Nat.le_of_ble_eq_true rfl) dX5_init_21 rfl ?_
  refine Zj.aload_n 0 dX5_init_24 rfl ?_
  refine Zj.bipush (v := 17) dX5_init_25 (by decide) ?_
  refine Zj.newa (atype := .long) (ty := .long) (ti := 2) (N := 17) (j := 0) (a0 := (17, .inr (.inl z0L))) (as' := [aJ G 17 z0L]) (by omega) rfl rfl (fun _ _ h => h) mz_1_108 (fun _ => rfl) (by decide) (by decide +kernel) (Nat.le_of_ble_eq_true rfl) rfl (Nat.le_of_ble_eq_true rfl) (Nat.le_of_ble_eq_true rfl) dX5_init_27 rfl ?_
  refine Zj.putF hF (i := 4) (C := RX5) (T := TX5) (N := 9) (v := .ref (h0 + (n + 0))) (ty := (.array .long)) (fs' := [.int 0, .int (-1), .int 0, .int 0, .ref (h0 + (n + 0)), .int 0, .int 0, .int 0, .int 0]) tyX5 tyX5_ok nmX5 ho rfl inX5 (Nat.le_of_ble_eq_true rfl) mw_1_235 rfl rfl (by decide +kernel) rfl rfl (Nat.le_of_ble_eq_true rfl) dX5_init_29 rfl ?_
  refine Zj.aload_n 0 dX5_init_32 rfl ?_
  refine Zj.iconst (v := 0) dX5_init_33 (by decide) ?_
  refine Zj.put (i := 5) (C := RX5) (T := TX5) (N := 9) (v := .int 0) (ty := .boolean) (fs' := [.int 0, .int (-1), .int 0, .int 0, .ref (h0 + (n + 0)), .int 0, .int 0, .int 0, .int 0]) tyX5 tyX5_ok nmX5 ho rfl inX5 (Nat.le_of_ble_eq_true rfl) mw_1_236 rfl (by decide +kernel) rfl rfl (Nat.le_of_ble_eq_true rfl) dX5_init_34 rfl ?_
  refine Zj.aload_n 0 dX5_init_37 rfl ?_
  refine Zj.iconst (v := 0) dX5_init_38 (by decide) ?_
  refine Zj.put (i := 6) (C := RX5) (T := TX5) (N := 9) (v := .int 0) (ty := .int) (fs' := [.int 0, .int (-1), .int 0, .int 0, .ref (h0 + (n + 0)), .int 0, .int 0, .int 0, .int 0]) tyX5 tyX5_ok nmX5 ho rfl inX5 (Nat.le_of_ble_eq_true rfl) mw_1_238 rfl (by decide +kernel) rfl rfl (Nat.le_of_ble_eq_true rfl) dX5_init_39 rfl ?_
  refine Zj.aload_n 0 dX5_init_42 rfl ?_
  refine Zj.iconst (v := 0) dX5_init_43 (by decide) ?_
  refine Zj.put (i := 7) (C := RX5) (T := TX5) (N := 9) (v := .int 0) (ty := .int) (fs' := [.int 0, .int (-1), .int 0, .int 0, .ref (h0 + (n + 0)), .int 0, .int 0, .int 0, .int 0]) tyX5 tyX5_ok nmX5 ho rfl inX5 (Nat.le_of_ble_eq_true rfl) mw_2_0 rfl (by decide +kernel) rfl rfl (Nat.le_of_ble_eq_true rfl) dX5_init_44 rfl ?_
  refine Zj.aload_n 0 dX5_init_47 rfl ?_
  refine Zj.iconst (v := 0) dX5_init_48 (by decide) ?_
  refine Zj.put (i := 8) (C := RX5) (T := TX5) (N := 9) (v := .int 0) (ty := .int) (fs' := [.int 0, .int (-1), .int 0, .int 0, .ref (h0 + (n + 0)), .int 0, .int 0, .int 0, .int 0]) tyX5 tyX5_ok nmX5 ho rfl inX5 (Nat.le_of_ble_eq_true rfl) mw_2_2 rfl (by decide +kernel) rfl rfl (Nat.le_of_ble_eq_true rfl) dX5_init_49 rfl ?_
  exact Zj.vret hF rfl dX5_init_52
theorem mz_2_28 : Cond.methodLink RX7 3 Lib.objectInit ∈ TT := tt_in (tb_2 (List.mem_of_getElem? (i := 28) (by decide +kernel))) (by decide +kernel)
def fiX7 (h0 n : Nat) : List Value := [.int (-1), .int (-1), .int 0]
def caX7 (G : Gx) (h0 n : Nat) : List va_E := []
set_option maxHeartbeats 4000000 in
set_option maxRecDepth 100000 in
theorem zX7 (G : Gx) (h0 n o : Nat) (E : Nat → va_E) (hE : E o = .inr (7, frX7)) (ho : o < n) : RunsZ 1 0 M_X7_init G h0 n o 7 E (fiX7 h0 n) (caX7 G h0 n) := by
  refine RunsZ.of (fs0 := frX7) (fs := fiX7 h0 n) (as := caX7 G h0 n) RX7 rfl rfl (by decide +kernel) (by decide) hE ho (fun X hF => ?_)
  refine Zj.aload_n 0 dX7_init_0 rfl ?_
  refine Zj.objInit mz_2_28 mz_1_27 mz_1_28 (Nat.le_of_ble_eq_true rfl) (Nat.le_of_ble_eq_true rfl) dX7_init_1 ?_
  refine Zj.aload_n 0 dX7_init_4 rfl ?_
  refine Zj.iconst (v := (-1)) dX7_init_5 (by decide) ?_
  refine Zj.put (i := 0) (C := RX7) (T := TX7) (N := 3) (v := .int (-1)) (ty := .int) (fs' := [.int (-1), .int 0, .int 0]) tyX7 tyX7_ok nmX7 ho rfl inX7 (Nat.le_of_ble_eq_true rfl) mw_2_29 rfl (by decide +kernel) rfl rfl (Nat.le_of_ble_eq_true rfl) dX7_init_6 rfl ?_
  refine Zj.aload_n 0 dX7_init_9 rfl ?_
  refine Zj.iconst (v := (-1)) dX7_init_10 (by decide) ?_
  refine Zj.put (i := 1) (C := RX7) (T := TX7) (N := 3) (v := .int (-1)) (ty := .int) (fs' := [.int (-1), .int (-1), .int 0]) tyX7 tyX7_ok nmX7 ho rfl inX7 (Nat.le_of_ble_eq_true rfl) mw_2_31 rfl (by decide +kernel) rfl rfl (Nat.le_of_ble_eq_true rfl) dX7_init_11 rfl ?_
  refine Zj.aload_n 0 dX7_init_14 rfl ?_
  refine Zj.iconst (v := 0) dX7_init_15 (by decide) ?_
  refine Zj.put (i := 2) (C := RX7) (T := TX7) (N := 3) (v := .int 0) (ty := .int) (fs' := [.int (-1), .int (-1), .int 0]) tyX7 tyX7_ok nmX7 ho rfl inX7 (Nat.le_of_ble_eq_true rfl) mw_2_33 rfl (by decide +kernel) rfl rfl (Nat.le_of_ble_eq_true rfl) dX7_init_16 rfl ?_
  exact Zj.vret hF rfl dX7_init_19
theorem mz_1_34 : Cond.methodLink RX6 3 Lib.objectInit ∈ TT := tt_in (tb_1 (List.mem_of_getElem? (i := 34) (by decide +kernel))) (by decide +kernel)
def fiX6 (h0 n : Nat) : List Value := [.int 0, .int 0, .int 100, .int 0, .long 0, .ref (h0 + (n + 0)), .ref (h0 + (n + 1)), .ref (h0 + (n + 2)), .ref (h0 + (n + 3)), .ref (h0 + (n + 4)), .ref (h0 + (n + 5)), .ref (h0 + (n + 6))]
def caX6 (G : Gx) (h0 n : Nat) : List va_E := [aI G 16 z0, aI G 16 z0, aI G 16 z0, aI G 16 z0, aJ G 16 z0L, aJ G 48 z0L, aI G 48 z0]
set_option maxHeartbeats 4000000 in
set_option maxRecDepth 100000 in
theorem zX6 (G : Gx) (h0 n o : Nat) (E : Nat → va_E) (hE : E o = .inr (6, frX6)) (ho : o < n) : RunsZ 1 176 M_X6_init G h0 n o 6 E (fiX6 h0 n) (caX6 G h0 n) := by
  refine RunsZ.of (fs0 := frX6) (fs := fiX6 h0 n) (as := caX6 G h0 n) RX6 rfl rfl (by decide +kernel) (by decide) hE ho (fun X hF => ?_)
  refine Zj.aload_n 0 dX6_init_0 rfl ?_
  refine Zj.objInit mz_1_34 mz_1_27 mz_1_28 (Nat.le_of_ble_eq_true rfl) (Nat.le_of_ble_eq_true rfl) dX6_init_1 ?_
  refine Zj.aload_n 0 dX6_init_4 rfl ?_
  refine Zj.iconst (v := 0) dX6_init_5 (by decide) ?_
  refine Zj.put (i := 0) (C := RX6) (T := TX6) (N := 12) (v := .int 0) (ty := .int) (fs' := [.int 0, .int 0, .int 0, .int 0, .long 0, .null, .null, .null, .null, .null, .null, .null]) tyX6 tyX6_ok nmX6 ho rfl inX6 (Nat.le_of_ble_eq_true rfl) mw_1_35 rfl (by decide +kernel) rfl rfl (Nat.le_of_ble_eq_true rfl) dX6_init_6 rfl ?_
  refine Zj.aload_n 0 dX6_init_9 rfl ?_
  refine Zj.iconst (v := 0) dX6_init_10 (by decide) ?_
  refine Zj.put (i := 1) (C := RX6) (T := TX6) (N := 12) (v := .int 0) (ty := .int) (fs' := [.int 0, .int 0, .int 0, .int 0, .long 0, .null, .null, .null, .null, .null, .null, .null]) tyX6 tyX6_ok nmX6 ho rfl inX6 (Nat.le_of_ble_eq_true rfl) mw_1_43 rfl (by decide +kernel) rfl rfl (Nat.le_of_ble_eq_true rfl) dX6_init_11 rfl ?_
  refine Zj.aload_n 0 dX6_init_14 rfl ?_
  refine Zj.bipush (v := 100) dX6_init_15 (by decide) ?_
  refine Zj.put (i := 2) (C := RX6) (T := TX6) (N := 12) (v := .int 100) (ty := .int) (fs' := [.int 0, .int 0, .int 100, .int 0, .long 0, .null, .null, .null, .null, .null, .null, .null]) tyX6 tyX6_ok nmX6 ho rfl inX6 (Nat.le_of_ble_eq_true rfl) mw_1_46 rfl (by decide +kernel) rfl rfl (Nat.le_of_ble_eq_true rfl) dX6_init_17 rfl ?_
  refine Zj.aload_n 0 dX6_init_20 rfl ?_
  refine Zj.iconst (v := 0) dX6_init_21 (by decide) ?_
  refine Zj.put (i := 3) (C := RX6) (T := TX6) (N := 12) (v := .int 0) (ty := .int) (fs' := [.int 0, .int 0, .int 100, .int 0, .long 0, .null, .null, .null, .null, .null, .null, .null]) tyX6 tyX6_ok nmX6 ho rfl inX6 (Nat.le_of_ble_eq_true rfl) mw_1_50 rfl (by decide +kernel) rfl rfl (Nat.le_of_ble_eq_true rfl) dX6_init_22 rfl ?_
  refine Zj.aload_n 0 dX6_init_25 rfl ?_
  refine Zj.lconst (v := 0) dX6_init_26 (by decide) ?_
  refine Zj.put (i := 4) (C := RX6) (T := TX6) (N := 12) (v := .long 0) (ty := .long) (fs' := [.int 0, .int 0, .int 100, .int 0, .long 0, .null, .null, .null, .null, .null, .null, .null]) tyX6 tyX6_ok nmX6 ho rfl inX6 (Nat.le_of_ble_eq_true rfl) mw_1_53 rfl (by decide +kernel) rfl rfl (Nat.le_of_ble_eq_true rfl) dX6_init_27 rfl ?_
  refine Zj.aload_n 0 dX6_init_30 rfl ?_
  refine Zj.bipush (v := 16) dX6_init_31 (by decide) ?_
  refine Zj.newa (atype := .int) (ty := .int) (ti := 1) (N := 16) (j := 0) (a0 := (16, .inl z0)) (as' := [aI G 16 z0]) (by omega) rfl rfl (fun _ _ h => h) mz_1_107 (fun _ => rfl) (by decide) (by decide +kernel) (Nat.le_of_ble_eq_true rfl) rfl (Nat.le_of_ble_eq_true rfl) (Nat.le_of_ble_eq_true rfl) dX6_init_33 rfl ?_
  refine Zj.putF hF (i := 5) (C := RX6) (T := TX6) (N := 12) (v := .ref (h0 + (n + 0))) (ty := (.array .int)) (fs' := [.int 0, .int 0, .int 100, .int 0, .long 0, .ref (h0 + (n + 0)), .null, .null, .null, .null, .null, .null]) tyX6 tyX6_ok nmX6 ho rfl inX6 (Nat.le_of_ble_eq_true rfl) mw_1_55 rfl rfl (by decide +kernel) rfl rfl (Nat.le_of_ble_eq_true rfl) dX6_init_35 rfl ?_
  refine Zj.aload_n 0 dX6_init_38 rfl ?_
  refine Zj.bipush (v := 16) dX6_init_39 (by decide) ?_
  refine Zj.newa (atype := .int) (ty := .int) (ti := 1) (N := 16) (j := 1) (a0 := (16, .inl z0)) (as' := [aI G 16 z0, aI G 16 z0]) (by omega) rfl rfl (fun _ _ h => h) mz_1_107 (fun _ => rfl) (by decide) (by decide +kernel) (Nat.le_of_ble_eq_true rfl) rfl (Nat.le_of_ble_eq_true rfl) (Nat.le_of_ble_eq_true rfl) dX6_init_41 rfl ?_
  refine Zj.putF hF (i := 6) (C := RX6) (T := TX6) (N := 12) (v := .ref (h0 + (n + 1))) (ty := (.array .int)) (fs' := [.int 0, .int 0, .int 100, .int 0, .long 0, .ref (h0 + (n + 0)), .ref (h0 + (n + 1)), .null, .null, .null, .null, .null]) tyX6 tyX6_ok nmX6 ho rfl inX6 (Nat.le_of_ble_eq_true rfl) mw_1_60 rfl rfl (by decide +kernel) rfl rfl (Nat.le_of_ble_eq_true rfl) dX6_init_43 rfl ?_
  refine Zj.aload_n 0 dX6_init_46 rfl ?_
  refine Zj.bipush (v := 16) dX6_init_47 (by decide) ?_
  refine Zj.newa (atype := .int) (ty := .int) (ti := 1) (N := 16) (j := 2) (a0 := (16, .inl z0)) (as' := [aI G 16 z0, aI G 16 z0, aI G 16 z0]) (by omega) rfl rfl (fun _ _ h => h) mz_1_107 (fun _ => rfl) (by decide) (by decide +kernel) (Nat.le_of_ble_eq_true rfl) rfl (Nat.le_of_ble_eq_true rfl) (Nat.le_of_ble_eq_true rfl) dX6_init_49 rfl ?_
  refine Zj.putF hF (i := 7) (C := RX6) (T := TX6) (N := 12) (v := .ref (h0 + (n + 2))) (ty := (.array .int)) (fs' := [.int 0, .int 0, .int 100, .int 0, .long 0, .ref (h0 + (n + 0)), .ref (h0 + (n + 1)), .ref (h0 + (n + 2)), .null, .null, .null, .null]) tyX6 tyX6_ok nmX6 ho rfl inX6 (Nat.le_of_ble_eq_true rfl) mw_1_63 rfl rfl (by decide +kernel) rfl rfl (Nat.le_of_ble_eq_true rfl) dX6_init_51 rfl ?_
  refine Zj.aload_n 0 dX6_init_54 rfl ?_
  refine Zj.bipush (v := 16) dX6_init_55 (by decide) ?_
  refine Zj.newa (atype := .int) (ty := .int) (ti := 1) (N := 16) (j := 3) (a0 := (16, .inl z0)) (as' := [aI G 16 z0, aI G 16 z0, aI G 16 z0, aI G 16 z0]) (by omega) rfl rfl (fun _ _ h => h) mz_1_107 (fun _ => rfl) (by decide) (by decide +kernel) (Nat.le_of_ble_eq_true rfl) rfl (Nat.le_of_ble_eq_true rfl) (Nat.le_of_ble_eq_true rfl) dX6_init_57 rfl ?_
  refine Zj.putF hF (i := 8) (C := RX6) (T := TX6) (N := 12) (v := .ref (h0 + (n + 3))) (ty := (.array .int)) (fs' := [.int 0, .int 0, .int 100, .int 0, .long 0, .ref (h0 + (n + 0)), .ref (h0 + (n + 1)), .ref (h0 + (n + 2)), .ref (h0 + (n + 3)), .null, .null, .null]) tyX6 tyX6_ok nmX6 ho rfl inX6 (Nat.le_of_ble_eq_true rfl) mw_1_65 rfl rfl (by decide +kernel) rfl rfl (Nat.le_of_ble_eq_true rfl) dX6_init_59 rfl ?_
  refine Zj.aload_n 0 dX6_init_62 rfl ?_
  refine Zj.bipush (v := 16) dX6_init_63 (by decide) ?_
  refine Zj.newa (atype := .long) (ty := .long) (ti := 2) (N := 16) (j := 4) (a0 := (16, .inr (.inl z0L))) (as' := [aI G 16 z0, aI G 16 z0, aI G 16 z0, aI G 16 z0, aJ G 16 z0L]) (by omega) rfl rfl (fun _ _ h => h) mz_1_108 (fun _ => rfl) (by decide) (by decide +kernel) (Nat.le_of_ble_eq_true rfl) rfl (Nat.le_of_ble_eq_true rfl) (Nat.le_of_ble_eq_true rfl) dX6_init_65 rfl ?_
  refine Zj.putF hF (i := 9) (C := RX6) (T := TX6) (N := 12) (v := .ref (h0 + (n + 4))) (ty := (.array .long)) (fs' := [.int 0, .int 0, .int 100, .int 0, .long 0, .ref (h0 + (n + 0)), .ref (h0 + (n + 1)), .ref (h0 + (n + 2)), .ref (h0 + (n + 3)), .ref (h0 + (n + 4)), .null, .null]) tyX6 tyX6_ok nmX6 ho rfl inX6 (Nat.le_of_ble_eq_true rfl) mw_1_71 rfl rfl (by decide +kernel) rfl rfl (Nat.le_of_ble_eq_true rfl) dX6_init_67 rfl ?_
  refine Zj.aload_n 0 dX6_init_70 rfl ?_
  refine Zj.bipush (v := 48) dX6_init_71 (by decide) ?_
  refine Zj.newa (atype := .long) (ty := .long) (ti := 2) (N := 48) (j := 5) (a0 := (48, .inr (.inl z0L))) (as' := [aI G 16 z0, aI G 16 z0, aI G 16 z0, aI G 16 z0, aJ G 16 z0L, aJ G 48 z0L]) (by omega) rfl rfl (fun _ _ h => h) mz_1_108 (fun _ => rfl) (by decide) (by decide +kernel) (Nat.le_of_ble_eq_true rfl) rfl (Nat.le_of_ble_eq_true rfl) (Nat.le_of_ble_eq_true rfl) dX6_init_73 rfl ?_
  refine Zj.putF hF (i := 10) (C := RX6) (T := TX6) (N := 12) (v := .ref (h0 + (n + 5))) (ty := (.array .long)) (fs' := [.int 0, .int 0, .int 100, .int 0, .long 0, .ref (h0 + (n + 0)), .ref (h0 + (n + 1)), .ref (h0 + (n + 2)), .ref (h0 + (n + 3)), .ref (h0 + (n + 4)), .ref (h0 + (n + 5)), .null]) tyX6 tyX6_ok nmX6 ho rfl inX6 (Nat.le_of_ble_eq_true rfl) mw_1_76 rfl rfl (by decide +kernel) rfl rfl (Nat.le_of_ble_eq_true rfl) dX6_init_75 rfl ?_
  refine Zj.aload_n 0 dX6_init_78 rfl ?_
  refine Zj.bipush (v := 48) dX6_init_79 (by decide) ?_
  refine Zj.newa (atype := .int) (ty := .int) (ti := 1) (N := 48) (j := 6) (a0 := (48, .inl z0)) (as' := [aI G 16 z0, aI G 16 z0, aI G 16 z0, aI G 16 z0, aJ G 16 z0L, aJ G 48 z0L, aI G 48 z0]) (by omega) rfl rfl (fun _ _ h => h) mz_1_107 (fun _ => rfl) (by decide) (by decide +kernel) (Nat.le_of_ble_eq_true rfl) rfl (Nat.le_of_ble_eq_true rfl) (Nat.le_of_ble_eq_true rfl) dX6_init_81 rfl ?_
  refine Zj.putF hF (i := 11) (C := RX6) (T := TX6) (N := 12) (v := .ref (h0 + (n + 6))) (ty := (.array .int)) (fs' := [.int 0, .int 0, .int 100, .int 0, .long 0, .ref (h0 + (n + 0)), .ref (h0 + (n + 1)), .ref (h0 + (n + 2)), .ref (h0 + (n + 3)), .ref (h0 + (n + 4)), .ref (h0 + (n + 5)), .ref (h0 + (n + 6))]) tyX6 tyX6_ok nmX6 ho rfl inX6 (Nat.le_of_ble_eq_true rfl) mw_1_78 rfl rfl (by decide +kernel) rfl rfl (Nat.le_of_ble_eq_true rfl) dX6_init_83 rfl ?_
  exact Zj.vret hF rfl dX6_init_86
theorem mz_1_114 : Cond.methodLink RX2 3 Lib.objectInit ∈ TT := tt_in (tb_1 (List.mem_of_getElem? (i := 114) (by decide +kernel))) (by decide +kernel)
theorem mz_1_115 : Cond.classLink RX2 9 "CoverExtract$State" ∈ TT := tt_in (tb_1 (List.mem_of_getElem? (i := 115) (by decide +kernel))) (by decide +kernel)
theorem mz_1_30 : Cond.instantiable RX6 12 ∈ TT := tt_in (tb_1 (List.mem_of_getElem? (i := 30) (by decide +kernel))) (by decide +kernel)
theorem mz_1_2 : Cond.initialized RX6 ∈ TT := tt_in (tb_1 (List.mem_of_getElem? (i := 2) (by decide +kernel))) (by decide +kernel)
theorem nz_1_117 : Cond.methodLinkNest RX2 24 yX6_init "CoverExtract" ∈ NW := nw_in (tb_1 (List.mem_of_getElem? (i := 117) (by decide +kernel))) (by decide +kernel)
theorem mz_1_32 : Cond.instanceMethod yX6_init ∈ TT := tt_in (tb_1 (List.mem_of_getElem? (i := 32) (by decide +kernel))) (by decide +kernel)
theorem mz_1_33 : Cond.code yX6_init cX6_init 1 none ∈ TT := tt_in (tb_1 (List.mem_of_getElem? (i := 33) (by decide +kernel))) (by decide +kernel)
def fiX2 (h0 n : Nat) : List Value := [.ref (h0 + (n + 0)), .int 0, .int 0]
def caX2 (G : Gx) (h0 n : Nat) : List va_E := [.inl (G.2.1 4, 8, .inr (.inr (.inr (.inr (va_up (va_up (va_up (va_up (va_up (va_up (va_up (va_up (fun _ => none) 0 (some (h0 + (n + 1)))) 1 (some (h0 + (n + 9)))) 2 (some (h0 + (n + 17)))) 3 (some (h0 + (n + 25)))) 4 (some (h0 + (n + 33)))) 5 (some (h0 + (n + 41)))) 6 (some (h0 + (n + 49)))) 7 (some (h0 + (n + 57)))))))), .inr (6, fiX6 h0 (n + 2)), aI G 16 z0, aI G 16 z0, aI G 16 z0, aI G 16 z0, aJ G 16 z0L, aJ G 48 z0L, aI G 48 z0, .inr (6, fiX6 h0 (n + 10)), aI G 16 z0, aI G 16 z0, aI G 16 z0, aI G 16 z0, aJ G 16 z0L, aJ G 48 z0L, aI G 48 z0, .inr (6, fiX6 h0 (n + 18)), aI G 16 z0, aI G 16 z0, aI G 16 z0, aI G 16 z0, aJ G 16 z0L, aJ G 48 z0L, aI G 48 z0, .inr (6, fiX6 h0 (n + 26)), aI G 16 z0, aI G 16 z0, aI G 16 z0, aI G 16 z0, aJ G 16 z0L, aJ G 48 z0L, aI G 48 z0, .inr (6, fiX6 h0 (n + 34)), aI G 16 z0, aI G 16 z0, aI G 16 z0, aI G 16 z0, aJ G 16 z0L, aJ G 48 z0L, aI G 48 z0, .inr (6, fiX6 h0 (n + 42)), aI G 16 z0, aI G 16 z0, aI G 16 z0, aI G 16 z0, aJ G 16 z0L, aJ G 48 z0L, aI G 48 z0, .inr (6, fiX6 h0 (n + 50)), aI G 16 z0, aI G 16 z0, aI G 16 z0, aI G 16 z0, aJ G 16 z0L, aJ G 48 z0L, aI G 48 z0, .inr (6, fiX6 h0 (n + 58)), aI G 16 z0, aI G 16 z0, aI G 16 z0, aI G 16 z0, aJ G 16 z0L, aJ G 48 z0L, aI G 48 z0]
set_option maxHeartbeats 4000000 in
set_option maxRecDepth 100000 in
theorem zX2 (G : Gx) (h0 n o : Nat) (E : Nat → va_E) (hE : E o = .inr (2, frX2)) (ho : o < n) : RunsZ 2 1512 M_X2_init G h0 n o 2 E (fiX2 h0 n) (caX2 G h0 n) := by
  refine RunsZ.of (fs0 := frX2) (fs := fiX2 h0 n) (as := caX2 G h0 n) RX2 rfl rfl (by decide +kernel) (by decide) hE ho (fun X hF => ?_)
  refine Zj.aload_n 0 dX2_init_0 rfl ?_
  refine Zj.objInit mz_1_114 mz_1_27 mz_1_28 (Nat.le_of_ble_eq_true rfl) (Nat.le_of_ble_eq_true rfl) dX2_init_1 ?_
  refine Zj.aload_n 0 dX2_init_4 rfl ?_
  refine Zj.bipush (v := 8) dX2_init_5 (by decide) ?_
  refine Zj.anew (N := 8) (j := 0) (as' := [.inl (G.2.1 4, 8, .inr (.inr (.inr (.inr (fun _ => none)))))]) (by omega) mz_1_115 (by decide) (by decide +kernel) (Nat.le_of_ble_eq_true rfl) rfl (Nat.le_of_ble_eq_true rfl) (Nat.le_of_ble_eq_true rfl) dX2_init_7 rfl ?_
  refine Zj.putF hF (i := 0) (C := RX2) (T := TX2) (N := 3) (v := .ref (h0 + (n + 0))) (ty := (.array (.object "CoverExtract$State"))) (fs' := [.ref (h0 + (n + 0)), .int 0, .int 0]) tyX2 tyX2_ok nmX2 ho rfl inX2 (Nat.le_of_ble_eq_true rfl) mw_1_118 rfl rfl (by decide +kernel) rfl rfl (Nat.le_of_ble_eq_true rfl) dX2_init_10 rfl ?_
  refine Zj.aload_n 0 dX2_init_13 rfl ?_
  refine Zj.iconst (v := 0) dX2_init_14 (by decide) ?_
  refine Zj.put (i := 1) (C := RX2) (T := TX2) (N := 3) (v := .int 0) (ty := .int) (fs' := [.ref (h0 + (n + 0)), .int 0, .int 0]) tyX2 tyX2_ok nmX2 ho rfl inX2 (Nat.le_of_ble_eq_true rfl) mw_1_119 rfl (by decide +kernel) rfl rfl (Nat.le_of_ble_eq_true rfl) dX2_init_15 rfl ?_
  refine Zj.aload_n 0 dX2_init_18 rfl ?_
  refine Zj.iconst (v := 0) dX2_init_19 (by decide) ?_
  refine Zj.put (i := 2) (C := RX2) (T := TX2) (N := 3) (v := .int 0) (ty := .int) (fs' := [.ref (h0 + (n + 0)), .int 0, .int 0]) tyX2 tyX2_ok nmX2 ho rfl inX2 (Nat.le_of_ble_eq_true rfl) mw_1_120 rfl (by decide +kernel) rfl rfl (Nat.le_of_ble_eq_true rfl) dX2_init_20 rfl ?_
  refine Zj.iconst (v := 0) dX2_init_23 (by decide) ?_
  refine Zj.istore_n (lv' := [(0, .ref (h0 + o)), (1, .int 0)]) dX2_init_24 (by decide) rfl ?_
  refine Zj.iload_n 1 dX2_init_25 rfl ?_
  refine Zj.bipush (v := 8) dX2_init_26 (by decide) ?_
  refine Zj.icmp_ge 50 dX2_init_28 (by decide) (fun h => absurd h (by decide)) (fun _ => ?_)
  refine Zj.aload_n 0 dX2_init_31 rfl ?_
  refine Zj.get (i := 0) (C := RX2) (T := TX2) (N := 3) ho rfl inX2 (Nat.le_of_ble_eq_true rfl) mw_1_118 dX2_init_32 rfl ?_
  refine Zj.iload_n 1 dX2_init_35 rfl ?_
  refine Zj.new (C := RX6) (T := TX6) (N := 12) (c1 := 6) (j := 1) (fr := frX6) (as' := [.inl (G.2.1 4, 8, .inr (.inr (.inr (.inr (fun _ => none))))), .inr (6, frX6)]) (by omega) tyX6 tyX6_ok inX6 rfl mz_1_115 mz_1_30 mz_1_2 frX6_ok rfl (Nat.le_of_ble_eq_true rfl) (Nat.le_of_ble_eq_true rfl) dX2_init_36 rfl ?_
  refine Zj.dup dX2_init_39 rfl ?_
  refine Zj.callN (as' := [.inl (G.2.1 4, 8, .inr (.inr (.inr (.inr (fun _ => none))))), .inr (6, fiX6 h0 (n + 2)), aI G 16 z0, aI G 16 z0, aI G 16 z0, aI G 16 z0, aJ G 16 z0L, aJ G 48 z0L, aI G 48 z0]) (zX6 G h0 (n + 2) (n + 1) _ (cE_at rfl (by omega)) (by omega)) (Nat.le_of_ble_eq_true rfl) (Nat.le_of_ble_eq_true rfl) (Nat.le_of_ble_eq_true rfl) (by omega) (Or.inl ho) (Nat.le_of_ble_eq_true rfl) (Nat.le_of_ble_eq_true rfl) nz_1_117 mz_1_32 mz_1_2 mz_1_33 (by decide +kernel) rfl (Nat.le_of_ble_eq_true rfl) dX2_init_40 rfl ?_
  refine Zj.aast (ja := 0) (jv := 1) (as' := [.inl (G.2.1 4, 8, .inr (.inr (.inr (.inr (va_up (fun _ => none) 0 (some (h0 + (n + 1)))))))), .inr (6, fiX6 h0 (n + 2)), aI G 16 z0, aI G 16 z0, aI G 16 z0, aI G 16 z0, aJ G 16 z0L, aJ G 48 z0L, aI G 48 z0]) (by omega) (by omega) rfl rfl (by unfold vp_in; decide) dX2_init_43 rfl ?_
  refine Zj.iinc (v := 1) (lv' := [(0, .ref (h0 + o)), (1, .int 1)]) 1 dX2_init_44 rfl (by decide) (by decide) rfl ?_
  refine Zj.goto 25 dX2_init_47 (by decide) ?_
  refine Zj.iload_n 1 dX2_init_25 rfl ?_
  refine Zj.bipush (v := 8) dX2_init_26 (by decide) ?_
  refine Zj.icmp_ge 50 dX2_init_28 (by decide) (fun h => absurd h (by decide)) (fun _ => ?_)
  refine Zj.aload_n 0 dX2_init_31 rfl ?_
  refine Zj.get (i := 0) (C := RX2) (T := TX2) (N := 3) ho rfl inX2 (Nat.le_of_ble_eq_true rfl) mw_1_118 dX2_init_32 rfl ?_
  refine Zj.iload_n 1 dX2_init_35 rfl ?_
  refine Zj.new (C := RX6) (T := TX6) (N := 12) (c1 := 6) (j := 9) (fr := frX6) (as' := [.inl (G.2.1 4, 8, .inr (.inr (.inr (.inr (va_up (fun _ => none) 0 (some (h0 + (n + 1)))))))), .inr (6, fiX6 h0 (n + 2)), aI G 16 z0, aI G 16 z0, aI G 16 z0, aI G 16 z0, aJ G 16 z0L, aJ G 48 z0L, aI G 48 z0, .inr (6, frX6)]) (by omega) tyX6 tyX6_ok inX6 rfl mz_1_115 mz_1_30 mz_1_2 frX6_ok rfl (Nat.le_of_ble_eq_true rfl) (Nat.le_of_ble_eq_true rfl) dX2_init_36 rfl ?_
  refine Zj.dup dX2_init_39 rfl ?_
  refine Zj.callN (as' := [.inl (G.2.1 4, 8, .inr (.inr (.inr (.inr (va_up (fun _ => none) 0 (some (h0 + (n + 1)))))))), .inr (6, fiX6 h0 (n + 2)), aI G 16 z0, aI G 16 z0, aI G 16 z0, aI G 16 z0, aJ G 16 z0L, aJ G 48 z0L, aI G 48 z0, .inr (6, fiX6 h0 (n + 10)), aI G 16 z0, aI G 16 z0, aI G 16 z0, aI G 16 z0, aJ G 16 z0L, aJ G 48 z0L, aI G 48 z0]) (zX6 G h0 (n + 10) (n + 9) _ (cE_at rfl (by omega)) (by omega)) (Nat.le_of_ble_eq_true rfl) (Nat.le_of_ble_eq_true rfl) (Nat.le_of_ble_eq_true rfl) (by omega) (Or.inl ho) (Nat.le_of_ble_eq_true rfl) (Nat.le_of_ble_eq_true rfl) nz_1_117 mz_1_32 mz_1_2 mz_1_33 (by decide +kernel) rfl (Nat.le_of_ble_eq_true rfl) dX2_init_40 rfl ?_
  refine Zj.aast (ja := 0) (jv := 9) (as' := [.inl (G.2.1 4, 8, .inr (.inr (.inr (.inr (va_up (va_up (fun _ => none) 0 (some (h0 + (n + 1)))) 1 (some (h0 + (n + 9)))))))), .inr (6, fiX6 h0 (n + 2)), aI G 16 z0, aI G 16 z0, aI G 16 z0, aI G 16 z0, aJ G 16 z0L, aJ G 48 z0L, aI G 48 z0, .inr (6, fiX6 h0 (n + 10)), aI G 16 z0, aI G 16 z0, aI G 16 z0, aI G 16 z0, aJ G 16 z0L, aJ G 48 z0L, aI G 48 z0]) (by omega) (by omega) rfl rfl (by unfold vp_in; decide) dX2_init_43 rfl ?_
  refine Zj.iinc (v := 2) (lv' := [(0, .ref (h0 + o)), (1, .int 2)]) 1 dX2_init_44 rfl (by decide) (by decide) rfl ?_
  refine Zj.goto 25 dX2_init_47 (by decide) ?_
  refine Zj.iload_n 1 dX2_init_25 rfl ?_
  refine Zj.bipush (v := 8) dX2_init_26 (by decide) ?_
  refine Zj.icmp_ge 50 dX2_init_28 (by decide) (fun h => absurd h (by decide)) (fun _ => ?_)
  refine Zj.aload_n 0 dX2_init_31 rfl ?_
  refine Zj.get (i := 0) (C := RX2) (T := TX2) (N := 3) ho rfl inX2 (Nat.le_of_ble_eq_true rfl) mw_1_118 dX2_init_32 rfl ?_
  refine Zj.iload_n 1 dX2_init_35 rfl ?_
  refine Zj.new (C := RX6) (T := TX6) (N := 12) (c1 := 6) (j := 17) (fr := frX6) (as' := [.inl (G.2.1 4, 8, .inr (.inr (.inr (.inr (va_up (va_up (fun _ => none) 0 (some (h0 + (n + 1)))) 1 (some (h0 + (n + 9)))))))), .inr (6, fiX6 h0 (n + 2)), aI G 16 z0, aI G 16 z0, aI G 16 z0, aI G 16 z0, aJ G 16 z0L, aJ G 48 z0L, aI G 48 z0, .inr (6, fiX6 h0 (n + 10)), aI G 16 z0, aI G 16 z0, aI G 16 z0, aI G 16 z0, aJ G 16 z0L, aJ G 48 z0L, aI G 48 z0, .inr (6, frX6)]) (by omega) tyX6 tyX6_ok inX6 rfl mz_1_115 mz_1_30 mz_1_2 frX6_ok rfl (Nat.le_of_ble_eq_true rfl) (Nat.le_of_ble_eq_true rfl) dX2_init_36 rfl ?_
  refine Zj.dup dX2_init_39 rfl ?_
  refine Zj.callN (as' := [.inl (G.2.1 4, 8, .inr (.inr (.inr (.inr (va_up (va_up (fun _ => none) 0 (some (h0 + (n + 1)))) 1 (some (h0 + (n + 9)))))))), .inr (6, fiX6 h0 (n + 2)), aI G 16 z0, aI G 16 z0, aI G 16 z0, aI G 16 z0, aJ G 16 z0L, aJ G 48 z0L, aI G 48 z0, .inr (6, fiX6 h0 (n + 10)), aI G 16 z0, aI G 16 z0, aI G 16 z0, aI G 16 z0, aJ G 16 z0L, aJ G 48 z0L, aI G 48 z0, .inr (6, fiX6 h0 (n + 18)), aI G 16 z0, aI G 16 z0, aI G 16 z0, aI G 16 z0, aJ G 16 z0L, aJ G 48 z0L, aI G 48 z0]) (zX6 G h0 (n + 18) (n + 17) _ (cE_at rfl (by omega)) (by omega)) (Nat.le_of_ble_eq_true rfl) (Nat.le_of_ble_eq_true rfl) (Nat.le_of_ble_eq_true rfl) (by omega) (Or.inl ho) (Nat.le_of_ble_eq_true rfl) (Nat.le_of_ble_eq_true rfl) nz_1_117 mz_1_32 mz_1_2 mz_1_33 (by decide +kernel) rfl (Nat.le_of_ble_eq_true rfl) dX2_init_40 rfl ?_
  refine Zj.aast (ja := 0) (jv := 17) (as' := [.inl (G.2.1 4, 8, .inr (.inr (.inr (.inr (va_up (va_up (va_up (fun _ => none) 0 (some (h0 + (n + 1)))) 1 (some (h0 + (n + 9)))) 2 (some (h0 + (n + 17)))))))), .inr (6, fiX6 h0 (n + 2)), aI G 16 z0, aI G 16 z0, aI G 16 z0, aI G 16 z0, aJ G 16 z0L, aJ G 48 z0L, aI G 48 z0, .inr (6, fiX6 h0 (n + 10)), aI G 16 z0, aI G 16 z0, aI G 16 z0, aI G 16 z0, aJ G 16 z0L, aJ G 48 z0L, aI G 48 z0, .inr (6, fiX6 h0 (n + 18)), aI G 16 z0, aI G 16 z0, aI G 16 z0, aI G 16 z0, aJ G 16 z0L, aJ G 48 z0L, aI G 48 z0]) (by omega) (by omega) rfl rfl (by unfold vp_in; decide) dX2_init_43 rfl ?_
  refine Zj.iinc (v := 3) (lv' := [(0, .ref (h0 + o)), (1, .int 3)]) 1 dX2_init_44 rfl (by decide) (by decide) rfl ?_
  refine Zj.goto 25 dX2_init_47 (by decide) ?_
  refine Zj.iload_n 1 dX2_init_25 rfl ?_
  refine Zj.bipush (v := 8) dX2_init_26 (by decide) ?_
  refine Zj.icmp_ge 50 dX2_init_28 (by decide) (fun h => absurd h (by decide)) (fun _ => ?_)
  refine Zj.aload_n 0 dX2_init_31 rfl ?_
  refine Zj.get (i := 0) (C := RX2) (T := TX2) (N := 3) ho rfl inX2 (Nat.le_of_ble_eq_true rfl) mw_1_118 dX2_init_32 rfl ?_
  refine Zj.iload_n 1 dX2_init_35 rfl ?_
  refine Zj.new (C := RX6) (T := TX6) (N := 12) (c1 := 6) (j := 25) (fr := frX6) (as' := [.inl (G.2.1 4, 8, .inr (.inr (.inr (.inr (va_up (va_up (va_up (fun _ => none) 0 (some (h0 + (n + 1)))) 1 (some (h0 + (n + 9)))) 2 (some (h0 + (n + 17)))))))), .inr (6, fiX6 h0 (n + 2)), aI G 16 z0, aI G 16 z0, aI G 16 z0, aI G 16 z0, aJ G 16 z0L, aJ G 48 z0L, aI G 48 z0, .inr (6, fiX6 h0 (n + 10)), aI G 16 z0, aI G 16 z0, aI G 16 z0, aI G 16 z0, aJ G 16 z0L, aJ G 48 z0L, aI G 48 z0, .inr (6, fiX6 h0 (n + 18)), aI G 16 z0, aI G 16 z0, aI G 16 z0, aI G 16 z0, aJ G 16 z0L, aJ G 48 z0L, aI G 48 z0, .inr (6, frX6)]) (by omega) tyX6 tyX6_ok inX6 rfl mz_1_115 mz_1_30 mz_1_2 frX6_ok rfl (Nat.le_of_ble_eq_true rfl) (Nat.le_of_ble_eq_true rfl) dX2_init_36 rfl ?_
  refine Zj.dup dX2_init_39 rfl ?_
  refine Zj.callN (as' := [.inl (G.2.1 4, 8, .inr (.inr (.inr (.inr (va_up (va_up (va_up (fun _ => none) 0 (some (h0 + (n + 1)))) 1 (some (h0 + (n + 9)))) 2 (some (h0 + (n + 17)))))))), .inr (6, fiX6 h0 (n + 2)), aI G 16 z0, aI G 16 z0, aI G 16 z0, aI G 16 z0, aJ G 16 z0L, aJ G 48 z0L, aI G 48 z0, .inr (6, fiX6 h0 (n + 10)), aI G 16 z0, aI G 16 z0, aI G 16 z0, aI G 16 z0, aJ G 16 z0L, aJ G 48 z0L, aI G 48 z0, .inr (6, fiX6 h0 (n + 18)), aI G 16 z0, aI G 16 z0, aI G 16 z0, aI G 16 z0, aJ G 16 z0L, aJ G 48 z0L, aI G 48 z0, .inr (6, fiX6 h0 (n + 26)), aI G 16 z0, aI G 16 z0, aI G 16 z0, aI G 16 z0, aJ G 16 z0L, aJ G 48 z0L, aI G 48 z0]) (zX6 G h0 (n + 26) (n + 25) _ (cE_at rfl (by omega)) (by omega)) (Nat.le_of_ble_eq_true rfl) (Nat.le_of_ble_eq_true rfl) (Nat.le_of_ble_eq_true rfl) (by omega) (Or.inl ho) (Nat.le_of_ble_eq_true rfl) (Nat.le_of_ble_eq_true rfl) nz_1_117 mz_1_32 mz_1_2 mz_1_33 (by decide +kernel) rfl (Nat.le_of_ble_eq_true rfl) dX2_init_40 rfl ?_
  refine Zj.aast (ja := 0) (jv := 25) (as' := [.inl (G.2.1 4, 8, .inr (.inr (.inr (.inr (va_up (va_up (va_up (va_up (fun _ => none) 0 (some (h0 + (n + 1)))) 1 (some (h0 + (n + 9)))) 2 (some (h0 + (n + 17)))) 3 (some (h0 + (n + 25)))))))), .inr (6, fiX6 h0 (n + 2)), aI G 16 z0, aI G 16 z0, aI G 16 z0, aI G 16 z0, aJ G 16 z0L, aJ G 48 z0L, aI G 48 z0, .inr (6, fiX6 h0 (n + 10)), aI G 16 z0, aI G 16 z0, aI G 16 z0, aI G 16 z0, aJ G 16 z0L, aJ G 48 z0L, aI G 48 z0, .inr (6, fiX6 h0 (n + 18)), aI G 16 z0, aI G 16 z0, aI G 16 z0, aI G 16 z0, aJ G 16 z0L, aJ G 48 z0L, aI G 48 z0, .inr (6, fiX6 h0 (n + 26)), aI G 16 z0, aI G 16 z0, aI G 16 z0, aI G 16 z0, aJ G 16 z0L, aJ G 48 z0L, aI G 48 z0]) (by omega) (by omega) rfl rfl (by unfold vp_in; decide) dX2_init_43 rfl ?_
  refine Zj.iinc (v := 4) (lv' := [(0, .ref (h0 + o)), (1, .int 4)]) 1 dX2_init_44 rfl (by decide) (by decide) rfl ?_
  refine Zj.goto 25 dX2_init_47 (by decide) ?_
  refine Zj.iload_n 1 dX2_init_25 rfl ?_
  refine Zj.bipush (v := 8) dX2_init_26 (by decide) ?_
  refine Zj.icmp_ge 50 dX2_init_28 (by decide) (fun h => absurd h (by decide)) (fun _ => ?_)
  refine Zj.aload_n 0 dX2_init_31 rfl ?_
  refine Zj.get (i := 0) (C := RX2) (T := TX2) (N := 3) ho rfl inX2 (Nat.le_of_ble_eq_true rfl) mw_1_118 dX2_init_32 rfl ?_
  refine Zj.iload_n 1 dX2_init_35 rfl ?_
  refine Zj.new (C := RX6) (T := TX6) (N := 12) (c1 := 6) (j := 33) (fr := frX6) (as' := [.inl (G.2.1 4, 8, .inr (.inr (.inr (.inr (va_up (va_up (va_up (va_up (fun _ => none) 0 (some (h0 + (n + 1)))) 1 (some (h0 + (n + 9)))) 2 (some (h0 + (n + 17)))) 3 (some (h0 + (n + 25)))))))), .inr (6, fiX6 h0 (n + 2)), aI G 16 z0, aI G 16 z0, aI G 16 z0, aI G 16 z0, aJ G 16 z0L, aJ G 48 z0L, aI G 48 z0, .inr (6, fiX6 h0 (n + 10)), aI G 16 z0, aI G 16 z0, aI G 16 z0, aI G 16 z0, aJ G 16 z0L, aJ G 48 z0L, aI G 48 z0, .inr (6, fiX6 h0 (n + 18)), aI G 16 z0, aI G 16 z0, aI G 16 z0, aI G 16 z0, aJ G 16 z0L, aJ G 48 z0L, aI G 48 z0, .inr (6, fiX6 h0 (n + 26)), aI G 16 z0, aI G 16 z0, aI G 16 z0, aI G 16 z0, aJ G 16 z0L, aJ G 48 z0L, aI G 48 z0, .inr (6, frX6)]) (by omega) tyX6 tyX6_ok inX6 rfl mz_1_115 mz_1_30 mz_1_2 frX6_ok rfl (Nat.le_of_ble_eq_true rfl) (Nat.le_of_ble_eq_true rfl) dX2_init_36 rfl ?_
  refine Zj.dup dX2_init_39 rfl ?_
  refine Zj.callN (as' := [.inl (G.2.1 4, 8, .inr (.inr (.inr (.inr (va_up (va_up (va_up (va_up (fun _ => none) 0 (some (h0 + (n + 1)))) 1 (some (h0 + (n + 9)))) 2 (some (h0 + (n + 17)))) 3 (some (h0 + (n + 25)))))))), .inr (6, fiX6 h0 (n + 2)), aI G 16 z0, aI G 16 z0, aI G 16 z0, aI G 16 z0, aJ G 16 z0L, aJ G 48 z0L, aI G 48 z0, .inr (6, fiX6 h0 (n + 10)), aI G 16 z0, aI G 16 z0, aI G 16 z0, aI G 16 z0, aJ G 16 z0L, aJ G 48 z0L, aI G 48 z0, .inr (6, fiX6 h0 (n + 18)), aI G 16 z0, aI G 16 z0, aI G 16 z0, aI G 16 z0, aJ G 16 z0L, aJ G 48 z0L, aI G 48 z0, .inr (6, fiX6 h0 (n + 26)), aI G 16 z0, aI G 16 z0, aI G 16 z0, aI G 16 z0, aJ G 16 z0L, aJ G 48 z0L, aI G 48 z0, .inr (6, fiX6 h0 (n + 34)), aI G 16 z0, aI G 16 z0, aI G 16 z0, aI G 16 z0, aJ G 16 z0L, aJ G 48 z0L, aI G 48 z0]) (zX6 G h0 (n + 34) (n + 33) _ (cE_at rfl (by omega)) (by omega)) (Nat.le_of_ble_eq_true rfl) (Nat.le_of_ble_eq_true rfl) (Nat.le_of_ble_eq_true rfl) (by omega) (Or.inl ho) (Nat.le_of_ble_eq_true rfl) (Nat.le_of_ble_eq_true rfl) nz_1_117 mz_1_32 mz_1_2 mz_1_33 (by decide +kernel) rfl (Nat.le_of_ble_eq_true rfl) dX2_init_40 rfl ?_
  refine Zj.aast (ja := 0) (jv := 33) (as' := [.inl (G.2.1 4, 8, .inr (.inr (.inr (.inr (va_up (va_up (va_up (va_up (va_up (fun _ => none) 0 (some (h0 + (n + 1)))) 1 (some (h0 + (n + 9)))) 2 (some (h0 + (n + 17)))) 3 (some (h0 + (n + 25)))) 4 (some (h0 + (n + 33)))))))), .inr (6, fiX6 h0 (n + 2)), aI G 16 z0, aI G 16 z0, aI G 16 z0, aI G 16 z0, aJ G 16 z0L, aJ G 48 z0L, aI G 48 z0, .inr (6, fiX6 h0 (n + 10)), aI G 16 z0, aI G 16 z0, aI G 16 z0, aI G 16 z0, aJ G 16 z0L, aJ G 48 z0L, aI G 48 z0, .inr (6, fiX6 h0 (n + 18)), aI G 16 z0, aI G 16 z0, aI G 16 z0, aI G 16 z0, aJ G 16 z0L, aJ G 48 z0L, aI G 48 z0, .inr (6, fiX6 h0 (n + 26)), aI G 16 z0, aI G 16 z0, aI G 16 z0, aI G 16 z0, aJ G 16 z0L, aJ G 48 z0L, aI G 48 z0, .inr (6, fiX6 h0 (n + 34)), aI G 16 z0, aI G 16 z0, aI G 16 z0, aI G 16 z0, aJ G 16 z0L, aJ G 48 z0L, aI G 48 z0]) (by omega) (by omega) rfl rfl (by unfold vp_in; decide) dX2_init_43 rfl ?_
  refine Zj.iinc (v := 5) (lv' := [(0, .ref (h0 + o)), (1, .int 5)]) 1 dX2_init_44 rfl (by decide) (by decide) rfl ?_
  refine Zj.goto 25 dX2_init_47 (by decide) ?_
  refine Zj.iload_n 1 dX2_init_25 rfl ?_
  refine Zj.bipush (v := 8) dX2_init_26 (by decide) ?_
  refine Zj.icmp_ge 50 dX2_init_28 (by decide) (fun h => absurd h (by decide)) (fun _ => ?_)
  refine Zj.aload_n 0 dX2_init_31 rfl ?_
  refine Zj.get (i := 0) (C := RX2) (T := TX2) (N := 3) ho rfl inX2 (Nat.le_of_ble_eq_true rfl) mw_1_118 dX2_init_32 rfl ?_
  refine Zj.iload_n 1 dX2_init_35 rfl ?_
  refine Zj.new (C := RX6) (T := TX6) (N := 12) (c1 := 6) (j := 41) (fr := frX6) (as' := [.inl (G.2.1 4, 8, .inr (.inr (.inr (.inr (va_up (va_up (va_up (va_up (va_up (fun _ => none) 0 (some (h0 + (n + 1)))) 1 (some (h0 + (n + 9)))) 2 (some (h0 + (n + 17)))) 3 (some (h0 + (n + 25)))) 4 (some (h0 + (n + 33)))))))), .inr (6, fiX6 h0 (n + 2)), aI G 16 z0, aI G 16 z0, aI G 16 z0, aI G 16 z0, aJ G 16 z0L, aJ G 48 z0L, aI G 48 z0, .inr (6, fiX6 h0 (n + 10)), aI G 16 z0, aI G 16 z0, aI G 16 z0, aI G 16 z0, aJ G 16 z0L, aJ G 48 z0L, aI G 48 z0, .inr (6, fiX6 h0 (n + 18)), aI G 16 z0, aI G 16 z0, aI G 16 z0, aI G 16 z0, aJ G 16 z0L, aJ G 48 z0L, aI G 48 z0, .inr (6, fiX6 h0 (n + 26)), aI G 16 z0, aI G 16 z0, aI G 16 z0, aI G 16 z0, aJ G 16 z0L, aJ G 48 z0L, aI G 48 z0, .inr (6, fiX6 h0 (n + 34)), aI G 16 z0, aI G 16 z0, aI G 16 z0, aI G 16 z0, aJ G 16 z0L, aJ G 48 z0L, aI G 48 z0, .inr (6, frX6)]) (by omega) tyX6 tyX6_ok inX6 rfl mz_1_115 mz_1_30 mz_1_2 frX6_ok rfl (Nat.le_of_ble_eq_true rfl) (Nat.le_of_ble_eq_true rfl) dX2_init_36 rfl ?_
  refine Zj.dup dX2_init_39 rfl ?_
  refine Zj.callN (as' := [.inl (G.2.1 4, 8, .inr (.inr (.inr (.inr (va_up (va_up (va_up (va_up (va_up (fun _ => none) 0 (some (h0 + (n + 1)))) 1 (some (h0 + (n + 9)))) 2 (some (h0 + (n + 17)))) 3 (some (h0 + (n + 25)))) 4 (some (h0 + (n + 33)))))))), .inr (6, fiX6 h0 (n + 2)), aI G 16 z0, aI G 16 z0, aI G 16 z0, aI G 16 z0, aJ G 16 z0L, aJ G 48 z0L, aI G 48 z0, .inr (6, fiX6 h0 (n + 10)), aI G 16 z0, aI G 16 z0, aI G 16 z0, aI G 16 z0, aJ G 16 z0L, aJ G 48 z0L, aI G 48 z0, .inr (6, fiX6 h0 (n + 18)), aI G 16 z0, aI G 16 z0, aI G 16 z0, aI G 16 z0, aJ G 16 z0L, aJ G 48 z0L, aI G 48 z0, .inr (6, fiX6 h0 (n + 26)), aI G 16 z0, aI G 16 z0, aI G 16 z0, aI G 16 z0, aJ G 16 z0L, aJ G 48 z0L, aI G 48 z0, .inr (6, fiX6 h0 (n + 34)), aI G 16 z0, aI G 16 z0, aI G 16 z0, aI G 16 z0, aJ G 16 z0L, aJ G 48 z0L, aI G 48 z0, .inr (6, fiX6 h0 (n + 42)), aI G 16 z0, aI G 16 z0, aI G 16 z0, aI G 16 z0, aJ G 16 z0L, aJ G 48 z0L, aI G 48 z0]) (zX6 G h0 (n + 42) (n + 41) _ (cE_at rfl (by omega)) (by omega)) (Nat.le_of_ble_eq_true rfl) (Nat.le_of_ble_eq_true rfl) (Nat.le_of_ble_eq_true rfl) (by omega) (Or.inl ho) (Nat.le_of_ble_eq_true rfl) (Nat.le_of_ble_eq_true rfl) nz_1_117 mz_1_32 mz_1_2 mz_1_33 (by decide +kernel) rfl (Nat.le_of_ble_eq_true rfl) dX2_init_40 rfl ?_
  refine Zj.aast (ja := 0) (jv := 41) (as' := [.inl (G.2.1 4, 8, .inr (.inr (.inr (.inr (va_up (va_up (va_up (va_up (va_up (va_up (fun _ => none) 0 (some (h0 + (n + 1)))) 1 (some (h0 + (n + 9)))) 2 (some (h0 + (n + 17)))) 3 (some (h0 + (n + 25)))) 4 (some (h0 + (n + 33)))) 5 (some (h0 + (n + 41)))))))), .inr (6, fiX6 h0 (n + 2)), aI G 16 z0, aI G 16 z0, aI G 16 z0, aI G 16 z0, aJ G 16 z0L, aJ G 48 z0L, aI G 48 z0, .inr (6, fiX6 h0 (n + 10)), aI G 16 z0, aI G 16 z0, aI G 16 z0, aI G 16 z0, aJ G 16 z0L, aJ G 48 z0L, aI G 48 z0, .inr (6, fiX6 h0 (n + 18)), aI G 16 z0, aI G 16 z0, aI G 16 z0, aI G 16 z0, aJ G 16 z0L, aJ G 48 z0L, aI G 48 z0, .inr (6, fiX6 h0 (n + 26)), aI G 16 z0, aI G 16 z0, aI G 16 z0, aI G 16 z0, aJ G 16 z0L, aJ G 48 z0L, aI G 48 z0, .inr (6, fiX6 h0 (n + 34)), aI G 16 z0, aI G 16 z0, aI G 16 z0, aI G 16 z0, aJ G 16 z0L, aJ G 48 z0L, aI G 48 z0, .inr (6, fiX6 h0 (n + 42)), aI G 16 z0, aI G 16 z0, aI G 16 z0, aI G 16 z0, aJ G 16 z0L, aJ G 48 z0L, aI G 48 z0]) (by omega) (by omega) rfl rfl (by unfold vp_in; decide) dX2_init_43 rfl ?_
  refine Zj.iinc (v := 6) (lv' := [(0, .ref (h0 + o)), (1, .int 6)]) 1 dX2_init_44 rfl (by decide) (by decide) rfl ?_
  refine Zj.goto 25 dX2_init_47 (by decide) ?_
  refine Zj.iload_n 1 dX2_init_25 rfl ?_
  refine Zj.bipush (v := 8) dX2_init_26 (by decide) ?_
  refine Zj.icmp_ge 50 dX2_init_28 (by decide) (fun h => absurd h (by decide)) (fun _ => ?_)
  refine Zj.aload_n 0 dX2_init_31 rfl ?_
  refine Zj.get (i := 0) (C := RX2) (T := TX2) (N := 3) ho rfl inX2 (Nat.le_of_ble_eq_true rfl) mw_1_118 dX2_init_32 rfl ?_
  refine Zj.iload_n 1 dX2_init_35 rfl ?_
  refine Zj.new (C := RX6) (T := TX6) (N := 12) (c1 := 6) (j := 49) (fr := frX6) (as' := [.inl (G.2.1 4, 8, .inr (.inr (.inr (.inr (va_up (va_up (va_up (va_up (va_up (va_up (fun _ => none) 0 (some (h0 + (n + 1)))) 1 (some (h0 + (n + 9)))) 2 (some (h0 + (n + 17)))) 3 (some (h0 + (n + 25)))) 4 (some (h0 + (n + 33)))) 5 (some (h0 + (n + 41)))))))), .inr (6, fiX6 h0 (n + 2)), aI G 16 z0, aI G 16 z0, aI G 16 z0, aI G 16 z0, aJ G 16 z0L, aJ G 48 z0L, aI G 48 z0, .inr (6, fiX6 h0 (n + 10)), aI G 16 z0, aI G 16 z0, aI G 16 z0, aI G 16 z0, aJ G 16 z0L, aJ G 48 z0L, aI G 48 z0, .inr (6, fiX6 h0 (n + 18)), aI G 16 z0, aI G 16 z0, aI G 16 z0, aI G 16 z0, aJ G 16 z0L, aJ G 48 z0L, aI G 48 z0, .inr (6, fiX6 h0 (n + 26)), aI G 16 z0, aI G 16 z0, aI G 16 z0, aI G 16 z0, aJ G 16 z0L, aJ G 48 z0L, aI G 48 z0, .inr (6, fiX6 h0 (n + 34)), aI G 16 z0, aI G 16 z0, aI G 16 z0, aI G 16 z0, aJ G 16 z0L, aJ G 48 z0L, aI G 48 z0, .inr (6, fiX6 h0 (n + 42)), aI G 16 z0, aI G 16 z0, aI G 16 z0, aI G 16 z0, aJ G 16 z0L, aJ G 48 z0L, aI G 48 z0, .inr (6, frX6)]) (by omega) tyX6 tyX6_ok inX6 rfl mz_1_115 mz_1_30 mz_1_2 frX6_ok rfl (Nat.le_of_ble_eq_true rfl) (Nat.le_of_ble_eq_true rfl) dX2_init_36 rfl ?_
  refine Zj.dup dX2_init_39 rfl ?_
  refine Zj.callN (as' := [.inl (G.2.1 4, 8, .inr (.inr (.inr (.inr (va_up (va_up (va_up (va_up (va_up (va_up (fun _ => none) 0 (some (h0 + (n + 1)))) 1 (some (h0 + (n + 9)))) 2 (some (h0 + (n + 17)))) 3 (some (h0 + (n + 25)))) 4 (some (h0 + (n + 33)))) 5 (some (h0 + (n + 41)))))))), .inr (6, fiX6 h0 (n + 2)), aI G 16 z0, aI G 16 z0, aI G 16 z0, aI G 16 z0, aJ G 16 z0L, aJ G 48 z0L, aI G 48 z0, .inr (6, fiX6 h0 (n + 10)), aI G 16 z0, aI G 16 z0, aI G 16 z0, aI G 16 z0, aJ G 16 z0L, aJ G 48 z0L, aI G 48 z0, .inr (6, fiX6 h0 (n + 18)), aI G 16 z0, aI G 16 z0, aI G 16 z0, aI G 16 z0, aJ G 16 z0L, aJ G 48 z0L, aI G 48 z0, .inr (6, fiX6 h0 (n + 26)), aI G 16 z0, aI G 16 z0, aI G 16 z0, aI G 16 z0, aJ G 16 z0L, aJ G 48 z0L, aI G 48 z0, .inr (6, fiX6 h0 (n + 34)), aI G 16 z0, aI G 16 z0, aI G 16 z0, aI G 16 z0, aJ G 16 z0L, aJ G 48 z0L, aI G 48 z0, .inr (6, fiX6 h0 (n + 42)), aI G 16 z0, aI G 16 z0, aI G 16 z0, aI G 16 z0, aJ G 16 z0L, aJ G 48 z0L, aI G 48 z0, .inr (6, fiX6 h0 (n + 50)), aI G 16 z0, aI G 16 z0, aI G 16 z0, aI G 16 z0, aJ G 16 z0L, aJ G 48 z0L, aI G 48 z0]) (zX6 G h0 (n + 50) (n + 49) _ (cE_at rfl (by omega)) (by omega)) (Nat.le_of_ble_eq_true rfl) (Nat.le_of_ble_eq_true rfl) (Nat.le_of_ble_eq_true rfl) (by omega) (Or.inl ho) (Nat.le_of_ble_eq_true rfl) (Nat.le_of_ble_eq_true rfl) nz_1_117 mz_1_32 mz_1_2 mz_1_33 (by decide +kernel) rfl (Nat.le_of_ble_eq_true rfl) dX2_init_40 rfl ?_
  refine Zj.aast (ja := 0) (jv := 49) (as' := [.inl (G.2.1 4, 8, .inr (.inr (.inr (.inr (va_up (va_up (va_up (va_up (va_up (va_up (va_up (fun _ => none) 0 (some (h0 + (n + 1)))) 1 (some (h0 + (n + 9)))) 2 (some (h0 + (n + 17)))) 3 (some (h0 + (n + 25)))) 4 (some (h0 + (n + 33)))) 5 (some (h0 + (n + 41)))) 6 (some (h0 + (n + 49)))))))), .inr (6, fiX6 h0 (n + 2)), aI G 16 z0, aI G 16 z0, aI G 16 z0, aI G 16 z0, aJ G 16 z0L, aJ G 48 z0L, aI G 48 z0, .inr (6, fiX6 h0 (n + 10)), aI G 16 z0, aI G 16 z0, aI G 16 z0, aI G 16 z0, aJ G 16 z0L, aJ G 48 z0L, aI G 48 z0, .inr (6, fiX6 h0 (n + 18)), aI G 16 z0, aI G 16 z0, aI G 16 z0, aI G 16 z0, aJ G 16 z0L, aJ G 48 z0L, aI G 48 z0, .inr (6, fiX6 h0 (n + 26)), aI G 16 z0, aI G 16 z0, aI G 16 z0, aI G 16 z0, aJ G 16 z0L, aJ G 48 z0L, aI G 48 z0, .inr (6, fiX6 h0 (n + 34)), aI G 16 z0, aI G 16 z0, aI G 16 z0, aI G 16 z0, aJ G 16 z0L, aJ G 48 z0L, aI G 48 z0, .inr (6, fiX6 h0 (n + 42)), aI G 16 z0, aI G 16 z0, aI G 16 z0, aI G 16 z0, aJ G 16 z0L, aJ G 48 z0L, aI G 48 z0, .inr (6, fiX6 h0 (n + 50)), aI G 16 z0, aI G 16 z0, aI G 16 z0, aI G 16 z0, aJ G 16 z0L, aJ G 48 z0L, aI G 48 z0]) (by omega) (by omega) rfl rfl (by unfold vp_in; decide) dX2_init_43 rfl ?_
  refine Zj.iinc (v := 7) (lv' := [(0, .ref (h0 + o)), (1, .int 7)]) 1 dX2_init_44 rfl (by decide) (by decide) rfl ?_
  refine Zj.goto 25 dX2_init_47 (by decide) ?_
  refine Zj.iload_n 1 dX2_init_25 rfl ?_
  refine Zj.bipush (v := 8) dX2_init_26 (by decide) ?_
  refine Zj.icmp_ge 50 dX2_init_28 (by decide) (fun h => absurd h (by decide)) (fun _ => ?_)
  refine Zj.aload_n 0 dX2_init_31 rfl ?_
  refine Zj.get (i := 0) (C := RX2) (T := TX2) (N := 3) ho rfl inX2 (Nat.le_of_ble_eq_true rfl) mw_1_118 dX2_init_32 rfl ?_
  refine Zj.iload_n 1 dX2_init_35 rfl ?_
  refine Zj.new (C := RX6) (T := TX6) (N := 12) (c1 := 6) (j := 57) (fr := frX6) (as' := [.inl (G.2.1 4, 8, .inr (.inr (.inr (.inr (va_up (va_up (va_up (va_up (va_up (va_up (va_up (fun _ => none) 0 (some (h0 + (n + 1)))) 1 (some (h0 + (n + 9)))) 2 (some (h0 + (n + 17)))) 3 (some (h0 + (n + 25)))) 4 (some (h0 + (n + 33)))) 5 (some (h0 + (n + 41)))) 6 (some (h0 + (n + 49)))))))), .inr (6, fiX6 h0 (n + 2)), aI G 16 z0, aI G 16 z0, aI G 16 z0, aI G 16 z0, aJ G 16 z0L, aJ G 48 z0L, aI G 48 z0, .inr (6, fiX6 h0 (n + 10)), aI G 16 z0, aI G 16 z0, aI G 16 z0, aI G 16 z0, aJ G 16 z0L, aJ G 48 z0L, aI G 48 z0, .inr (6, fiX6 h0 (n + 18)), aI G 16 z0, aI G 16 z0, aI G 16 z0, aI G 16 z0, aJ G 16 z0L, aJ G 48 z0L, aI G 48 z0, .inr (6, fiX6 h0 (n + 26)), aI G 16 z0, aI G 16 z0, aI G 16 z0, aI G 16 z0, aJ G 16 z0L, aJ G 48 z0L, aI G 48 z0, .inr (6, fiX6 h0 (n + 34)), aI G 16 z0, aI G 16 z0, aI G 16 z0, aI G 16 z0, aJ G 16 z0L, aJ G 48 z0L, aI G 48 z0, .inr (6, fiX6 h0 (n + 42)), aI G 16 z0, aI G 16 z0, aI G 16 z0, aI G 16 z0, aJ G 16 z0L, aJ G 48 z0L, aI G 48 z0, .inr (6, fiX6 h0 (n + 50)), aI G 16 z0, aI G 16 z0, aI G 16 z0, aI G 16 z0, aJ G 16 z0L, aJ G 48 z0L, aI G 48 z0, .inr (6, frX6)]) (by omega) tyX6 tyX6_ok inX6 rfl mz_1_115 mz_1_30 mz_1_2 frX6_ok rfl (Nat.le_of_ble_eq_true rfl) (Nat.le_of_ble_eq_true rfl) dX2_init_36 rfl ?_
  refine Zj.dup dX2_init_39 rfl ?_
  refine Zj.callN (as' := [.inl (G.2.1 4, 8, .inr (.inr (.inr (.inr (va_up (va_up (va_up (va_up (va_up (va_up (va_up (fun _ => none) 0 (some (h0 + (n + 1)))) 1 (some (h0 + (n + 9)))) 2 (some (h0 + (n + 17)))) 3 (some (h0 + (n + 25)))) 4 (some (h0 + (n + 33)))) 5 (some (h0 + (n + 41)))) 6 (some (h0 + (n + 49)))))))), .inr (6, fiX6 h0 (n + 2)), aI G 16 z0, aI G 16 z0, aI G 16 z0, aI G 16 z0, aJ G 16 z0L, aJ G 48 z0L, aI G 48 z0, .inr (6, fiX6 h0 (n + 10)), aI G 16 z0, aI G 16 z0, aI G 16 z0, aI G 16 z0, aJ G 16 z0L, aJ G 48 z0L, aI G 48 z0, .inr (6, fiX6 h0 (n + 18)), aI G 16 z0, aI G 16 z0, aI G 16 z0, aI G 16 z0, aJ G 16 z0L, aJ G 48 z0L, aI G 48 z0, .inr (6, fiX6 h0 (n + 26)), aI G 16 z0, aI G 16 z0, aI G 16 z0, aI G 16 z0, aJ G 16 z0L, aJ G 48 z0L, aI G 48 z0, .inr (6, fiX6 h0 (n + 34)), aI G 16 z0, aI G 16 z0, aI G 16 z0, aI G 16 z0, aJ G 16 z0L, aJ G 48 z0L, aI G 48 z0, .inr (6, fiX6 h0 (n + 42)), aI G 16 z0, aI G 16 z0, aI G 16 z0, aI G 16 z0, aJ G 16 z0L, aJ G 48 z0L, aI G 48 z0, .inr (6, fiX6 h0 (n + 50)), aI G 16 z0, aI G 16 z0, aI G 16 z0, aI G 16 z0, aJ G 16 z0L, aJ G 48 z0L, aI G 48 z0, .inr (6, fiX6 h0 (n + 58)), aI G 16 z0, aI G 16 z0, aI G 16 z0, aI G 16 z0, aJ G 16 z0L, aJ G 48 z0L, aI G 48 z0]) (zX6 G h0 (n + 58) (n + 57) _ (cE_at rfl (by omega)) (by omega)) (Nat.le_of_ble_eq_true rfl) (Nat.le_of_ble_eq_true rfl) (Nat.le_of_ble_eq_true rfl) (by omega) (Or.inl ho) (Nat.le_of_ble_eq_true rfl) (Nat.le_of_ble_eq_true rfl) nz_1_117 mz_1_32 mz_1_2 mz_1_33 (by decide +kernel) rfl (Nat.le_of_ble_eq_true rfl) dX2_init_40 rfl ?_
  refine Zj.aast (ja := 0) (jv := 57) (as' := [.inl (G.2.1 4, 8, .inr (.inr (.inr (.inr (va_up (va_up (va_up (va_up (va_up (va_up (va_up (va_up (fun _ => none) 0 (some (h0 + (n + 1)))) 1 (some (h0 + (n + 9)))) 2 (some (h0 + (n + 17)))) 3 (some (h0 + (n + 25)))) 4 (some (h0 + (n + 33)))) 5 (some (h0 + (n + 41)))) 6 (some (h0 + (n + 49)))) 7 (some (h0 + (n + 57)))))))), .inr (6, fiX6 h0 (n + 2)), aI G 16 z0, aI G 16 z0, aI G 16 z0, aI G 16 z0, aJ G 16 z0L, aJ G 48 z0L, aI G 48 z0, .inr (6, fiX6 h0 (n + 10)), aI G 16 z0, aI G 16 z0, aI G 16 z0, aI G 16 z0, aJ G 16 z0L, aJ G 48 z0L, aI G 48 z0, .inr (6, fiX6 h0 (n + 18)), aI G 16 z0, aI G 16 z0, aI G 16 z0, aI G 16 z0, aJ G 16 z0L, aJ G 48 z0L, aI G 48 z0, .inr (6, fiX6 h0 (n + 26)), aI G 16 z0, aI G 16 z0, aI G 16 z0, aI G 16 z0, aJ G 16 z0L, aJ G 48 z0L, aI G 48 z0, .inr (6, fiX6 h0 (n + 34)), aI G 16 z0, aI G 16 z0, aI G 16 z0, aI G 16 z0, aJ G 16 z0L, aJ G 48 z0L, aI G 48 z0, .inr (6, fiX6 h0 (n + 42)), aI G 16 z0, aI G 16 z0, aI G 16 z0, aI G 16 z0, aJ G 16 z0L, aJ G 48 z0L, aI G 48 z0, .inr (6, fiX6 h0 (n + 50)), aI G 16 z0, aI G 16 z0, aI G 16 z0, aI G 16 z0, aJ G 16 z0L, aJ G 48 z0L, aI G 48 z0, .inr (6, fiX6 h0 (n + 58)), aI G 16 z0, aI G 16 z0, aI G 16 z0, aI G 16 z0, aJ G 16 z0L, aJ G 48 z0L, aI G 48 z0]) (by omega) (by omega) rfl rfl (by unfold vp_in; decide) dX2_init_43 rfl ?_
  refine Zj.iinc (v := 8) (lv' := [(0, .ref (h0 + o)), (1, .int 8)]) 1 dX2_init_44 rfl (by decide) (by decide) rfl ?_
  refine Zj.goto 25 dX2_init_47 (by decide) ?_
  refine Zj.iload_n 1 dX2_init_25 rfl ?_
  refine Zj.bipush (v := 8) dX2_init_26 (by decide) ?_
  refine Zj.icmp_ge 50 dX2_init_28 (by decide) (fun _ => ?_) (fun h => absurd (by decide) h)
  exact Zj.vret hF rfl dX2_init_50
theorem mz_1_134 : Cond.methodLink RX4 3 Lib.objectInit ∈ TT := tt_in (tb_1 (List.mem_of_getElem? (i := 134) (by decide +kernel))) (by decide +kernel)
theorem mz_1_135 : Cond.classLink RX4 9 RX6 ∈ TT := tt_in (tb_1 (List.mem_of_getElem? (i := 135) (by decide +kernel))) (by decide +kernel)
theorem nz_1_136 : Cond.methodLinkNest RX4 11 yX6_init "CoverExtract" ∈ NW := nw_in (tb_1 (List.mem_of_getElem? (i := 136) (by decide +kernel))) (by decide +kernel)
def fiX4 (h0 n : Nat) : List Value := [.ref (h0 + (n + 0)), .int 0, .int (-1), .int 0, .int 0, .int 0, .long 0]
def caX4 (G : Gx) (h0 n : Nat) : List va_E := [.inr (6, fiX6 h0 (n + 1)), aI G 16 z0, aI G 16 z0, aI G 16 z0, aI G 16 z0, aJ G 16 z0L, aJ G 48 z0L, aI G 48 z0]
set_option maxHeartbeats 4000000 in
set_option maxRecDepth 100000 in
theorem zX4 (G : Gx) (h0 n o : Nat) (E : Nat → va_E) (hE : E o = .inr (4, frX4)) (ho : o < n) : RunsZ 2 188 M_X4_init G h0 n o 4 E (fiX4 h0 n) (caX4 G h0 n) := by
  refine RunsZ.of (fs0 := frX4) (fs := fiX4 h0 n) (as := caX4 G h0 n) RX4 rfl rfl (by decide +kernel) (by decide) hE ho (fun X hF => ?_)
  refine Zj.aload_n 0 dX4_init_0 rfl ?_
  refine Zj.objInit mz_1_134 mz_1_27 mz_1_28 (Nat.le_of_ble_eq_true rfl) (Nat.le_of_ble_eq_true rfl) dX4_init_1 ?_
  refine Zj.aload_n 0 dX4_init_4 rfl ?_
  refine Zj.new (C := RX6) (T := TX6) (N := 12) (c1 := 6) (j := 0) (fr := frX6) (as' := [.inr (6, frX6)]) (by omega) tyX6 tyX6_ok inX6 rfl mz_1_135 mz_1_30 mz_1_2 frX6_ok rfl (Nat.le_of_ble_eq_true rfl) (Nat.le_of_ble_eq_true rfl) dX4_init_5 rfl ?_
  refine Zj.dup dX4_init_8 rfl ?_
  refine Zj.callN (as' := [.inr (6, fiX6 h0 (n + 1)), aI G 16 z0, aI G 16 z0, aI G 16 z0, aI G 16 z0, aJ G 16 z0L, aJ G 48 z0L, aI G 48 z0]) (zX6 G h0 (n + 1) (n + 0) _ (cE_at rfl (by omega)) (by omega)) (Nat.le_of_ble_eq_true rfl) (Nat.le_of_ble_eq_true rfl) (Nat.le_of_ble_eq_true rfl) (by omega) (Or.inl ho) (Nat.le_of_ble_eq_true rfl) (Nat.le_of_ble_eq_true rfl) nz_1_136 mz_1_32 mz_1_2 mz_1_33 (by decide +kernel) rfl (Nat.le_of_ble_eq_true rfl) dX4_init_9 rfl ?_
  refine Zj.putF hF (i := 0) (C := RX4) (T := TX4) (N := 7) (v := .ref (h0 + (n + 0))) (ty := (.object "CoverExtract$State")) (fs' := [.ref (h0 + (n + 0)), .int 0, .int 0, .int 0, .int 0, .int 0, .long 0]) tyX4 tyX4_ok nmX4 ho rfl inX4 (Nat.le_of_ble_eq_true rfl) mw_1_137 rfl rfl (by decide +kernel) rfl rfl (Nat.le_of_ble_eq_true rfl) dX4_init_12 rfl ?_
  refine Zj.aload_n 0 dX4_init_15 rfl ?_
  refine Zj.iconst (v := 0) dX4_init_16 (by decide) ?_
  refine Zj.put (i := 1) (C := RX4) (T := TX4) (N := 7) (v := .int 0) (ty := .int) (fs' := [.ref (h0 + (n + 0)), .int 0, .int 0, .int 0, .int 0, .int 0, .long 0]) tyX4 tyX4_ok nmX4 ho rfl inX4 (Nat.le_of_ble_eq_true rfl) mw_1_139 rfl (by decide +kernel) rfl rfl (Nat.le_of_ble_eq_true rfl) dX4_init_17 rfl ?_
  refine Zj.aload_n 0 dX4_init_20 rfl ?_
  refine Zj.iconst (v := (-1)) dX4_init_21 (by decide) ?_
  refine Zj.put (i := 2) (C := RX4) (T := TX4) (N := 7) (v := .int (-1)) (ty := .int) (fs' := [.ref (h0 + (n + 0)), .int 0, .int (-1), .int 0, .int 0, .int 0, .long 0]) tyX4 tyX4_ok nmX4 ho rfl inX4 (Nat.le_of_ble_eq_true rfl) mw_1_140 rfl (by decide +kernel) rfl rfl (Nat.le_of_ble_eq_true rfl) dX4_init_22 rfl ?_
  refine Zj.aload_n 0 dX4_init_25 rfl ?_
  refine Zj.iconst (v := 0) dX4_init_26 (by decide) ?_
  refine Zj.put (i := 3) (C := RX4) (T := TX4) (N := 7) (v := .int 0) (ty := .int) (fs' := [.ref (h0 + (n + 0)), .int 0, .int (-1), .int 0, .int 0, .int 0, .long 0]) tyX4 tyX4_ok nmX4 ho rfl inX4 (Nat.le_of_ble_eq_true rfl) mw_1_142 rfl (by decide +kernel) rfl rfl (Nat.le_of_ble_eq_true rfl) dX4_init_27 rfl ?_
  refine Zj.aload_n 0 dX4_init_30 rfl ?_
  refine Zj.iconst (v := 0) dX4_init_31 (by decide) ?_
  refine Zj.put (i := 4) (C := RX4) (T := TX4) (N := 7) (v := .int 0) (ty := .int) (fs' := [.ref (h0 + (n + 0)), .int 0, .int (-1), .int 0, .int 0, .int 0, .long 0]) tyX4 tyX4_ok nmX4 ho rfl inX4 (Nat.le_of_ble_eq_true rfl) mw_1_143 rfl (by decide +kernel) rfl rfl (Nat.le_of_ble_eq_true rfl) dX4_init_32 rfl ?_
  refine Zj.aload_n 0 dX4_init_35 rfl ?_
  refine Zj.iconst (v := 0) dX4_init_36 (by decide) ?_
  refine Zj.put (i := 5) (C := RX4) (T := TX4) (N := 7) (v := .int 0) (ty := .int) (fs' := [.ref (h0 + (n + 0)), .int 0, .int (-1), .int 0, .int 0, .int 0, .long 0]) tyX4 tyX4_ok nmX4 ho rfl inX4 (Nat.le_of_ble_eq_true rfl) mw_1_144 rfl (by decide +kernel) rfl rfl (Nat.le_of_ble_eq_true rfl) dX4_init_37 rfl ?_
  refine Zj.aload_n 0 dX4_init_40 rfl ?_
  refine Zj.lconst (v := 0) dX4_init_41 (by decide) ?_
  refine Zj.put (i := 6) (C := RX4) (T := TX4) (N := 7) (v := .long 0) (ty := .long) (fs' := [.ref (h0 + (n + 0)), .int 0, .int (-1), .int 0, .int 0, .int 0, .long 0]) tyX4 tyX4_ok nmX4 ho rfl inX4 (Nat.le_of_ble_eq_true rfl) mw_1_145 rfl (by decide +kernel) rfl rfl (Nat.le_of_ble_eq_true rfl) dX4_init_42 rfl ?_
  exact Zj.vret hF rfl dX4_init_45
theorem mz_1_26 : Cond.methodLink RX8 1 Lib.objectInit ∈ TT := tt_in (tb_1 (List.mem_of_getElem? (i := 26) (by decide +kernel))) (by decide +kernel)
theorem mz_1_29 : Cond.classLink RX8 24 RX6 ∈ TT := tt_in (tb_1 (List.mem_of_getElem? (i := 29) (by decide +kernel))) (by decide +kernel)
theorem nz_1_31 : Cond.methodLinkNest RX8 26 yX6_init "CoverExtract" ∈ NW := nw_in (tb_1 (List.mem_of_getElem? (i := 31) (by decide +kernel))) (by decide +kernel)
theorem mz_1_109 : Cond.classLink RX8 31 RX2 ∈ TT := tt_in (tb_1 (List.mem_of_getElem? (i := 109) (by decide +kernel))) (by decide +kernel)
theorem mz_1_110 : Cond.instantiable RX2 3 ∈ TT := tt_in (tb_1 (List.mem_of_getElem? (i := 110) (by decide +kernel))) (by decide +kernel)
theorem mz_1_3 : Cond.initialized RX2 ∈ TT := tt_in (tb_1 (List.mem_of_getElem? (i := 3) (by decide +kernel))) (by decide +kernel)
theorem nz_1_111 : Cond.methodLinkNest RX8 33 yX2_init "CoverExtract" ∈ NW := nw_in (tb_1 (List.mem_of_getElem? (i := 111) (by decide +kernel))) (by decide +kernel)
theorem mz_1_112 : Cond.instanceMethod yX2_init ∈ TT := tt_in (tb_1 (List.mem_of_getElem? (i := 112) (by decide +kernel))) (by decide +kernel)
theorem mz_1_113 : Cond.code yX2_init cX2_init 2 none ∈ TT := tt_in (tb_1 (List.mem_of_getElem? (i := 113) (by decide +kernel))) (by decide +kernel)
theorem mz_1_129 : Cond.classLink RX8 38 RX4 ∈ TT := tt_in (tb_1 (List.mem_of_getElem? (i := 129) (by decide +kernel))) (by decide +kernel)
theorem mz_1_130 : Cond.instantiable RX4 7 ∈ TT := tt_in (tb_1 (List.mem_of_getElem? (i := 130) (by decide +kernel))) (by decide +kernel)
theorem mz_1_4 : Cond.initialized RX4 ∈ TT := tt_in (tb_1 (List.mem_of_getElem? (i := 4) (by decide +kernel))) (by decide +kernel)
theorem nz_1_131 : Cond.methodLinkNest RX8 40 yX4_init "CoverExtract" ∈ NW := nw_in (tb_1 (List.mem_of_getElem? (i := 131) (by decide +kernel))) (by decide +kernel)
theorem mz_1_132 : Cond.instanceMethod yX4_init ∈ TT := tt_in (tb_1 (List.mem_of_getElem? (i := 132) (by decide +kernel))) (by decide +kernel)
theorem mz_1_133 : Cond.code yX4_init cX4_init 1 none ∈ TT := tt_in (tb_1 (List.mem_of_getElem? (i := 133) (by decide +kernel))) (by decide +kernel)
theorem mz_1_161 : Cond.classLink RX8 45 RX1 ∈ TT := tt_in (tb_1 (List.mem_of_getElem? (i := 161) (by decide +kernel))) (by decide +kernel)
theorem mz_1_162 : Cond.instantiable RX1 4 ∈ TT := tt_in (tb_1 (List.mem_of_getElem? (i := 162) (by decide +kernel))) (by decide +kernel)
theorem mz_1_5 : Cond.initialized RX1 ∈ TT := tt_in (tb_1 (List.mem_of_getElem? (i := 5) (by decide +kernel))) (by decide +kernel)
theorem nz_1_163 : Cond.methodLinkNest RX8 47 yX1_init "CoverExtract" ∈ NW := nw_in (tb_1 (List.mem_of_getElem? (i := 163) (by decide +kernel))) (by decide +kernel)
theorem mz_1_164 : Cond.instanceMethod yX1_init ∈ TT := tt_in (tb_1 (List.mem_of_getElem? (i := 164) (by decide +kernel))) (by decide +kernel)
theorem mz_1_165 : Cond.code yX1_init cX1_init 1 none ∈ TT := tt_in (tb_1 (List.mem_of_getElem? (i := 165) (by decide +kernel))) (by decide +kernel)
theorem mz_1_186 : Cond.classLink RX8 52 RX3 ∈ TT := tt_in (tb_1 (List.mem_of_getElem? (i := 186) (by decide +kernel))) (by decide +kernel)
theorem mz_1_187 : Cond.instantiable RX3 5 ∈ TT := tt_in (tb_1 (List.mem_of_getElem? (i := 187) (by decide +kernel))) (by decide +kernel)
theorem mz_1_6 : Cond.initialized RX3 ∈ TT := tt_in (tb_1 (List.mem_of_getElem? (i := 6) (by decide +kernel))) (by decide +kernel)
theorem nz_1_188 : Cond.methodLinkNest RX8 54 yX3_init "CoverExtract" ∈ NW := nw_in (tb_1 (List.mem_of_getElem? (i := 188) (by decide +kernel))) (by decide +kernel)
theorem mz_1_189 : Cond.instanceMethod yX3_init ∈ TT := tt_in (tb_1 (List.mem_of_getElem? (i := 189) (by decide +kernel))) (by decide +kernel)
theorem mz_1_190 : Cond.code yX3_init cX3_init 1 none ∈ TT := tt_in (tb_1 (List.mem_of_getElem? (i := 190) (by decide +kernel))) (by decide +kernel)
theorem mz_1_210 : Cond.classLink RX8 59 RX0 ∈ TT := tt_in (tb_1 (List.mem_of_getElem? (i := 210) (by decide +kernel))) (by decide +kernel)
theorem mz_1_211 : Cond.instantiable RX0 2 ∈ TT := tt_in (tb_1 (List.mem_of_getElem? (i := 211) (by decide +kernel))) (by decide +kernel)
theorem mz_1_7 : Cond.initialized RX0 ∈ TT := tt_in (tb_1 (List.mem_of_getElem? (i := 7) (by decide +kernel))) (by decide +kernel)
theorem nz_1_212 : Cond.methodLinkNest RX8 61 yX0_init "CoverExtract" ∈ NW := nw_in (tb_1 (List.mem_of_getElem? (i := 212) (by decide +kernel))) (by decide +kernel)
theorem mz_1_213 : Cond.instanceMethod yX0_init ∈ TT := tt_in (tb_1 (List.mem_of_getElem? (i := 213) (by decide +kernel))) (by decide +kernel)
theorem mz_1_214 : Cond.code yX0_init cX0_init 1 none ∈ TT := tt_in (tb_1 (List.mem_of_getElem? (i := 214) (by decide +kernel))) (by decide +kernel)
theorem mz_1_225 : Cond.classLink RX8 66 RX5 ∈ TT := tt_in (tb_1 (List.mem_of_getElem? (i := 225) (by decide +kernel))) (by decide +kernel)
theorem mz_1_226 : Cond.instantiable RX5 9 ∈ TT := tt_in (tb_1 (List.mem_of_getElem? (i := 226) (by decide +kernel))) (by decide +kernel)
theorem mz_1_8 : Cond.initialized RX5 ∈ TT := tt_in (tb_1 (List.mem_of_getElem? (i := 8) (by decide +kernel))) (by decide +kernel)
theorem nz_1_227 : Cond.methodLinkNest RX8 68 yX5_init "CoverExtract" ∈ NW := nw_in (tb_1 (List.mem_of_getElem? (i := 227) (by decide +kernel))) (by decide +kernel)
theorem mz_1_228 : Cond.instanceMethod yX5_init ∈ TT := tt_in (tb_1 (List.mem_of_getElem? (i := 228) (by decide +kernel))) (by decide +kernel)
theorem mz_1_229 : Cond.code yX5_init cX5_init 1 none ∈ TT := tt_in (tb_1 (List.mem_of_getElem? (i := 229) (by decide +kernel))) (by decide +kernel)
theorem mz_2_23 : Cond.classLink RX8 73 RX7 ∈ TT := tt_in (tb_2 (List.mem_of_getElem? (i := 23) (by decide +kernel))) (by decide +kernel)
theorem mz_2_24 : Cond.instantiable RX7 3 ∈ TT := tt_in (tb_2 (List.mem_of_getElem? (i := 24) (by decide +kernel))) (by decide +kernel)
theorem mz_1_9 : Cond.initialized RX7 ∈ TT := tt_in (tb_1 (List.mem_of_getElem? (i := 9) (by decide +kernel))) (by decide +kernel)
theorem nz_2_25 : Cond.methodLinkNest RX8 75 yX7_init "CoverExtract" ∈ NW := nw_in (tb_2 (List.mem_of_getElem? (i := 25) (by decide +kernel))) (by decide +kernel)
theorem mz_2_26 : Cond.instanceMethod yX7_init ∈ TT := tt_in (tb_2 (List.mem_of_getElem? (i := 26) (by decide +kernel))) (by decide +kernel)
theorem mz_2_27 : Cond.code yX7_init cX7_init 1 none ∈ TT := tt_in (tb_2 (List.mem_of_getElem? (i := 27) (by decide +kernel))) (by decide +kernel)
def fiX8 (h0 n : Nat) : List Value := [.ref (h0 + (n + 0)), .int 0, .int (-1), .ref (h0 + (n + 1)), .ref (h0 + (n + 2)), .ref (h0 + (n + 10)), .ref (h0 + (n + 76)), .ref (h0 + (n + 85)), .ref (h0 + (n + 87)), .ref (h0 + (n + 90)), .ref (h0 + (n + 91)), .ref (h0 + (n + 93))]
def caX8 (G : Gx) (h0 n : Nat) : List va_E := [aB G 600 z0, aI G 3 z0, .inr (6, fiX6 h0 (n + 3)), aI G 16 z0, aI G 16 z0, aI G 16 z0, aI G 16 z0, aJ G 16 z0L, aJ G 48 z0L, aI G 48 z0, .inr (2, fiX2 h0 (n + 11)), .inl (G.2.1 4, 8, .inr (.inr (.inr (.inr (va_up (va_up (va_up (va_up (va_up (va_up (va_up (va_up (fun _ => none) 0 (some (h0 + ((n + 11) + 1)))) 1 (some (h0 + ((n + 11) + 9)))) 2 (some (h0 + ((n + 11) + 17)))) 3 (some (h0 + ((n + 11) + 25)))) 4 (some (h0 + ((n + 11) + 33)))) 5 (some (h0 + ((n + 11) + 41)))) 6 (some (h0 + ((n + 11) + 49)))) 7 (some (h0 + ((n + 11) + 57)))))))), .inr (6, fiX6 h0 ((n + 11) + 2)), aI G 16 z0, aI G 16 z0, aI G 16 z0, aI G 16 z0, aJ G 16 z0L, aJ G 48 z0L, aI G 48 z0, .inr (6, fiX6 h0 ((n + 11) + 10)), aI G 16 z0, aI G 16 z0, aI G 16 z0, aI G 16 z0, aJ G 16 z0L, aJ G 48 z0L, aI G 48 z0, .inr (6, fiX6 h0 ((n + 11) + 18)), aI G 16 z0, aI G 16 z0, aI G 16 z0, aI G 16 z0, aJ G 16 z0L, aJ G 48 z0L, aI G 48 z0, .inr (6, fiX6 h0 ((n + 11) + 26)), aI G 16 z0, aI G 16 z0, aI G 16 z0, aI G 16 z0, aJ G 16 z0L, aJ G 48 z0L, aI G 48 z0, .inr (6, fiX6 h0 ((n + 11) + 34)), aI G 16 z0, aI G 16 z0, aI G 16 z0, aI G 16 z0, aJ G 16 z0L, aJ G 48 z0L, aI G 48 z0, .inr (6, fiX6 h0 ((n + 11) + 42)), aI G 16 z0, aI G 16 z0, aI G 16 z0, aI G 16 z0, aJ G 16 z0L, aJ G 48 z0L, aI G 48 z0, .inr (6, fiX6 h0 ((n + 11) + 50)), aI G 16 z0, aI G 16 z0, aI G 16 z0, aI G 16 z0, aJ G 16 z0L, aJ G 48 z0L, aI G 48 z0, .inr (6, fiX6 h0 ((n + 11) + 58)), aI G 16 z0, aI G 16 z0, aI G 16 z0, aI G 16 z0, aJ G 16 z0L, aJ G 48 z0L, aI G 48 z0, .inr (4, fiX4 h0 (n + 77)), .inr (6, fiX6 h0 ((n + 77) + 1)), aI G 16 z0, aI G 16 z0, aI G 16 z0, aI G 16 z0, aJ G 16 z0L, aJ G 48 z0L, aI G 48 z0, .inr (1, fiX1 h0 (n + 86)), aI G 16 z0, .inr (3, fiX3 h0 (n + 88)), aI G 16 z0, aI G 16 z0, .inr (0, fiX0 h0 (n + 91)), .inr (5, fiX5 h0 (n + 92)), aJ G 17 z0L, .inr (7, fiX7 h0 (n + 94))]
set_option maxHeartbeats 4000000 in
set_option maxRecDepth 100000 in
theorem zX8 (G : Gx) (h0 n o : Nat) (E : Nat → va_E) (hE : E o = .inr (8, frX8)) (ho : o < n) : RunsZ 3 2589 M_X8_init G h0 n o 8 E (fiX8 h0 n) (caX8 G h0 n) := by
  refine RunsZ.of (fs0 := frX8) (fs := fiX8 h0 n) (as := caX8 G h0 n) RX8 rfl rfl (by decide +kernel) (by decide) hE ho (fun X hF => ?_)
  refine Zj.aload_n 0 dX8_init_0 rfl ?_
  refine Zj.objInit mz_1_26 mz_1_27 mz_1_28 (Nat.le_of_ble_eq_true rfl) (Nat.le_of_ble_eq_true rfl) dX8_init_1 ?_
  refine Zj.aload_n 0 dX8_init_4 rfl ?_
  refine Zj.sipush (v := 600) dX8_init_5 (by decide) ?_
  refine Zj.newa (atype := .byte) (ty := .byte) (ti := 0) (N := 600) (j := 0) (a0 := (600, .inl z0)) (as' := [aB G 600 z0]) (by omega) rfl rfl (fun _ _ h => h) mz_1_106 (fun _ => rfl) (by decide) (by decide +kernel) (Nat.le_of_ble_eq_true rfl) rfl (Nat.le_of_ble_eq_true rfl) (Nat.le_of_ble_eq_true rfl) dX8_init_8 rfl ?_
  refine Zj.putF hF (i := 0) (C := RX8) (T := TX8) (N := 12) (v := .ref (h0 + (n + 0))) (ty := (.array .byte)) (fs' := [.ref (h0 + (n + 0)), .int 0, .int 0, .null, .null, .null, .null, .null, .null, .null, .null, .null]) tyX8 tyX8_ok nmX8 ho rfl inX8 (Nat.le_of_ble_eq_true rfl) mw_2_42 rfl rfl (by decide +kernel) rfl rfl (Nat.le_of_ble_eq_true rfl) dX8_init_10 rfl ?_
  refine Zj.aload_n 0 dX8_init_13 rfl ?_
  refine Zj.iconst (v := 0) dX8_init_14 (by decide) ?_
  refine Zj.put (i := 1) (C := RX8) (T := TX8) (N := 12) (v := .int 0) (ty := .int) (fs' := [.ref (h0 + (n + 0)), .int 0, .int 0, .null, .null, .null, .null, .null, .null, .null, .null, .null]) tyX8 tyX8_ok nmX8 ho rfl inX8 (Nat.le_of_ble_eq_true rfl) mw_2_43 rfl (by decide +kernel) rfl rfl (Nat.le_of_ble_eq_true rfl) dX8_init_15 rfl ?_
  refine Zj.aload_n 0 dX8_init_18 rfl ?_
  refine Zj.iconst (v := (-1)) dX8_init_19 (by decide) ?_
  refine Zj.put (i := 2) (C := RX8) (T := TX8) (N := 12) (v := .int (-1)) (ty := .int) (fs' := [.ref (h0 + (n + 0)), .int 0, .int (-1), .null, .null, .null, .null, .null, .null, .null, .null, .null]) tyX8 tyX8_ok nmX8 ho rfl inX8 (Nat.le_of_ble_eq_true rfl) mw_2_44 rfl (by decide +kernel) rfl rfl (Nat.le_of_ble_eq_true rfl) dX8_init_20 rfl ?_
  refine Zj.aload_n 0 dX8_init_23 rfl ?_
  refine Zj.iconst (v := 3) dX8_init_24 (by decide) ?_
  refine Zj.newa (atype := .int) (ty := .int) (ti := 1) (N := 3) (j := 1) (a0 := (3, .inl z0)) (as' := [aB G 600 z0, aI G 3 z0]) (by omega) rfl rfl (fun _ _ h => h) mz_1_107 (fun _ => rfl) (by decide) (by decide +kernel) (Nat.le_of_ble_eq_true rfl) rfl (Nat.le_of_ble_eq_true rfl) (Nat.le_of_ble_eq_true rfl) dX8_init_25 rfl ?_
  refine Zj.putF hF (i := 3) (C := RX8) (T := TX8) (N := 12) (v := .ref (h0 + (n + 1))) (ty := (.array .int)) (fs' := [.ref (h0 + (n + 0)), .int 0, .int (-1), .ref (h0 + (n + 1)), .null, .null, .null, .null, .null, .null, .null, .null]) tyX8 tyX8_ok nmX8 ho rfl inX8 (Nat.le_of_ble_eq_true rfl) mw_2_45 rfl rfl (by decide +kernel) rfl rfl (Nat.le_of_ble_eq_true rfl) dX8_init_27 rfl ?_
  refine Zj.aload_n 0 dX8_init_30 rfl ?_
  refine Zj.new (C := RX6) (T := TX6) (N := 12) (c1 := 6) (j := 2) (fr := frX6) (as' := [aB G 600 z0, aI G 3 z0, .inr (6, frX6)]) (by omega) tyX6 tyX6_ok inX6 rfl mz_1_29 mz_1_30 mz_1_2 frX6_ok rfl (Nat.le_of_ble_eq_true rfl) (Nat.le_of_ble_eq_true rfl) dX8_init_31 rfl ?_
  refine Zj.dup dX8_init_34 rfl ?_
  refine Zj.callN (as' := [aB G 600 z0, aI G 3 z0, .inr (6, fiX6 h0 (n + 3)), aI G 16 z0, aI G 16 z0, aI G 16 z0, aI G 16 z0, aJ G 16 z0L, aJ G 48 z0L, aI G 48 z0]) (zX6 G h0 (n + 3) (n + 2) _ (cE_at rfl (by omega)) (by omega)) (Nat.le_of_ble_eq_true rfl) (Nat.le_of_ble_eq_true rfl) (Nat.le_of_ble_eq_true rfl) (by omega) (Or.inl ho) (Nat.le_of_ble_eq_true rfl) (Nat.le_of_ble_eq_true rfl) nz_1_31 mz_1_32 mz_1_2 mz_1_33 (by decide +kernel) rfl (Nat.le_of_ble_eq_true rfl) dX8_init_35 rfl ?_
  refine Zj.putF hF (i := 4) (C := RX8) (T := TX8) (N := 12) (v := .ref (h0 + (n + 2))) (ty := (.object "CoverExtract$State")) (fs' := [.ref (h0 + (n + 0)), .int 0, .int (-1), .ref (h0 + (n + 1)), .ref (h0 + (n + 2)), .null, .null, .null, .null, .null, .null, .null]) tyX8 tyX8_ok nmX8 ho rfl inX8 (Nat.le_of_ble_eq_true rfl) mw_2_46 rfl rfl (by decide +kernel) rfl rfl (Nat.le_of_ble_eq_true rfl) dX8_init_38 rfl ?_
  refine Zj.aload_n 0 dX8_init_41 rfl ?_
  refine Zj.new (C := RX2) (T := TX2) (N := 3) (c1 := 2) (j := 10) (fr := frX2) (as' := [aB G 600 z0, aI G 3 z0, .inr (6, fiX6 h0 (n + 3)), aI G 16 z0, aI G 16 z0, aI G 16 z0, aI G 16 z0, aJ G 16 z0L, aJ G 48 z0L, aI G 48 z0, .inr (2, frX2)]) (by omega) tyX2 tyX2_ok inX2 rfl mz_1_109 mz_1_110 mz_1_3 frX2_ok rfl (Nat.le_of_ble_eq_true rfl) (Nat.le_of_ble_eq_true rfl) dX8_init_42 rfl ?_
  refine Zj.dup dX8_init_45 rfl ?_
  refine Zj.callN (as' := [aB G 600 z0, aI G 3 z0, .inr (6, fiX6 h0 (n + 3)), aI G 16 z0, aI G 16 z0, aI G 16 z0, aI G 16 z0, aJ G 16 z0L, aJ G 48 z0L, aI G 48 z0, .inr (2, fiX2 h0 (n + 11)), .inl (G.2.1 4, 8, .inr (.inr (.inr (.inr (va_up (va_up (va_up (va_up (va_up (va_up (va_up (va_up (fun _ => none) 0 (some (h0 + ((n + 11) + 1)))) 1 (some (h0 + ((n + 11) + 9)))) 2 (some (h0 + ((n + 11) + 17)))) 3 (some (h0 + ((n + 11) + 25)))) 4 (some (h0 + ((n + 11) + 33)))) 5 (some (h0 + ((n + 11) + 41)))) 6 (some (h0 + ((n + 11) + 49)))) 7 (some (h0 + ((n + 11) + 57)))))))), .inr (6, fiX6 h0 ((n + 11) + 2)), aI G 16 z0, aI G 16 z0, aI G 16 z0, aI G 16 z0, aJ G 16 z0L, aJ G 48 z0L, aI G 48 z0, .inr (6, fiX6 h0 ((n + 11) + 10)), aI G 16 z0, aI G 16 z0, aI G 16 z0, aI G 16 z0, aJ G 16 z0L, aJ G 48 z0L, aI G 48 z0, .inr (6, fiX6 h0 ((n + 11) + 18)), aI G 16 z0, aI G 16 z0, aI G 16 z0, aI G 16 z0, aJ G 16 z0L, aJ G 48 z0L, aI G 48 z0, .inr (6, fiX6 h0 ((n + 11) + 26)), aI G 16 z0, aI G 16 z0, aI G 16 z0, aI G 16 z0, aJ G 16 z0L, aJ G 48 z0L, aI G 48 z0, .inr (6, fiX6 h0 ((n + 11) + 34)), aI G 16 z0, aI G 16 z0, aI G 16 z0, aI G 16 z0, aJ G 16 z0L, aJ G 48 z0L, aI G 48 z0, .inr (6, fiX6 h0 ((n + 11) + 42)), aI G 16 z0, aI G 16 z0, aI G 16 z0, aI G 16 z0, aJ G 16 z0L, aJ G 48 z0L, aI G 48 z0, .inr (6, fiX6 h0 ((n + 11) + 50)), aI G 16 z0, aI G 16 z0, aI G 16 z0, aI G 16 z0, aJ G 16 z0L, aJ G 48 z0L, aI G 48 z0, .inr (6, fiX6 h0 ((n + 11) + 58)), aI G 16 z0, aI G 16 z0, aI G 16 z0, aI G 16 z0, aJ G 16 z0L, aJ G 48 z0L, aI G 48 z0]) (zX2 G h0 (n + 11) (n + 10) _ (cE_at rfl (by omega)) (by omega)) (Nat.le_of_ble_eq_true rfl) (Nat.le_of_ble_eq_true rfl) (Nat.le_of_ble_eq_true rfl) (by omega) (Or.inl ho) (Nat.le_of_ble_eq_true rfl) (Nat.le_of_ble_eq_true rfl) nz_1_111 mz_1_112 mz_1_3 mz_1_113 (by decide +kernel) rfl (Nat.le_of_ble_eq_true rfl) dX8_init_46 rfl ?_
  refine Zj.putF hF (i := 5) (C := RX8) (T := TX8) (N := 12) (v := .ref (h0 + (n + 10))) (ty := (.object "CoverExtract$Past")) (fs' := [.ref (h0 + (n + 0)), .int 0, .int (-1), .ref (h0 + (n + 1)), .ref (h0 + (n + 2)), .ref (h0 + (n + 10)), .null, .null, .null, .null, .null, .null]) tyX8 tyX8_ok nmX8 ho rfl inX8 (Nat.le_of_ble_eq_true rfl) mw_2_47 rfl rfl (by decide +kernel) rfl rfl (Nat.le_of_ble_eq_true rfl) dX8_init_49 rfl ?_
  refine Zj.aload_n 0 dX8_init_52 rfl ?_
  refine Zj.new (C := RX4) (T := TX4) (N := 7) (c1 := 4) (j := 76) (fr := frX4) (as' := [aB G 600 z0, aI G 3 z0, .inr (6, fiX6 h0 (n + 3)), aI G 16 z0, aI G 16 z0, aI G 16 z0, aI G 16 z0, aJ G 16 z0L, aJ G 48 z0L, aI G 48 z0, .inr (2, fiX2 h0 (n + 11)), .inl (G.2.1 4, 8, .inr (.inr (.inr (.inr (va_up (va_up (va_up (va_up (va_up (va_up (va_up (va_up (fun _ => none) 0 (some (h0 + ((n + 11) + 1)))) 1 (some (h0 + ((n + 11) + 9)))) 2 (some (h0 + ((n + 11) + 17)))) 3 (some (h0 + ((n + 11) + 25)))) 4 (some (h0 + ((n + 11) + 33)))) 5 (some (h0 + ((n + 11) + 41)))) 6 (some (h0 + ((n + 11) + 49)))) 7 (some (h0 + ((n + 11) + 57)))))))), .inr (6, fiX6 h0 ((n + 11) + 2)), aI G 16 z0, aI G 16 z0, aI G 16 z0, aI G 16 z0, aJ G 16 z0L, aJ G 48 z0L, aI G 48 z0, .inr (6, fiX6 h0 ((n + 11) + 10)), aI G 16 z0, aI G 16 z0, aI G 16 z0, aI G 16 z0, aJ G 16 z0L, aJ G 48 z0L, aI G 48 z0, .inr (6, fiX6 h0 ((n + 11) + 18)), aI G 16 z0, aI G 16 z0, aI G 16 z0, aI G 16 z0, aJ G 16 z0L, aJ G 48 z0L, aI G 48 z0, .inr (6, fiX6 h0 ((n + 11) + 26)), aI G 16 z0, aI G 16 z0, aI G 16 z0, aI G 16 z0, aJ G 16 z0L, aJ G 48 z0L, aI G 48 z0, .inr (6, fiX6 h0 ((n + 11) + 34)), aI G 16 z0, aI G 16 z0, aI G 16 z0, aI G 16 z0, aJ G 16 z0L, aJ G 48 z0L, aI G 48 z0, .inr (6, fiX6 h0 ((n + 11) + 42)), aI G 16 z0, aI G 16 z0, aI G 16 z0, aI G 16 z0, aJ G 16 z0L, aJ G 48 z0L, aI G 48 z0, .inr (6, fiX6 h0 ((n + 11) + 50)), aI G 16 z0, aI G 16 z0, aI G 16 z0, aI G 16 z0, aJ G 16 z0L, aJ G 48 z0L, aI G 48 z0, .inr (6, fiX6 h0 ((n + 11) + 58)), aI G 16 z0, aI G 16 z0, aI G 16 z0, aI G 16 z0, aJ G 16 z0L, aJ G 48 z0L, aI G 48 z0, .inr (4, frX4)]) (by omega) tyX4 tyX4_ok inX4 rfl mz_1_129 mz_1_130 mz_1_4 frX4_ok rfl (Nat.le_of_ble_eq_true rfl) (Nat.le_of_ble_eq_true rfl) dX8_init_53 rfl ?_
  refine Zj.dup dX8_init_56 rfl ?_
  refine Zj.callN (as' := [aB G 600 z0, aI G 3 z0, .inr (6, fiX6 h0 (n + 3)), aI G 16 z0, aI G 16 z0, aI G 16 z0, aI G 16 z0, aJ G 16 z0L, aJ G 48 z0L, aI G 48 z0, .inr (2, fiX2 h0 (n + 11)), .inl (G.2.1 4, 8, .inr (.inr (.inr (.inr (va_up (va_up (va_up (va_up (va_up (va_up (va_up (va_up (fun _ => none) 0 (some (h0 + ((n + 11) + 1)))) 1 (some (h0 + ((n + 11) + 9)))) 2 (some (h0 + ((n + 11) + 17)))) 3 (some (h0 + ((n + 11) + 25)))) 4 (some (h0 + ((n + 11) + 33)))) 5 (some (h0 + ((n + 11) + 41)))) 6 (some (h0 + ((n + 11) + 49)))) 7 (some (h0 + ((n + 11) + 57)))))))), .inr (6, fiX6 h0 ((n + 11) + 2)), aI G 16 z0, aI G 16 z0, aI G 16 z0, aI G 16 z0, aJ G 16 z0L, aJ G 48 z0L, aI G 48 z0, .inr (6, fiX6 h0 ((n + 11) + 10)), aI G 16 z0, aI G 16 z0, aI G 16 z0, aI G 16 z0, aJ G 16 z0L, aJ G 48 z0L, aI G 48 z0, .inr (6, fiX6 h0 ((n + 11) + 18)), aI G 16 z0, aI G 16 z0, aI G 16 z0, aI G 16 z0, aJ G 16 z0L, aJ G 48 z0L, aI G 48 z0, .inr (6, fiX6 h0 ((n + 11) + 26)), aI G 16 z0, aI G 16 z0, aI G 16 z0, aI G 16 z0, aJ G 16 z0L, aJ G 48 z0L, aI G 48 z0, .inr (6, fiX6 h0 ((n + 11) + 34)), aI G 16 z0, aI G 16 z0, aI G 16 z0, aI G 16 z0, aJ G 16 z0L, aJ G 48 z0L, aI G 48 z0, .inr (6, fiX6 h0 ((n + 11) + 42)), aI G 16 z0, aI G 16 z0, aI G 16 z0, aI G 16 z0, aJ G 16 z0L, aJ G 48 z0L, aI G 48 z0, .inr (6, fiX6 h0 ((n + 11) + 50)), aI G 16 z0, aI G 16 z0, aI G 16 z0, aI G 16 z0, aJ G 16 z0L, aJ G 48 z0L, aI G 48 z0, .inr (6, fiX6 h0 ((n + 11) + 58)), aI G 16 z0, aI G 16 z0, aI G 16 z0, aI G 16 z0, aJ G 16 z0L, aJ G 48 z0L, aI G 48 z0, .inr (4, fiX4 h0 (n + 77)), .inr (6, fiX6 h0 ((n + 77) + 1)), aI G 16 z0, aI G 16 z0, aI G 16 z0, aI G 16 z0, aJ G 16 z0L, aJ G 48 z0L, aI G 48 z0]) (zX4 G h0 (n + 77) (n + 76) _ (cE_at rfl (by omega)) (by omega)) (Nat.le_of_ble_eq_true rfl) (Nat.le_of_ble_eq_true rfl) (Nat.le_of_ble_eq_true rfl) (by omega) (Or.inl ho) (Nat.le_of_ble_eq_true rfl) (Nat.le_of_ble_eq_true rfl) nz_1_131 mz_1_132 mz_1_4 mz_1_133 (by decide +kernel) rfl (Nat.le_of_ble_eq_true rfl) dX8_init_57 rfl ?_
  refine Zj.putF hF (i := 6) (C := RX8) (T := TX8) (N := 12) (v := .ref (h0 + (n + 76))) (ty := (.object "CoverExtract$Reader")) (fs' := [.ref (h0 + (n + 0)), .int 0, .int (-1), .ref (h0 + (n + 1)), .ref (h0 + (n + 2)), .ref (h0 + (n + 10)), .ref (h0 + (n + 76)), .null, .null, .null, .null, .null]) tyX8 tyX8_ok nmX8 ho rfl inX8 (Nat.le_of_ble_eq_true rfl) mw_2_48 rfl rfl (by decide +kernel) rfl rfl (Nat.le_of_ble_eq_true rfl) dX8_init_60 rfl ?_
  refine Zj.aload_n 0 dX8_init_63 rfl ?_
  refine Zj.new (C := RX1) (T := TX1) (N := 4) (c1 := 1) (j := 85) (fr := frX1) (as' := [aB G 600 z0, aI G 3 z0, .inr (6, fiX6 h0 (n + 3)), aI G 16 z0, aI G 16 z0, aI G 16 z0, aI G 16 z0, aJ G 16 z0L, aJ G 48 z0L, aI G 48 z0, .inr (2, fiX2 h0 (n + 11)), .inl (G.2.1 4, 8, .inr (.inr (.inr (.inr (va_up (va_up (va_up (va_up (va_up (va_up (va_up (va_up (fun _ => none) 0 (some (h0 + ((n + 11) + 1)))) 1 (some (h0 + ((n + 11) + 9)))) 2 (some (h0 + ((n + 11) + 17)))) 3 (some (h0 + ((n + 11) + 25)))) 4 (some (h0 + ((n + 11) + 33)))) 5 (some (h0 + ((n + 11) + 41)))) 6 (some (h0 + ((n + 11) + 49)))) 7 (some (h0 + ((n + 11) + 57)))))))), .inr (6, fiX6 h0 ((n + 11) + 2)), aI G 16 z0, aI G 16 z0, aI G 16 z0, aI G 16 z0, aJ G 16 z0L, aJ G 48 z0L, aI G 48 z0, .inr (6, fiX6 h0 ((n + 11) + 10)), aI G 16 z0, aI G 16 z0, aI G 16 z0, aI G 16 z0, aJ G 16 z0L, aJ G 48 z0L, aI G 48 z0, .inr (6, fiX6 h0 ((n + 11) + 18)), aI G 16 z0, aI G 16 z0, aI G 16 z0, aI G 16 z0, aJ G 16 z0L, aJ G 48 z0L, aI G 48 z0, .inr (6, fiX6 h0 ((n + 11) + 26)), aI G 16 z0, aI G 16 z0, aI G 16 z0, aI G 16 z0, aJ G 16 z0L, aJ G 48 z0L, aI G 48 z0, .inr (6, fiX6 h0 ((n + 11) + 34)), aI G 16 z0, aI G 16 z0, aI G 16 z0, aI G 16 z0, aJ G 16 z0L, aJ G 48 z0L, aI G 48 z0, .inr (6, fiX6 h0 ((n + 11) + 42)), aI G 16 z0, aI G 16 z0, aI G 16 z0, aI G 16 z0, aJ G 16 z0L, aJ G 48 z0L, aI G 48 z0, .inr (6, fiX6 h0 ((n + 11) + 50)), aI G 16 z0, aI G 16 z0, aI G 16 z0, aI G 16 z0, aJ G 16 z0L, aJ G 48 z0L, aI G 48 z0, .inr (6, fiX6 h0 ((n + 11) + 58)), aI G 16 z0, aI G 16 z0, aI G 16 z0, aI G 16 z0, aJ G 16 z0L, aJ G 48 z0L, aI G 48 z0, .inr (4, fiX4 h0 (n + 77)), .inr (6, fiX6 h0 ((n + 77) + 1)), aI G 16 z0, aI G 16 z0, aI G 16 z0, aI G 16 z0, aJ G 16 z0L, aJ G 48 z0L, aI G 48 z0, .inr (1, frX1)]) (by omega) tyX1 tyX1_ok inX1 rfl mz_1_161 mz_1_162 mz_1_5 frX1_ok rfl (Nat.le_of_ble_eq_true rfl) (Nat.le_of_ble_eq_true rfl) dX8_init_64 rfl ?_
  refine Zj.dup dX8_init_67 rfl ?_
  refine Zj.callN (as' := [aB G 600 z0, aI G 3 z0, .inr (6, fiX6 h0 (n + 3)), aI G 16 z0, aI G 16 z0, aI G 16 z0, aI G 16 z0, aJ G 16 z0L, aJ G 48 z0L, aI G 48 z0, .inr (2, fiX2 h0 (n + 11)), .inl (G.2.1 4, 8, .inr (.inr (.inr (.inr (va_up (va_up (va_up (va_up (va_up (va_up (va_up (va_up (fun _ => none) 0 (some (h0 + ((n + 11) + 1)))) 1 (some (h0 + ((n + 11) + 9)))) 2 (some (h0 + ((n + 11) + 17)))) 3 (some (h0 + ((n + 11) + 25)))) 4 (some (h0 + ((n + 11) + 33)))) 5 (some (h0 + ((n + 11) + 41)))) 6 (some (h0 + ((n + 11) + 49)))) 7 (some (h0 + ((n + 11) + 57)))))))), .inr (6, fiX6 h0 ((n + 11) + 2)), aI G 16 z0, aI G 16 z0, aI G 16 z0, aI G 16 z0, aJ G 16 z0L, aJ G 48 z0L, aI G 48 z0, .inr (6, fiX6 h0 ((n + 11) + 10)), aI G 16 z0, aI G 16 z0, aI G 16 z0, aI G 16 z0, aJ G 16 z0L, aJ G 48 z0L, aI G 48 z0, .inr (6, fiX6 h0 ((n + 11) + 18)), aI G 16 z0, aI G 16 z0, aI G 16 z0, aI G 16 z0, aJ G 16 z0L, aJ G 48 z0L, aI G 48 z0, .inr (6, fiX6 h0 ((n + 11) + 26)), aI G 16 z0, aI G 16 z0, aI G 16 z0, aI G 16 z0, aJ G 16 z0L, aJ G 48 z0L, aI G 48 z0, .inr (6, fiX6 h0 ((n + 11) + 34)), aI G 16 z0, aI G 16 z0, aI G 16 z0, aI G 16 z0, aJ G 16 z0L, aJ G 48 z0L, aI G 48 z0, .inr (6, fiX6 h0 ((n + 11) + 42)), aI G 16 z0, aI G 16 z0, aI G 16 z0, aI G 16 z0, aJ G 16 z0L, aJ G 48 z0L, aI G 48 z0, .inr (6, fiX6 h0 ((n + 11) + 50)), aI G 16 z0, aI G 16 z0, aI G 16 z0, aI G 16 z0, aJ G 16 z0L, aJ G 48 z0L, aI G 48 z0, .inr (6, fiX6 h0 ((n + 11) + 58)), aI G 16 z0, aI G 16 z0, aI G 16 z0, aI G 16 z0, aJ G 16 z0L, aJ G 48 z0L, aI G 48 z0, .inr (4, fiX4 h0 (n + 77)), .inr (6, fiX6 h0 ((n + 77) + 1)), aI G 16 z0, aI G 16 z0, aI G 16 z0, aI G 16 z0, aJ G 16 z0L, aJ G 48 z0L, aI G 48 z0, .inr (1, fiX1 h0 (n + 86)), aI G 16 z0]) (zX1 G h0 (n + 86) (n + 85) _ (cE_at rfl (by omega)) (by omega)) (Nat.le_of_ble_eq_true rfl) (Nat.le_of_ble_eq_true rfl) (Nat.le_of_ble_eq_true rfl) (by omega) (Or.inl ho) (Nat.le_of_ble_eq_true rfl) (Nat.le_of_ble_eq_true rfl) nz_1_163 mz_1_164 mz_1_5 mz_1_165 (by decide +kernel) rfl (Nat.le_of_ble_eq_true rfl) dX8_init_68 rfl ?_
  refine Zj.putF hF (i := 7) (C := RX8) (T := TX8) (N := 12) (v := .ref (h0 + (n + 85))) (ty := (.object "CoverExtract$Climb")) (fs' := [.ref (h0 + (n + 0)), .int 0, .int (-1), .ref (h0 + (n + 1)), .ref (h0 + (n + 2)), .ref (h0 + (n + 10)), .ref (h0 + (n + 76)), .ref (h0 + (n + 85)), .null, .null, .null, .null]) tyX8 tyX8_ok nmX8 ho rfl inX8 (Nat.le_of_ble_eq_true rfl) mw_2_49 rfl rfl (by decide +kernel) rfl rfl (Nat.le_of_ble_eq_true rfl) dX8_init_71 rfl ?_
  refine Zj.aload_n 0 dX8_init_74 rfl ?_
  refine Zj.new (C := RX3) (T := TX3) (N := 5) (c1 := 3) (j := 87) (fr := frX3) (as' := [aB G 600 z0, aI G 3 z0, .inr (6, fiX6 h0 (n + 3)), aI G 16 z0, aI G 16 z0, aI G 16 z0, aI G 16 z0, aJ G 16 z0L, aJ G 48 z0L, aI G 48 z0, .inr (2, fiX2 h0 (n + 11)), .inl (G.2.1 4, 8, .inr (.inr (.inr (.inr (va_up (va_up (va_up (va_up (va_up (va_up (va_up (va_up (fun _ => none) 0 (some (h0 + ((n + 11) + 1)))) 1 (some (h0 + ((n + 11) + 9)))) 2 (some (h0 + ((n + 11) + 17)))) 3 (some (h0 + ((n + 11) + 25)))) 4 (some (h0 + ((n + 11) + 33)))) 5 (some (h0 + ((n + 11) + 41)))) 6 (some (h0 + ((n + 11) + 49)))) 7 (some (h0 + ((n + 11) + 57)))))))), .inr (6, fiX6 h0 ((n + 11) + 2)), aI G 16 z0, aI G 16 z0, aI G 16 z0, aI G 16 z0, aJ G 16 z0L, aJ G 48 z0L, aI G 48 z0, .inr (6, fiX6 h0 ((n + 11) + 10)), aI G 16 z0, aI G 16 z0, aI G 16 z0, aI G 16 z0, aJ G 16 z0L, aJ G 48 z0L, aI G 48 z0, .inr (6, fiX6 h0 ((n + 11) + 18)), aI G 16 z0, aI G 16 z0, aI G 16 z0, aI G 16 z0, aJ G 16 z0L, aJ G 48 z0L, aI G 48 z0, .inr (6, fiX6 h0 ((n + 11) + 26)), aI G 16 z0, aI G 16 z0, aI G 16 z0, aI G 16 z0, aJ G 16 z0L, aJ G 48 z0L, aI G 48 z0, .inr (6, fiX6 h0 ((n + 11) + 34)), aI G 16 z0, aI G 16 z0, aI G 16 z0, aI G 16 z0, aJ G 16 z0L, aJ G 48 z0L, aI G 48 z0, .inr (6, fiX6 h0 ((n + 11) + 42)), aI G 16 z0, aI G 16 z0, aI G 16 z0, aI G 16 z0, aJ G 16 z0L, aJ G 48 z0L, aI G 48 z0, .inr (6, fiX6 h0 ((n + 11) + 50)), aI G 16 z0, aI G 16 z0, aI G 16 z0, aI G 16 z0, aJ G 16 z0L, aJ G 48 z0L, aI G 48 z0, .inr (6, fiX6 h0 ((n + 11) + 58)), aI G 16 z0, aI G 16 z0, aI G 16 z0, aI G 16 z0, aJ G 16 z0L, aJ G 48 z0L, aI G 48 z0, .inr (4, fiX4 h0 (n + 77)), .inr (6, fiX6 h0 ((n + 77) + 1)), aI G 16 z0, aI G 16 z0, aI G 16 z0, aI G 16 z0, aJ G 16 z0L, aJ G 48 z0L, aI G 48 z0, .inr (1, fiX1 h0 (n + 86)), aI G 16 z0, .inr (3, frX3)]) (by omega) tyX3 tyX3_ok inX3 rfl mz_1_186 mz_1_187 mz_1_6 frX3_ok rfl (Nat.le_of_ble_eq_true rfl) (Nat.le_of_ble_eq_true rfl) dX8_init_75 rfl ?_
  refine Zj.dup dX8_init_78 rfl ?_
  refine Zj.callN (as' := [aB G 600 z0, aI G 3 z0, .inr (6, fiX6 h0 (n + 3)), aI G 16 z0, aI G 16 z0, aI G 16 z0, aI G 16 z0, aJ G 16 z0L, aJ G 48 z0L, aI G 48 z0, .inr (2, fiX2 h0 (n + 11)), .inl (G.2.1 4, 8, .inr (.inr (.inr (.inr (va_up (va_up (va_up (va_up (va_up (va_up (va_up (va_up (fun _ => none) 0 (some (h0 + ((n + 11) + 1)))) 1 (some (h0 + ((n + 11) + 9)))) 2 (some (h0 + ((n + 11) + 17)))) 3 (some (h0 + ((n + 11) + 25)))) 4 (some (h0 + ((n + 11) + 33)))) 5 (some (h0 + ((n + 11) + 41)))) 6 (some (h0 + ((n + 11) + 49)))) 7 (some (h0 + ((n + 11) + 57)))))))), .inr (6, fiX6 h0 ((n + 11) + 2)), aI G 16 z0, aI G 16 z0, aI G 16 z0, aI G 16 z0, aJ G 16 z0L, aJ G 48 z0L, aI G 48 z0, .inr (6, fiX6 h0 ((n + 11) + 10)), aI G 16 z0, aI G 16 z0, aI G 16 z0, aI G 16 z0, aJ G 16 z0L, aJ G 48 z0L, aI G 48 z0, .inr (6, fiX6 h0 ((n + 11) + 18)), aI G 16 z0, aI G 16 z0, aI G 16 z0, aI G 16 z0, aJ G 16 z0L, aJ G 48 z0L, aI G 48 z0, .inr (6, fiX6 h0 ((n + 11) + 26)), aI G 16 z0, aI G 16 z0, aI G 16 z0, aI G 16 z0, aJ G 16 z0L, aJ G 48 z0L, aI G 48 z0, .inr (6, fiX6 h0 ((n + 11) + 34)), aI G 16 z0, aI G 16 z0, aI G 16 z0, aI G 16 z0, aJ G 16 z0L, aJ G 48 z0L, aI G 48 z0, .inr (6, fiX6 h0 ((n + 11) + 42)), aI G 16 z0, aI G 16 z0, aI G 16 z0, aI G 16 z0, aJ G 16 z0L, aJ G 48 z0L, aI G 48 z0, .inr (6, fiX6 h0 ((n + 11) + 50)), aI G 16 z0, aI G 16 z0, aI G 16 z0, aI G 16 z0, aJ G 16 z0L, aJ G 48 z0L, aI G 48 z0, .inr (6, fiX6 h0 ((n + 11) + 58)), aI G 16 z0, aI G 16 z0, aI G 16 z0, aI G 16 z0, aJ G 16 z0L, aJ G 48 z0L, aI G 48 z0, .inr (4, fiX4 h0 (n + 77)), .inr (6, fiX6 h0 ((n + 77) + 1)), aI G 16 z0, aI G 16 z0, aI G 16 z0, aI G 16 z0, aJ G 16 z0L, aJ G 48 z0L, aI G 48 z0, .inr (1, fiX1 h0 (n + 86)), aI G 16 z0, .inr (3, fiX3 h0 (n + 88)), aI G 16 z0, aI G 16 z0]) (zX3 G h0 (n + 88) (n + 87) _ (cE_at rfl (by omega)) (by omega)) (Nat.le_of_ble_eq_true rfl) (Nat.le_of_ble_eq_true rfl) (Nat.le_of_ble_eq_true rfl) (by omega) (Or.inl ho) (Nat.le_of_ble_eq_true rfl) (Nat.le_of_ble_eq_true rfl) nz_1_188 mz_1_189 mz_1_6 mz_1_190 (by decide +kernel) rfl (Nat.le_of_ble_eq_true rfl) dX8_init_79 rfl ?_
  refine Zj.putF hF (i := 8) (C := RX8) (T := TX8) (N := 12) (v := .ref (h0 + (n + 87))) (ty := (.object "CoverExtract$Queue")) (fs' := [.ref (h0 + (n + 0)), .int 0, .int (-1), .ref (h0 + (n + 1)), .ref (h0 + (n + 2)), .ref (h0 + (n + 10)), .ref (h0 + (n + 76)), .ref (h0 + (n + 85)), .ref (h0 + (n + 87)), .null, .null, .null]) tyX8 tyX8_ok nmX8 ho rfl inX8 (Nat.le_of_ble_eq_true rfl) mw_2_50 rfl rfl (by decide +kernel) rfl rfl (Nat.le_of_ble_eq_true rfl) dX8_init_82 rfl ?_
  refine Zj.aload_n 0 dX8_init_85 rfl ?_
  refine Zj.new (C := RX0) (T := TX0) (N := 2) (c1 := 0) (j := 90) (fr := frX0) (as' := [aB G 600 z0, aI G 3 z0, .inr (6, fiX6 h0 (n + 3)), aI G 16 z0, aI G 16 z0, aI G 16 z0, aI G 16 z0, aJ G 16 z0L, aJ G 48 z0L, aI G 48 z0, .inr (2, fiX2 h0 (n + 11)), .inl (G.2.1 4, 8, .inr (.inr (.inr (.inr (va_up (va_up (va_up (va_up (va_up (va_up (va_up (va_up (fun _ => none) 0 (some (h0 + ((n + 11) + 1)))) 1 (some (h0 + ((n + 11) + 9)))) 2 (some (h0 + ((n + 11) + 17)))) 3 (some (h0 + ((n + 11) + 25)))) 4 (some (h0 + ((n + 11) + 33)))) 5 (some (h0 + ((n + 11) + 41)))) 6 (some (h0 + ((n + 11) + 49)))) 7 (some (h0 + ((n + 11) + 57)))))))), .inr (6, fiX6 h0 ((n + 11) + 2)), aI G 16 z0, aI G 16 z0, aI G 16 z0, aI G 16 z0, aJ G 16 z0L, aJ G 48 z0L, aI G 48 z0, .inr (6, fiX6 h0 ((n + 11) + 10)), aI G 16 z0, aI G 16 z0, aI G 16 z0, aI G 16 z0, aJ G 16 z0L, aJ G 48 z0L, aI G 48 z0, .inr (6, fiX6 h0 ((n + 11) + 18)), aI G 16 z0, aI G 16 z0, aI G 16 z0, aI G 16 z0, aJ G 16 z0L, aJ G 48 z0L, aI G 48 z0, .inr (6, fiX6 h0 ((n + 11) + 26)), aI G 16 z0, aI G 16 z0, aI G 16 z0, aI G 16 z0, aJ G 16 z0L, aJ G 48 z0L, aI G 48 z0, .inr (6, fiX6 h0 ((n + 11) + 34)), aI G 16 z0, aI G 16 z0, aI G 16 z0, aI G 16 z0, aJ G 16 z0L, aJ G 48 z0L, aI G 48 z0, .inr (6, fiX6 h0 ((n + 11) + 42)), aI G 16 z0, aI G 16 z0, aI G 16 z0, aI G 16 z0, aJ G 16 z0L, aJ G 48 z0L, aI G 48 z0, .inr (6, fiX6 h0 ((n + 11) + 50)), aI G 16 z0, aI G 16 z0, aI G 16 z0, aI G 16 z0, aJ G 16 z0L, aJ G 48 z0L, aI G 48 z0, .inr (6, fiX6 h0 ((n + 11) + 58)), aI G 16 z0, aI G 16 z0, aI G 16 z0, aI G 16 z0, aJ G 16 z0L, aJ G 48 z0L, aI G 48 z0, .inr (4, fiX4 h0 (n + 77)), .inr (6, fiX6 h0 ((n + 77) + 1)), aI G 16 z0, aI G 16 z0, aI G 16 z0, aI G 16 z0, aJ G 16 z0L, aJ G 48 z0L, aI G 48 z0, .inr (1, fiX1 h0 (n + 86)), aI G 16 z0, .inr (3, fiX3 h0 (n + 88)), aI G 16 z0, aI G 16 z0, .inr (0, frX0)]) (by omega) tyX0 tyX0_ok inX0 rfl mz_1_210 mz_1_211 mz_1_7 frX0_ok rfl (Nat.le_of_ble_eq_true rfl) (Nat.le_of_ble_eq_true rfl) dX8_init_86 rfl ?_
  refine Zj.dup dX8_init_89 rfl ?_
  refine Zj.callN (as' := [aB G 600 z0, aI G 3 z0, .inr (6, fiX6 h0 (n + 3)), aI G 16 z0, aI G 16 z0, aI G 16 z0, aI G 16 z0, aJ G 16 z0L, aJ G 48 z0L, aI G 48 z0, .inr (2, fiX2 h0 (n + 11)), .inl (G.2.1 4, 8, .inr (.inr (.inr (.inr (va_up (va_up (va_up (va_up (va_up (va_up (va_up (va_up (fun _ => none) 0 (some (h0 + ((n + 11) + 1)))) 1 (some (h0 + ((n + 11) + 9)))) 2 (some (h0 + ((n + 11) + 17)))) 3 (some (h0 + ((n + 11) + 25)))) 4 (some (h0 + ((n + 11) + 33)))) 5 (some (h0 + ((n + 11) + 41)))) 6 (some (h0 + ((n + 11) + 49)))) 7 (some (h0 + ((n + 11) + 57)))))))), .inr (6, fiX6 h0 ((n + 11) + 2)), aI G 16 z0, aI G 16 z0, aI G 16 z0, aI G 16 z0, aJ G 16 z0L, aJ G 48 z0L, aI G 48 z0, .inr (6, fiX6 h0 ((n + 11) + 10)), aI G 16 z0, aI G 16 z0, aI G 16 z0, aI G 16 z0, aJ G 16 z0L, aJ G 48 z0L, aI G 48 z0, .inr (6, fiX6 h0 ((n + 11) + 18)), aI G 16 z0, aI G 16 z0, aI G 16 z0, aI G 16 z0, aJ G 16 z0L, aJ G 48 z0L, aI G 48 z0, .inr (6, fiX6 h0 ((n + 11) + 26)), aI G 16 z0, aI G 16 z0, aI G 16 z0, aI G 16 z0, aJ G 16 z0L, aJ G 48 z0L, aI G 48 z0, .inr (6, fiX6 h0 ((n + 11) + 34)), aI G 16 z0, aI G 16 z0, aI G 16 z0, aI G 16 z0, aJ G 16 z0L, aJ G 48 z0L, aI G 48 z0, .inr (6, fiX6 h0 ((n + 11) + 42)), aI G 16 z0, aI G 16 z0, aI G 16 z0, aI G 16 z0, aJ G 16 z0L, aJ G 48 z0L, aI G 48 z0, .inr (6, fiX6 h0 ((n + 11) + 50)), aI G 16 z0, aI G 16 z0, aI G 16 z0, aI G 16 z0, aJ G 16 z0L, aJ G 48 z0L, aI G 48 z0, .inr (6, fiX6 h0 ((n + 11) + 58)), aI G 16 z0, aI G 16 z0, aI G 16 z0, aI G 16 z0, aJ G 16 z0L, aJ G 48 z0L, aI G 48 z0, .inr (4, fiX4 h0 (n + 77)), .inr (6, fiX6 h0 ((n + 77) + 1)), aI G 16 z0, aI G 16 z0, aI G 16 z0, aI G 16 z0, aJ G 16 z0L, aJ G 48 z0L, aI G 48 z0, .inr (1, fiX1 h0 (n + 86)), aI G 16 z0, .inr (3, fiX3 h0 (n + 88)), aI G 16 z0, aI G 16 z0, .inr (0, fiX0 h0 (n + 91))]) (zX0 G h0 (n + 91) (n + 90) _ (cE_at rfl (by omega)) (by omega)) (Nat.le_of_ble_eq_true rfl) (Nat.le_of_ble_eq_true rfl) (Nat.le_of_ble_eq_true rfl) (by omega) (Or.inl ho) (Nat.le_of_ble_eq_true rfl) (Nat.le_of_ble_eq_true rfl) nz_1_212 mz_1_213 mz_1_7 mz_1_214 (by decide +kernel) rfl (Nat.le_of_ble_eq_true rfl) dX8_init_90 rfl ?_
  refine Zj.putF hF (i := 9) (C := RX8) (T := TX8) (N := 12) (v := .ref (h0 + (n + 90))) (ty := (.object "CoverExtract$Ceiling")) (fs' := [.ref (h0 + (n + 0)), .int 0, .int (-1), .ref (h0 + (n + 1)), .ref (h0 + (n + 2)), .ref (h0 + (n + 10)), .ref (h0 + (n + 76)), .ref (h0 + (n + 85)), .ref (h0 + (n + 87)), .ref (h0 + (n + 90)), .null, .null]) tyX8 tyX8_ok nmX8 ho rfl inX8 (Nat.le_of_ble_eq_true rfl) mw_2_51 rfl rfl (by decide +kernel) rfl rfl (Nat.le_of_ble_eq_true rfl) dX8_init_93 rfl ?_
  refine Zj.aload_n 0 dX8_init_96 rfl ?_
  refine Zj.new (C := RX5) (T := TX5) (N := 9) (c1 := 5) (j := 91) (fr := frX5) (as' := [aB G 600 z0, aI G 3 z0, .inr (6, fiX6 h0 (n + 3)), aI G 16 z0, aI G 16 z0, aI G 16 z0, aI G 16 z0, aJ G 16 z0L, aJ G 48 z0L, aI G 48 z0, .inr (2, fiX2 h0 (n + 11)), .inl (G.2.1 4, 8, .inr (.inr (.inr (.inr (va_up (va_up (va_up (va_up (va_up (va_up (va_up (va_up (fun _ => none) 0 (some (h0 + ((n + 11) + 1)))) 1 (some (h0 + ((n + 11) + 9)))) 2 (some (h0 + ((n + 11) + 17)))) 3 (some (h0 + ((n + 11) + 25)))) 4 (some (h0 + ((n + 11) + 33)))) 5 (some (h0 + ((n + 11) + 41)))) 6 (some (h0 + ((n + 11) + 49)))) 7 (some (h0 + ((n + 11) + 57)))))))), .inr (6, fiX6 h0 ((n + 11) + 2)), aI G 16 z0, aI G 16 z0, aI G 16 z0, aI G 16 z0, aJ G 16 z0L, aJ G 48 z0L, aI G 48 z0, .inr (6, fiX6 h0 ((n + 11) + 10)), aI G 16 z0, aI G 16 z0, aI G 16 z0, aI G 16 z0, aJ G 16 z0L, aJ G 48 z0L, aI G 48 z0, .inr (6, fiX6 h0 ((n + 11) + 18)), aI G 16 z0, aI G 16 z0, aI G 16 z0, aI G 16 z0, aJ G 16 z0L, aJ G 48 z0L, aI G 48 z0, .inr (6, fiX6 h0 ((n + 11) + 26)), aI G 16 z0, aI G 16 z0, aI G 16 z0, aI G 16 z0, aJ G 16 z0L, aJ G 48 z0L, aI G 48 z0, .inr (6, fiX6 h0 ((n + 11) + 34)), aI G 16 z0, aI G 16 z0, aI G 16 z0, aI G 16 z0, aJ G 16 z0L, aJ G 48 z0L, aI G 48 z0, .inr (6, fiX6 h0 ((n + 11) + 42)), aI G 16 z0, aI G 16 z0, aI G 16 z0, aI G 16 z0, aJ G 16 z0L, aJ G 48 z0L, aI G 48 z0, .inr (6, fiX6 h0 ((n + 11) + 50)), aI G 16 z0, aI G 16 z0, aI G 16 z0, aI G 16 z0, aJ G 16 z0L, aJ G 48 z0L, aI G 48 z0, .inr (6, fiX6 h0 ((n + 11) + 58)), aI G 16 z0, aI G 16 z0, aI G 16 z0, aI G 16 z0, aJ G 16 z0L, aJ G 48 z0L, aI G 48 z0, .inr (4, fiX4 h0 (n + 77)), .inr (6, fiX6 h0 ((n + 77) + 1)), aI G 16 z0, aI G 16 z0, aI G 16 z0, aI G 16 z0, aJ G 16 z0L, aJ G 48 z0L, aI G 48 z0, .inr (1, fiX1 h0 (n + 86)), aI G 16 z0, .inr (3, fiX3 h0 (n + 88)), aI G 16 z0, aI G 16 z0, .inr (0, fiX0 h0 (n + 91)), .inr (5, frX5)]) (by omega) tyX5 tyX5_ok inX5 rfl mz_1_225 mz_1_226 mz_1_8 frX5_ok rfl (Nat.le_of_ble_eq_true rfl) (Nat.le_of_ble_eq_true rfl) dX8_init_97 rfl ?_
  refine Zj.dup dX8_init_100 rfl ?_
  refine Zj.callN (as' := [aB G 600 z0, aI G 3 z0, .inr (6, fiX6 h0 (n + 3)), aI G 16 z0, aI G 16 z0, aI G 16 z0, aI G 16 z0, aJ G 16 z0L, aJ G 48 z0L, aI G 48 z0, .inr (2, fiX2 h0 (n + 11)), .inl (G.2.1 4, 8, .inr (.inr (.inr (.inr (va_up (va_up (va_up (va_up (va_up (va_up (va_up (va_up (fun _ => none) 0 (some (h0 + ((n + 11) + 1)))) 1 (some (h0 + ((n + 11) + 9)))) 2 (some (h0 + ((n + 11) + 17)))) 3 (some (h0 + ((n + 11) + 25)))) 4 (some (h0 + ((n + 11) + 33)))) 5 (some (h0 + ((n + 11) + 41)))) 6 (some (h0 + ((n + 11) + 49)))) 7 (some (h0 + ((n + 11) + 57)))))))), .inr (6, fiX6 h0 ((n + 11) + 2)), aI G 16 z0, aI G 16 z0, aI G 16 z0, aI G 16 z0, aJ G 16 z0L, aJ G 48 z0L, aI G 48 z0, .inr (6, fiX6 h0 ((n + 11) + 10)), aI G 16 z0, aI G 16 z0, aI G 16 z0, aI G 16 z0, aJ G 16 z0L, aJ G 48 z0L, aI G 48 z0, .inr (6, fiX6 h0 ((n + 11) + 18)), aI G 16 z0, aI G 16 z0, aI G 16 z0, aI G 16 z0, aJ G 16 z0L, aJ G 48 z0L, aI G 48 z0, .inr (6, fiX6 h0 ((n + 11) + 26)), aI G 16 z0, aI G 16 z0, aI G 16 z0, aI G 16 z0, aJ G 16 z0L, aJ G 48 z0L, aI G 48 z0, .inr (6, fiX6 h0 ((n + 11) + 34)), aI G 16 z0, aI G 16 z0, aI G 16 z0, aI G 16 z0, aJ G 16 z0L, aJ G 48 z0L, aI G 48 z0, .inr (6, fiX6 h0 ((n + 11) + 42)), aI G 16 z0, aI G 16 z0, aI G 16 z0, aI G 16 z0, aJ G 16 z0L, aJ G 48 z0L, aI G 48 z0, .inr (6, fiX6 h0 ((n + 11) + 50)), aI G 16 z0, aI G 16 z0, aI G 16 z0, aI G 16 z0, aJ G 16 z0L, aJ G 48 z0L, aI G 48 z0, .inr (6, fiX6 h0 ((n + 11) + 58)), aI G 16 z0, aI G 16 z0, aI G 16 z0, aI G 16 z0, aJ G 16 z0L, aJ G 48 z0L, aI G 48 z0, .inr (4, fiX4 h0 (n + 77)), .inr (6, fiX6 h0 ((n + 77) + 1)), aI G 16 z0, aI G 16 z0, aI G 16 z0, aI G 16 z0, aJ G 16 z0L, aJ G 48 z0L, aI G 48 z0, .inr (1, fiX1 h0 (n + 86)), aI G 16 z0, .inr (3, fiX3 h0 (n + 88)), aI G 16 z0, aI G 16 z0, .inr (0, fiX0 h0 (n + 91)), .inr (5, fiX5 h0 (n + 92)), aJ G 17 z0L]) (zX5 G h0 (n + 92) (n + 91) _ (cE_at rfl (by omega)) (by omega)) (Nat.le_of_ble_eq_true rfl) (Nat.le_of_ble_eq_true rfl) (Nat.le_of_ble_eq_true rfl) (by omega) (Or.inl ho) (Nat.le_of_ble_eq_true rfl) (Nat.le_of_ble_eq_true rfl) nz_1_227 mz_1_228 mz_1_8 mz_1_229 (by decide +kernel) rfl (Nat.le_of_ble_eq_true rfl) dX8_init_101 rfl ?_
  refine Zj.putF hF (i := 10) (C := RX8) (T := TX8) (N := 12) (v := .ref (h0 + (n + 91))) (ty := (.object "CoverExtract$Search")) (fs' := [.ref (h0 + (n + 0)), .int 0, .int (-1), .ref (h0 + (n + 1)), .ref (h0 + (n + 2)), .ref (h0 + (n + 10)), .ref (h0 + (n + 76)), .ref (h0 + (n + 85)), .ref (h0 + (n + 87)), .ref (h0 + (n + 90)), .ref (h0 + (n + 91)), .null]) tyX8 tyX8_ok nmX8 ho rfl inX8 (Nat.le_of_ble_eq_true rfl) mw_2_52 rfl rfl (by decide +kernel) rfl rfl (Nat.le_of_ble_eq_true rfl) dX8_init_104 rfl ?_
  refine Zj.aload_n 0 dX8_init_107 rfl ?_
  refine Zj.new (C := RX7) (T := TX7) (N := 3) (c1 := 7) (j := 93) (fr := frX7) (as' := [aB G 600 z0, aI G 3 z0, .inr (6, fiX6 h0 (n + 3)), aI G 16 z0, aI G 16 z0, aI G 16 z0, aI G 16 z0, aJ G 16 z0L, aJ G 48 z0L, aI G 48 z0, .inr (2, fiX2 h0 (n + 11)), .inl (G.2.1 4, 8, .inr (.inr (.inr (.inr (va_up (va_up (va_up (va_up (va_up (va_up (va_up (va_up (fun _ => none) 0 (some (h0 + ((n + 11) + 1)))) 1 (some (h0 + ((n + 11) + 9)))) 2 (some (h0 + ((n + 11) + 17)))) 3 (some (h0 + ((n + 11) + 25)))) 4 (some (h0 + ((n + 11) + 33)))) 5 (some (h0 + ((n + 11) + 41)))) 6 (some (h0 + ((n + 11) + 49)))) 7 (some (h0 + ((n + 11) + 57)))))))), .inr (6, fiX6 h0 ((n + 11) + 2)), aI G 16 z0, aI G 16 z0, aI G 16 z0, aI G 16 z0, aJ G 16 z0L, aJ G 48 z0L, aI G 48 z0, .inr (6, fiX6 h0 ((n + 11) + 10)), aI G 16 z0, aI G 16 z0, aI G 16 z0, aI G 16 z0, aJ G 16 z0L, aJ G 48 z0L, aI G 48 z0, .inr (6, fiX6 h0 ((n + 11) + 18)), aI G 16 z0, aI G 16 z0, aI G 16 z0, aI G 16 z0, aJ G 16 z0L, aJ G 48 z0L, aI G 48 z0, .inr (6, fiX6 h0 ((n + 11) + 26)), aI G 16 z0, aI G 16 z0, aI G 16 z0, aI G 16 z0, aJ G 16 z0L, aJ G 48 z0L, aI G 48 z0, .inr (6, fiX6 h0 ((n + 11) + 34)), aI G 16 z0, aI G 16 z0, aI G 16 z0, aI G 16 z0, aJ G 16 z0L, aJ G 48 z0L, aI G 48 z0, .inr (6, fiX6 h0 ((n + 11) + 42)), aI G 16 z0, aI G 16 z0, aI G 16 z0, aI G 16 z0, aJ G 16 z0L, aJ G 48 z0L, aI G 48 z0, .inr (6, fiX6 h0 ((n + 11) + 50)), aI G 16 z0, aI G 16 z0, aI G 16 z0, aI G 16 z0, aJ G 16 z0L, aJ G 48 z0L, aI G 48 z0, .inr (6, fiX6 h0 ((n + 11) + 58)), aI G 16 z0, aI G 16 z0, aI G 16 z0, aI G 16 z0, aJ G 16 z0L, aJ G 48 z0L, aI G 48 z0, .inr (4, fiX4 h0 (n + 77)), .inr (6, fiX6 h0 ((n + 77) + 1)), aI G 16 z0, aI G 16 z0, aI G 16 z0, aI G 16 z0, aJ G 16 z0L, aJ G 48 z0L, aI G 48 z0, .inr (1, fiX1 h0 (n + 86)), aI G 16 z0, .inr (3, fiX3 h0 (n + 88)), aI G 16 z0, aI G 16 z0, .inr (0, fiX0 h0 (n + 91)), .inr (5, fiX5 h0 (n + 92)), aJ G 17 z0L, .inr (7, frX7)]) (by omega) tyX7 tyX7_ok inX7 rfl mz_2_23 mz_2_24 mz_1_9 frX7_ok rfl (Nat.le_of_ble_eq_true rfl) (Nat.le_of_ble_eq_true rfl) dX8_init_108 rfl ?_
  refine Zj.dup dX8_init_111 rfl ?_
  refine Zj.callN (as' := [aB G 600 z0, aI G 3 z0, .inr (6, fiX6 h0 (n + 3)), aI G 16 z0, aI G 16 z0, aI G 16 z0, aI G 16 z0, aJ G 16 z0L, aJ G 48 z0L, aI G 48 z0, .inr (2, fiX2 h0 (n + 11)), .inl (G.2.1 4, 8, .inr (.inr (.inr (.inr (va_up (va_up (va_up (va_up (va_up (va_up (va_up (va_up (fun _ => none) 0 (some (h0 + ((n + 11) + 1)))) 1 (some (h0 + ((n + 11) + 9)))) 2 (some (h0 + ((n + 11) + 17)))) 3 (some (h0 + ((n + 11) + 25)))) 4 (some (h0 + ((n + 11) + 33)))) 5 (some (h0 + ((n + 11) + 41)))) 6 (some (h0 + ((n + 11) + 49)))) 7 (some (h0 + ((n + 11) + 57)))))))), .inr (6, fiX6 h0 ((n + 11) + 2)), aI G 16 z0, aI G 16 z0, aI G 16 z0, aI G 16 z0, aJ G 16 z0L, aJ G 48 z0L, aI G 48 z0, .inr (6, fiX6 h0 ((n + 11) + 10)), aI G 16 z0, aI G 16 z0, aI G 16 z0, aI G 16 z0, aJ G 16 z0L, aJ G 48 z0L, aI G 48 z0, .inr (6, fiX6 h0 ((n + 11) + 18)), aI G 16 z0, aI G 16 z0, aI G 16 z0, aI G 16 z0, aJ G 16 z0L, aJ G 48 z0L, aI G 48 z0, .inr (6, fiX6 h0 ((n + 11) + 26)), aI G 16 z0, aI G 16 z0, aI G 16 z0, aI G 16 z0, aJ G 16 z0L, aJ G 48 z0L, aI G 48 z0, .inr (6, fiX6 h0 ((n + 11) + 34)), aI G 16 z0, aI G 16 z0, aI G 16 z0, aI G 16 z0, aJ G 16 z0L, aJ G 48 z0L, aI G 48 z0, .inr (6, fiX6 h0 ((n + 11) + 42)), aI G 16 z0, aI G 16 z0, aI G 16 z0, aI G 16 z0, aJ G 16 z0L, aJ G 48 z0L, aI G 48 z0, .inr (6, fiX6 h0 ((n + 11) + 50)), aI G 16 z0, aI G 16 z0, aI G 16 z0, aI G 16 z0, aJ G 16 z0L, aJ G 48 z0L, aI G 48 z0, .inr (6, fiX6 h0 ((n + 11) + 58)), aI G 16 z0, aI G 16 z0, aI G 16 z0, aI G 16 z0, aJ G 16 z0L, aJ G 48 z0L, aI G 48 z0, .inr (4, fiX4 h0 (n + 77)), .inr (6, fiX6 h0 ((n + 77) + 1)), aI G 16 z0, aI G 16 z0, aI G 16 z0, aI G 16 z0, aJ G 16 z0L, aJ G 48 z0L, aI G 48 z0, .inr (1, fiX1 h0 (n + 86)), aI G 16 z0, .inr (3, fiX3 h0 (n + 88)), aI G 16 z0, aI G 16 z0, .inr (0, fiX0 h0 (n + 91)), .inr (5, fiX5 h0 (n + 92)), aJ G 17 z0L, .inr (7, fiX7 h0 (n + 94))]) (zX7 G h0 (n + 94) (n + 93) _ (cE_at rfl (by omega)) (by omega)) (Nat.le_of_ble_eq_true rfl) (Nat.le_of_ble_eq_true rfl) (Nat.le_of_ble_eq_true rfl) (by omega) (Or.inl ho) (Nat.le_of_ble_eq_true rfl) (Nat.le_of_ble_eq_true rfl) nz_2_25 mz_2_26 mz_1_9 mz_2_27 (by decide +kernel) rfl (Nat.le_of_ble_eq_true rfl) dX8_init_112 rfl ?_
  refine Zj.putF hF (i := 11) (C := RX8) (T := TX8) (N := 12) (v := .ref (h0 + (n + 93))) (ty := (.object "CoverExtract$Swap")) (fs' := [.ref (h0 + (n + 0)), .int 0, .int (-1), .ref (h0 + (n + 1)), .ref (h0 + (n + 2)), .ref (h0 + (n + 10)), .ref (h0 + (n + 76)), .ref (h0 + (n + 85)), .ref (h0 + (n + 87)), .ref (h0 + (n + 90)), .ref (h0 + (n + 91)), .ref (h0 + (n + 93))]) tyX8 tyX8_ok nmX8 ho rfl inX8 (Nat.le_of_ble_eq_true rfl) mw_2_53 rfl rfl (by decide +kernel) rfl rfl (Nat.le_of_ble_eq_true rfl) dX8_init_115 rfl ?_
  exact Zj.vret hF rfl dX8_init_118
