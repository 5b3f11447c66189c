theorem mt_1_21 : Cond.classLink RL 8 RX8 ∈ TT := tt_in (tb_1 (List.mem_of_getElem? (i := 21) (by decide +kernel))) (by decide +kernel)
theorem mt_4_165 : Cond.classLink RL 87 RX9 ∈ TT := tt_in (tb_4 (List.mem_of_getElem? (i := 165) (by decide +kernel))) (by decide +kernel)
theorem mt_1_23 : Cond.methodLink RL 86 yX8_init ∈ TT := tt_in (tb_1 (List.mem_of_getElem? (i := 23) (by decide +kernel))) (by decide +kernel)
theorem mt_1_24 : Cond.instanceMethod yX8_init ∈ TT := tt_in (tb_1 (List.mem_of_getElem? (i := 24) (by decide +kernel))) (by decide +kernel)
theorem mt_1_1 : Cond.initialized RX8 ∈ TT := tt_in (tb_1 (List.mem_of_getElem? (i := 1) (by decide +kernel))) (by decide +kernel)
theorem mt_1_25 : Cond.code yX8_init cX8_init 1 none ∈ TT := tt_in (tb_1 (List.mem_of_getElem? (i := 25) (by decide +kernel))) (by decide +kernel)
theorem mt_4_167 : Cond.methodLink RL 89 yX9_init ∈ TT := tt_in (tb_4 (List.mem_of_getElem? (i := 167) (by decide +kernel))) (by decide +kernel)
theorem mt_4_168 : Cond.instanceMethod yX9_init ∈ TT := tt_in (tb_4 (List.mem_of_getElem? (i := 168) (by decide +kernel))) (by decide +kernel)
theorem mt_1_10 : Cond.initialized RX9 ∈ TT := tt_in (tb_1 (List.mem_of_getElem? (i := 10) (by decide +kernel))) (by decide +kernel)
theorem mt_4_169 : Cond.code yX9_init cX9_init 1 none ∈ TT := tt_in (tb_4 (List.mem_of_getElem? (i := 169) (by decide +kernel))) (by decide +kernel)
set_option maxHeartbeats 4000000 in
set_option maxRecDepth 100000 in
theorem lq_made {G : Gx} {h0 b : Nat} {X : Cx} (kk : Zj G RL cL_law 8 100 118 140890 h0 0 1000 0 (fun _ => .inr (0, [])) X 23 [(0, .ref b), (1, .ref (h0 + (0 + 0))), (2, .ref (h0 + (0 + 95))), (3, .ref (h0 + (0 + 117))), (4, .int (nI 0))] [] [] (asE G h0) 140890) : Zj G RL cL_law 8 100 118 140890 h0 0 1000 0 (fun _ => .inr (0, [])) X 0 [(0, .ref b)] [] [] [] 0 := by
  refine Zj.new (pc := 0) (C := RX8) (T := TX8) (N := 12) (c1 := 8) (j := 0) (fr := frX8) (as' := [.inr (8, frX8)]) (by decide) tyX8 tyX8_ok inX8 rfl mt_1_21 mt_1_22 mt_1_1 frX8_ok rfl (Nat.le_of_ble_eq_true rfl) (Nat.le_of_ble_eq_true rfl) dL_law_0 rfl ?_
  refine Zj.dup (pc := 3) dL_law_3 rfl ?_
  refine Zj.call (pc := 4) (j := 0) (as' := .inr (8, fiX8 h0 1) :: caX8 G h0 1) (zX8 G h0 1 0 _ (cE_at (j := 0) rfl (by decide)) (by decide)) (Nat.le_of_ble_eq_true rfl) (Nat.le_of_ble_eq_true rfl) (Nat.le_of_ble_eq_true rfl) (by decide) (Or.inr (Nat.le_of_ble_eq_true rfl)) (Nat.le_of_ble_eq_true rfl) (Nat.le_of_ble_eq_true rfl) mt_1_23 mt_1_24 mt_1_1 mt_1_25 (by decide +kernel) rfl (Nat.le_of_ble_eq_true rfl) dL_law_4 rfl ?_
  refine Zj.astore_n (pc := 7) (lv' := [(0, .ref b), (1, .ref (h0 + (0 + 0)))]) dL_law_7 (Nat.le_of_ble_eq_true rfl) rfl ?_
  refine Zj.new (pc := 8) (C := RX9) (T := TX9) (N := 27) (c1 := 9) (j := 95) (fr := frX9) (as' := (.inr (8, fiX8 h0 1) :: caX8 G h0 1) ++ [.inr (9, frX9)]) (by decide) tyX9 tyX9_ok inX9 rfl mt_4_165 mt_4_166 mt_1_10 frX9_ok rfl (Nat.le_of_ble_eq_true rfl) (Nat.le_of_ble_eq_true rfl) dL_law_8 rfl ?_
  refine Zj.dup (pc := 11) dL_law_11 rfl ?_
  refine Zj.call (pc := 12) (j := 95) (as' := (.inr (8, fiX8 h0 1) :: caX8 G h0 1) ++ (.inr (9, fiX9 h0 96) :: caX9 G h0 96)) (zX9 G h0 96 95 _ (cE_at (j := 95) rfl (by decide)) (by decide)) (Nat.le_of_ble_eq_true rfl) (Nat.le_of_ble_eq_true rfl) (Nat.le_of_ble_eq_true rfl) (by decide) (Or.inr (Nat.le_of_ble_eq_true rfl)) (Nat.le_of_ble_eq_true rfl) (Nat.le_of_ble_eq_true rfl) mt_4_167 mt_4_168 mt_1_10 mt_4_169 (by decide +kernel) rfl (Nat.le_of_ble_eq_true rfl) dL_law_12 rfl ?_
  refine Zj.astore_n (pc := 15) (lv' := [(0, .ref b), (1, .ref (h0 + (0 + 0))), (2, .ref (h0 + (0 + 95)))]) dL_law_15 (Nat.le_of_ble_eq_true rfl) rfl ?_
  refine Zj.iconst (pc := 16) (v := 1) dL_law_16 (by decide) ?_
  refine Zj.newa (pc := 17) (atype := .long) (ty := .long) (ti := 2) (N := 1) (j := 117) (a0 := (1, .inr (.inl z0L))) (as' := asE G h0) (by decide) rfl rfl (fun _ _ h => h) mt_1_108 (fun _ => rfl) (by decide) (by decide +kernel) (Nat.le_of_ble_eq_true rfl) rfl (Nat.le_of_ble_eq_true rfl) (Nat.le_of_ble_eq_true rfl) dL_law_17 rfl ?_
  refine Zj.astore_n (pc := 19) (lv' := [(0, .ref b), (1, .ref (h0 + (0 + 0))), (2, .ref (h0 + (0 + 95))), (3, .ref (h0 + (0 + 117)))]) dL_law_19 (Nat.le_of_ble_eq_true rfl) rfl ?_
  refine Zj.iconst (pc := 20) (v := nI 0) dL_law_20 (by decide) ?_
  refine Zj.istore (pc := 21) (lv' := [(0, .ref b), (1, .ref (h0 + (0 + 0))), (2, .ref (h0 + (0 + 95))), (3, .ref (h0 + (0 + 117))), (4, .int (nI 0))]) dL_law_21 (Nat.le_of_ble_eq_true rfl) rfl ?_
  exact kk
