theorem xa_0 : Cond.classLink RX8 282 nNS ∈ TT := TT_in (by decide +kernel) (by decide +kernel)
theorem xb_0 : Cond.initialized nNS ∈ TT := TT_in (by decide +kernel) (by decide +kernel)
theorem xc_0 : ∀ w ∈ ((nxAt RX8 286 nNS 13 prog_26_method_4_code nRE nEX).filter vx_no).filter goodWord, w ∈ TT := fun w hw => TT_in ((by decide +kernel : ∀ w ∈ ((nxAt RX8 286 nNS 13 prog_26_method_4_code nRE nEX).filter vx_no).filter goodWord, w ∈ lw_tbl) w hw) (List.mem_filter.mp hw).2
theorem xd_0 : ∀ w ∈ ((nxAt RX8 286 nNS 13 prog_26_method_4_code nRE nEX).filter vx_no).filter (fun w => !goodWord w), w ∈ (Cond.castable nNS nNS :: xwD.map Cond.declares) := by decide +kernel
theorem xe_0 : ∀ w ∈ Cond.classLink RX8 282 nNS :: Cond.initialized nNS :: ((nxAt RX8 286 nNS 13 prog_26_method_4_code nRE nEX).filter vx_no), vx_ot w = true := by decide +kernel
theorem xa_1 : Cond.classLink RX8 289 nIA ∈ TT := TT_in (by decide +kernel) (by decide +kernel)
theorem xb_1 : Cond.initialized nIA ∈ TT := TT_in (by decide +kernel) (by decide +kernel)
theorem xc_1 : ∀ w ∈ (vx_atS RX8 293 nIA nmsX).filter goodWord, w ∈ TT := fun w hw => TT_in ((by decide +kernel : ∀ w ∈ (vx_atS RX8 293 nIA nmsX).filter goodWord, w ∈ lw_tbl) w hw) (List.mem_filter.mp hw).2
theorem xd_1 : ∀ w ∈ (vx_atS RX8 293 nIA nmsX).filter (fun w => !goodWord w), w ∈ (Cond.castable nIA nIA :: xwD.map Cond.declares) := by decide +kernel
theorem xe_1 : ∀ w ∈ Cond.classLink RX8 289 nIA :: Cond.initialized nIA :: (vx_atS RX8 293 nIA nmsX), vx_ot w = true := by decide +kernel
theorem xa_2 : Cond.classLink RX8 294 nIS ∈ TT := TT_in (by decide +kernel) (by decide +kernel)
theorem xb_2 : Cond.initialized nIS ∈ TT := TT_in (by decide +kernel) (by decide +kernel)
theorem xc_2 : ∀ w ∈ (vx_atS RX8 298 nIS nmsX).filter goodWord, w ∈ TT := fun w hw => TT_in ((by decide +kernel : ∀ w ∈ (vx_atS RX8 298 nIS nmsX).filter goodWord, w ∈ lw_tbl) w hw) (List.mem_filter.mp hw).2
theorem xd_2 : ∀ w ∈ (vx_atS RX8 298 nIS nmsX).filter (fun w => !goodWord w), w ∈ (Cond.castable nIS nIS :: xwD.map Cond.declares) := by decide +kernel
theorem xe_2 : ∀ w ∈ Cond.classLink RX8 294 nIS :: Cond.initialized nIS :: (vx_atS RX8 298 nIS nmsX), vx_ot w = true := by decide +kernel
theorem nI_neg {x : Nat} (h : 2 ^ 31 ≤ x) (h2 : x < 2 ^ 32) : nI x < nI 0 := by
  rw [Int32.lt_iff_toInt_lt]
  have e : (nI x).toInt = (x : Int) - 2 ^ 32 := by
    show (BitVec.ofNat 32 x).toInt = _
    rw [BitVec.toInt_eq_toNat_cond, BitVec.toNat_ofNat, Nat.mod_eq_of_lt h2, if_neg (by omega)]
    omega
  rw [e]
  show (x : Int) - 2 ^ 32 < 0
  omega
def rB (μ : Mu) (r : Nat) : Mu := si μ 82 r (μ.1 82 r + nI 1)
theorem ok_X8_needElement {G : Gx} {μ : Mu} (q : Bool) : RunsX 6 1 M_X8_needElement [.ref (G.2.2 80), .int (nI q.toNat)] G μ (fun r μ' => q = true ∧ r = none ∧ μ' = μ) (fun E μ' => q = false ∧ E = nNS ∧ μ' = rB μ 0) := by
  refine RunsX.of RX8 rfl (by decide) [(0, .ref (G.2.2 80)), (1, .int (nI q.toNat))] (Nat.le_of_ble_eq_true rfl) rfl (fun X hF => ?_)
  refine V.iload_n (pc := 0) 1 dX8_needElement_0 rfl ?_
  refine V.ifB_ne (pc := 1) 25 dX8_needElement_1 (by decide) (fun h_1 => ?_) (fun h_1 => ?_)
  · exact V.vretX (pc := 25) hF dX8_needElement_25 ⟨h_1, rfl, rfl⟩
  · refine V.aload_n (pc := 4) 0 dX8_needElement_4 rfl ?_
    refine gf_X8_20 (pc := 5) dX8_needElement_5 ?_
    refine V.iconst (pc := 8) (v := nI 0) dX8_needElement_8 (by decide) ?_
    refine V.dup2 (pc := 9) dX8_needElement_9 rfl rfl ?_
    refine V.iald (pc := 10) (k := 82) (n := 3) (v := μ.1 82 0) (Nat.le_of_ble_eq_true rfl) (fun _ _ => rfl) 0 (by omega) (by decide) dX8_needElement_10 rfl ?_
    refine V.iconst (pc := 11) (v := nI 1) dX8_needElement_11 (by decide) ?_
    refine V.iadd (pc := 12) (v := (μ.1 82 0) + (nI 1)) dX8_needElement_12 rfl ?_
    refine V.iast (pc := 13) (k := 82) (n := 3) (v := (μ.1 82 0) + (nI 1)) (Nat.le_of_ble_eq_true rfl) (fun _ _ => rfl) 0 (by omega) (by decide) dX8_needElement_13 rfl ?_
    exact V.throwNS (rx := prog_26_method_4_code) (ix := 13) (by decide +kernel) (by decide +kernel) (by decide +kernel) (by decide +kernel) (pc := 14) (cls := nNS) (text := "no such element") hF (by decide) (by decide) rfl (by decide +kernel) (by decide +kernel) (by decide +kernel) xa_0 xb_0 xc_0 xd_0 xe_0 dX8_needElement_14 dX8_needElement_17 dX8_needElement_18 dX8_needElement_21 dX8_needElement_24 ⟨h_1, rfl, rfl⟩
theorem ok_X8_needState {G : Gx} {μ : Mu} (q : Bool) : RunsX 6 1 M_X8_needState [.ref (G.2.2 80), .int (nI q.toNat)] G μ (fun r μ' => q = true ∧ r = none ∧ μ' = μ) (fun E μ' => q = false ∧ E = nIS ∧ μ' = rB μ 2) := by
  refine RunsX.of RX8 rfl (by decide) [(0, .ref (G.2.2 80)), (1, .int (nI q.toNat))] (Nat.le_of_ble_eq_true rfl) rfl (fun X hF => ?_)
  refine V.iload_n (pc := 0) 1 dX8_needState_0 rfl ?_
  refine V.ifB_ne (pc := 1) 25 dX8_needState_1 (by decide) (fun h_1 => ?_) (fun h_1 => ?_)
  · exact V.vretX (pc := 25) hF dX8_needState_25 ⟨h_1, rfl, rfl⟩
  · refine V.aload_n (pc := 4) 0 dX8_needState_4 rfl ?_
    refine gf_X8_20 (pc := 5) dX8_needState_5 ?_
    refine V.iconst (pc := 8) (v := nI 2) dX8_needState_8 (by decide) ?_
    refine V.dup2 (pc := 9) dX8_needState_9 rfl rfl ?_
    refine V.iald (pc := 10) (k := 82) (n := 3) (v := μ.1 82 2) (Nat.le_of_ble_eq_true rfl) (fun _ _ => rfl) 2 (by omega) (by decide) dX8_needState_10 rfl ?_
    refine V.iconst (pc := 11) (v := nI 1) dX8_needState_11 (by decide) ?_
    refine V.iadd (pc := 12) (v := (μ.1 82 2) + (nI 1)) dX8_needState_12 rfl ?_
    refine V.iast (pc := 13) (k := 82) (n := 3) (v := (μ.1 82 2) + (nI 1)) (Nat.le_of_ble_eq_true rfl) (fun _ _ => rfl) 2 (by omega) (by decide) dX8_needState_13 rfl ?_
    exact V.throwSW (pc := 14) (cls := nIS) (text := "not as the extract stands") hF (by decide) (by decide) rfl (by decide +kernel) (by decide +kernel) (by decide +kernel) xa_2 xb_2 xc_2 xd_2 xe_2 dX8_needState_14 dX8_needState_17 dX8_needState_18 dX8_needState_21 dX8_needState_24 ⟨h_1, rfl, rfl⟩
theorem ok_X8_needNumber {G : Gx} {μ : Mu} (x hi : Nat) (hx : x < 2 ^ 32) (hh : hi < 2 ^ 31) : RunsX 6 1 M_X8_needNumber [.ref (G.2.2 80), .int (nI x), .int (nI 0), .int (nI hi)] G μ (fun r μ' => x ≤ hi ∧ r = none ∧ μ' = μ) (fun E μ' => ¬ x ≤ hi ∧ E = nIA ∧ μ' = rB μ 1) := by
  refine RunsX.of RX8 rfl (by decide) [(0, .ref (G.2.2 80)), (1, .int (nI x)), (2, .int (nI 0)), (3, .int (nI hi))] (Nat.le_of_ble_eq_true rfl) rfl (fun X hF => ?_)
  by_cases hneg : x < 2 ^ 31
  · refine V.iload_n (pc := 0) 1 dX8_needNumber_0 rfl ?_
    refine V.iload_n (pc := 1) 2 dX8_needNumber_1 rfl ?_
    refine V.icmpN_lt (pc := 2) 10 dX8_needNumber_2 (by decide) (by omega) (by omega) (fun h_2 => ?_) (fun h_2 => ?_)
    · exact absurd h_2 (by omega)
    · refine V.iload_n (pc := 5) 1 dX8_needNumber_5 rfl ?_
      refine V.iload_n (pc := 6) 3 dX8_needNumber_6 rfl ?_
      refine V.icmpN_le (pc := 7) 31 dX8_needNumber_7 (by decide) (by omega) (by omega) (fun h_7 => ?_) (fun h_7 => ?_)
      · exact V.vretX (pc := 31) hF dX8_needNumber_31 ⟨h_7, rfl, rfl⟩
      · refine V.aload_n (pc := 10) 0 dX8_needNumber_10 rfl ?_
        refine gf_X8_20 (pc := 11) dX8_needNumber_11 ?_
        refine V.iconst (pc := 14) (v := nI 1) dX8_needNumber_14 (by decide) ?_
        refine V.dup2 (pc := 15) dX8_needNumber_15 rfl rfl ?_
        refine V.iald (pc := 16) (k := 82) (n := 3) (v := μ.1 82 1) (Nat.le_of_ble_eq_true rfl) (fun _ _ => rfl) 1 (by omega) (by decide) dX8_needNumber_16 rfl ?_
        refine V.iconst (pc := 17) (v := nI 1) dX8_needNumber_17 (by decide) ?_
        refine V.iadd (pc := 18) (v := (μ.1 82 1) + (nI 1)) dX8_needNumber_18 rfl ?_
        refine V.iast (pc := 19) (k := 82) (n := 3) (v := (μ.1 82 1) + (nI 1)) (Nat.le_of_ble_eq_true rfl) (fun _ _ => rfl) 1 (by omega) (by decide) dX8_needNumber_19 rfl ?_
        exact V.throwSW (pc := 20) (cls := nIA) (text := "another number") hF (by decide) (by decide) rfl (by decide +kernel) (by decide +kernel) (by decide +kernel) xa_1 xb_1 xc_1 xd_1 xe_1 dX8_needNumber_20 dX8_needNumber_23 dX8_needNumber_24 dX8_needNumber_27 dX8_needNumber_30 ⟨by omega, rfl, rfl⟩
  · refine V.lvs (lv' := [(0, .ref (G.2.2 80)), (1, .int (nI x)), (2, .int (nI 0)), (3, .int (nI hi))]) rfl ?_
    refine V.iload_n (pc := 0) 1 dX8_needNumber_0 rfl ?_
    refine V.iload_n (pc := 1) 2 dX8_needNumber_1 rfl ?_
    refine V.icmp_lt (pc := 2) 10 dX8_needNumber_2 (by decide) (fun h_2 => ?_) (fun h_2 => ?_)
    · refine V.aload_n (pc := 10) 0 dX8_needNumber_10 rfl ?_
      refine gf_X8_20 (pc := 11) dX8_needNumber_11 ?_
      refine V.iconst (pc := 14) (v := nI 1) dX8_needNumber_14 (by decide) ?_
      refine V.dup2 (pc := 15) dX8_needNumber_15 rfl rfl ?_
      refine V.iald (pc := 16) (k := 82) (n := 3) (v := μ.1 82 1) (Nat.le_of_ble_eq_true rfl) (fun _ _ => rfl) 1 (by omega) (by decide) dX8_needNumber_16 rfl ?_
      refine V.iconst (pc := 17) (v := nI 1) dX8_needNumber_17 (by decide) ?_
      refine V.iadd (pc := 18) (v := (μ.1 82 1) + (nI 1)) dX8_needNumber_18 rfl ?_
      refine V.iast (pc := 19) (k := 82) (n := 3) (v := (μ.1 82 1) + (nI 1)) (Nat.le_of_ble_eq_true rfl) (fun _ _ => rfl) 1 (by omega) (by decide) dX8_needNumber_19 rfl ?_
      exact V.throwSW (pc := 20) (cls := nIA) (text := "another number") hF (by decide) (by decide) rfl (by decide +kernel) (by decide +kernel) (by decide +kernel) xa_1 xb_1 xc_1 xd_1 xe_1 dX8_needNumber_20 dX8_needNumber_23 dX8_needNumber_24 dX8_needNumber_27 dX8_needNumber_30 ⟨by omega, rfl, rfl⟩
    · exact absurd (nI_neg (by omega) hx) h_2
theorem ok_X8_needSentence {G : Gx} {μ : Mu} (x m : Nat) (hx : x < 2 ^ 32) (hm : μ.1 (8 * 0) 0 = nI m) (hmb : m < 2 ^ 31) : RunsX 7 1 M_X8_needSentence [.ref (G.2.2 80), .int (nI x)] G μ (fun r μ' => x < m ∧ r = none ∧ μ' = μ) (fun E μ' => ¬ x < m ∧ E = nNS ∧ μ' = rB μ 0) := by
  refine RunsX.of RX8 rfl (by decide) [(0, .ref (G.2.2 80)), (1, .int (nI x))] (Nat.le_of_ble_eq_true rfl) rfl (fun X hF => ?_)
  by_cases hneg : x < 2 ^ 31
  · refine V.aload_n (pc := 0) 0 dX8_needSentence_0 rfl ?_
    refine V.iload_n (pc := 1) 1 dX8_needSentence_1 rfl ?_
    refine V.ifN_lt (pc := 2) 20 dX8_needSentence_2 (by decide) (by omega) ?_
    refine V.iload_n (pc := 5) 1 dX8_needSentence_5 rfl ?_
    refine V.aload_n (pc := 6) 0 dX8_needSentence_6 rfl ?_
    refine gf_X8_27 (pc := 7) dX8_needSentence_7 ?_
    refine gf_X8_111 (pc := 10) 0 (by decide) (v := nI m) dX8_needSentence_10 hm ?_
    refine V.icmpN_ge (pc := 13) 20 dX8_needSentence_13 (by decide) (by omega) (by omega) (fun h_13 => ?_) (fun h_13 => ?_)
    · refine V.iconst (pc := 20) (v := nI 0) dX8_needSentence_20 (by decide) ?_
      refine cx_X8_205 (pc := 21) dX8_needSentence_21 hF (ok_X8_needElement false) (by decide) (by omega) (Nat.le_of_ble_eq_true rfl) (fun E μ' h => ⟨by omega, h.2.1, h.2.2⟩) (fun X hF r_ μ_ h_ => ?_)
      exact absurd h_.1 (by decide)
    · refine V.iconst (pc := 16) (v := nI 1) dX8_needSentence_16 (by decide) ?_
      refine V.goto (pc := 17) 21 dX8_needSentence_17 (by decide) ?_
      refine cx_X8_205 (pc := 21) dX8_needSentence_21 hF (ok_X8_needElement true) (by decide) (by omega) (Nat.le_of_ble_eq_true rfl) (fun E μ' h => absurd h.1 (by decide)) (fun X hF r_ μ_ h_ => ?_)
      obtain ⟨-, rfl, rfl⟩ := h_
      exact V.vretX (pc := 24) hF dX8_needSentence_24 ⟨h_13, rfl, rfl⟩
  · refine V.lvs (lv' := [(0, .ref (G.2.2 80)), (1, .int (nI x))]) rfl ?_
    refine V.aload_n (pc := 0) 0 dX8_needSentence_0 rfl ?_
    refine V.iload_n (pc := 1) 1 dX8_needSentence_1 rfl ?_
    refine V.if_lt (pc := 2) 20 dX8_needSentence_2 (by decide) (fun h_2 => ?_) (fun h_2 => ?_)
    · refine V.iconst (pc := 20) (v := nI 0) dX8_needSentence_20 (by decide) ?_
      refine cx_X8_205 (pc := 21) dX8_needSentence_21 hF (ok_X8_needElement false) (by decide) (by omega) (Nat.le_of_ble_eq_true rfl) (fun E μ' h => ⟨by omega, h.2.1, h.2.2⟩) (fun X hF r_ μ_ h_ => ?_)
      exact absurd h_.1 (by decide)
    · exact absurd (nI_neg (by omega) hx) h_2
theorem ok_X8_needWord {G : Gx} {μ : Mu} (x m : Nat) (hx : x < 2 ^ 32) (hm : μ.1 (8 * 0) 1 = nI m) (hmb : m < 2 ^ 31) : RunsX 7 1 M_X8_needWord [.ref (G.2.2 80), .int (nI x)] G μ (fun r μ' => x < m ∧ r = none ∧ μ' = μ) (fun E μ' => ¬ x < m ∧ E = nNS ∧ μ' = rB μ 0) := by
  refine RunsX.of RX8 rfl (by decide) [(0, .ref (G.2.2 80)), (1, .int (nI x))] (Nat.le_of_ble_eq_true rfl) rfl (fun X hF => ?_)
  by_cases hneg : x < 2 ^ 31
  · refine V.aload_n (pc := 0) 0 dX8_needWord_0 rfl ?_
    refine V.iload_n (pc := 1) 1 dX8_needWord_1 rfl ?_
    refine V.ifN_lt (pc := 2) 20 dX8_needWord_2 (by decide) (by omega) ?_
    refine V.iload_n (pc := 5) 1 dX8_needWord_5 rfl ?_
    refine V.aload_n (pc := 6) 0 dX8_needWord_6 rfl ?_
    refine gf_X8_27 (pc := 7) dX8_needWord_7 ?_
    refine gf_X8_167 (pc := 10) 0 (by decide) (v := nI m) dX8_needWord_10 hm ?_
    refine V.icmpN_ge (pc := 13) 20 dX8_needWord_13 (by decide) (by omega) (by omega) (fun h_13 => ?_) (fun h_13 => ?_)
    · refine V.iconst (pc := 20) (v := nI 0) dX8_needWord_20 (by decide) ?_
      refine cx_X8_205 (pc := 21) dX8_needWord_21 hF (ok_X8_needElement false) (by decide) (by omega) (Nat.le_of_ble_eq_true rfl) (fun E μ' h => ⟨by omega, h.2.1, h.2.2⟩) (fun X hF r_ μ_ h_ => ?_)
      exact absurd h_.1 (by decide)
    · refine V.iconst (pc := 16) (v := nI 1) dX8_needWord_16 (by decide) ?_
      refine V.goto (pc := 17) 21 dX8_needWord_17 (by decide) ?_
      refine cx_X8_205 (pc := 21) dX8_needWord_21 hF (ok_X8_needElement true) (by decide) (by omega) (Nat.le_of_ble_eq_true rfl) (fun E μ' h => absurd h.1 (by decide)) (fun X hF r_ μ_ h_ => ?_)
      obtain ⟨-, rfl, rfl⟩ := h_
      exact V.vretX (pc := 24) hF dX8_needWord_24 ⟨h_13, rfl, rfl⟩
  · refine V.lvs (lv' := [(0, .ref (G.2.2 80)), (1, .int (nI x))]) rfl ?_
    refine V.aload_n (pc := 0) 0 dX8_needWord_0 rfl ?_
    refine V.iload_n (pc := 1) 1 dX8_needWord_1 rfl ?_
    refine V.if_lt (pc := 2) 20 dX8_needWord_2 (by decide) (fun h_2 => ?_) (fun h_2 => ?_)
    · refine V.iconst (pc := 20) (v := nI 0) dX8_needWord_20 (by decide) ?_
      refine cx_X8_205 (pc := 21) dX8_needWord_21 hF (ok_X8_needElement false) (by decide) (by omega) (Nat.le_of_ble_eq_true rfl) (fun E μ' h => ⟨by omega, h.2.1, h.2.2⟩) (fun X hF r_ μ_ h_ => ?_)
      exact absurd h_.1 (by decide)
    · exact absurd (nI_neg (by omega) hx) h_2
