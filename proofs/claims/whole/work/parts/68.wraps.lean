def LKq (c : Nat) : Prop := c < 96
def LPq (μ : Mu) (q : Res) (r : Option Value) (μ' : Mu) : Prop := r = some (.int (nI q.1)) ∧ Kl μ' q.2.2 ∧ (q.1 = 0 → μ'.2 95 0 = q.2.1.toInt64) ∧ Fr μ μ' LKq ∧ q.1 < 3
theorem LPq.ok {μ μ' : Mu} {q : Res} (h : q.1 = 0) (hk : Kl μ' q.2.2) (hf : Fr μ μ' CK) : LPq μ q (some (.int (nI 0))) (sj μ' 95 0 q.2.1.toInt64) := by
  have hs : Fr μ' (sj μ' 95 0 q.2.1.toInt64) (fun c => c = 95) := fun c hc => ⟨rfl, sj_c μ' 0 _ hc⟩
  refine ⟨by rw [h], hk.fr hs (fun c hc => Or.inl (by omega)), fun _ => sj_s μ' 95 0 _, hf.trans hs (fun c hc => ?_) (fun c hc => ?_), by rw [h]; decide⟩
  · exact Nat.lt_of_lt_of_le hc (by decide)
  · show c < 96
    omega
theorem LPq.no {μ μ' : Mu} {q : Res} {n : Nat} (h : q.1 = n) (hn : n ≠ 0 ∧ n < 3) (hk : Kl μ' q.2.2) (hf : Fr μ μ' CK) : LPq μ q (some (.int (nI n))) μ' :=
  ⟨by rw [h], hk, fun z => absurd (h.symm.trans z) hn.1, fun c hc => hf c (fun q => hc (Nat.lt_of_lt_of_le q (by decide))), by rw [h]; exact hn.2⟩
theorem mv_2_143 : Cond.methodLink RL 7 yX8_text ∈ TT := tt_in (tb_2 (List.mem_of_getElem? (i := 143) (by decide +kernel))) (by decide +kernel)
theorem mv_2_144 : Cond.instanceMethod yX8_text ∈ TT := tt_in (tb_2 (List.mem_of_getElem? (i := 144) (by decide +kernel))) (by decide +kernel)
theorem mv_2_145 : Cond.selects RX8 yX8_text yX8_text ∈ TT := tt_in (tb_2 (List.mem_of_getElem? (i := 145) (by decide +kernel))) (by decide +kernel)
theorem mv_1_1 : Cond.initialized RX8 ∈ TT := tt_in (tb_1 (List.mem_of_getElem? (i := 1) (by decide +kernel))) (by decide +kernel)
theorem mv_2_146 : Cond.code yX8_text cX8_text 3 (some .int) ∈ TT := tt_in (tb_2 (List.mem_of_getElem? (i := 146) (by decide +kernel))) (by decide +kernel)
theorem mv_2_142 : Cond.classLink RL 13 nIA ∈ TT := tt_in (tb_2 (List.mem_of_getElem? (i := 142) (by decide +kernel))) (by decide +kernel)
abbrev M_L_text : Mm := (yL_text, cL_text, 4, some .int)
abbrev hh_text : Hh := [(0, 9, 12, 13)]
theorem ok_L_text {G : Gx} {μ : Mu} {x1 : Int32} {q : Res} {d : Nat} (hd : d ≤ 23) (hq : q.1 ≠ 2) (hR : RunsX d 4 M_X8_text [.ref (G.2.2 80), .int x1] G μ (CF μ q) (CT nIA nIA μ q)) : RunsL 24 M_L_text hh_text [.ref (G.2.2 80), .int x1, .ref (G.2.2 95)] G μ (LPq μ q) := by
  refine RunsL.of RL rfl (by decide) [(0, .ref (G.2.2 80)), (1, .int x1), (2, .ref (G.2.2 95))] (Nat.le_of_ble_eq_true rfl) rfl (fun X hF => ?_)
  refine V.aload_n (pc := 0) 2 dL_text_0 rfl ?_
  refine V.iconst (pc := 1) (v := nI 0) dL_text_1 (by decide) ?_
  refine V.aload_n (pc := 2) 0 dL_text_2 rfl ?_
  refine V.iload_n (pc := 3) 1 dL_text_3 rfl ?_
  refine V.tryV (pc := 4) (n := 1) (As := [.int x1]) hF hR (by omega) (Nat.le_of_ble_eq_true rfl) rfl mv_2_143 mv_2_144 mv_2_145 mv_1_1 mv_2_146 ⟨by decide, by decide, by decide +kernel⟩ rfl rfl (Nat.le_of_ble_eq_true rfl) dL_text_4 (fun X' hF' r μ' h => ?_) (fun X' hF' E μ' h => ?_)
  · obtain ⟨h1, rfl, h3, h4⟩ := h
    refine V.i2l (pc := 7) (v := q.2.1.toInt64) dL_text_7 rfl ?_
    refine V.last (pc := 8) (k := 95) (n := 1) (Nat.le_of_ble_eq_true rfl) (fun _ _ => rfl) 0 (Nat.le_of_ble_eq_true rfl) (Nat.le_of_ble_eq_true rfl) dL_text_8 rfl ?_
    refine V.goto (pc := 9) 15 dL_text_9 (by decide) ?_
    refine V.iconst (pc := 15) (v := nI 0) dL_text_15 (by decide) ?_
    exact V.iretL (pc := 16) hF' dL_text_16 (LPq.ok h1 h3 h4)
  · obtain ⟨h1, h3, h4⟩ := h
    obtain ⟨rfl, hq1⟩ := h1.elim id (fun z => absurd z.2 hq)
    refine Hnd.one ⟨by decide, by decide⟩ (by decide) mv_2_142 (by decide +kernel) (fun z => ?_)
    refine V.astore_n (pc := 12) (x := z) (lv' := [(0, .ref (G.2.2 80)), (1, .int x1), (2, .ref (G.2.2 95)), (3, .ref z)]) dL_text_12 (Nat.le_of_ble_eq_true rfl) rfl ?_
    refine V.iconst (pc := 13) (v := nI 1) dL_text_13 (by decide) ?_
    exact V.iretL (pc := 14) hF' dL_text_14 (LPq.no hq1 (by decide) h3 h4)
theorem mv_3_34 : Cond.methodLink RL 15 yX8_weigh ∈ TT := tt_in (tb_3 (List.mem_of_getElem? (i := 34) (by decide +kernel))) (by decide +kernel)
theorem mv_3_35 : Cond.instanceMethod yX8_weigh ∈ TT := tt_in (tb_3 (List.mem_of_getElem? (i := 35) (by decide +kernel))) (by decide +kernel)
theorem mv_3_36 : Cond.selects RX8 yX8_weigh yX8_weigh ∈ TT := tt_in (tb_3 (List.mem_of_getElem? (i := 36) (by decide +kernel))) (by decide +kernel)
theorem mv_3_37 : Cond.code yX8_weigh cX8_weigh 4 (some .int) ∈ TT := tt_in (tb_3 (List.mem_of_getElem? (i := 37) (by decide +kernel))) (by decide +kernel)
theorem mv_3_33 : Cond.classLink RL 19 nNS ∈ TT := tt_in (tb_3 (List.mem_of_getElem? (i := 33) (by decide +kernel))) (by decide +kernel)
abbrev M_L_weigh : Mm := (yL_weigh, cL_weigh, 5, some .int)
abbrev hh_weigh : Hh := [(0, 10, 13, 19), (0, 10, 17, 13)]
theorem ok_L_weigh {G : Gx} {μ : Mu} {x1 x2 : Int32} {q : Res} {d : Nat} (hd : d ≤ 23) (hR : RunsX d 4 M_X8_weigh [.ref (G.2.2 80), .int x1, .int x2] G μ (CF μ q) (CT nNS nIA μ q)) : RunsL 24 M_L_weigh hh_weigh [.ref (G.2.2 80), .int x1, .int x2, .ref (G.2.2 95)] G μ (LPq μ q) := by
  refine RunsL.of RL rfl (by decide) [(0, .ref (G.2.2 80)), (1, .int x1), (2, .int x2), (3, .ref (G.2.2 95))] (Nat.le_of_ble_eq_true rfl) rfl (fun X hF => ?_)
  refine V.aload_n (pc := 0) 3 dL_weigh_0 rfl ?_
  refine V.iconst (pc := 1) (v := nI 0) dL_weigh_1 (by decide) ?_
  refine V.aload_n (pc := 2) 0 dL_weigh_2 rfl ?_
  refine V.iload_n (pc := 3) 1 dL_weigh_3 rfl ?_
  refine V.iload_n (pc := 4) 2 dL_weigh_4 rfl ?_
  refine V.tryV (pc := 5) (n := 2) (As := [.int x1, .int x2]) hF hR (by omega) (Nat.le_of_ble_eq_true rfl) rfl mv_3_34 mv_3_35 mv_3_36 mv_1_1 mv_3_37 ⟨by decide, by decide, by decide +kernel⟩ rfl rfl (Nat.le_of_ble_eq_true rfl) dL_weigh_5 (fun X' hF' r μ' h => ?_) (fun X' hF' E μ' h => ?_)
  · obtain ⟨h1, rfl, h3, h4⟩ := h
    refine V.i2l (pc := 8) (v := q.2.1.toInt64) dL_weigh_8 rfl ?_
    refine V.last (pc := 9) (k := 95) (n := 1) (Nat.le_of_ble_eq_true rfl) (fun _ _ => rfl) 0 (Nat.le_of_ble_eq_true rfl) (Nat.le_of_ble_eq_true rfl) dL_weigh_9 rfl ?_
    refine V.goto (pc := 10) 21 dL_weigh_10 (by decide) ?_
    refine V.iconst (pc := 21) (v := nI 0) dL_weigh_21 (by decide) ?_
    exact V.iretL (pc := 22) hF' dL_weigh_22 (LPq.ok h1 h3 h4)
  · obtain ⟨h1, h3, h4⟩ := h
    rcases h1 with ⟨rfl, hq1⟩ | ⟨rfl, hq1⟩
    · refine Hnd.one ⟨by decide, by decide⟩ (by decide) mv_3_33 (by decide +kernel) (fun z => ?_)
      refine V.astore (pc := 13) (x := z) (lv' := [(0, .ref (G.2.2 80)), (1, .int x1), (2, .int x2), (3, .ref (G.2.2 95)), (4, .ref z)]) dL_weigh_13 (Nat.le_of_ble_eq_true rfl) rfl ?_
      refine V.iconst (pc := 15) (v := nI 1) dL_weigh_15 (by decide) ?_
      exact V.iretL (pc := 16) hF' dL_weigh_16 (LPq.no hq1 (by decide) h3 h4)
    · refine Hnd.two (by decide) mv_3_33 (by decide +kernel) ⟨by decide, by decide⟩ (by decide) mv_2_142 (by decide +kernel) (fun z => ?_)
      refine V.astore (pc := 17) (x := z) (lv' := [(0, .ref (G.2.2 80)), (1, .int x1), (2, .int x2), (3, .ref (G.2.2 95)), (4, .ref z)]) dL_weigh_17 (Nat.le_of_ble_eq_true rfl) rfl ?_
      refine V.iconst (pc := 19) (v := nI 2) dL_weigh_19 (by decide) ?_
      exact V.iretL (pc := 20) hF' dL_weigh_20 (LPq.no hq1 (by decide) h3 h4)
theorem mv_3_65 : Cond.methodLink RL 21 yX8_lean ∈ TT := tt_in (tb_3 (List.mem_of_getElem? (i := 65) (by decide +kernel))) (by decide +kernel)
theorem mv_3_66 : Cond.instanceMethod yX8_lean ∈ TT := tt_in (tb_3 (List.mem_of_getElem? (i := 66) (by decide +kernel))) (by decide +kernel)
theorem mv_3_67 : Cond.selects RX8 yX8_lean yX8_lean ∈ TT := tt_in (tb_3 (List.mem_of_getElem? (i := 67) (by decide +kernel))) (by decide +kernel)
theorem mv_3_68 : Cond.code yX8_lean cX8_lean 6 (some .int) ∈ TT := tt_in (tb_3 (List.mem_of_getElem? (i := 68) (by decide +kernel))) (by decide +kernel)
abbrev M_L_lean : Mm := (yL_lean, cL_lean, 5, some .int)
abbrev hh_lean : Hh := [(0, 10, 13, 19)]
theorem ok_L_lean {G : Gx} {μ : Mu} {x1 x2 : Int32} {q : Res} {d : Nat} (hd : d ≤ 23) (hq : q.1 ≠ 2) (hR : RunsX d 4 M_X8_lean [.ref (G.2.2 80), .int x1, .int x2] G μ (CF μ q) (CT nNS nNS μ q)) : RunsL 24 M_L_lean hh_lean [.ref (G.2.2 80), .int x1, .int x2, .ref (G.2.2 95)] G μ (LPq μ q) := by
  refine RunsL.of RL rfl (by decide) [(0, .ref (G.2.2 80)), (1, .int x1), (2, .int x2), (3, .ref (G.2.2 95))] (Nat.le_of_ble_eq_true rfl) rfl (fun X hF => ?_)
  refine V.aload_n (pc := 0) 3 dL_lean_0 rfl ?_
  refine V.iconst (pc := 1) (v := nI 0) dL_lean_1 (by decide) ?_
  refine V.aload_n (pc := 2) 0 dL_lean_2 rfl ?_
  refine V.iload_n (pc := 3) 1 dL_lean_3 rfl ?_
  refine V.iload_n (pc := 4) 2 dL_lean_4 rfl ?_
  refine V.tryV (pc := 5) (n := 2) (As := [.int x1, .int x2]) hF hR (by omega) (Nat.le_of_ble_eq_true rfl) rfl mv_3_65 mv_3_66 mv_3_67 mv_1_1 mv_3_68 ⟨by decide, by decide, by decide +kernel⟩ rfl rfl (Nat.le_of_ble_eq_true rfl) dL_lean_5 (fun X' hF' r μ' h => ?_) (fun X' hF' E μ' h => ?_)
  · obtain ⟨h1, rfl, h3, h4⟩ := h
    refine V.i2l (pc := 8) (v := q.2.1.toInt64) dL_lean_8 rfl ?_
    refine V.last (pc := 9) (k := 95) (n := 1) (Nat.le_of_ble_eq_true rfl) (fun _ _ => rfl) 0 (Nat.le_of_ble_eq_true rfl) (Nat.le_of_ble_eq_true rfl) dL_lean_9 rfl ?_
    refine V.goto (pc := 10) 17 dL_lean_10 (by decide) ?_
    refine V.iconst (pc := 17) (v := nI 0) dL_lean_17 (by decide) ?_
    exact V.iretL (pc := 18) hF' dL_lean_18 (LPq.ok h1 h3 h4)
  · obtain ⟨h1, h3, h4⟩ := h
    obtain ⟨rfl, hq1⟩ := h1.elim id (fun z => absurd z.2 hq)
    refine Hnd.one ⟨by decide, by decide⟩ (by decide) mv_3_33 (by decide +kernel) (fun z => ?_)
    refine V.astore (pc := 13) (x := z) (lv' := [(0, .ref (G.2.2 80)), (1, .int x1), (2, .int x2), (3, .ref (G.2.2 95)), (4, .ref z)]) dL_lean_13 (Nat.le_of_ble_eq_true rfl) rfl ?_
    refine V.iconst (pc := 15) (v := nI 1) dL_lean_15 (by decide) ?_
    exact V.iretL (pc := 16) hF' dL_lean_16 (LPq.no hq1 (by decide) h3 h4)
theorem mv_3_74 : Cond.methodLink RL 25 yX8_budget ∈ TT := tt_in (tb_3 (List.mem_of_getElem? (i := 74) (by decide +kernel))) (by decide +kernel)
theorem mv_3_75 : Cond.instanceMethod yX8_budget ∈ TT := tt_in (tb_3 (List.mem_of_getElem? (i := 75) (by decide +kernel))) (by decide +kernel)
theorem mv_3_76 : Cond.selects RX8 yX8_budget yX8_budget ∈ TT := tt_in (tb_3 (List.mem_of_getElem? (i := 76) (by decide +kernel))) (by decide +kernel)
theorem mv_3_77 : Cond.code yX8_budget cX8_budget 3 (some .int) ∈ TT := tt_in (tb_3 (List.mem_of_getElem? (i := 77) (by decide +kernel))) (by decide +kernel)
abbrev M_L_budget : Mm := (yL_budget, cL_budget, 4, some .int)
abbrev hh_budget : Hh := [(0, 9, 12, 13)]
theorem ok_L_budget {G : Gx} {μ : Mu} {x1 : Int32} {q : Res} {d : Nat} (hd : d ≤ 23) (hq : q.1 ≠ 2) (hR : RunsX d 4 M_X8_budget [.ref (G.2.2 80), .int x1] G μ (CF μ q) (CT nIA nIA μ q)) : RunsL 24 M_L_budget hh_budget [.ref (G.2.2 80), .int x1, .ref (G.2.2 95)] G μ (LPq μ q) := by
  refine RunsL.of RL rfl (by decide) [(0, .ref (G.2.2 80)), (1, .int x1), (2, .ref (G.2.2 95))] (Nat.le_of_ble_eq_true rfl) rfl (fun X hF => ?_)
  refine V.aload_n (pc := 0) 2 dL_budget_0 rfl ?_
  refine V.iconst (pc := 1) (v := nI 0) dL_budget_1 (by decide) ?_
  refine V.aload_n (pc := 2) 0 dL_budget_2 rfl ?_
  refine V.iload_n (pc := 3) 1 dL_budget_3 rfl ?_
  refine V.tryV (pc := 4) (n := 1) (As := [.int x1]) hF hR (by omega) (Nat.le_of_ble_eq_true rfl) rfl mv_3_74 mv_3_75 mv_3_76 mv_1_1 mv_3_77 ⟨by decide, by decide, by decide +kernel⟩ rfl rfl (Nat.le_of_ble_eq_true rfl) dL_budget_4 (fun X' hF' r μ' h => ?_) (fun X' hF' E μ' h => ?_)
  · obtain ⟨h1, rfl, h3, h4⟩ := h
    refine V.i2l (pc := 7) (v := q.2.1.toInt64) dL_budget_7 rfl ?_
    refine V.last (pc := 8) (k := 95) (n := 1) (Nat.le_of_ble_eq_true rfl) (fun _ _ => rfl) 0 (Nat.le_of_ble_eq_true rfl) (Nat.le_of_ble_eq_true rfl) dL_budget_8 rfl ?_
    refine V.goto (pc := 9) 15 dL_budget_9 (by decide) ?_
    refine V.iconst (pc := 15) (v := nI 0) dL_budget_15 (by decide) ?_
    exact V.iretL (pc := 16) hF' dL_budget_16 (LPq.ok h1 h3 h4)
  · obtain ⟨h1, h3, h4⟩ := h
    obtain ⟨rfl, hq1⟩ := h1.elim id (fun z => absurd z.2 hq)
    refine Hnd.one ⟨by decide, by decide⟩ (by decide) mv_2_142 (by decide +kernel) (fun z => ?_)
    refine V.astore_n (pc := 12) (x := z) (lv' := [(0, .ref (G.2.2 80)), (1, .int x1), (2, .ref (G.2.2 95)), (3, .ref z)]) dL_budget_12 (Nat.le_of_ble_eq_true rfl) rfl ?_
    refine V.iconst (pc := 13) (v := nI 1) dL_budget_13 (by decide) ?_
    exact V.iretL (pc := 14) hF' dL_budget_14 (LPq.no hq1 (by decide) h3 h4)
theorem mv_3_82 : Cond.methodLink RL 28 yX8_take ∈ TT := tt_in (tb_3 (List.mem_of_getElem? (i := 82) (by decide +kernel))) (by decide +kernel)
theorem mv_3_83 : Cond.instanceMethod yX8_take ∈ TT := tt_in (tb_3 (List.mem_of_getElem? (i := 83) (by decide +kernel))) (by decide +kernel)
theorem mv_3_84 : Cond.selects RX8 yX8_take yX8_take ∈ TT := tt_in (tb_3 (List.mem_of_getElem? (i := 84) (by decide +kernel))) (by decide +kernel)
theorem mv_3_85 : Cond.code yX8_take cX8_take 3 (some .int) ∈ TT := tt_in (tb_3 (List.mem_of_getElem? (i := 85) (by decide +kernel))) (by decide +kernel)
theorem mv_3_81 : Cond.classLink RL 31 nIS ∈ TT := tt_in (tb_3 (List.mem_of_getElem? (i := 81) (by decide +kernel))) (by decide +kernel)
abbrev M_L_take : Mm := (yL_take, cL_take, 4, some .int)
abbrev hh_take : Hh := [(0, 9, 12, 19), (0, 9, 15, 31)]
theorem ok_L_take {G : Gx} {μ : Mu} {x1 : Int32} {q : Res} {d : Nat} (hd : d ≤ 23) (hR : RunsX d 4 M_X8_take [.ref (G.2.2 80), .int x1] G μ (CF μ q) (CT nNS nIS μ q)) : RunsL 24 M_L_take hh_take [.ref (G.2.2 80), .int x1, .ref (G.2.2 95)] G μ (LPq μ q) := by
  refine RunsL.of RL rfl (by decide) [(0, .ref (G.2.2 80)), (1, .int x1), (2, .ref (G.2.2 95))] (Nat.le_of_ble_eq_true rfl) rfl (fun X hF => ?_)
  refine V.aload_n (pc := 0) 2 dL_take_0 rfl ?_
  refine V.iconst (pc := 1) (v := nI 0) dL_take_1 (by decide) ?_
  refine V.aload_n (pc := 2) 0 dL_take_2 rfl ?_
  refine V.iload_n (pc := 3) 1 dL_take_3 rfl ?_
  refine V.tryV (pc := 4) (n := 1) (As := [.int x1]) hF hR (by omega) (Nat.le_of_ble_eq_true rfl) rfl mv_3_82 mv_3_83 mv_3_84 mv_1_1 mv_3_85 ⟨by decide, by decide, by decide +kernel⟩ rfl rfl (Nat.le_of_ble_eq_true rfl) dL_take_4 (fun X' hF' r μ' h => ?_) (fun X' hF' E μ' h => ?_)
  · obtain ⟨h1, rfl, h3, h4⟩ := h
    refine V.i2l (pc := 7) (v := q.2.1.toInt64) dL_take_7 rfl ?_
    refine V.last (pc := 8) (k := 95) (n := 1) (Nat.le_of_ble_eq_true rfl) (fun _ _ => rfl) 0 (Nat.le_of_ble_eq_true rfl) (Nat.le_of_ble_eq_true rfl) dL_take_8 rfl ?_
    refine V.goto (pc := 9) 18 dL_take_9 (by decide) ?_
    refine V.iconst (pc := 18) (v := nI 0) dL_take_18 (by decide) ?_
    exact V.iretL (pc := 19) hF' dL_take_19 (LPq.ok h1 h3 h4)
  · obtain ⟨h1, h3, h4⟩ := h
    rcases h1 with ⟨rfl, hq1⟩ | ⟨rfl, hq1⟩
    · refine Hnd.one ⟨by decide, by decide⟩ (by decide) mv_3_33 (by decide +kernel) (fun z => ?_)
      refine V.astore_n (pc := 12) (x := z) (lv' := [(0, .ref (G.2.2 80)), (1, .int x1), (2, .ref (G.2.2 95)), (3, .ref z)]) dL_take_12 (Nat.le_of_ble_eq_true rfl) rfl ?_
      refine V.iconst (pc := 13) (v := nI 1) dL_take_13 (by decide) ?_
      exact V.iretL (pc := 14) hF' dL_take_14 (LPq.no hq1 (by decide) h3 h4)
    · refine Hnd.two (by decide) mv_3_33 (by decide +kernel) ⟨by decide, by decide⟩ (by decide) mv_3_81 (by decide +kernel) (fun z => ?_)
      refine V.astore_n (pc := 15) (x := z) (lv' := [(0, .ref (G.2.2 80)), (1, .int x1), (2, .ref (G.2.2 95)), (3, .ref z)]) dL_take_15 (Nat.le_of_ble_eq_true rfl) rfl ?_
      refine V.iconst (pc := 16) (v := nI 2) dL_take_16 (by decide) ?_
      exact V.iretL (pc := 17) hF' dL_take_17 (LPq.no hq1 (by decide) h3 h4)
theorem mv_3_121 : Cond.methodLink RL 33 yX8_drop ∈ TT := tt_in (tb_3 (List.mem_of_getElem? (i := 121) (by decide +kernel))) (by decide +kernel)
theorem mv_3_122 : Cond.instanceMethod yX8_drop ∈ TT := tt_in (tb_3 (List.mem_of_getElem? (i := 122) (by decide +kernel))) (by decide +kernel)
theorem mv_3_123 : Cond.selects RX8 yX8_drop yX8_drop ∈ TT := tt_in (tb_3 (List.mem_of_getElem? (i := 123) (by decide +kernel))) (by decide +kernel)
theorem mv_3_124 : Cond.code yX8_drop cX8_drop 3 (some .int) ∈ TT := tt_in (tb_3 (List.mem_of_getElem? (i := 124) (by decide +kernel))) (by decide +kernel)
abbrev M_L_drop : Mm := (yL_drop, cL_drop, 4, some .int)
abbrev hh_drop : Hh := [(0, 9, 12, 19), (0, 9, 15, 31)]
theorem ok_L_drop {G : Gx} {μ : Mu} {x1 : Int32} {q : Res} {d : Nat} (hd : d ≤ 23) (hR : RunsX d 4 M_X8_drop [.ref (G.2.2 80), .int x1] G μ (CF μ q) (CT nNS nIS μ q)) : RunsL 24 M_L_drop hh_drop [.ref (G.2.2 80), .int x1, .ref (G.2.2 95)] G μ (LPq μ q) := by
  refine RunsL.of RL rfl (by decide) [(0, .ref (G.2.2 80)), (1, .int x1), (2, .ref (G.2.2 95))] (Nat.le_of_ble_eq_true rfl) rfl (fun X hF => ?_)
  refine V.aload_n (pc := 0) 2 dL_drop_0 rfl ?_
  refine V.iconst (pc := 1) (v := nI 0) dL_drop_1 (by decide) ?_
  refine V.aload_n (pc := 2) 0 dL_drop_2 rfl ?_
  refine V.iload_n (pc := 3) 1 dL_drop_3 rfl ?_
  refine V.tryV (pc := 4) (n := 1) (As := [.int x1]) hF hR (by omega) (Nat.le_of_ble_eq_true rfl) rfl mv_3_121 mv_3_122 mv_3_123 mv_1_1 mv_3_124 ⟨by decide, by decide, by decide +kernel⟩ rfl rfl (Nat.le_of_ble_eq_true rfl) dL_drop_4 (fun X' hF' r μ' h => ?_) (fun X' hF' E μ' h => ?_)
  · obtain ⟨h1, rfl, h3, h4⟩ := h
    refine V.i2l (pc := 7) (v := q.2.1.toInt64) dL_drop_7 rfl ?_
    refine V.last (pc := 8) (k := 95) (n := 1) (Nat.le_of_ble_eq_true rfl) (fun _ _ => rfl) 0 (Nat.le_of_ble_eq_true rfl) (Nat.le_of_ble_eq_true rfl) dL_drop_8 rfl ?_
    refine V.goto (pc := 9) 18 dL_drop_9 (by decide) ?_
    refine V.iconst (pc := 18) (v := nI 0) dL_drop_18 (by decide) ?_
    exact V.iretL (pc := 19) hF' dL_drop_19 (LPq.ok h1 h3 h4)
  · obtain ⟨h1, h3, h4⟩ := h
    rcases h1 with ⟨rfl, hq1⟩ | ⟨rfl, hq1⟩
    · refine Hnd.one ⟨by decide, by decide⟩ (by decide) mv_3_33 (by decide +kernel) (fun z => ?_)
      refine V.astore_n (pc := 12) (x := z) (lv' := [(0, .ref (G.2.2 80)), (1, .int x1), (2, .ref (G.2.2 95)), (3, .ref z)]) dL_drop_12 (Nat.le_of_ble_eq_true rfl) rfl ?_
      refine V.iconst (pc := 13) (v := nI 1) dL_drop_13 (by decide) ?_
      exact V.iretL (pc := 14) hF' dL_drop_14 (LPq.no hq1 (by decide) h3 h4)
    · refine Hnd.two (by decide) mv_3_33 (by decide +kernel) ⟨by decide, by decide⟩ (by decide) mv_3_81 (by decide +kernel) (fun z => ?_)
      refine V.astore_n (pc := 15) (x := z) (lv' := [(0, .ref (G.2.2 80)), (1, .int x1), (2, .ref (G.2.2 95)), (3, .ref z)]) dL_drop_15 (Nat.le_of_ble_eq_true rfl) rfl ?_
      refine V.iconst (pc := 16) (v := nI 2) dL_drop_16 (by decide) ?_
      exact V.iretL (pc := 17) hF' dL_drop_17 (LPq.no hq1 (by decide) h3 h4)
theorem mv_3_137 : Cond.methodLink RL 36 yX8_told ∈ TT := tt_in (tb_3 (List.mem_of_getElem? (i := 137) (by decide +kernel))) (by decide +kernel)
theorem mv_3_138 : Cond.instanceMethod yX8_told ∈ TT := tt_in (tb_3 (List.mem_of_getElem? (i := 138) (by decide +kernel))) (by decide +kernel)
theorem mv_3_139 : Cond.selects RX8 yX8_told yX8_told ∈ TT := tt_in (tb_3 (List.mem_of_getElem? (i := 139) (by decide +kernel))) (by decide +kernel)
theorem mv_3_140 : Cond.code yX8_told cX8_told 2 (some .int) ∈ TT := tt_in (tb_3 (List.mem_of_getElem? (i := 140) (by decide +kernel))) (by decide +kernel)
abbrev M_L_told : Mm := (yL_told, cL_told, 4, some .int)
abbrev hh_told : Hh := [(0, 9, 12, 13)]
theorem ok_L_told {G : Gx} {μ : Mu} {x1 : Int32} {q : Res} {d : Nat} (hd : d ≤ 23) (hq : q.1 ≠ 2) (hR : RunsX d 4 M_X8_told [.ref (G.2.2 80), .int x1] G μ (CF μ q) (CT nIA nIA μ q)) : RunsL 24 M_L_told hh_told [.ref (G.2.2 80), .int x1, .ref (G.2.2 95)] G μ (LPq μ q) := by
  refine RunsL.of RL rfl (by decide) [(0, .ref (G.2.2 80)), (1, .int x1), (2, .ref (G.2.2 95))] (Nat.le_of_ble_eq_true rfl) rfl (fun X hF => ?_)
  refine V.aload_n (pc := 0) 2 dL_told_0 rfl ?_
  refine V.iconst (pc := 1) (v := nI 0) dL_told_1 (by decide) ?_
  refine V.aload_n (pc := 2) 0 dL_told_2 rfl ?_
  refine V.iload_n (pc := 3) 1 dL_told_3 rfl ?_
  refine V.tryV (pc := 4) (n := 1) (As := [.int x1]) hF hR (by omega) (Nat.le_of_ble_eq_true rfl) rfl mv_3_137 mv_3_138 mv_3_139 mv_1_1 mv_3_140 ⟨by decide, by decide, by decide +kernel⟩ rfl rfl (Nat.le_of_ble_eq_true rfl) dL_told_4 (fun X' hF' r μ' h => ?_) (fun X' hF' E μ' h => ?_)
  · obtain ⟨h1, rfl, h3, h4⟩ := h
    refine V.i2l (pc := 7) (v := q.2.1.toInt64) dL_told_7 rfl ?_
    refine V.last (pc := 8) (k := 95) (n := 1) (Nat.le_of_ble_eq_true rfl) (fun _ _ => rfl) 0 (Nat.le_of_ble_eq_true rfl) (Nat.le_of_ble_eq_true rfl) dL_told_8 rfl ?_
    refine V.goto (pc := 9) 15 dL_told_9 (by decide) ?_
    refine V.iconst (pc := 15) (v := nI 0) dL_told_15 (by decide) ?_
    exact V.iretL (pc := 16) hF' dL_told_16 (LPq.ok h1 h3 h4)
  · obtain ⟨h1, h3, h4⟩ := h
    obtain ⟨rfl, hq1⟩ := h1.elim id (fun z => absurd z.2 hq)
    refine Hnd.one ⟨by decide, by decide⟩ (by decide) mv_2_142 (by decide +kernel) (fun z => ?_)
    refine V.astore_n (pc := 12) (x := z) (lv' := [(0, .ref (G.2.2 80)), (1, .int x1), (2, .ref (G.2.2 95)), (3, .ref z)]) dL_told_12 (Nat.le_of_ble_eq_true rfl) rfl ?_
    refine V.iconst (pc := 13) (v := nI 1) dL_told_13 (by decide) ?_
    exact V.iretL (pc := 14) hF' dL_told_14 (LPq.no hq1 (by decide) h3 h4)
theorem mv_3_149 : Cond.methodLink RL 39 yX8_sentence ∈ TT := tt_in (tb_3 (List.mem_of_getElem? (i := 149) (by decide +kernel))) (by decide +kernel)
theorem mv_3_150 : Cond.instanceMethod yX8_sentence ∈ TT := tt_in (tb_3 (List.mem_of_getElem? (i := 150) (by decide +kernel))) (by decide +kernel)
theorem mv_3_151 : Cond.selects RX8 yX8_sentence yX8_sentence ∈ TT := tt_in (tb_3 (List.mem_of_getElem? (i := 151) (by decide +kernel))) (by decide +kernel)
theorem mv_3_152 : Cond.code yX8_sentence cX8_sentence 3 (some .int) ∈ TT := tt_in (tb_3 (List.mem_of_getElem? (i := 152) (by decide +kernel))) (by decide +kernel)
abbrev M_L_sentence : Mm := (yL_sentence, cL_sentence, 5, some .int)
abbrev hh_sentence : Hh := [(0, 10, 13, 19), (0, 10, 17, 13)]
theorem ok_L_sentence {G : Gx} {μ : Mu} {x1 x2 : Int32} {q : Res} {d : Nat} (hd : d ≤ 23) (hR : RunsX d 4 M_X8_sentence [.ref (G.2.2 80), .int x1, .int x2] G μ (CF μ q) (CT nNS nIA μ q)) : RunsL 24 M_L_sentence hh_sentence [.ref (G.2.2 80), .int x1, .int x2, .ref (G.2.2 95)] G μ (LPq μ q) := by
  refine RunsL.of RL rfl (by decide) [(0, .ref (G.2.2 80)), (1, .int x1), (2, .int x2), (3, .ref (G.2.2 95))] (Nat.le_of_ble_eq_true rfl) rfl (fun X hF => ?_)
  refine V.aload_n (pc := 0) 3 dL_sentence_0 rfl ?_
  refine V.iconst (pc := 1) (v := nI 0) dL_sentence_1 (by decide) ?_
  refine V.aload_n (pc := 2) 0 dL_sentence_2 rfl ?_
  refine V.iload_n (pc := 3) 1 dL_sentence_3 rfl ?_
  refine V.iload_n (pc := 4) 2 dL_sentence_4 rfl ?_
  refine V.tryV (pc := 5) (n := 2) (As := [.int x1, .int x2]) hF hR (by omega) (Nat.le_of_ble_eq_true rfl) rfl mv_3_149 mv_3_150 mv_3_151 mv_1_1 mv_3_152 ⟨by decide, by decide, by decide +kernel⟩ rfl rfl (Nat.le_of_ble_eq_true rfl) dL_sentence_5 (fun X' hF' r μ' h => ?_) (fun X' hF' E μ' h => ?_)
  · obtain ⟨h1, rfl, h3, h4⟩ := h
    refine V.i2l (pc := 8) (v := q.2.1.toInt64) dL_sentence_8 rfl ?_
    refine V.last (pc := 9) (k := 95) (n := 1) (Nat.le_of_ble_eq_true rfl) (fun _ _ => rfl) 0 (Nat.le_of_ble_eq_true rfl) (Nat.le_of_ble_eq_true rfl) dL_sentence_9 rfl ?_
    refine V.goto (pc := 10) 21 dL_sentence_10 (by decide) ?_
    refine V.iconst (pc := 21) (v := nI 0) dL_sentence_21 (by decide) ?_
    exact V.iretL (pc := 22) hF' dL_sentence_22 (LPq.ok h1 h3 h4)
  · obtain ⟨h1, h3, h4⟩ := h
    rcases h1 with ⟨rfl, hq1⟩ | ⟨rfl, hq1⟩
    · refine Hnd.one ⟨by decide, by decide⟩ (by decide) mv_3_33 (by decide +kernel) (fun z => ?_)
      refine V.astore (pc := 13) (x := z) (lv' := [(0, .ref (G.2.2 80)), (1, .int x1), (2, .int x2), (3, .ref (G.2.2 95)), (4, .ref z)]) dL_sentence_13 (Nat.le_of_ble_eq_true rfl) rfl ?_
      refine V.iconst (pc := 15) (v := nI 1) dL_sentence_15 (by decide) ?_
      exact V.iretL (pc := 16) hF' dL_sentence_16 (LPq.no hq1 (by decide) h3 h4)
    · refine Hnd.two (by decide) mv_3_33 (by decide +kernel) ⟨by decide, by decide⟩ (by decide) mv_2_142 (by decide +kernel) (fun z => ?_)
      refine V.astore (pc := 17) (x := z) (lv' := [(0, .ref (G.2.2 80)), (1, .int x1), (2, .int x2), (3, .ref (G.2.2 95)), (4, .ref z)]) dL_sentence_17 (Nat.le_of_ble_eq_true rfl) rfl ?_
      refine V.iconst (pc := 19) (v := nI 2) dL_sentence_19 (by decide) ?_
      exact V.iretL (pc := 20) hF' dL_sentence_20 (LPq.no hq1 (by decide) h3 h4)
theorem mv_3_166 : Cond.methodLink RL 42 yX8_words ∈ TT := tt_in (tb_3 (List.mem_of_getElem? (i := 166) (by decide +kernel))) (by decide +kernel)
theorem mv_3_167 : Cond.instanceMethod yX8_words ∈ TT := tt_in (tb_3 (List.mem_of_getElem? (i := 167) (by decide +kernel))) (by decide +kernel)
theorem mv_3_168 : Cond.selects RX8 yX8_words yX8_words ∈ TT := tt_in (tb_3 (List.mem_of_getElem? (i := 168) (by decide +kernel))) (by decide +kernel)
theorem mv_3_169 : Cond.code yX8_words cX8_words 2 (some .long) ∈ TT := tt_in (tb_3 (List.mem_of_getElem? (i := 169) (by decide +kernel))) (by decide +kernel)
abbrev M_L_words : Mm := (yL_words, cL_words, 4, some .int)
abbrev hh_words : Hh := [(0, 8, 11, 19)]
theorem ok_L_words {G : Gx} {μ : Mu} {x1 : Int32} {p : Prop} {v : Int64} (hR : RunsX 9 4 M_X8_words [.ref (G.2.2 80), .int x1] G μ (fun r μ' => p ∧ r = some (.long v) ∧ μ' = μ) (fun E μ' => ¬ p ∧ E = nNS ∧ μ' = rB μ 0)) : RunsL 24 M_L_words hh_words [.ref (G.2.2 80), .int x1, .ref (G.2.2 95)] G μ (fun r μ' => (p ∧ r = some (.int (nI 0)) ∧ μ' = sj μ 95 0 v) ∨ (¬ p ∧ r = some (.int (nI 1)) ∧ μ' = rB μ 0)) := by
  refine RunsL.of RL rfl (by decide) [(0, .ref (G.2.2 80)), (1, .int x1), (2, .ref (G.2.2 95))] (Nat.le_of_ble_eq_true rfl) rfl (fun X hF => ?_)
  refine V.aload_n (pc := 0) 2 dL_words_0 rfl ?_
  refine V.iconst (pc := 1) (v := nI 0) dL_words_1 (by decide) ?_
  refine V.aload_n (pc := 2) 0 dL_words_2 rfl ?_
  refine V.iload_n (pc := 3) 1 dL_words_3 rfl ?_
  refine V.tryV (pc := 4) (n := 1) (As := [.int x1]) hF hR (by omega) (Nat.le_of_ble_eq_true rfl) rfl mv_3_166 mv_3_167 mv_3_168 mv_1_1 mv_3_169 ⟨by decide, by decide, by decide +kernel⟩ rfl rfl (Nat.le_of_ble_eq_true rfl) dL_words_4 (fun X' hF' r μ' h => ?_) (fun X' hF' E μ' h => ?_)
  · obtain ⟨h1, rfl, rfl⟩ := h
    refine V.last (pc := 7) (k := 95) (n := 1) (Nat.le_of_ble_eq_true rfl) (fun _ _ => rfl) 0 (Nat.le_of_ble_eq_true rfl) (Nat.le_of_ble_eq_true rfl) dL_words_7 rfl ?_
    refine V.goto (pc := 8) 14 dL_words_8 (by decide) ?_
    refine V.iconst (pc := 14) (v := nI 0) dL_words_14 (by decide) ?_
    exact V.iretL (pc := 15) hF' dL_words_15 (Or.inl ⟨h1, rfl, rfl⟩)
  · obtain ⟨h1, rfl, rfl⟩ := h
    refine Hnd.one ⟨by decide, by decide⟩ (by decide) mv_3_33 (by decide +kernel) (fun z => ?_)
    refine V.astore_n (pc := 11) (x := z) (lv' := [(0, .ref (G.2.2 80)), (1, .int x1), (2, .ref (G.2.2 95)), (3, .ref z)]) dL_words_11 (Nat.le_of_ble_eq_true rfl) rfl ?_
    refine V.iconst (pc := 12) (v := nI 1) dL_words_12 (by decide) ?_
    exact V.iretL (pc := 13) hF' dL_words_13 (Or.inr ⟨h1, rfl, rfl⟩)
theorem mv_3_173 : Cond.methodLink RL 46 yX8_word ∈ TT := tt_in (tb_3 (List.mem_of_getElem? (i := 173) (by decide +kernel))) (by decide +kernel)
theorem mv_3_174 : Cond.instanceMethod yX8_word ∈ TT := tt_in (tb_3 (List.mem_of_getElem? (i := 174) (by decide +kernel))) (by decide +kernel)
theorem mv_3_175 : Cond.selects RX8 yX8_word yX8_word ∈ TT := tt_in (tb_3 (List.mem_of_getElem? (i := 175) (by decide +kernel))) (by decide +kernel)
theorem mv_3_176 : Cond.code yX8_word cX8_word 3 (some .int) ∈ TT := tt_in (tb_3 (List.mem_of_getElem? (i := 176) (by decide +kernel))) (by decide +kernel)
abbrev M_L_word : Mm := (yL_word, cL_word, 5, some .int)
abbrev hh_word : Hh := [(0, 10, 13, 19), (0, 10, 17, 13)]
theorem ok_L_word {G : Gx} {μ : Mu} {x1 x2 : Int32} {q : Res} {d : Nat} (hd : d ≤ 23) (hR : RunsX d 4 M_X8_word [.ref (G.2.2 80), .int x1, .int x2] G μ (CF μ q) (CT nNS nIA μ q)) : RunsL 24 M_L_word hh_word [.ref (G.2.2 80), .int x1, .int x2, .ref (G.2.2 95)] G μ (LPq μ q) := by
  refine RunsL.of RL rfl (by decide) [(0, .ref (G.2.2 80)), (1, .int x1), (2, .int x2), (3, .ref (G.2.2 95))] (Nat.le_of_ble_eq_true rfl) rfl (fun X hF => ?_)
  refine V.aload_n (pc := 0) 3 dL_word_0 rfl ?_
  refine V.iconst (pc := 1) (v := nI 0) dL_word_1 (by decide) ?_
  refine V.aload_n (pc := 2) 0 dL_word_2 rfl ?_
  refine V.iload_n (pc := 3) 1 dL_word_3 rfl ?_
  refine V.iload_n (pc := 4) 2 dL_word_4 rfl ?_
  refine V.tryV (pc := 5) (n := 2) (As := [.int x1, .int x2]) hF hR (by omega) (Nat.le_of_ble_eq_true rfl) rfl mv_3_173 mv_3_174 mv_3_175 mv_1_1 mv_3_176 ⟨by decide, by decide, by decide +kernel⟩ rfl rfl (Nat.le_of_ble_eq_true rfl) dL_word_5 (fun X' hF' r μ' h => ?_) (fun X' hF' E μ' h => ?_)
  · obtain ⟨h1, rfl, h3, h4⟩ := h
    refine V.i2l (pc := 8) (v := q.2.1.toInt64) dL_word_8 rfl ?_
    refine V.last (pc := 9) (k := 95) (n := 1) (Nat.le_of_ble_eq_true rfl) (fun _ _ => rfl) 0 (Nat.le_of_ble_eq_true rfl) (Nat.le_of_ble_eq_true rfl) dL_word_9 rfl ?_
    refine V.goto (pc := 10) 21 dL_word_10 (by decide) ?_
    refine V.iconst (pc := 21) (v := nI 0) dL_word_21 (by decide) ?_
    exact V.iretL (pc := 22) hF' dL_word_22 (LPq.ok h1 h3 h4)
  · obtain ⟨h1, h3, h4⟩ := h
    rcases h1 with ⟨rfl, hq1⟩ | ⟨rfl, hq1⟩
    · refine Hnd.one ⟨by decide, by decide⟩ (by decide) mv_3_33 (by decide +kernel) (fun z => ?_)
      refine V.astore (pc := 13) (x := z) (lv' := [(0, .ref (G.2.2 80)), (1, .int x1), (2, .int x2), (3, .ref (G.2.2 95)), (4, .ref z)]) dL_word_13 (Nat.le_of_ble_eq_true rfl) rfl ?_
      refine V.iconst (pc := 15) (v := nI 1) dL_word_15 (by decide) ?_
      exact V.iretL (pc := 16) hF' dL_word_16 (LPq.no hq1 (by decide) h3 h4)
    · refine Hnd.two (by decide) mv_3_33 (by decide +kernel) ⟨by decide, by decide⟩ (by decide) mv_2_142 (by decide +kernel) (fun z => ?_)
      refine V.astore (pc := 17) (x := z) (lv' := [(0, .ref (G.2.2 80)), (1, .int x1), (2, .int x2), (3, .ref (G.2.2 95)), (4, .ref z)]) dL_word_17 (Nat.le_of_ble_eq_true rfl) rfl ?_
      refine V.iconst (pc := 19) (v := nI 2) dL_word_19 (by decide) ?_
      exact V.iretL (pc := 20) hF' dL_word_20 (LPq.no hq1 (by decide) h3 h4)
theorem mv_3_192 : Cond.methodLink RL 49 yX8_letter ∈ TT := tt_in (tb_3 (List.mem_of_getElem? (i := 192) (by decide +kernel))) (by decide +kernel)
theorem mv_3_193 : Cond.instanceMethod yX8_letter ∈ TT := tt_in (tb_3 (List.mem_of_getElem? (i := 193) (by decide +kernel))) (by decide +kernel)
theorem mv_3_194 : Cond.selects RX8 yX8_letter yX8_letter ∈ TT := tt_in (tb_3 (List.mem_of_getElem? (i := 194) (by decide +kernel))) (by decide +kernel)
theorem mv_3_195 : Cond.code yX8_letter cX8_letter 3 (some .int) ∈ TT := tt_in (tb_3 (List.mem_of_getElem? (i := 195) (by decide +kernel))) (by decide +kernel)
abbrev M_L_letter : Mm := (yL_letter, cL_letter, 5, some .int)
abbrev hh_letter : Hh := [(0, 10, 13, 19)]
theorem ok_L_letter {G : Gx} {μ : Mu} {x1 x2 : Int32} {q : Res} {d : Nat} (hd : d ≤ 23) (hq : q.1 ≠ 2) (hR : RunsX d 4 M_X8_letter [.ref (G.2.2 80), .int x1, .int x2] G μ (CF μ q) (CT nNS nNS μ q)) : RunsL 24 M_L_letter hh_letter [.ref (G.2.2 80), .int x1, .int x2, .ref (G.2.2 95)] G μ (LPq μ q) := by
  refine RunsL.of RL rfl (by decide) [(0, .ref (G.2.2 80)), (1, .int x1), (2, .int x2), (3, .ref (G.2.2 95))] (Nat.le_of_ble_eq_true rfl) rfl (fun X hF => ?_)
  refine V.aload_n (pc := 0) 3 dL_letter_0 rfl ?_
  refine V.iconst (pc := 1) (v := nI 0) dL_letter_1 (by decide) ?_
  refine V.aload_n (pc := 2) 0 dL_letter_2 rfl ?_
  refine V.iload_n (pc := 3) 1 dL_letter_3 rfl ?_
  refine V.iload_n (pc := 4) 2 dL_letter_4 rfl ?_
  refine V.tryV (pc := 5) (n := 2) (As := [.int x1, .int x2]) hF hR (by omega) (Nat.le_of_ble_eq_true rfl) rfl mv_3_192 mv_3_193 mv_3_194 mv_1_1 mv_3_195 ⟨by decide, by decide, by decide +kernel⟩ rfl rfl (Nat.le_of_ble_eq_true rfl) dL_letter_5 (fun X' hF' r μ' h => ?_) (fun X' hF' E μ' h => ?_)
  · obtain ⟨h1, rfl, h3, h4⟩ := h
    refine V.i2l (pc := 8) (v := q.2.1.toInt64) dL_letter_8 rfl ?_
    refine V.last (pc := 9) (k := 95) (n := 1) (Nat.le_of_ble_eq_true rfl) (fun _ _ => rfl) 0 (Nat.le_of_ble_eq_true rfl) (Nat.le_of_ble_eq_true rfl) dL_letter_9 rfl ?_
    refine V.goto (pc := 10) 17 dL_letter_10 (by decide) ?_
    refine V.iconst (pc := 17) (v := nI 0) dL_letter_17 (by decide) ?_
    exact V.iretL (pc := 18) hF' dL_letter_18 (LPq.ok h1 h3 h4)
  · obtain ⟨h1, h3, h4⟩ := h
    obtain ⟨rfl, hq1⟩ := h1.elim id (fun z => absurd z.2 hq)
    refine Hnd.one ⟨by decide, by decide⟩ (by decide) mv_3_33 (by decide +kernel) (fun z => ?_)
    refine V.astore (pc := 13) (x := z) (lv' := [(0, .ref (G.2.2 80)), (1, .int x1), (2, .int x2), (3, .ref (G.2.2 95)), (4, .ref z)]) dL_letter_13 (Nat.le_of_ble_eq_true rfl) rfl ?_
    refine V.iconst (pc := 15) (v := nI 1) dL_letter_15 (by decide) ?_
    exact V.iretL (pc := 16) hF' dL_letter_16 (LPq.no hq1 (by decide) h3 h4)
theorem mv_3_203 : Cond.methodLink RL 52 yX8_greedy ∈ TT := tt_in (tb_3 (List.mem_of_getElem? (i := 203) (by decide +kernel))) (by decide +kernel)
theorem mv_3_204 : Cond.instanceMethod yX8_greedy ∈ TT := tt_in (tb_3 (List.mem_of_getElem? (i := 204) (by decide +kernel))) (by decide +kernel)
theorem mv_3_205 : Cond.selects RX8 yX8_greedy yX8_greedy ∈ TT := tt_in (tb_3 (List.mem_of_getElem? (i := 205) (by decide +kernel))) (by decide +kernel)
theorem mv_3_206 : Cond.code yX8_greedy cX8_greedy 3 (some .int) ∈ TT := tt_in (tb_3 (List.mem_of_getElem? (i := 206) (by decide +kernel))) (by decide +kernel)
abbrev M_L_greedy : Mm := (yL_greedy, cL_greedy, 5, some .int)
abbrev hh_greedy : Hh := [(0, 10, 13, 13)]
theorem ok_L_greedy {G : Gx} {μ : Mu} {x1 x2 : Int32} {q : Res} {d : Nat} (hd : d ≤ 23) (hq : q.1 ≠ 2) (hR : RunsX d 4 M_X8_greedy [.ref (G.2.2 80), .int x1, .int x2] G μ (CF μ q) (CT nIA nIA μ q)) : RunsL 24 M_L_greedy hh_greedy [.ref (G.2.2 80), .int x1, .int x2, .ref (G.2.2 95)] G μ (LPq μ q) := by
  refine RunsL.of RL rfl (by decide) [(0, .ref (G.2.2 80)), (1, .int x1), (2, .int x2), (3, .ref (G.2.2 95))] (Nat.le_of_ble_eq_true rfl) rfl (fun X hF => ?_)
  refine V.aload_n (pc := 0) 3 dL_greedy_0 rfl ?_
  refine V.iconst (pc := 1) (v := nI 0) dL_greedy_1 (by decide) ?_
  refine V.aload_n (pc := 2) 0 dL_greedy_2 rfl ?_
  refine V.iload_n (pc := 3) 1 dL_greedy_3 rfl ?_
  refine V.iload_n (pc := 4) 2 dL_greedy_4 rfl ?_
  refine V.tryV (pc := 5) (n := 2) (As := [.int x1, .int x2]) hF hR (by omega) (Nat.le_of_ble_eq_true rfl) rfl mv_3_203 mv_3_204 mv_3_205 mv_1_1 mv_3_206 ⟨by decide, by decide, by decide +kernel⟩ rfl rfl (Nat.le_of_ble_eq_true rfl) dL_greedy_5 (fun X' hF' r μ' h => ?_) (fun X' hF' E μ' h => ?_)
  · obtain ⟨h1, rfl, h3, h4⟩ := h
    refine V.i2l (pc := 8) (v := q.2.1.toInt64) dL_greedy_8 rfl ?_
    refine V.last (pc := 9) (k := 95) (n := 1) (Nat.le_of_ble_eq_true rfl) (fun _ _ => rfl) 0 (Nat.le_of_ble_eq_true rfl) (Nat.le_of_ble_eq_true rfl) dL_greedy_9 rfl ?_
    refine V.goto (pc := 10) 17 dL_greedy_10 (by decide) ?_
    refine V.iconst (pc := 17) (v := nI 0) dL_greedy_17 (by decide) ?_
    exact V.iretL (pc := 18) hF' dL_greedy_18 (LPq.ok h1 h3 h4)
  · obtain ⟨h1, h3, h4⟩ := h
    obtain ⟨rfl, hq1⟩ := h1.elim id (fun z => absurd z.2 hq)
    refine Hnd.one ⟨by decide, by decide⟩ (by decide) mv_2_142 (by decide +kernel) (fun z => ?_)
    refine V.astore (pc := 13) (x := z) (lv' := [(0, .ref (G.2.2 80)), (1, .int x1), (2, .int x2), (3, .ref (G.2.2 95)), (4, .ref z)]) dL_greedy_13 (Nat.le_of_ble_eq_true rfl) rfl ?_
    refine V.iconst (pc := 15) (v := nI 1) dL_greedy_15 (by decide) ?_
    exact V.iretL (pc := 16) hF' dL_greedy_16 (LPq.no hq1 (by decide) h3 h4)
theorem mv_3_232 : Cond.methodLink RL 55 yX8_step ∈ TT := tt_in (tb_3 (List.mem_of_getElem? (i := 232) (by decide +kernel))) (by decide +kernel)
theorem mv_3_233 : Cond.instanceMethod yX8_step ∈ TT := tt_in (tb_3 (List.mem_of_getElem? (i := 233) (by decide +kernel))) (by decide +kernel)
theorem mv_3_234 : Cond.selects RX8 yX8_step yX8_step ∈ TT := tt_in (tb_3 (List.mem_of_getElem? (i := 234) (by decide +kernel))) (by decide +kernel)
theorem mv_3_235 : Cond.code yX8_step cX8_step 3 (some .int) ∈ TT := tt_in (tb_3 (List.mem_of_getElem? (i := 235) (by decide +kernel))) (by decide +kernel)
abbrev M_L_step : Mm := (yL_step, cL_step, 5, some .int)
abbrev hh_step : Hh := [(0, 10, 13, 13), (0, 10, 17, 19)]
theorem ok_L_step {G : Gx} {μ : Mu} {x1 x2 : Int32} {q : Res} {d : Nat} (hd : d ≤ 23) (hR : RunsX d 4 M_X8_step [.ref (G.2.2 80), .int x1, .int x2] G μ (CF μ q) (CT nIA nNS μ q)) : RunsL 24 M_L_step hh_step [.ref (G.2.2 80), .int x1, .int x2, .ref (G.2.2 95)] G μ (LPq μ q) := by
  refine RunsL.of RL rfl (by decide) [(0, .ref (G.2.2 80)), (1, .int x1), (2, .int x2), (3, .ref (G.2.2 95))] (Nat.le_of_ble_eq_true rfl) rfl (fun X hF => ?_)
  refine V.aload_n (pc := 0) 3 dL_step_0 rfl ?_
  refine V.iconst (pc := 1) (v := nI 0) dL_step_1 (by decide) ?_
  refine V.aload_n (pc := 2) 0 dL_step_2 rfl ?_
  refine V.iload_n (pc := 3) 1 dL_step_3 rfl ?_
  refine V.iload_n (pc := 4) 2 dL_step_4 rfl ?_
  refine V.tryV (pc := 5) (n := 2) (As := [.int x1, .int x2]) hF hR (by omega) (Nat.le_of_ble_eq_true rfl) rfl mv_3_232 mv_3_233 mv_3_234 mv_1_1 mv_3_235 ⟨by decide, by decide, by decide +kernel⟩ rfl rfl (Nat.le_of_ble_eq_true rfl) dL_step_5 (fun X' hF' r μ' h => ?_) (fun X' hF' E μ' h => ?_)
  · obtain ⟨h1, rfl, h3, h4⟩ := h
    refine V.i2l (pc := 8) (v := q.2.1.toInt64) dL_step_8 rfl ?_
    refine V.last (pc := 9) (k := 95) (n := 1) (Nat.le_of_ble_eq_true rfl) (fun _ _ => rfl) 0 (Nat.le_of_ble_eq_true rfl) (Nat.le_of_ble_eq_true rfl) dL_step_9 rfl ?_
    refine V.goto (pc := 10) 21 dL_step_10 (by decide) ?_
    refine V.iconst (pc := 21) (v := nI 0) dL_step_21 (by decide) ?_
    exact V.iretL (pc := 22) hF' dL_step_22 (LPq.ok h1 h3 h4)
  · obtain ⟨h1, h3, h4⟩ := h
    rcases h1 with ⟨rfl, hq1⟩ | ⟨rfl, hq1⟩
    · refine Hnd.one ⟨by decide, by decide⟩ (by decide) mv_2_142 (by decide +kernel) (fun z => ?_)
      refine V.astore (pc := 13) (x := z) (lv' := [(0, .ref (G.2.2 80)), (1, .int x1), (2, .int x2), (3, .ref (G.2.2 95)), (4, .ref z)]) dL_step_13 (Nat.le_of_ble_eq_true rfl) rfl ?_
      refine V.iconst (pc := 15) (v := nI 1) dL_step_15 (by decide) ?_
      exact V.iretL (pc := 16) hF' dL_step_16 (LPq.no hq1 (by decide) h3 h4)
    · refine Hnd.two (by decide) mv_2_142 (by decide +kernel) ⟨by decide, by decide⟩ (by decide) mv_3_33 (by decide +kernel) (fun z => ?_)
      refine V.astore (pc := 17) (x := z) (lv' := [(0, .ref (G.2.2 80)), (1, .int x1), (2, .int x2), (3, .ref (G.2.2 95)), (4, .ref z)]) dL_step_17 (Nat.le_of_ble_eq_true rfl) rfl ?_
      refine V.iconst (pc := 19) (v := nI 2) dL_step_19 (by decide) ?_
      exact V.iretL (pc := 20) hF' dL_step_20 (LPq.no hq1 (by decide) h3 h4)
theorem mv_3_239 : Cond.methodLink RL 58 yX8_lazy ∈ TT := tt_in (tb_3 (List.mem_of_getElem? (i := 239) (by decide +kernel))) (by decide +kernel)
theorem mv_4_0 : Cond.instanceMethod yX8_lazy ∈ TT := tt_in (tb_4 (List.mem_of_getElem? (i := 0) (by decide +kernel))) (by decide +kernel)
theorem mv_4_1 : Cond.selects RX8 yX8_lazy yX8_lazy ∈ TT := tt_in (tb_4 (List.mem_of_getElem? (i := 1) (by decide +kernel))) (by decide +kernel)
theorem mv_4_2 : Cond.code yX8_lazy cX8_lazy 2 (some .int) ∈ TT := tt_in (tb_4 (List.mem_of_getElem? (i := 2) (by decide +kernel))) (by decide +kernel)
abbrev M_L_lazy : Mm := (yL_lazy, cL_lazy, 4, some .int)
abbrev hh_lazy : Hh := [(0, 9, 12, 13)]
theorem ok_L_lazy {G : Gx} {μ : Mu} {x1 : Int32} {q : Res} {d : Nat} (hd : d ≤ 23) (hq : q.1 ≠ 2) (hR : RunsX d 4 M_X8_lazy [.ref (G.2.2 80), .int x1] G μ (CF μ q) (CT nIA nIA μ q)) : RunsL 24 M_L_lazy hh_lazy [.ref (G.2.2 80), .int x1, .ref (G.2.2 95)] G μ (LPq μ q) := by
  refine RunsL.of RL rfl (by decide) [(0, .ref (G.2.2 80)), (1, .int x1), (2, .ref (G.2.2 95))] (Nat.le_of_ble_eq_true rfl) rfl (fun X hF => ?_)
  refine V.aload_n (pc := 0) 2 dL_lazy_0 rfl ?_
  refine V.iconst (pc := 1) (v := nI 0) dL_lazy_1 (by decide) ?_
  refine V.aload_n (pc := 2) 0 dL_lazy_2 rfl ?_
  refine V.iload_n (pc := 3) 1 dL_lazy_3 rfl ?_
  refine V.tryV (pc := 4) (n := 1) (As := [.int x1]) hF hR (by omega) (Nat.le_of_ble_eq_true rfl) rfl mv_3_239 mv_4_0 mv_4_1 mv_1_1 mv_4_2 ⟨by decide, by decide, by decide +kernel⟩ rfl rfl (Nat.le_of_ble_eq_true rfl) dL_lazy_4 (fun X' hF' r μ' h => ?_) (fun X' hF' E μ' h => ?_)
  · obtain ⟨h1, rfl, h3, h4⟩ := h
    refine V.i2l (pc := 7) (v := q.2.1.toInt64) dL_lazy_7 rfl ?_
    refine V.last (pc := 8) (k := 95) (n := 1) (Nat.le_of_ble_eq_true rfl) (fun _ _ => rfl) 0 (Nat.le_of_ble_eq_true rfl) (Nat.le_of_ble_eq_true rfl) dL_lazy_8 rfl ?_
    refine V.goto (pc := 9) 15 dL_lazy_9 (by decide) ?_
    refine V.iconst (pc := 15) (v := nI 0) dL_lazy_15 (by decide) ?_
    exact V.iretL (pc := 16) hF' dL_lazy_16 (LPq.ok h1 h3 h4)
  · obtain ⟨h1, h3, h4⟩ := h
    obtain ⟨rfl, hq1⟩ := h1.elim id (fun z => absurd z.2 hq)
    refine Hnd.one ⟨by decide, by decide⟩ (by decide) mv_2_142 (by decide +kernel) (fun z => ?_)
    refine V.astore_n (pc := 12) (x := z) (lv' := [(0, .ref (G.2.2 80)), (1, .int x1), (2, .ref (G.2.2 95)), (3, .ref z)]) dL_lazy_12 (Nat.le_of_ble_eq_true rfl) rfl ?_
    refine V.iconst (pc := 13) (v := nI 1) dL_lazy_13 (by decide) ?_
    exact V.iretL (pc := 14) hF' dL_lazy_14 (LPq.no hq1 (by decide) h3 h4)
theorem mv_4_27 : Cond.methodLink RL 61 yX8_bound ∈ TT := tt_in (tb_4 (List.mem_of_getElem? (i := 27) (by decide +kernel))) (by decide +kernel)
theorem mv_4_28 : Cond.instanceMethod yX8_bound ∈ TT := tt_in (tb_4 (List.mem_of_getElem? (i := 28) (by decide +kernel))) (by decide +kernel)
theorem mv_4_29 : Cond.selects RX8 yX8_bound yX8_bound ∈ TT := tt_in (tb_4 (List.mem_of_getElem? (i := 29) (by decide +kernel))) (by decide +kernel)
theorem mv_4_30 : Cond.code yX8_bound cX8_bound 2 (some .int) ∈ TT := tt_in (tb_4 (List.mem_of_getElem? (i := 30) (by decide +kernel))) (by decide +kernel)
abbrev M_L_bound : Mm := (yL_bound, cL_bound, 4, some .int)
abbrev hh_bound : Hh := [(0, 9, 12, 13)]
theorem ok_L_bound {G : Gx} {μ : Mu} {x1 : Int32} {q : Res} {d : Nat} (hd : d ≤ 23) (hq : q.1 ≠ 2) (hR : RunsX d 4 M_X8_bound [.ref (G.2.2 80), .int x1] G μ (CF μ q) (CT nIA nIA μ q)) : RunsL 24 M_L_bound hh_bound [.ref (G.2.2 80), .int x1, .ref (G.2.2 95)] G μ (LPq μ q) := by
  refine RunsL.of RL rfl (by decide) [(0, .ref (G.2.2 80)), (1, .int x1), (2, .ref (G.2.2 95))] (Nat.le_of_ble_eq_true rfl) rfl (fun X hF => ?_)
  refine V.aload_n (pc := 0) 2 dL_bound_0 rfl ?_
  refine V.iconst (pc := 1) (v := nI 0) dL_bound_1 (by decide) ?_
  refine V.aload_n (pc := 2) 0 dL_bound_2 rfl ?_
  refine V.iload_n (pc := 3) 1 dL_bound_3 rfl ?_
  refine V.tryV (pc := 4) (n := 1) (As := [.int x1]) hF hR (by omega) (Nat.le_of_ble_eq_true rfl) rfl mv_4_27 mv_4_28 mv_4_29 mv_1_1 mv_4_30 ⟨by decide, by decide, by decide +kernel⟩ rfl rfl (Nat.le_of_ble_eq_true rfl) dL_bound_4 (fun X' hF' r μ' h => ?_) (fun X' hF' E μ' h => ?_)
  · obtain ⟨h1, rfl, h3, h4⟩ := h
    refine V.i2l (pc := 7) (v := q.2.1.toInt64) dL_bound_7 rfl ?_
    refine V.last (pc := 8) (k := 95) (n := 1) (Nat.le_of_ble_eq_true rfl) (fun _ _ => rfl) 0 (Nat.le_of_ble_eq_true rfl) (Nat.le_of_ble_eq_true rfl) dL_bound_8 rfl ?_
    refine V.goto (pc := 9) 15 dL_bound_9 (by decide) ?_
    refine V.iconst (pc := 15) (v := nI 0) dL_bound_15 (by decide) ?_
    exact V.iretL (pc := 16) hF' dL_bound_16 (LPq.ok h1 h3 h4)
  · obtain ⟨h1, h3, h4⟩ := h
    obtain ⟨rfl, hq1⟩ := h1.elim id (fun z => absurd z.2 hq)
    refine Hnd.one ⟨by decide, by decide⟩ (by decide) mv_2_142 (by decide +kernel) (fun z => ?_)
    refine V.astore_n (pc := 12) (x := z) (lv' := [(0, .ref (G.2.2 80)), (1, .int x1), (2, .ref (G.2.2 95)), (3, .ref z)]) dL_bound_12 (Nat.le_of_ble_eq_true rfl) rfl ?_
    refine V.iconst (pc := 13) (v := nI 1) dL_bound_13 (by decide) ?_
    exact V.iretL (pc := 14) hF' dL_bound_14 (LPq.no hq1 (by decide) h3 h4)
theorem mv_4_51 : Cond.methodLink RL 64 yX8_best ∈ TT := tt_in (tb_4 (List.mem_of_getElem? (i := 51) (by decide +kernel))) (by decide +kernel)
theorem mv_4_52 : Cond.instanceMethod yX8_best ∈ TT := tt_in (tb_4 (List.mem_of_getElem? (i := 52) (by decide +kernel))) (by decide +kernel)
theorem mv_4_53 : Cond.selects RX8 yX8_best yX8_best ∈ TT := tt_in (tb_4 (List.mem_of_getElem? (i := 53) (by decide +kernel))) (by decide +kernel)
theorem mv_4_54 : Cond.code yX8_best cX8_best 3 (some .int) ∈ TT := tt_in (tb_4 (List.mem_of_getElem? (i := 54) (by decide +kernel))) (by decide +kernel)
abbrev M_L_best : Mm := (yL_best, cL_best, 5, some .int)
abbrev hh_best : Hh := [(0, 10, 13, 13)]
theorem ok_L_best {G : Gx} {μ : Mu} {x1 x2 : Int32} {q : Res} {d : Nat} (hd : d ≤ 23) (hq : q.1 ≠ 2) (hR : RunsX d 4 M_X8_best [.ref (G.2.2 80), .int x1, .int x2] G μ (CF μ q) (CT nIA nIA μ q)) : RunsL 24 M_L_best hh_best [.ref (G.2.2 80), .int x1, .int x2, .ref (G.2.2 95)] G μ (LPq μ q) := by
  refine RunsL.of RL rfl (by decide) [(0, .ref (G.2.2 80)), (1, .int x1), (2, .int x2), (3, .ref (G.2.2 95))] (Nat.le_of_ble_eq_true rfl) rfl (fun X hF => ?_)
  refine V.aload_n (pc := 0) 3 dL_best_0 rfl ?_
  refine V.iconst (pc := 1) (v := nI 0) dL_best_1 (by decide) ?_
  refine V.aload_n (pc := 2) 0 dL_best_2 rfl ?_
  refine V.iload_n (pc := 3) 1 dL_best_3 rfl ?_
  refine V.iload_n (pc := 4) 2 dL_best_4 rfl ?_
  refine V.tryV (pc := 5) (n := 2) (As := [.int x1, .int x2]) hF hR (by omega) (Nat.le_of_ble_eq_true rfl) rfl mv_4_51 mv_4_52 mv_4_53 mv_1_1 mv_4_54 ⟨by decide, by decide, by decide +kernel⟩ rfl rfl (Nat.le_of_ble_eq_true rfl) dL_best_5 (fun X' hF' r μ' h => ?_) (fun X' hF' E μ' h => ?_)
  · obtain ⟨h1, rfl, h3, h4⟩ := h
    refine V.i2l (pc := 8) (v := q.2.1.toInt64) dL_best_8 rfl ?_
    refine V.last (pc := 9) (k := 95) (n := 1) (Nat.le_of_ble_eq_true rfl) (fun _ _ => rfl) 0 (Nat.le_of_ble_eq_true rfl) (Nat.le_of_ble_eq_true rfl) dL_best_9 rfl ?_
    refine V.goto (pc := 10) 17 dL_best_10 (by decide) ?_
    refine V.iconst (pc := 17) (v := nI 0) dL_best_17 (by decide) ?_
    exact V.iretL (pc := 18) hF' dL_best_18 (LPq.ok h1 h3 h4)
  · obtain ⟨h1, h3, h4⟩ := h
    obtain ⟨rfl, hq1⟩ := h1.elim id (fun z => absurd z.2 hq)
    refine Hnd.one ⟨by decide, by decide⟩ (by decide) mv_2_142 (by decide +kernel) (fun z => ?_)
    refine V.astore (pc := 13) (x := z) (lv' := [(0, .ref (G.2.2 80)), (1, .int x1), (2, .int x2), (3, .ref (G.2.2 95)), (4, .ref z)]) dL_best_13 (Nat.le_of_ble_eq_true rfl) rfl ?_
    refine V.iconst (pc := 15) (v := nI 1) dL_best_15 (by decide) ?_
    exact V.iretL (pc := 16) hF' dL_best_16 (LPq.no hq1 (by decide) h3 h4)
theorem mv_4_97 : Cond.methodLink RL 67 yX8_fewest ∈ TT := tt_in (tb_4 (List.mem_of_getElem? (i := 97) (by decide +kernel))) (by decide +kernel)
theorem mv_4_98 : Cond.instanceMethod yX8_fewest ∈ TT := tt_in (tb_4 (List.mem_of_getElem? (i := 98) (by decide +kernel))) (by decide +kernel)
theorem mv_4_99 : Cond.selects RX8 yX8_fewest yX8_fewest ∈ TT := tt_in (tb_4 (List.mem_of_getElem? (i := 99) (by decide +kernel))) (by decide +kernel)
theorem mv_4_100 : Cond.code yX8_fewest cX8_fewest 2 (some .int) ∈ TT := tt_in (tb_4 (List.mem_of_getElem? (i := 100) (by decide +kernel))) (by decide +kernel)
abbrev M_L_fewest : Mm := (yL_fewest, cL_fewest, 4, some .int)
abbrev hh_fewest : Hh := [(0, 9, 12, 13)]
theorem ok_L_fewest {G : Gx} {μ : Mu} {x1 : Int32} {q : Res} {d : Nat} (hd : d ≤ 23) (hq : q.1 ≠ 2) (hR : RunsX d 4 M_X8_fewest [.ref (G.2.2 80), .int x1] G μ (CF μ q) (CT nIA nIA μ q)) : RunsL 24 M_L_fewest hh_fewest [.ref (G.2.2 80), .int x1, .ref (G.2.2 95)] G μ (LPq μ q) := by
  refine RunsL.of RL rfl (by decide) [(0, .ref (G.2.2 80)), (1, .int x1), (2, .ref (G.2.2 95))] (Nat.le_of_ble_eq_true rfl) rfl (fun X hF => ?_)
  refine V.aload_n (pc := 0) 2 dL_fewest_0 rfl ?_
  refine V.iconst (pc := 1) (v := nI 0) dL_fewest_1 (by decide) ?_
  refine V.aload_n (pc := 2) 0 dL_fewest_2 rfl ?_
  refine V.iload_n (pc := 3) 1 dL_fewest_3 rfl ?_
  refine V.tryV (pc := 4) (n := 1) (As := [.int x1]) hF hR (by omega) (Nat.le_of_ble_eq_true rfl) rfl mv_4_97 mv_4_98 mv_4_99 mv_1_1 mv_4_100 ⟨by decide, by decide, by decide +kernel⟩ rfl rfl (Nat.le_of_ble_eq_true rfl) dL_fewest_4 (fun X' hF' r μ' h => ?_) (fun X' hF' E μ' h => ?_)
  · obtain ⟨h1, rfl, h3, h4⟩ := h
    refine V.i2l (pc := 7) (v := q.2.1.toInt64) dL_fewest_7 rfl ?_
    refine V.last (pc := 8) (k := 95) (n := 1) (Nat.le_of_ble_eq_true rfl) (fun _ _ => rfl) 0 (Nat.le_of_ble_eq_true rfl) (Nat.le_of_ble_eq_true rfl) dL_fewest_8 rfl ?_
    refine V.goto (pc := 9) 15 dL_fewest_9 (by decide) ?_
    refine V.iconst (pc := 15) (v := nI 0) dL_fewest_15 (by decide) ?_
    exact V.iretL (pc := 16) hF' dL_fewest_16 (LPq.ok h1 h3 h4)
  · obtain ⟨h1, h3, h4⟩ := h
    obtain ⟨rfl, hq1⟩ := h1.elim id (fun z => absurd z.2 hq)
    refine Hnd.one ⟨by decide, by decide⟩ (by decide) mv_2_142 (by decide +kernel) (fun z => ?_)
    refine V.astore_n (pc := 12) (x := z) (lv' := [(0, .ref (G.2.2 80)), (1, .int x1), (2, .ref (G.2.2 95)), (3, .ref z)]) dL_fewest_12 (Nat.le_of_ble_eq_true rfl) rfl ?_
    refine V.iconst (pc := 13) (v := nI 1) dL_fewest_13 (by decide) ?_
    exact V.iretL (pc := 14) hF' dL_fewest_14 (LPq.no hq1 (by decide) h3 h4)
theorem mv_4_111 : Cond.methodLink RL 70 yX8_shortest ∈ TT := tt_in (tb_4 (List.mem_of_getElem? (i := 111) (by decide +kernel))) (by decide +kernel)
theorem mv_4_112 : Cond.instanceMethod yX8_shortest ∈ TT := tt_in (tb_4 (List.mem_of_getElem? (i := 112) (by decide +kernel))) (by decide +kernel)
theorem mv_4_113 : Cond.selects RX8 yX8_shortest yX8_shortest ∈ TT := tt_in (tb_4 (List.mem_of_getElem? (i := 113) (by decide +kernel))) (by decide +kernel)
theorem mv_4_114 : Cond.code yX8_shortest cX8_shortest 4 (some .int) ∈ TT := tt_in (tb_4 (List.mem_of_getElem? (i := 114) (by decide +kernel))) (by decide +kernel)
abbrev M_L_shortest : Mm := (yL_shortest, cL_shortest, 5, some .int)
abbrev hh_shortest : Hh := [(0, 10, 13, 13)]
theorem ok_L_shortest {G : Gx} {μ : Mu} {x1 x2 : Int32} {q : Res} {d : Nat} (hd : d ≤ 23) (hq : q.1 ≠ 2) (hR : RunsX d 4 M_X8_shortest [.ref (G.2.2 80), .int x1, .int x2] G μ (CF μ q) (CT nIA nIA μ q)) : RunsL 24 M_L_shortest hh_shortest [.ref (G.2.2 80), .int x1, .int x2, .ref (G.2.2 95)] G μ (LPq μ q) := by
  refine RunsL.of RL rfl (by decide) [(0, .ref (G.2.2 80)), (1, .int x1), (2, .int x2), (3, .ref (G.2.2 95))] (Nat.le_of_ble_eq_true rfl) rfl (fun X hF => ?_)
  refine V.aload_n (pc := 0) 3 dL_shortest_0 rfl ?_
  refine V.iconst (pc := 1) (v := nI 0) dL_shortest_1 (by decide) ?_
  refine V.aload_n (pc := 2) 0 dL_shortest_2 rfl ?_
  refine V.iload_n (pc := 3) 1 dL_shortest_3 rfl ?_
  refine V.iload_n (pc := 4) 2 dL_shortest_4 rfl ?_
  refine V.tryV (pc := 5) (n := 2) (As := [.int x1, .int x2]) hF hR (by omega) (Nat.le_of_ble_eq_true rfl) rfl mv_4_111 mv_4_112 mv_4_113 mv_1_1 mv_4_114 ⟨by decide, by decide, by decide +kernel⟩ rfl rfl (Nat.le_of_ble_eq_true rfl) dL_shortest_5 (fun X' hF' r μ' h => ?_) (fun X' hF' E μ' h => ?_)
  · obtain ⟨h1, rfl, h3, h4⟩ := h
    refine V.i2l (pc := 8) (v := q.2.1.toInt64) dL_shortest_8 rfl ?_
    refine V.last (pc := 9) (k := 95) (n := 1) (Nat.le_of_ble_eq_true rfl) (fun _ _ => rfl) 0 (Nat.le_of_ble_eq_true rfl) (Nat.le_of_ble_eq_true rfl) dL_shortest_9 rfl ?_
    refine V.goto (pc := 10) 17 dL_shortest_10 (by decide) ?_
    refine V.iconst (pc := 17) (v := nI 0) dL_shortest_17 (by decide) ?_
    exact V.iretL (pc := 18) hF' dL_shortest_18 (LPq.ok h1 h3 h4)
  · obtain ⟨h1, h3, h4⟩ := h
    obtain ⟨rfl, hq1⟩ := h1.elim id (fun z => absurd z.2 hq)
    refine Hnd.one ⟨by decide, by decide⟩ (by decide) mv_2_142 (by decide +kernel) (fun z => ?_)
    refine V.astore (pc := 13) (x := z) (lv' := [(0, .ref (G.2.2 80)), (1, .int x1), (2, .int x2), (3, .ref (G.2.2 95)), (4, .ref z)]) dL_shortest_13 (Nat.le_of_ble_eq_true rfl) rfl ?_
    refine V.iconst (pc := 15) (v := nI 1) dL_shortest_15 (by decide) ?_
    exact V.iretL (pc := 16) hF' dL_shortest_16 (LPq.no hq1 (by decide) h3 h4)
theorem mv_4_122 : Cond.methodLink RL 73 yX8_worth ∈ TT := tt_in (tb_4 (List.mem_of_getElem? (i := 122) (by decide +kernel))) (by decide +kernel)
theorem mv_4_123 : Cond.instanceMethod yX8_worth ∈ TT := tt_in (tb_4 (List.mem_of_getElem? (i := 123) (by decide +kernel))) (by decide +kernel)
theorem mv_4_124 : Cond.selects RX8 yX8_worth yX8_worth ∈ TT := tt_in (tb_4 (List.mem_of_getElem? (i := 124) (by decide +kernel))) (by decide +kernel)
theorem mv_4_125 : Cond.code yX8_worth cX8_worth 3 (some .int) ∈ TT := tt_in (tb_4 (List.mem_of_getElem? (i := 125) (by decide +kernel))) (by decide +kernel)
abbrev M_L_worth : Mm := (yL_worth, cL_worth, 4, some .int)
abbrev hh_worth : Hh := [(0, 9, 12, 19)]
theorem ok_L_worth {G : Gx} {μ : Mu} {x1 : Int32} {q : Res} {d : Nat} (hd : d ≤ 23) (hq : q.1 ≠ 2) (hR : RunsX d 4 M_X8_worth [.ref (G.2.2 80), .int x1] G μ (CF μ q) (CT nNS nNS μ q)) : RunsL 24 M_L_worth hh_worth [.ref (G.2.2 80), .int x1, .ref (G.2.2 95)] G μ (LPq μ q) := by
  refine RunsL.of RL rfl (by decide) [(0, .ref (G.2.2 80)), (1, .int x1), (2, .ref (G.2.2 95))] (Nat.le_of_ble_eq_true rfl) rfl (fun X hF => ?_)
  refine V.aload_n (pc := 0) 2 dL_worth_0 rfl ?_
  refine V.iconst (pc := 1) (v := nI 0) dL_worth_1 (by decide) ?_
  refine V.aload_n (pc := 2) 0 dL_worth_2 rfl ?_
  refine V.iload_n (pc := 3) 1 dL_worth_3 rfl ?_
  refine V.tryV (pc := 4) (n := 1) (As := [.int x1]) hF hR (by omega) (Nat.le_of_ble_eq_true rfl) rfl mv_4_122 mv_4_123 mv_4_124 mv_1_1 mv_4_125 ⟨by decide, by decide, by decide +kernel⟩ rfl rfl (Nat.le_of_ble_eq_true rfl) dL_worth_4 (fun X' hF' r μ' h => ?_) (fun X' hF' E μ' h => ?_)
  · obtain ⟨h1, rfl, h3, h4⟩ := h
    refine V.i2l (pc := 7) (v := q.2.1.toInt64) dL_worth_7 rfl ?_
    refine V.last (pc := 8) (k := 95) (n := 1) (Nat.le_of_ble_eq_true rfl) (fun _ _ => rfl) 0 (Nat.le_of_ble_eq_true rfl) (Nat.le_of_ble_eq_true rfl) dL_worth_8 rfl ?_
    refine V.goto (pc := 9) 15 dL_worth_9 (by decide) ?_
    refine V.iconst (pc := 15) (v := nI 0) dL_worth_15 (by decide) ?_
    exact V.iretL (pc := 16) hF' dL_worth_16 (LPq.ok h1 h3 h4)
  · obtain ⟨h1, h3, h4⟩ := h
    obtain ⟨rfl, hq1⟩ := h1.elim id (fun z => absurd z.2 hq)
    refine Hnd.one ⟨by decide, by decide⟩ (by decide) mv_3_33 (by decide +kernel) (fun z => ?_)
    refine V.astore_n (pc := 12) (x := z) (lv' := [(0, .ref (G.2.2 80)), (1, .int x1), (2, .ref (G.2.2 95)), (3, .ref z)]) dL_worth_12 (Nat.le_of_ble_eq_true rfl) rfl ?_
    refine V.iconst (pc := 13) (v := nI 1) dL_worth_13 (by decide) ?_
    exact V.iretL (pc := 14) hF' dL_worth_14 (LPq.no hq1 (by decide) h3 h4)
theorem mv_4_129 : Cond.methodLink RL 76 yX8_exchange ∈ TT := tt_in (tb_4 (List.mem_of_getElem? (i := 129) (by decide +kernel))) (by decide +kernel)
theorem mv_4_130 : Cond.instanceMethod yX8_exchange ∈ TT := tt_in (tb_4 (List.mem_of_getElem? (i := 130) (by decide +kernel))) (by decide +kernel)
theorem mv_4_131 : Cond.selects RX8 yX8_exchange yX8_exchange ∈ TT := tt_in (tb_4 (List.mem_of_getElem? (i := 131) (by decide +kernel))) (by decide +kernel)
theorem mv_4_132 : Cond.code yX8_exchange cX8_exchange 2 (some .int) ∈ TT := tt_in (tb_4 (List.mem_of_getElem? (i := 132) (by decide +kernel))) (by decide +kernel)
abbrev M_L_exchange : Mm := (yL_exchange, cL_exchange, 4, some .int)
abbrev hh_exchange : Hh := [(0, 9, 12, 13)]
theorem ok_L_exchange {G : Gx} {μ : Mu} {x1 : Int32} {q : Res} {d : Nat} (hd : d ≤ 23) (hq : q.1 ≠ 2) (hR : RunsX d 4 M_X8_exchange [.ref (G.2.2 80), .int x1] G μ (CF μ q) (CT nIA nIA μ q)) : RunsL 24 M_L_exchange hh_exchange [.ref (G.2.2 80), .int x1, .ref (G.2.2 95)] G μ (LPq μ q) := by
  refine RunsL.of RL rfl (by decide) [(0, .ref (G.2.2 80)), (1, .int x1), (2, .ref (G.2.2 95))] (Nat.le_of_ble_eq_true rfl) rfl (fun X hF => ?_)
  refine V.aload_n (pc := 0) 2 dL_exchange_0 rfl ?_
  refine V.iconst (pc := 1) (v := nI 0) dL_exchange_1 (by decide) ?_
  refine V.aload_n (pc := 2) 0 dL_exchange_2 rfl ?_
  refine V.iload_n (pc := 3) 1 dL_exchange_3 rfl ?_
  refine V.tryV (pc := 4) (n := 1) (As := [.int x1]) hF hR (by omega) (Nat.le_of_ble_eq_true rfl) rfl mv_4_129 mv_4_130 mv_4_131 mv_1_1 mv_4_132 ⟨by decide, by decide, by decide +kernel⟩ rfl rfl (Nat.le_of_ble_eq_true rfl) dL_exchange_4 (fun X' hF' r μ' h => ?_) (fun X' hF' E μ' h => ?_)
  · obtain ⟨h1, rfl, h3, h4⟩ := h
    refine V.i2l (pc := 7) (v := q.2.1.toInt64) dL_exchange_7 rfl ?_
    refine V.last (pc := 8) (k := 95) (n := 1) (Nat.le_of_ble_eq_true rfl) (fun _ _ => rfl) 0 (Nat.le_of_ble_eq_true rfl) (Nat.le_of_ble_eq_true rfl) dL_exchange_8 rfl ?_
    refine V.goto (pc := 9) 15 dL_exchange_9 (by decide) ?_
    refine V.iconst (pc := 15) (v := nI 0) dL_exchange_15 (by decide) ?_
    exact V.iretL (pc := 16) hF' dL_exchange_16 (LPq.ok h1 h3 h4)
  · obtain ⟨h1, h3, h4⟩ := h
    obtain ⟨rfl, hq1⟩ := h1.elim id (fun z => absurd z.2 hq)
    refine Hnd.one ⟨by decide, by decide⟩ (by decide) mv_2_142 (by decide +kernel) (fun z => ?_)
    refine V.astore_n (pc := 12) (x := z) (lv' := [(0, .ref (G.2.2 80)), (1, .int x1), (2, .ref (G.2.2 95)), (3, .ref z)]) dL_exchange_12 (Nat.le_of_ble_eq_true rfl) rfl ?_
    refine V.iconst (pc := 13) (v := nI 1) dL_exchange_13 (by decide) ?_
    exact V.iretL (pc := 14) hF' dL_exchange_14 (LPq.no hq1 (by decide) h3 h4)
theorem mv_4_151 : Cond.methodLink RL 79 yX8_next ∈ TT := tt_in (tb_4 (List.mem_of_getElem? (i := 151) (by decide +kernel))) (by decide +kernel)
theorem mv_4_152 : Cond.instanceMethod yX8_next ∈ TT := tt_in (tb_4 (List.mem_of_getElem? (i := 152) (by decide +kernel))) (by decide +kernel)
theorem mv_4_153 : Cond.selects RX8 yX8_next yX8_next ∈ TT := tt_in (tb_4 (List.mem_of_getElem? (i := 153) (by decide +kernel))) (by decide +kernel)
theorem mv_4_154 : Cond.code yX8_next cX8_next 2 (some .int) ∈ TT := tt_in (tb_4 (List.mem_of_getElem? (i := 154) (by decide +kernel))) (by decide +kernel)
abbrev M_L_next : Mm := (yL_next, cL_next, 4, some .int)
abbrev hh_next : Hh := [(0, 9, 12, 13)]
theorem ok_L_next {G : Gx} {μ : Mu} {x1 : Int32} {q : Res} {d : Nat} (hd : d ≤ 23) (hq : q.1 ≠ 2) (hR : RunsX d 4 M_X8_next [.ref (G.2.2 80), .int x1] G μ (CF μ q) (CT nIA nIA μ q)) : RunsL 24 M_L_next hh_next [.ref (G.2.2 80), .int x1, .ref (G.2.2 95)] G μ (LPq μ q) := by
  refine RunsL.of RL rfl (by decide) [(0, .ref (G.2.2 80)), (1, .int x1), (2, .ref (G.2.2 95))] (Nat.le_of_ble_eq_true rfl) rfl (fun X hF => ?_)
  refine V.aload_n (pc := 0) 2 dL_next_0 rfl ?_
  refine V.iconst (pc := 1) (v := nI 0) dL_next_1 (by decide) ?_
  refine V.aload_n (pc := 2) 0 dL_next_2 rfl ?_
  refine V.iload_n (pc := 3) 1 dL_next_3 rfl ?_
  refine V.tryV (pc := 4) (n := 1) (As := [.int x1]) hF hR (by omega) (Nat.le_of_ble_eq_true rfl) rfl mv_4_151 mv_4_152 mv_4_153 mv_1_1 mv_4_154 ⟨by decide, by decide, by decide +kernel⟩ rfl rfl (Nat.le_of_ble_eq_true rfl) dL_next_4 (fun X' hF' r μ' h => ?_) (fun X' hF' E μ' h => ?_)
  · obtain ⟨h1, rfl, h3, h4⟩ := h
    refine V.i2l (pc := 7) (v := q.2.1.toInt64) dL_next_7 rfl ?_
    refine V.last (pc := 8) (k := 95) (n := 1) (Nat.le_of_ble_eq_true rfl) (fun _ _ => rfl) 0 (Nat.le_of_ble_eq_true rfl) (Nat.le_of_ble_eq_true rfl) dL_next_8 rfl ?_
    refine V.goto (pc := 9) 15 dL_next_9 (by decide) ?_
    refine V.iconst (pc := 15) (v := nI 0) dL_next_15 (by decide) ?_
    exact V.iretL (pc := 16) hF' dL_next_16 (LPq.ok h1 h3 h4)
  · obtain ⟨h1, h3, h4⟩ := h
    obtain ⟨rfl, hq1⟩ := h1.elim id (fun z => absurd z.2 hq)
    refine Hnd.one ⟨by decide, by decide⟩ (by decide) mv_2_142 (by decide +kernel) (fun z => ?_)
    refine V.astore_n (pc := 12) (x := z) (lv' := [(0, .ref (G.2.2 80)), (1, .int x1), (2, .ref (G.2.2 95)), (3, .ref z)]) dL_next_12 (Nat.le_of_ble_eq_true rfl) rfl ?_
    refine V.iconst (pc := 13) (v := nI 1) dL_next_13 (by decide) ?_
    exact V.iretL (pc := 14) hF' dL_next_14 (LPq.no hq1 (by decide) h3 h4)
theorem mv_4_158 : Cond.methodLink RL 82 yX8_likeness ∈ TT := tt_in (tb_4 (List.mem_of_getElem? (i := 158) (by decide +kernel))) (by decide +kernel)
theorem mv_4_159 : Cond.instanceMethod yX8_likeness ∈ TT := tt_in (tb_4 (List.mem_of_getElem? (i := 159) (by decide +kernel))) (by decide +kernel)
theorem mv_4_160 : Cond.selects RX8 yX8_likeness yX8_likeness ∈ TT := tt_in (tb_4 (List.mem_of_getElem? (i := 160) (by decide +kernel))) (by decide +kernel)
theorem mv_4_161 : Cond.code yX8_likeness cX8_likeness 7 (some .int) ∈ TT := tt_in (tb_4 (List.mem_of_getElem? (i := 161) (by decide +kernel))) (by decide +kernel)
abbrev M_L_likeness : Mm := (yL_likeness, cL_likeness, 6, some .int)
abbrev hh_likeness : Hh := [(0, 12, 15, 19), (0, 12, 19, 13)]
theorem ok_L_likeness {G : Gx} {μ : Mu} {x1 x2 x3 : Int32} {q : Res} {d : Nat} (hd : d ≤ 23) (hR : RunsX d 4 M_X8_likeness [.ref (G.2.2 80), .int x1, .int x2, .int x3] G μ (CF μ q) (CT nNS nIA μ q)) : RunsL 24 M_L_likeness hh_likeness [.ref (G.2.2 80), .int x1, .int x2, .int x3, .ref (G.2.2 95)] G μ (LPq μ q) := by
  refine RunsL.of RL rfl (by decide) [(0, .ref (G.2.2 80)), (1, .int x1), (2, .int x2), (3, .int x3), (4, .ref (G.2.2 95))] (Nat.le_of_ble_eq_true rfl) rfl (fun X hF => ?_)
  refine V.aload (pc := 0) 4 dL_likeness_0 rfl ?_
  refine V.iconst (pc := 2) (v := nI 0) dL_likeness_2 (by decide) ?_
  refine V.aload_n (pc := 3) 0 dL_likeness_3 rfl ?_
  refine V.iload_n (pc := 4) 1 dL_likeness_4 rfl ?_
  refine V.iload_n (pc := 5) 2 dL_likeness_5 rfl ?_
  refine V.iload_n (pc := 6) 3 dL_likeness_6 rfl ?_
  refine V.tryV (pc := 7) (n := 3) (As := [.int x1, .int x2, .int x3]) hF hR (by omega) (Nat.le_of_ble_eq_true rfl) rfl mv_4_158 mv_4_159 mv_4_160 mv_1_1 mv_4_161 ⟨by decide, by decide, by decide +kernel⟩ rfl rfl (Nat.le_of_ble_eq_true rfl) dL_likeness_7 (fun X' hF' r μ' h => ?_) (fun X' hF' E μ' h => ?_)
  · obtain ⟨h1, rfl, h3, h4⟩ := h
    refine V.i2l (pc := 10) (v := q.2.1.toInt64) dL_likeness_10 rfl ?_
    refine V.last (pc := 11) (k := 95) (n := 1) (Nat.le_of_ble_eq_true rfl) (fun _ _ => rfl) 0 (Nat.le_of_ble_eq_true rfl) (Nat.le_of_ble_eq_true rfl) dL_likeness_11 rfl ?_
    refine V.goto (pc := 12) 23 dL_likeness_12 (by decide) ?_
    refine V.iconst (pc := 23) (v := nI 0) dL_likeness_23 (by decide) ?_
    exact V.iretL (pc := 24) hF' dL_likeness_24 (LPq.ok h1 h3 h4)
  · obtain ⟨h1, h3, h4⟩ := h
    rcases h1 with ⟨rfl, hq1⟩ | ⟨rfl, hq1⟩
    · refine Hnd.one ⟨by decide, by decide⟩ (by decide) mv_3_33 (by decide +kernel) (fun z => ?_)
      refine V.astore (pc := 15) (x := z) (lv' := [(0, .ref (G.2.2 80)), (1, .int x1), (2, .int x2), (3, .int x3), (4, .ref (G.2.2 95)), (5, .ref z)]) dL_likeness_15 (Nat.le_of_ble_eq_true rfl) rfl ?_
      refine V.iconst (pc := 17) (v := nI 1) dL_likeness_17 (by decide) ?_
      exact V.iretL (pc := 18) hF' dL_likeness_18 (LPq.no hq1 (by decide) h3 h4)
    · refine Hnd.two (by decide) mv_3_33 (by decide +kernel) ⟨by decide, by decide⟩ (by decide) mv_2_142 (by decide +kernel) (fun z => ?_)
      refine V.astore (pc := 19) (x := z) (lv' := [(0, .ref (G.2.2 80)), (1, .int x1), (2, .int x2), (3, .int x3), (4, .ref (G.2.2 95)), (5, .ref z)]) dL_likeness_19 (Nat.le_of_ble_eq_true rfl) rfl ?_
      refine V.iconst (pc := 21) (v := nI 2) dL_likeness_21 (by decide) ?_
      exact V.iretL (pc := 22) hF' dL_likeness_22 (LPq.no hq1 (by decide) h3 h4)
