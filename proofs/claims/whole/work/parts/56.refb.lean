theorem ok_X9_greedy {G : Gx} {μ : Mu} (a : AS) (hRf : Rf μ a) (kind x : Nat) (hkind : kind < 2 ^ 32) (hx : x < 2 ^ 32) (K : Nat) (hKe : GrEnd a.S (decide (kind ≠ 0)) K) : Runs 9 M_X9_greedy [.ref (G.2.2 96), .int (nI kind), .int (nI x)] G μ (RP μ (sp_greedy a kind x K)) := by
  refine Runs.go RX9 rfl (by decide) [(0, .ref (G.2.2 96)), (1, .int (nI kind)), (2, .int (nI x))] (Nat.le_of_ble_eq_true rfl) rfl (fun X hF => ?_)
  refine V.aload_n (pc := 0) 0 dX9_greedy_0 rfl ?_
  refine V.iconst (pc := 1) (v := nI 0) dX9_greedy_1 (by decide) ?_
  refine pf_X9_60 (pc := 2) dX9_greedy_2 ?_
  obtain ⟨μ0, hμ0⟩ : ∃ m, m = si μ 96 0 (nI 0) := ⟨_, rfl⟩
  rw [← hμ0]
  have hR0 : Rf μ0 a := by rw [hμ0]; exact hRf.fld 0 _ (by decide)
  have hth : μ0.1 96 0 = nI 0 := by rw [hμ0, si_s]
  have hC0 : Fr μ μ0 RK := by rw [hμ0]; exact (Fr.refl μ RK).si _ _ (by unfold RK; decide)
  clear hμ0
  have hR := hR0.rw
  have hvs := hR.vs
  have hn16 := hvs.n16
  have hu48 := hvs.u48
  have hT2 := hvs.tk
  have hp16 := pow16 hvs
  have hB9 := hvs.B9
  have hp48 := pow48 hvs
  have hLL := hvs.le
  refine V.aload_n (pc := 5) 0 dX9_greedy_5 rfl ?_
  refine V.iload_n (pc := 6) 1 dX9_greedy_6 rfl ?_
  refine V.iconst (pc := 7) (v := nI 0) dX9_greedy_7 (by decide) ?_
  refine V.iconst (pc := 8) (v := nI 2) dX9_greedy_8 (by decide) ?_
  refine cp_X9_116 (pc := 9) dX9_greedy_9 (ok_X9_in kind 3 hkind (by decide)) (by omega) (Nat.le_of_ble_eq_true rfl) ?_
  refine V.ifB_eq (pc := 12) 24 dX9_greedy_12 (by decide) (fun h_12 => ?_) (fun h_12 => ?_)
  · have hk1 := of_decide_eq_false h_12
    refine V.iconst (pc := 24) (v := nI 1) dX9_greedy_24 (by decide) ?_
    refine V.goto (pc := 25) 29 dX9_greedy_25 (by decide) ?_
    refine V.iconst (pc := 29) (v := nI 1) dX9_greedy_29 (by decide) ?_
    refine V.iconst (pc := 30) (v := nI 1) dX9_greedy_30 (by decide) ?_
    refine cl_X9_119 (pc := 31) dX9_greedy_31 (ok_bad1 1 1 hth (by decide) (by decide) (by decide)) (by omega) (Nat.le_of_ble_eq_true rfl) (fun r_ μ_ h_ => ?_)
    obtain ⟨rfl, rfl⟩ := h_
    refine V.ifN_eq (pc := 34) 39 dX9_greedy_34 (by decide) (by decide) (fun h_ => absurd h_ (by decide)) (fun h_34 => ?_)
    refine V.iconst (pc := 37) (v := nI 0) dX9_greedy_37 (by decide) ?_
    exact V.iret (pc := 38) hF dX9_greedy_38 (RP.no (if_neg (by omega)) (by decide) hR0 (by decide) hC0)
  · have hk1 := of_decide_eq_true h_12
    refine V.iload_n (pc := 15) 2 dX9_greedy_15 rfl ?_
    refine V.iconst (pc := 16) (v := nI 0) dX9_greedy_16 (by decide) ?_
    refine V.iconst (pc := 17) (v := nI 3) dX9_greedy_17 (by decide) ?_
    refine cp_X9_116 (pc := 18) dX9_greedy_18 (ok_X9_in x 4 hx (by decide)) (by omega) (Nat.le_of_ble_eq_true rfl) ?_
    refine V.ifB_ne (pc := 21) 28 dX9_greedy_21 (by decide) (fun h_21 => ?_) (fun h_21 => ?_)
    · have hx1 := of_decide_eq_true h_21
      refine V.iconst (pc := 28) (v := nI 0) dX9_greedy_28 (by decide) ?_
      refine V.iconst (pc := 29) (v := nI 1) dX9_greedy_29 (by decide) ?_
      refine V.iconst (pc := 30) (v := nI 1) dX9_greedy_30 (by decide) ?_
      refine cp_X9_119 (pc := 31) dX9_greedy_31 (ok_bad0 1 1 hth) (by omega) (Nat.le_of_ble_eq_true rfl) ?_
      refine V.ifN_eq (pc := 34) 39 dX9_greedy_34 (by decide) (by decide) (fun h_34 => ?_) (fun h_ => absurd h_ (by decide))
      have hcs := clSet_lt hvs hKe
      refine V.aload_n (pc := 39) 0 dX9_greedy_39 rfl ?_
      refine V.iload_n (pc := 40) 1 dX9_greedy_40 rfl ?_
      refine cl_X9_224 (pc := 41) dX9_greedy_41 (ok_X9_lays a.S hR kind (by omega) K hKe) (by omega) (Nat.le_of_ble_eq_true rfl) (fun r_ μ_ h_ => ?_)
      obtain ⟨rfl, hkp, hG⟩ := h_
      have hR1 := hkp.rw hR
      have hRf1 := hkp.rf hR0
      have hth1 := hkp.th.trans hth
      have hC1 := hkp.fr hC0
      refine V.iload_n (pc := 44) 2 dX9_greedy_44 rfl ?_
      refine V.ifN_ne (pc := 45) 55 dX9_greedy_45 (by decide) (by omega) (fun h_45 => ?_) (fun h_45 => ?_)
      · refine V.iload_n (pc := 55) 2 dX9_greedy_55 rfl ?_
        refine V.iconst (pc := 56) (v := nI 1) dX9_greedy_56 (by decide) ?_
        refine V.icmpN_ne (pc := 57) 71 dX9_greedy_57 (by decide) (by omega) (by omega) (fun h_57 => ?_) (fun h_57 => ?_)
        · refine V.iload_n (pc := 71) 2 dX9_greedy_71 rfl ?_
          refine V.iconst (pc := 72) (v := nI 2) dX9_greedy_72 (by decide) ?_
          refine V.icmpN_ne (pc := 73) 87 dX9_greedy_73 (by decide) (by omega) (by omega) (fun h_73 => ?_) (fun h_73 => ?_)
          · refine V.aload_n (pc := 87) 0 dX9_greedy_87 rfl ?_
            refine gf_X9_209 (pc := 88) (v := nI (clCnt a.S kind K)) dX9_greedy_88 hG.2.1 ?_
            exact V.iret (pc := 91) hF dX9_greedy_91 (RP.mk ((if_pos (by omega)).trans ((if_pos (by omega)).trans (by rw [show x = 3 by omega]; rfl))) hRf1 hth1 hC1)
          · refine V.aload_n (pc := 76) 0 dX9_greedy_76 rfl ?_
            refine V.aload_n (pc := 77) 0 dX9_greedy_77 rfl ?_
            refine gf_X9_212 (pc := 78) (v := nI (clSet a.S kind K)) dX9_greedy_78 hG.1 ?_
            refine cp_X9_166 (pc := 81) dX9_greedy_81 (ok_X9_length a.S hR1 (clSet a.S kind K) (by omega)) (by omega) (Nat.le_of_ble_eq_true rfl) ?_
            refine V.goto (pc := 84) 91 dX9_greedy_84 (by decide) ?_
            exact V.iret (pc := 91) hF dX9_greedy_91 (RP.mk ((if_pos (by omega)).trans ((if_pos (by omega)).trans (by rw [show x = 2 by omega]; rfl))) hRf1 hth1 hC1)
        · refine V.aload_n (pc := 60) 0 dX9_greedy_60 rfl ?_
          refine V.aload_n (pc := 61) 0 dX9_greedy_61 rfl ?_
          refine gf_X9_212 (pc := 62) (v := nI (clSet a.S kind K)) dX9_greedy_62 hG.1 ?_
          refine cp_X9_196 (pc := 65) dX9_greedy_65 (ok_X9_covered a.S hR1 (clSet a.S kind K) (by omega)) (by omega) (Nat.le_of_ble_eq_true rfl) ?_
          refine V.goto (pc := 68) 91 dX9_greedy_68 (by decide) ?_
          exact V.iret (pc := 91) hF dX9_greedy_91 (RP.mk ((if_pos (by omega)).trans ((if_pos (by omega)).trans (by rw [show x = 1 by omega]; rfl))) hRf1 hth1 hC1)
      · refine V.aload_n (pc := 48) 0 dX9_greedy_48 rfl ?_
        refine gf_X9_212 (pc := 49) (v := nI (clSet a.S kind K)) dX9_greedy_49 hG.1 ?_
        refine V.goto (pc := 52) 91 dX9_greedy_52 (by decide) ?_
        exact V.iret (pc := 91) hF dX9_greedy_91 (RP.mk ((if_pos (by omega)).trans ((if_pos (by omega)).trans (by rw [show x = 0 by omega]; rfl))) hRf1 hth1 hC1)
    · have hx1 := of_decide_eq_false h_21
      refine V.iconst (pc := 24) (v := nI 1) dX9_greedy_24 (by decide) ?_
      refine V.goto (pc := 25) 29 dX9_greedy_25 (by decide) ?_
      refine V.iconst (pc := 29) (v := nI 1) dX9_greedy_29 (by decide) ?_
      refine V.iconst (pc := 30) (v := nI 1) dX9_greedy_30 (by decide) ?_
      refine cl_X9_119 (pc := 31) dX9_greedy_31 (ok_bad1 1 1 hth (by decide) (by decide) (by decide)) (by omega) (Nat.le_of_ble_eq_true rfl) (fun r_ μ_ h_ => ?_)
      obtain ⟨rfl, rfl⟩ := h_
      refine V.ifN_eq (pc := 34) 39 dX9_greedy_34 (by decide) (by decide) (fun h_ => absurd h_ (by decide)) (fun h_34 => ?_)
      refine V.iconst (pc := 37) (v := nI 0) dX9_greedy_37 (by decide) ?_
      exact V.iret (pc := 38) hF dX9_greedy_38 (RP.no ((if_pos (by omega)).trans (if_neg (by omega))) (by decide) hR0 (by decide) hC0)
theorem ok_X9_step {G : Gx} {μ : Mu} (a : AS) (hRf : Rf μ a) (kind x : Nat) (hkind : kind < 2 ^ 32) (hx : x < 2 ^ 32) (K : Nat) (hKe : GrEnd a.S (decide (kind ≠ 0)) K) : Runs 9 M_X9_step [.ref (G.2.2 96), .int (nI kind), .int (nI x)] G μ (RP μ (sp_step a kind x K)) := by
  refine Runs.go RX9 rfl (by decide) [(0, .ref (G.2.2 96)), (1, .int (nI kind)), (2, .int (nI x))] (Nat.le_of_ble_eq_true rfl) rfl (fun X hF => ?_)
  refine V.aload_n (pc := 0) 0 dX9_step_0 rfl ?_
  refine V.iconst (pc := 1) (v := nI 0) dX9_step_1 (by decide) ?_
  refine pf_X9_60 (pc := 2) dX9_step_2 ?_
  obtain ⟨μ0, hμ0⟩ : ∃ m, m = si μ 96 0 (nI 0) := ⟨_, rfl⟩
  rw [← hμ0]
  have hR0 : Rf μ0 a := by rw [hμ0]; exact hRf.fld 0 _ (by decide)
  have hth : μ0.1 96 0 = nI 0 := by rw [hμ0, si_s]
  have hC0 : Fr μ μ0 RK := by rw [hμ0]; exact (Fr.refl μ RK).si _ _ (by unfold RK; decide)
  clear hμ0
  have hR := hR0.rw
  have hvs := hR.vs
  have hn16 := hvs.n16
  have hu48 := hvs.u48
  have hT2 := hvs.tk
  have hp16 := pow16 hvs
  have hB9 := hvs.B9
  have hp48 := pow48 hvs
  have hLL := hvs.le
  refine V.aload_n (pc := 5) 0 dX9_step_5 rfl ?_
  refine V.iload_n (pc := 6) 1 dX9_step_6 rfl ?_
  refine V.iconst (pc := 7) (v := nI 0) dX9_step_7 (by decide) ?_
  refine V.iconst (pc := 8) (v := nI 2) dX9_step_8 (by decide) ?_
  refine cp_X9_116 (pc := 9) dX9_step_9 (ok_X9_in kind 3 hkind (by decide)) (by omega) (Nat.le_of_ble_eq_true rfl) ?_
  refine V.ifB_ne (pc := 12) 19 dX9_step_12 (by decide) (fun h_12 => ?_) (fun h_12 => ?_)
  · have hk1 := of_decide_eq_true h_12
    refine V.iconst (pc := 19) (v := nI 0) dX9_step_19 (by decide) ?_
    refine V.iconst (pc := 20) (v := nI 1) dX9_step_20 (by decide) ?_
    refine V.iconst (pc := 21) (v := nI 1) dX9_step_21 (by decide) ?_
    refine cp_X9_119 (pc := 22) dX9_step_22 (ok_bad0 1 1 hth) (by omega) (Nat.le_of_ble_eq_true rfl) ?_
    refine V.ifN_eq (pc := 25) 30 dX9_step_25 (by decide) (by decide) (fun h_25 => ?_) (fun h_ => absurd h_ (by decide))
    have hcc := clCnt_le hKe hvs
    refine V.aload_n (pc := 30) 0 dX9_step_30 rfl ?_
    refine V.iload_n (pc := 31) 1 dX9_step_31 rfl ?_
    refine cl_X9_224 (pc := 32) dX9_step_32 (ok_X9_lays a.S hR kind (by omega) K hKe) (by omega) (Nat.le_of_ble_eq_true rfl) (fun r_ μ_ h_ => ?_)
    obtain ⟨rfl, hkp, hG⟩ := h_
    have hR1 := hkp.rw hR
    have hRf1 := hkp.rf hR0
    have hth1 := hkp.th.trans hth
    have hC1 := hkp.fr hC0
    refine V.aload_n (pc := 35) 0 dX9_step_35 rfl ?_
    refine V.iload_n (pc := 36) 2 dX9_step_36 rfl ?_
    refine V.iconst (pc := 37) (v := nI 0) dX9_step_37 (by decide) ?_
    refine V.aload_n (pc := 38) 0 dX9_step_38 rfl ?_
    refine gf_X9_209 (pc := 39) (v := nI (clCnt a.S kind K)) dX9_step_39 hG.2.1 ?_
    refine V.iconst (pc := 42) (v := nI 1) dX9_step_42 (by decide) ?_
    refine V.isub (pc := 43) (v := pv (clCnt a.S kind K)) dX9_step_43 (pv_sub _) ?_
    refine cp_X9_116 (pc := 44) dX9_step_44 (ok_X9_in x (clCnt a.S kind K) hx (by omega)) (by omega) (Nat.le_of_ble_eq_true rfl) ?_
    refine V.ifB_ne (pc := 47) 54 dX9_step_47 (by decide) (fun h_47 => ?_) (fun h_47 => ?_)
    · have hxc := of_decide_eq_true h_47
      refine V.iconst (pc := 54) (v := nI 0) dX9_step_54 (by decide) ?_
      refine V.iconst (pc := 55) (v := nI 2) dX9_step_55 (by decide) ?_
      refine V.iconst (pc := 56) (v := nI 0) dX9_step_56 (by decide) ?_
      refine cp_X9_119 (pc := 57) dX9_step_57 (ok_bad0 2 0 hth1) (by omega) (Nat.le_of_ble_eq_true rfl) ?_
      refine V.ifN_eq (pc := 60) 67 dX9_step_60 (by decide) (by decide) (fun h_60 => ?_) (fun h_ => absurd h_ (by decide))
      refine V.aload_n (pc := 67) 0 dX9_step_67 rfl ?_
      refine gf_X9_32 (pc := 68) dX9_step_68 ?_
      refine V.iload_n (pc := 71) 2 dX9_step_71 rfl ?_
      refine V.iald (pc := 72) (k := 110) (n := 16) (v := nI (clStp a.S kind K x)) (Nat.le_of_ble_eq_true rfl) (fun _ _ => rfl) x (by omega) (by decide) dX9_step_72 (hG.2.2.2 x hxc) ?_
      exact V.iret (pc := 73) hF dX9_step_73 (RP.mk ((if_pos (by omega)).trans (if_pos hxc)) hRf1 hth1 hC1)
    · have hxc := of_decide_eq_false h_47
      refine V.iconst (pc := 50) (v := nI 1) dX9_step_50 (by decide) ?_
      refine V.goto (pc := 51) 55 dX9_step_51 (by decide) ?_
      refine V.iconst (pc := 55) (v := nI 2) dX9_step_55 (by decide) ?_
      refine V.iconst (pc := 56) (v := nI 0) dX9_step_56 (by decide) ?_
      refine cl_X9_119 (pc := 57) dX9_step_57 (ok_bad1 2 0 hth1 (by decide) (by decide) (by decide)) (by omega) (Nat.le_of_ble_eq_true rfl) (fun r_ μ_ h_ => ?_)
      obtain ⟨rfl, rfl⟩ := h_
      refine V.ifN_eq (pc := 60) 67 dX9_step_60 (by decide) (by decide) (fun h_ => absurd h_ (by decide)) (fun h_60 => ?_)
      refine V.iconst (pc := 63) (v := nI 0) dX9_step_63 (by decide) ?_
      refine V.goto (pc := 64) 73 dX9_step_64 (by decide) ?_
      exact V.iret (pc := 73) hF dX9_step_73 (RP.no ((if_pos (by omega)).trans (if_neg hxc)) (by decide) hRf1 (by decide) hC1)
  · have hk1 := of_decide_eq_false h_12
    refine V.iconst (pc := 15) (v := nI 1) dX9_step_15 (by decide) ?_
    refine V.goto (pc := 16) 20 dX9_step_16 (by decide) ?_
    refine V.iconst (pc := 20) (v := nI 1) dX9_step_20 (by decide) ?_
    refine V.iconst (pc := 21) (v := nI 1) dX9_step_21 (by decide) ?_
    refine cl_X9_119 (pc := 22) dX9_step_22 (ok_bad1 1 1 hth (by decide) (by decide) (by decide)) (by omega) (Nat.le_of_ble_eq_true rfl) (fun r_ μ_ h_ => ?_)
    obtain ⟨rfl, rfl⟩ := h_
    refine V.ifN_eq (pc := 25) 30 dX9_step_25 (by decide) (by decide) (fun h_ => absurd h_ (by decide)) (fun h_25 => ?_)
    refine V.iconst (pc := 28) (v := nI 0) dX9_step_28 (by decide) ?_
    exact V.iret (pc := 29) hF dX9_step_29 (RP.no (if_neg (by omega)) (by decide) hR0 (by decide) hC0)
theorem ok_X9_lazy {G : Gx} {μ : Mu} (a : AS) (hRf : Rf μ a) (x : Nat) (hx : x < 2 ^ 32) (K : Nat) (hKe : GrEnd a.S true K) (Q : Nat) (hQ : QEnd a.S Q) : Runs 9 M_X9_lazy [.ref (G.2.2 96), .int (nI x)] G μ (RP μ (sp_lazy a x K Q)) := by
  refine Runs.go RX9 rfl (by decide) [(0, .ref (G.2.2 96)), (1, .int (nI x))] (Nat.le_of_ble_eq_true rfl) rfl (fun X hF => ?_)
  refine V.aload_n (pc := 0) 0 dX9_lazy_0 rfl ?_
  refine V.iconst (pc := 1) (v := nI 0) dX9_lazy_1 (by decide) ?_
  refine pf_X9_60 (pc := 2) dX9_lazy_2 ?_
  obtain ⟨μ0, hμ0⟩ : ∃ m, m = si μ 96 0 (nI 0) := ⟨_, rfl⟩
  rw [← hμ0]
  have hR0 : Rf μ0 a := by rw [hμ0]; exact hRf.fld 0 _ (by decide)
  have hth : μ0.1 96 0 = nI 0 := by rw [hμ0, si_s]
  have hC0 : Fr μ μ0 RK := by rw [hμ0]; exact (Fr.refl μ RK).si _ _ (by unfold RK; decide)
  clear hμ0
  have hR := hR0.rw
  have hvs := hR.vs
  have hn16 := hvs.n16
  have hu48 := hvs.u48
  have hT2 := hvs.tk
  have hp16 := pow16 hvs
  have hB9 := hvs.B9
  have hp48 := pow48 hvs
  have hLL := hvs.le
  refine V.aload_n (pc := 5) 0 dX9_lazy_5 rfl ?_
  refine V.iload_n (pc := 6) 1 dX9_lazy_6 rfl ?_
  refine V.iconst (pc := 7) (v := nI 0) dX9_lazy_7 (by decide) ?_
  refine V.iconst (pc := 8) (v := nI 2) dX9_lazy_8 (by decide) ?_
  refine cp_X9_116 (pc := 9) dX9_lazy_9 (ok_X9_in x 3 hx (by decide)) (by omega) (Nat.le_of_ble_eq_true rfl) ?_
  refine V.ifB_ne (pc := 12) 19 dX9_lazy_12 (by decide) (fun h_12 => ?_) (fun h_12 => ?_)
  · have hx1 := of_decide_eq_true h_12
    refine V.iconst (pc := 19) (v := nI 0) dX9_lazy_19 (by decide) ?_
    refine V.iconst (pc := 20) (v := nI 1) dX9_lazy_20 (by decide) ?_
    refine V.iconst (pc := 21) (v := nI 1) dX9_lazy_21 (by decide) ?_
    refine cp_X9_119 (pc := 22) dX9_lazy_22 (ok_bad0 1 1 hth) (by omega) (Nat.le_of_ble_eq_true rfl) ?_
    refine V.ifN_eq (pc := 25) 30 dX9_lazy_25 (by decide) (by decide) (fun h_25 => ?_) (fun h_ => absurd h_ (by decide))
    refine V.aload_n (pc := 30) 0 dX9_lazy_30 rfl ?_
    refine cl_X9_239 (pc := 31) dX9_lazy_31 (ok_X9_laysLazy a.S hR Q hQ) (by omega) (Nat.le_of_ble_eq_true rfl) (fun r_ μ_ h_ => ?_)
    obtain ⟨rfl, hkp, hq1, hq2⟩ := h_
    have hR1 := hkp.rw hR
    refine V.aload_n (pc := 34) 0 dX9_lazy_34 rfl ?_
    refine V.iconst (pc := 35) (v := nI 1) dX9_lazy_35 (by decide) ?_
    refine cl_X9_218 (pc := 36) dX9_lazy_36 (ok_X9_goes a.S hR1 1 true rfl (by decide) K hKe) (by omega) (Nat.le_of_ble_eq_true rfl) (fun r_ μ_ h_ => ?_)
    obtain ⟨rfl, hkp1, hkp21, hG⟩ := h_
    have hkp2 := hkp.trans hkp1
    have hRf2 := hkp2.rf hR0
    have hth2 := hkp2.th.trans hth
    have hC2 := hkp2.fr hC0
    have hq21 := hkp21.1.trans hq1
    have hq22 := hkp21.2.trans hq2
    refine V.iload_n (pc := 39) 1 dX9_lazy_39 rfl ?_
    refine V.ifN_ne (pc := 40) 50 dX9_lazy_40 (by decide) (by omega) (fun h_40 => ?_) (fun h_40 => ?_)
    · refine V.iload_n (pc := 50) 1 dX9_lazy_50 rfl ?_
      refine V.iconst (pc := 51) (v := nI 1) dX9_lazy_51 (by decide) ?_
      refine V.icmpN_ne (pc := 52) 62 dX9_lazy_52 (by decide) (by omega) (by omega) (fun h_52 => ?_) (fun h_52 => ?_)
      · refine V.aload_n (pc := 62) 0 dX9_lazy_62 rfl ?_
        refine gf_X9_202 (pc := 63) (v := nI (grAsk a.S true (K + 1))) dX9_lazy_63 hG.2.2.1 ?_
        exact V.iret (pc := 66) hF dX9_lazy_66 (RP.mk ((if_pos (by omega)).trans (by rw [show x = 2 by omega]; rfl)) hRf2 hth2 hC2)
      · refine V.aload_n (pc := 55) 0 dX9_lazy_55 rfl ?_
        refine gf_X9_230 (pc := 56) (v := nI ((qRun a.S Q).ask)) dX9_lazy_56 hq22 ?_
        refine V.goto (pc := 59) 66 dX9_lazy_59 (by decide) ?_
        exact V.iret (pc := 66) hF dX9_lazy_66 (RP.mk ((if_pos (by omega)).trans (by rw [show x = 1 by omega]; rfl)) hRf2 hth2 hC2)
    · refine V.aload_n (pc := 43) 0 dX9_lazy_43 rfl ?_
      refine gf_X9_227 (pc := 44) (v := nI ((qRun a.S Q).set)) dX9_lazy_44 hq21 ?_
      refine V.goto (pc := 47) 66 dX9_lazy_47 (by decide) ?_
      exact V.iret (pc := 66) hF dX9_lazy_66 (RP.mk ((if_pos (by omega)).trans (by rw [show x = 0 by omega]; rfl)) hRf2 hth2 hC2)
  · have hx1 := of_decide_eq_false h_12
    refine V.iconst (pc := 15) (v := nI 1) dX9_lazy_15 (by decide) ?_
    refine V.goto (pc := 16) 20 dX9_lazy_16 (by decide) ?_
    refine V.iconst (pc := 20) (v := nI 1) dX9_lazy_20 (by decide) ?_
    refine V.iconst (pc := 21) (v := nI 1) dX9_lazy_21 (by decide) ?_
    refine cl_X9_119 (pc := 22) dX9_lazy_22 (ok_bad1 1 1 hth (by decide) (by decide) (by decide)) (by omega) (Nat.le_of_ble_eq_true rfl) (fun r_ μ_ h_ => ?_)
    obtain ⟨rfl, rfl⟩ := h_
    refine V.ifN_eq (pc := 25) 30 dX9_lazy_25 (by decide) (by decide) (fun h_ => absurd h_ (by decide)) (fun h_25 => ?_)
    refine V.iconst (pc := 28) (v := nI 0) dX9_lazy_28 (by decide) ?_
    exact V.iret (pc := 29) hF dX9_lazy_29 (RP.no (if_neg (by omega)) (by decide) hR0 (by decide) hC0)
/-! the bound -/
theorem rest_bit {n d i : Nat} (hi : i < n) : (adn (2 ^ n - 1) d).testBit i = !d.testBit i := by
  rw [adn_bit, Nat.testBit_two_pow_sub_one, decide_eq_true hi, Bool.true_and]
theorem dnUp_nz {S : TS} {rest bg : Nat} : ∀ i, ((dnUp S rest bg i).1 = 0 → (dnUp S rest bg i).2 = (0, 1)) ∧ ((dnUp S rest bg i).1 ≠ 0 → (dnUp S rest bg i).2 = (own S bg ((dnUp S rest bg i).1 - 1), S.len ((dnUp S rest bg i).1 - 1)))
  | 0 => ⟨fun _ => rfl, fun h => absurd rfl h⟩
  | i + 1 => by
    have ih := dnUp_nz (S := S) (rest := rest) (bg := bg) i
    rcases dnUp_or S rest bg i with ⟨hb, e⟩ | e
    · rw [e]
      exact ⟨fun z => absurd z (by show ¬ i + 1 = 0; omega), fun _ => rfl⟩
    · rw [e]; exact ih
theorem dn0_iff {S : TS} {rest bg : Nat} : ∀ i, (dnUp S rest bg i).1 = 0 ↔ ∀ j, j < i → rest.testBit j = true → own S bg j = 0
  | 0 => ⟨fun _ j hj => absurd hj (by omega), fun _ => rfl⟩
  | i + 1 => by
    have ih := dn0_iff (S := S) (rest := rest) (bg := bg) i
    constructor
    · intro h j hj hb
      have h0 : (dnUp S rest bg i).1 = 0 := by
        rcases dnUp_or S rest bg i with ⟨-, e⟩ | e
        · rw [e] at h; exact absurd h (by show ¬ i + 1 = 0; omega)
        · rw [← e]; exact h
      by_cases e : j = i
      · subst e
        rcases Nat.eq_zero_or_pos (own S bg j) with z | z
        · exact z
        · have := dnUp_t (S := S) (bg := bg) hb (by rw [(dnUp_nz j).1 h0, moreB]; exact decide_eq_true (by omega))
          rw [this] at h; exact absurd h (by show ¬ j + 1 = 0; omega)
      · exact ih.mp h0 j (by omega) hb
    · intro h
      have h0 := ih.mpr (fun j hj => h j (by omega))
      cases hb : rest.testBit i with
      | false => rw [dnUp_f hb]; exact h0
      | true => rw [dnUp_g (by rw [(dnUp_nz i).1 h0, moreB]; exact decide_eq_false (by rw [h i (by omega) hb]; omega))]; exact h0
def BX (S : TS) (rest bg i bx : Nat) : Prop := ((dnUp S rest bg i).1 ≠ 0 → bx = (dnUp S rest bg i).1) ∧ ((dnUp S rest bg i).1 = 0 → bx ≠ 0 → own S bg (bx - 1) = 0) ∧ (bx = 0 → ∀ j, j < i → rest.testBit j = false) ∧ (bx ≠ 0 → bx - 1 < i ∧ rest.testBit (bx - 1) = true)
theorem BX.zero (S : TS) (rest bg : Nat) : BX S rest bg 0 0 := ⟨fun h => absurd rfl h, fun _ h => absurd rfl h, fun _ j hj => absurd hj (by omega), fun h => absurd rfl h⟩
theorem BX.skip {S : TS} {rest bg i bx : Nat} (h : BX S rest bg i bx) (hb : rest.testBit i = false) : BX S rest bg (i + 1) bx := by
  unfold BX
  rw [dnUp_f hb]
  refine ⟨h.1, h.2.1, fun z j hj => ?_, fun z => ⟨by have := (h.2.2.2 z).1; omega, (h.2.2.2 z).2⟩⟩
  by_cases e : j = i
  · subst e; exact hb
  · exact h.2.2.1 z j (by omega)
theorem BX.first {S : TS} {rest bg i : Nat} (h : BX S rest bg i 0) (hb : rest.testBit i = true) : BX S rest bg (i + 1) (i + 1) := by
  have h0 : (dnUp S rest bg i).1 = 0 := by
    rcases Nat.eq_zero_or_pos (dnUp S rest bg i).1 with z | z
    · exact z
    · have := h.1 (by omega); omega
  rcases Nat.eq_zero_or_pos (own S bg i) with z | z
  · have e := dnUp_g (S := S) (rest := rest) (bg := bg) (i := i) (by rw [(dnUp_nz i).1 h0, moreB]; exact decide_eq_false (by rw [z]; omega))
    unfold BX
    rw [e]
    exact ⟨fun q => absurd h0 q, fun _ _ => by rw [show i + 1 - 1 = i by omega]; exact z, fun q => absurd q (by omega), fun _ => by rw [show i + 1 - 1 = i by omega]; exact ⟨by omega, hb⟩⟩
  · have e := dnUp_t (S := S) (bg := bg) hb (by rw [(dnUp_nz i).1 h0, moreB]; exact decide_eq_true (by omega))
    unfold BX
    rw [e]
    exact ⟨fun _ => rfl, fun q => absurd q (by show ¬ i + 1 = 0; omega), fun q => absurd q (by omega), fun _ => by rw [show i + 1 - 1 = i by omega]; exact ⟨by omega, hb⟩⟩
theorem BX.eq {S : TS} {rest bg i bx : Nat} (h : BX S rest bg i bx) (hbx : bx ≠ 0) (hl : 0 < S.len (bx - 1)) (g c : Nat) : moreB g c (own S bg (bx - 1)) (S.len (bx - 1)) = moreB g c (dnUp S rest bg i).2.1 (dnUp S rest bg i).2.2 := by
  rcases Nat.eq_zero_or_pos (dnUp S rest bg i).1 with z | z
  · rw [(dnUp_nz i).1 z, h.2.1 z hbx]
    unfold moreB
    show decide (0 * c < g * _) = decide (0 * c < g * 1)
    rw [Nat.zero_mul, Nat.mul_one]
    rcases Nat.eq_zero_or_pos g with e | e
    · rw [e, Nat.zero_mul]
    · rw [decide_eq_true (Nat.mul_pos e hl), decide_eq_true e]
  · rw [(dnUp_nz i).2 (by omega), ← h.1 (by omega)]
theorem BX.more {S : TS} {rest bg i bx : Nat} (h : BX S rest bg i bx) (hbx : bx ≠ 0) (hb : rest.testBit i = true) (hl : 0 < S.len (bx - 1)) (hm : moreB (own S bg i) (S.len i) (own S bg (bx - 1)) (S.len (bx - 1)) = true) : BX S rest bg (i + 1) (i + 1) := by
  rw [h.eq hbx hl] at hm
  unfold BX
  rw [dnUp_t hb hm]
  exact ⟨fun _ => rfl, fun q => absurd q (by show ¬ i + 1 = 0; omega), fun q => absurd q (by omega), fun _ => by rw [show i + 1 - 1 = i by omega]; exact ⟨by omega, hb⟩⟩
theorem BX.less {S : TS} {rest bg i bx : Nat} (h : BX S rest bg i bx) (hbx : bx ≠ 0) (hl : 0 < S.len (bx - 1)) (hm : moreB (own S bg i) (S.len i) (own S bg (bx - 1)) (S.len (bx - 1)) = false) : BX S rest bg (i + 1) bx := by
  rw [h.eq hbx hl] at hm
  unfold BX
  rw [dnUp_g hm]
  exact ⟨h.1, h.2.1, fun q => absurd q hbx, fun z => ⟨by have := (h.2.2.2 z).1; omega, (h.2.2.2 z).2⟩⟩
theorem bd_none {S : TS} {rest bg F left sum : Nat} (h : BX S rest bg S.n 0) : ceilGo S bg F rest left sum = sum := by
  apply ceilGo_0
  rcases Nat.eq_zero_or_pos (dnUp S rest bg S.n).1 with z | z
  · exact z
  · have := h.1 (by omega); omega
theorem bd_cut {S : TS} {rest bg F left sum bx : Nat} (h : BX S rest bg S.n bx) (hbx : bx ≠ 0) (hl : left < S.len (bx - 1)) (hF : 0 < F) : ceilGo S bg F rest left sum = sum + own S bg (bx - 1) * left / S.len (bx - 1) := by
  rcases Nat.eq_zero_or_pos (dn S rest bg) with z | z
  · rw [ceilGo_0 z, h.2.1 z hbx, Nat.zero_mul, Nat.zero_div]; rfl
  · obtain ⟨f, rfl⟩ : ∃ f, F = f + 1 := ⟨F - 1, by omega⟩
    have e : bx = dn S rest bg := h.1 (by show dn S rest bg ≠ 0; omega)
    exact ceilGo_c (s := bx - 1) (by omega) hl
theorem bd_step {S : TS} {rest bg F left sum bx : Nat} (h : BX S rest bg S.n bx) (hbx : bx ≠ 0) (hl : ¬ left < S.len (bx - 1)) (hF : cntB rest S.n ≤ F) (hF16 : F ≤ 16) : ∃ F', F' ≤ 16 ∧ cntB (adn rest (2 ^ (bx - 1))) S.n ≤ F' ∧ cntB (adn rest (2 ^ (bx - 1))) S.n + 1 = cntB rest S.n ∧ ceilGo S bg F' (adn rest (2 ^ (bx - 1))) (left - S.len (bx - 1)) (sum + own S bg (bx - 1)) = ceilGo S bg F rest left sum := by
  have hc := cntB_clr (h.2.2.2 hbx).2 S.n
  rw [if_pos (h.2.2.2 hbx).1] at hc
  rcases Nat.eq_zero_or_pos (dn S rest bg) with z | z
  · refine ⟨F, hF16, by omega, hc, ?_⟩
    have z2 : dn S (adn rest (2 ^ (bx - 1))) bg = 0 := (dn0_iff S.n).mpr (fun j hj hb => (dn0_iff S.n).mp z j hj (adn_sub hb))
    rw [ceilGo_0 z, ceilGo_0 z2, h.2.1 z hbx]; rfl
  · obtain ⟨f, rfl⟩ : ∃ f, F = f + 1 := ⟨F - 1, by omega⟩
    have e : bx = dn S rest bg := h.1 (by show dn S rest bg ≠ 0; omega)
    exact ⟨f, by omega, by omega, hc, (ceilGo_s (s := bx - 1) (by omega) hl).symm⟩
theorem adn_or2 (a b c : Nat) : adn a (b ||| c) = adn (adn a b) c := by
  apply Nat.eq_of_testBit_eq
  intro i
  rw [adn_bit, adn_bit, adn_bit, Nat.testBit_or]
  cases a.testBit i <;> cases b.testBit i <;> cases c.testBit i <;> rfl
theorem ok_X9_boundBy {G : Gx} {μ : Mu} (S : TS) (hR : Rw μ 99 S) (set : Nat) (hs : set < 65536) : RunsP 6 M_X9_boundBy [.ref (G.2.2 96), .int (nI set)] G μ (.int (nI (ceilBy S set))) := by
  have hvs := hR.vs
  have hn16 := hvs.n16
  have hu48 := hvs.u48
  have hT2 := hvs.tk
  have hp16 := pow16 hvs
  have hB9 := hvs.B9
  have hp48 := pow48 hvs
  have hLL := hvs.le
  have hbg := bagOf_lt hvs set
  have hcv : cov S set ≤ 48000 := wOf_le hvs _
  have hcb16 := cntB_le (adn (2 ^ S.n - 1) set) S.n
  refine Runs.go RX9 rfl (by decide) [(0, .ref (G.2.2 96)), (1, .int (nI set))] (Nat.le_of_ble_eq_true rfl) rfl (fun X hF => ?_)
  refine V.aload_n (pc := 0) 0 dX9_boundBy_0 rfl ?_
  refine gf_X9_20 (pc := 1) dX9_boundBy_1 ?_
  refine V.iconst (pc := 4) (v := nI 2) dX9_boundBy_4 (by decide) ?_
  refine V.lald (pc := 5) (k := 99) (n := 645) (v := lN S.B) (Nat.le_of_ble_eq_true rfl) (fun _ _ => rfl) 2 (by omega) (by decide) dX9_boundBy_5 hR.B ?_
  refine V.l2i (pc := 6) (v := nI S.B) dX9_boundBy_6 (lN_i _) ?_
  refine V.istore_n (pc := 7) (lv' := [(0, .ref (G.2.2 96)), (1, .int (nI set)), (2, .int (nI S.B))]) dX9_boundBy_7 (by decide) rfl ?_
  refine V.aload_n (pc := 8) 0 dX9_boundBy_8 rfl ?_
  refine V.iload_n (pc := 9) 1 dX9_boundBy_9 rfl ?_
  refine cp_X9_196 (pc := 10) dX9_boundBy_10 (ok_X9_covered S hR set (by omega)) (by omega) (Nat.le_of_ble_eq_true rfl) ?_
  refine V.istore_n (pc := 13) (lv' := [(0, .ref (G.2.2 96)), (1, .int (nI set)), (2, .int (nI S.B)), (3, .int (nI (cov S set)))]) dX9_boundBy_13 (by decide) rfl ?_
  refine V.iload_n (pc := 14) 1 dX9_boundBy_14 rfl ?_
  refine V.istore (pc := 15) (lv' := [(0, .ref (G.2.2 96)), (1, .int (nI set)), (2, .int (nI S.B)), (3, .int (nI (cov S set))), (4, .int (nI set))]) dX9_boundBy_15 (by decide) rfl ?_
  refine V.aload_n (pc := 17) 0 dX9_boundBy_17 rfl ?_
  refine V.iload_n (pc := 18) 1 dX9_boundBy_18 rfl ?_
  refine cp_X9_153 (pc := 19) dX9_boundBy_19 (ok_X9_wordsIn S hR set (by omega)) (by omega) (Nat.le_of_ble_eq_true rfl) ?_
  refine V.lstore (pc := 22) (lv' := [(0, .ref (G.2.2 96)), (1, .int (nI set)), (2, .int (nI S.B)), (3, .int (nI (cov S set))), (4, .int (nI set)), (5, .long (lN (bagOf S set)))]) dX9_boundBy_22 (by decide) rfl ?_
  have L24 : ∀ (n_ : Nat) (left sum done F : Nat), (left ≤ 9999) → (done < 65536) → (cntB (adn (2 ^ S.n - 1) done) S.n ≤ F) → (F ≤ 16) → (sum ≤ 48000 * (17 - cntB (adn (2 ^ S.n - 1) done) S.n)) → (ceilGo S (bagOf S set) F (adn (2 ^ S.n - 1) done) left sum = ceilBy S set) → cntB (adn (2 ^ S.n - 1) done) S.n < n_ → V G RX9 cX9_boundBy 10 6 X 24 [(0, .ref (G.2.2 96)), (1, .int (nI set)), (2, .int (nI left)), (3, .int (nI sum)), (4, .int (nI done)), (5, .long (lN (bagOf S set)))] [] μ := by
    intro n_
    induction n_ with
    | zero => intro left sum done F hleft hdone hFu hFl hsum hgo hm_; exact absurd hm_ (Nat.not_lt_zero _)
    | succ n_ ih24 =>
      intro left sum done F hleft hdone hFu hFl hsum hgo hm_
      have hc16 := cntB_le (adn (2 ^ S.n - 1) done) S.n
      refine V.iconst (pc := 24) (v := (-1)) dX9_boundBy_24 (by decide) ?_
      refine V.istore (pc := 25) (lv' := [(0, .ref (G.2.2 96)), (1, .int (nI set)), (2, .int (nI left)), (3, .int (nI sum)), (4, .int (nI done)), (5, .long (lN (bagOf S set))), (7, .int (-1))]) dX9_boundBy_25 (by decide) rfl ?_
      refine V.iconst (pc := 27) (v := nI 0) dX9_boundBy_27 (by decide) ?_
      refine V.istore (pc := 28) (lv' := [(0, .ref (G.2.2 96)), (1, .int (nI set)), (2, .int (nI left)), (3, .int (nI sum)), (4, .int (nI done)), (5, .long (lN (bagOf S set))), (7, .int (-1)), (8, .int (nI 0))]) dX9_boundBy_28 (by decide) rfl ?_
      have L30 : ∀ (n_ : Nat) (i bx : Nat), (i ≤ S.n) → (BX S (adn (2 ^ S.n - 1) done) (bagOf S set) i bx) → S.n - i < n_ → V G RX9 cX9_boundBy 10 6 X 30 [(0, .ref (G.2.2 96)), (1, .int (nI set)), (2, .int (nI left)), (3, .int (nI sum)), (4, .int (nI done)), (5, .long (lN (bagOf S set))), (7, .int (pv bx)), (8, .int (nI i))] [] μ := by
        intro n_
        induction n_ with
        | zero => intro i bx hi hX hm_; exact absurd hm_ (Nat.not_lt_zero _)
        | succ n_ ih30 =>
          intro i bx hi hX hm_
          have hbxi : bx ≤ i := by
            rcases Nat.eq_zero_or_pos bx with z | z
            · omega
            · have := (hX.2.2.2 (by omega)).1; omega
          refine V.iload (pc := 30) 7 dX9_boundBy_30 rfl ?_
          refine V.aload_n (pc := 32) 0 dX9_boundBy_32 rfl ?_
          refine cp_X9_133 (pc := 33) dX9_boundBy_33 (ok_X9_many S hR) (by omega) (Nat.le_of_ble_eq_true rfl) ?_
          refine V.icmpN_ge (pc := 36) 119 dX9_boundBy_36 (by decide) (by omega) (by omega) (fun h_36 => ?_) (fun h_36 => ?_)
          · have hin : i = S.n := by omega
            subst hin
            refine V.iload (pc := 119) 6 dX9_boundBy_119 rfl ?_
            refine V.iconst (pc := 121) (v := (-1)) dX9_boundBy_121 (by decide) ?_
            refine V.icmp_ne (pc := 122) 127 dX9_boundBy_122 (by decide) (fun h_122 => ?_) (fun h_122 => ?_)
            · have hz : bx ≠ 0 := fun z => h_122 ((pv_ne (by omega)).mpr z)
              have hbn : bx - 1 < S.n := (hX.2.2.2 hz).1
              have hlb := (hvs.sen hbn).1
              have hlb2 := (hvs.sen hbn).2.1
              have ho2 := own_le hvs (bagOf S set) (bx - 1)
              have hcl := cntB_clr (hX.2.2.2 hz).2 S.n
              rw [if_pos (hX.2.2.2 hz).1] at hcl
              have hmul : own S (bagOf S set) (bx - 1) * left ≤ 48000 * 9999 := Nat.mul_le_mul ho2 hleft
              have hz2 := hz
              · refine V.lvs (lv' := [(0, .ref (G.2.2 96)), (1, .int (nI set)), (2, .int (nI left)), (3, .int (nI sum)), (4, .int (nI done)), (5, .long (lN (bagOf S set))), (7, .int (nI (bx - 1))), (8, .int (nI S.n))]) (by rw [show pv bx = nI (bx - 1) from if_neg hz]) ?_
                refine V.aload_n (pc := 127) 0 dX9_boundBy_127 rfl ?_
                refine V.aload_n (pc := 128) 0 dX9_boundBy_128 rfl ?_
                refine V.iload (pc := 129) 6 dX9_boundBy_129 rfl ?_
                refine cp_X9_136 (pc := 131) dX9_boundBy_131 (ok_X9_wordsOf S hR (bx - 1) hbn) (by omega) (Nat.le_of_ble_eq_true rfl) ?_
                refine V.lload (pc := 134) 5 dX9_boundBy_134 rfl ?_
                refine V.ldc2_w (pc := 136) (v := (-1)) mw_5_75 dX9_boundBy_136 ?_
                refine V.lxor (pc := 139) (v := lN (bagOf S set) ^^^ (-1)) dX9_boundBy_139 rfl ?_
                refine V.land (pc := 140) (v := lN (adn (S.bag (bx - 1)) (bagOf S set))) dX9_boundBy_140 (ll_adn _ _) ?_
                refine cp_X9_156 (pc := 141) dX9_boundBy_141 (ok_X9_weightsOf S hR (adn (S.bag (bx - 1)) (bagOf S set)) (by have h1 := adn_le (S.bag (bx - 1)) (bagOf S set); have h2 := (hvs.sen (i := (bx - 1)) hbn).2.2.2.2.2; omega)) (by omega) (Nat.le_of_ble_eq_true rfl) ?_
                refine V.istore (pc := 144) (lv' := [(0, .ref (G.2.2 96)), (1, .int (nI set)), (2, .int (nI left)), (3, .int (nI sum)), (4, .int (nI done)), (5, .long (lN (bagOf S set))), (7, .int (nI (bx - 1))), (8, .int (nI (own S (bagOf S set) (bx - 1))))]) dX9_boundBy_144 (by decide) rfl ?_
                refine V.aload_n (pc := 146) 0 dX9_boundBy_146 rfl ?_
                refine V.iload (pc := 147) 6 dX9_boundBy_147 rfl ?_
                refine cp_X9_160 (pc := 149) dX9_boundBy_149 (ok_X9_lengthOf S hR (bx - 1) hbn) (by omega) (Nat.le_of_ble_eq_true rfl) ?_
                refine V.istore (pc := 152) (lv' := [(0, .ref (G.2.2 96)), (1, .int (nI set)), (2, .int (nI left)), (3, .int (nI sum)), (4, .int (nI done)), (5, .long (lN (bagOf S set))), (7, .int (nI (bx - 1))), (8, .int (nI (own S (bagOf S set) (bx - 1)))), (9, .int (nI (S.len (bx - 1))))]) dX9_boundBy_152 (by decide) rfl ?_
                refine V.iload (pc := 154) 8 dX9_boundBy_154 rfl ?_
                refine V.iload_n (pc := 156) 2 dX9_boundBy_156 rfl ?_
                refine V.icmpN_le (pc := 157) 170 dX9_boundBy_157 (by decide) (by omega) (by omega) (fun h_157 => ?_) (fun h_157 => ?_)
                · obtain ⟨F2, hF1, hF2, hF3, hF4⟩ := bd_step (left := left) (sum := sum) hX hz (by omega) hFu hFl
                  have hpd : (2 : Nat) ^ (bx - 1) < 2 ^ S.n := Nat.pow_lt_pow_right (by decide) hbn
                  refine V.iload_n (pc := 170) 3 dX9_boundBy_170 rfl ?_
                  refine V.iload (pc := 171) 7 dX9_boundBy_171 rfl ?_
                  refine V.iadd (pc := 173) (v := nI (sum + (own S (bagOf S set) (bx - 1)))) dX9_boundBy_173 (nI_add _ _) ?_
                  refine V.istore_n (pc := 174) (lv' := [(0, .ref (G.2.2 96)), (1, .int (nI set)), (2, .int (nI left)), (3, .int (nI (sum + (own S (bagOf S set) (bx - 1))))), (4, .int (nI done)), (5, .long (lN (bagOf S set))), (7, .int (nI (bx - 1))), (8, .int (nI (own S (bagOf S set) (bx - 1)))), (9, .int (nI (S.len (bx - 1))))]) dX9_boundBy_174 (by decide) rfl ?_
                  refine V.iload_n (pc := 175) 2 dX9_boundBy_175 rfl ?_
                  refine V.iload (pc := 176) 8 dX9_boundBy_176 rfl ?_
                  refine V.isub (pc := 178) (v := nI (left - (S.len (bx - 1)))) dX9_boundBy_178 (pk_sub (by omega)) ?_
                  refine V.istore_n (pc := 179) (lv' := [(0, .ref (G.2.2 96)), (1, .int (nI set)), (2, .int (nI (left - (S.len (bx - 1))))), (3, .int (nI (sum + (own S (bagOf S set) (bx - 1))))), (4, .int (nI done)), (5, .long (lN (bagOf S set))), (7, .int (nI (bx - 1))), (8, .int (nI (own S (bagOf S set) (bx - 1)))), (9, .int (nI (S.len (bx - 1))))]) dX9_boundBy_179 (by decide) rfl ?_
                  refine V.iload (pc := 180) 4 dX9_boundBy_180 rfl ?_
                  refine V.iconst (pc := 182) (v := nI 1) dX9_boundBy_182 (by decide) ?_
                  refine V.iload (pc := 183) 6 dX9_boundBy_183 rfl ?_
                  refine V.ishl (pc := 185) (v := nI (2 ^ (bx - 1))) dX9_boundBy_185 (nn_shl1 (by omega)) ?_
                  refine V.ior (pc := 186) (v := nI (done ||| (2 ^ (bx - 1)))) dX9_boundBy_186 (nn_or _ _) ?_
                  refine V.istore (pc := 187) (lv' := [(0, .ref (G.2.2 96)), (1, .int (nI set)), (2, .int (nI (left - (S.len (bx - 1))))), (3, .int (nI (sum + (own S (bagOf S set) (bx - 1))))), (4, .int (nI (done ||| (2 ^ (bx - 1))))), (5, .long (lN (bagOf S set))), (7, .int (nI (bx - 1))), (8, .int (nI (own S (bagOf S set) (bx - 1)))), (9, .int (nI (S.len (bx - 1))))]) dX9_boundBy_187 (by decide) rfl ?_
                  refine V.goto (pc := 189) 24 dX9_boundBy_189 (by decide) ?_
                  refine V.sub (lv' := [(0, .ref (G.2.2 96)), (1, .int (nI set)), (2, .int (nI (left - (S.len (bx - 1))))), (3, .int (nI (sum + (own S (bagOf S set) (bx - 1))))), (4, .int (nI (done ||| (2 ^ (bx - 1))))), (5, .long (lN (bagOf S set)))]) [0, 1, 2, 3, 4, 5] rfl ?_
                  have e_2 : nI (left - (S.len (bx - 1))) = nI (left - S.len (bx - 1)) := congrArg nI (by omega)
                  have e_3 : nI (sum + (own S (bagOf S set) (bx - 1))) = nI (sum + own S (bagOf S set) (bx - 1)) := congrArg nI (by omega)
                  have e_4 : nI (done ||| (2 ^ (bx - 1))) = nI (done ||| 2 ^ (bx - 1)) := congrArg nI (by omega)
                  refine V.lvs (lv' := [(0, .ref (G.2.2 96)), (1, .int (nI set)), (2, .int (nI (left - S.len (bx - 1)))), (3, .int (nI (sum + (own S (bagOf S set) (bx - 1))))), (4, .int (nI (done ||| (2 ^ (bx - 1))))), (5, .long (lN (bagOf S set)))]) (congrArg (fun z => ([(0, .ref (G.2.2 96)), (1, .int (nI set)), (2, .int z), (3, .int (nI (sum + (own S (bagOf S set) (bx - 1))))), (4, .int (nI (done ||| (2 ^ (bx - 1))))), (5, .long (lN (bagOf S set)))] : List (Nat × Value))) e_2) ?_
                  refine V.lvs (lv' := [(0, .ref (G.2.2 96)), (1, .int (nI set)), (2, .int (nI (left - S.len (bx - 1)))), (3, .int (nI (sum + own S (bagOf S set) (bx - 1)))), (4, .int (nI (done ||| (2 ^ (bx - 1))))), (5, .long (lN (bagOf S set)))]) (congrArg (fun z => ([(0, .ref (G.2.2 96)), (1, .int (nI set)), (2, .int (nI (left - S.len (bx - 1)))), (3, .int z), (4, .int (nI (done ||| (2 ^ (bx - 1))))), (5, .long (lN (bagOf S set)))] : List (Nat × Value))) e_3) ?_
                  refine V.lvs (lv' := [(0, .ref (G.2.2 96)), (1, .int (nI set)), (2, .int (nI (left - S.len (bx - 1)))), (3, .int (nI (sum + own S (bagOf S set) (bx - 1)))), (4, .int (nI (done ||| 2 ^ (bx - 1)))), (5, .long (lN (bagOf S set)))]) (congrArg (fun z => ([(0, .ref (G.2.2 96)), (1, .int (nI set)), (2, .int (nI (left - S.len (bx - 1)))), (3, .int (nI (sum + own S (bagOf S set) (bx - 1)))), (4, .int z), (5, .long (lN (bagOf S set)))] : List (Nat × Value))) e_4) ?_
                  exact ih24 (left - S.len (bx - 1)) (sum + own S (bagOf S set) (bx - 1)) (done ||| 2 ^ (bx - 1)) F2 (by omega) (or_lt (k := 16) hdone (by omega)) (by rw [adn_or2]; exact hF2) hF1 (by rw [adn_or2]; omega) (by rw [adn_or2, hF4]; exact hgo) (by rw [adn_or2]; omega)
                · refine V.iload_n (pc := 160) 3 dX9_boundBy_160 rfl ?_
                  refine V.iload (pc := 161) 7 dX9_boundBy_161 rfl ?_
                  refine V.iload_n (pc := 163) 2 dX9_boundBy_163 rfl ?_
                  refine V.imul (pc := 164) (v := nI ((own S (bagOf S set) (bx - 1)) * left)) dX9_boundBy_164 (pk_mul _ _) ?_
                  refine V.iload (pc := 165) 8 dX9_boundBy_165 rfl ?_
                  refine V.idiv (pc := 167) (v := nI (((own S (bagOf S set) (bx - 1)) * left) / (S.len (bx - 1)))) dX9_boundBy_167 (nn_div0 (by omega) (by omega)) (pk_div (by omega) (by omega) (by omega)) ?_
                  refine V.iadd (pc := 168) (v := nI (ceilBy S set)) dX9_boundBy_168 ((nI_add _ _).trans (congrArg nI (by rw [← hgo, bd_cut hX hz (by omega) (by omega)]))) ?_
                  exact V.iret (pc := 169) hF dX9_boundBy_169 ⟨rfl, rfl⟩
            · have hz : bx = 0 := (pv_ne (by omega)).mp h_122
              subst hz
              refine V.iload_n (pc := 125) 3 dX9_boundBy_125 rfl ?_
              exact V.iret (pc := 126) hF dX9_boundBy_126 ⟨by rw [← hgo, bd_none hX], rfl⟩
          · refine V.iload (pc := 39) 4 dX9_boundBy_39 rfl ?_
            refine V.i2l (pc := 41) (v := lN done) dX9_boundBy_41 (nI_l (by omega)) ?_
            refine V.iload (pc := 42) 7 dX9_boundBy_42 rfl ?_
            refine cp_X9_140 (pc := 44) dX9_boundBy_44 (ok_X9_has done i (by omega) (by omega)) (by omega) (Nat.le_of_ble_eq_true rfl) ?_
            refine V.ifB_ne (pc := 47) 113 dX9_boundBy_47 (by decide) (fun h_47 => ?_) (fun h_47 => ?_)
            · refine V.iinc (pc := 113) (v := nI (i + 1)) (lv' := [(0, .ref (G.2.2 96)), (1, .int (nI set)), (2, .int (nI left)), (3, .int (nI sum)), (4, .int (nI done)), (5, .long (lN (bagOf S set))), (7, .int (pv bx)), (8, .int (nI (i + 1)))]) 7 dX9_boundBy_113 rfl (nn_inc _) (by decide) rfl ?_
              refine V.goto (pc := 116) 30 dX9_boundBy_116 (by decide) ?_
              exact ih30 (i + 1) bx (by omega) (hX.skip (by rw [rest_bit h_36, h_47]; rfl)) (by omega)
            · refine V.iload (pc := 50) 6 dX9_boundBy_50 rfl ?_
              refine V.iconst (pc := 52) (v := (-1)) dX9_boundBy_52 (by decide) ?_
              refine V.icmp_eq (pc := 53) 109 dX9_boundBy_53 (by decide) (fun h_53 => ?_) (fun h_53 => ?_)
              · have hz : bx = 0 := (pv_ne (by omega)).mp h_53
                refine V.iload (pc := 109) 7 dX9_boundBy_109 rfl ?_
                refine V.istore (pc := 111) (lv' := [(0, .ref (G.2.2 96)), (1, .int (nI set)), (2, .int (nI left)), (3, .int (nI sum)), (4, .int (nI done)), (5, .long (lN (bagOf S set))), (7, .int (nI i)), (8, .int (nI i))]) dX9_boundBy_111 (by decide) rfl ?_
                refine V.iinc (pc := 113) (v := nI (i + 1)) (lv' := [(0, .ref (G.2.2 96)), (1, .int (nI set)), (2, .int (nI left)), (3, .int (nI sum)), (4, .int (nI done)), (5, .long (lN (bagOf S set))), (7, .int (nI i)), (8, .int (nI (i + 1)))]) 7 dX9_boundBy_113 rfl (nn_inc _) (by decide) rfl ?_
                refine V.goto (pc := 116) 30 dX9_boundBy_116 (by decide) ?_
                have e_7 : nI i = pv (i + 1) := rfl
                refine V.lvs (lv' := [(0, .ref (G.2.2 96)), (1, .int (nI set)), (2, .int (nI left)), (3, .int (nI sum)), (4, .int (nI done)), (5, .long (lN (bagOf S set))), (7, .int (pv (i + 1))), (8, .int (nI (i + 1)))]) (congrArg (fun z => ([(0, .ref (G.2.2 96)), (1, .int (nI set)), (2, .int (nI left)), (3, .int (nI sum)), (4, .int (nI done)), (5, .long (lN (bagOf S set))), (7, .int z), (8, .int (nI (i + 1)))] : List (Nat × Value))) e_7) ?_
                exact ih30 (i + 1) (i + 1) (by omega) (BX.first (by rw [← hz]; exact hX) (by rw [rest_bit h_36, h_47]; rfl)) (by omega)
              · have hz : bx ≠ 0 := fun z => h_53 ((pv_ne (by omega)).mpr z)
                have hbn : bx - 1 < S.n := by have := (hX.2.2.2 hz).1; omega
                have hlb := (hvs.sen hbn).1
                have hlb : 0 < S.len (bx - 1) := by omega
                have hlb2 := (hvs.sen hbn).2.1
                have hli := (hvs.sen h_36).2.1
                have ho1 := own_le hvs (bagOf S set) i
                have ho2 := own_le hvs (bagOf S set) (bx - 1)
                refine V.iconst (pc := 56) (v := nI 1) dX9_boundBy_56 (by decide) ?_
                refine V.aload_n (pc := 57) 0 dX9_boundBy_57 rfl ?_
                refine V.aload_n (pc := 58) 0 dX9_boundBy_58 rfl ?_
                refine V.iload (pc := 59) 7 dX9_boundBy_59 rfl ?_
                refine cp_X9_136 (pc := 61) dX9_boundBy_61 (ok_X9_wordsOf S hR i h_36) (by omega) (Nat.le_of_ble_eq_true rfl) ?_
                refine V.lload (pc := 64) 5 dX9_boundBy_64 rfl ?_
                refine V.ldc2_w (pc := 66) (v := (-1)) mw_5_75 dX9_boundBy_66 ?_
                refine V.lxor (pc := 69) (v := lN (bagOf S set) ^^^ (-1)) dX9_boundBy_69 rfl ?_
                refine V.land (pc := 70) (v := lN (adn (S.bag i) (bagOf S set))) dX9_boundBy_70 (ll_adn _ _) ?_
                refine cp_X9_156 (pc := 71) dX9_boundBy_71 (ok_X9_weightsOf S hR (adn (S.bag i) (bagOf S set)) (by have h1 := adn_le (S.bag i) (bagOf S set); have h2 := (hvs.sen (i := i) h_36).2.2.2.2.2; omega)) (by omega) (Nat.le_of_ble_eq_true rfl) ?_
                refine V.aload_n (pc := 74) 0 dX9_boundBy_74 rfl ?_
                refine V.iload (pc := 75) 7 dX9_boundBy_75 rfl ?_
                refine cp_X9_160 (pc := 77) dX9_boundBy_77 (ok_X9_lengthOf S hR i h_36) (by omega) (Nat.le_of_ble_eq_true rfl) ?_
                refine V.aload_n (pc := 80) 0 dX9_boundBy_80 rfl ?_
                refine V.aload_n (pc := 81) 0 dX9_boundBy_81 rfl ?_
                refine V.iload (pc := 82) 6 dX9_boundBy_82 rfl ?_
                refine V.st (st' := [.int (nI (bx - 1)), .ref (G.2.2 96), .ref (G.2.2 96), .int (nI (S.len i)), .int (nI (own S (bagOf S set) i)), .int (nI 1)]) (by rw [show pv bx = nI (bx - 1) from if_neg hz]; try rfl) ?_
                refine cp_X9_136 (pc := 84) dX9_boundBy_84 (ok_X9_wordsOf S hR (bx - 1) hbn) (by omega) (Nat.le_of_ble_eq_true rfl) ?_
                refine V.lload (pc := 87) 5 dX9_boundBy_87 rfl ?_
                refine V.ldc2_w (pc := 89) (v := (-1)) mw_5_75 dX9_boundBy_89 ?_
                refine V.lxor (pc := 92) (v := lN (bagOf S set) ^^^ (-1)) dX9_boundBy_92 rfl ?_
                refine V.land (pc := 93) (v := lN (adn (S.bag (bx - 1)) (bagOf S set))) dX9_boundBy_93 (ll_adn _ _) ?_
                refine cp_X9_156 (pc := 94) dX9_boundBy_94 (ok_X9_weightsOf S hR (adn (S.bag (bx - 1)) (bagOf S set)) (by have h1 := adn_le (S.bag (bx - 1)) (bagOf S set); have h2 := (hvs.sen (i := (bx - 1)) hbn).2.2.2.2.2; omega)) (by omega) (Nat.le_of_ble_eq_true rfl) ?_
                refine V.aload_n (pc := 97) 0 dX9_boundBy_97 rfl ?_
                refine V.iload (pc := 98) 6 dX9_boundBy_98 rfl ?_
                refine V.st (st' := [.int (nI (bx - 1)), .ref (G.2.2 96), .int (nI (own S (bagOf S set) (bx - 1))), .int (nI (S.len i)), .int (nI (own S (bagOf S set) i)), .int (nI 1)]) (by rw [show pv bx = nI (bx - 1) from if_neg hz]; try rfl) ?_
                refine cp_X9_160 (pc := 100) dX9_boundBy_100 (ok_X9_lengthOf S hR (bx - 1) hbn) (by omega) (Nat.le_of_ble_eq_true rfl) ?_
                refine cp_X9_205 (pc := 103) dX9_boundBy_103 (ok_X9_isMore 1 (own S (bagOf S set) i) (S.len i) (own S (bagOf S set) (bx - 1)) (S.len (bx - 1)) (by decide) (by omega) (by omega) (by omega) (by omega)) (by omega) (Nat.le_of_ble_eq_true rfl) ?_
                refine V.ifB_eq (pc := 106) 113 dX9_boundBy_106 (by decide) (fun h_106 => ?_) (fun h_106 => ?_)
                · refine V.iinc (pc := 113) (v := nI (i + 1)) (lv' := [(0, .ref (G.2.2 96)), (1, .int (nI set)), (2, .int (nI left)), (3, .int (nI sum)), (4, .int (nI done)), (5, .long (lN (bagOf S set))), (7, .int (pv bx)), (8, .int (nI (i + 1)))]) 7 dX9_boundBy_113 rfl (nn_inc _) (by decide) rfl ?_
                  refine V.goto (pc := 116) 30 dX9_boundBy_116 (by decide) ?_
                  exact ih30 (i + 1) bx (by omega) (hX.less hz hlb h_106) (by omega)
                · refine V.iload (pc := 109) 7 dX9_boundBy_109 rfl ?_
                  refine V.istore (pc := 111) (lv' := [(0, .ref (G.2.2 96)), (1, .int (nI set)), (2, .int (nI left)), (3, .int (nI sum)), (4, .int (nI done)), (5, .long (lN (bagOf S set))), (7, .int (nI i)), (8, .int (nI i))]) dX9_boundBy_111 (by decide) rfl ?_
                  refine V.iinc (pc := 113) (v := nI (i + 1)) (lv' := [(0, .ref (G.2.2 96)), (1, .int (nI set)), (2, .int (nI left)), (3, .int (nI sum)), (4, .int (nI done)), (5, .long (lN (bagOf S set))), (7, .int (nI i)), (8, .int (nI (i + 1)))]) 7 dX9_boundBy_113 rfl (nn_inc _) (by decide) rfl ?_
                  refine V.goto (pc := 116) 30 dX9_boundBy_116 (by decide) ?_
                  have e_7 : nI i = pv (i + 1) := rfl
                  refine V.lvs (lv' := [(0, .ref (G.2.2 96)), (1, .int (nI set)), (2, .int (nI left)), (3, .int (nI sum)), (4, .int (nI done)), (5, .long (lN (bagOf S set))), (7, .int (pv (i + 1))), (8, .int (nI (i + 1)))]) (congrArg (fun z => ([(0, .ref (G.2.2 96)), (1, .int (nI set)), (2, .int (nI left)), (3, .int (nI sum)), (4, .int (nI done)), (5, .long (lN (bagOf S set))), (7, .int z), (8, .int (nI (i + 1)))] : List (Nat × Value))) e_7) ?_
                  exact ih30 (i + 1) (i + 1) (by omega) (hX.more hz (by rw [rest_bit h_36, h_47]; rfl) hlb h_106) (by omega)
      have e_7 : (-1) = pv 0 := rfl
      refine V.lvs (lv' := [(0, .ref (G.2.2 96)), (1, .int (nI set)), (2, .int (nI left)), (3, .int (nI sum)), (4, .int (nI done)), (5, .long (lN (bagOf S set))), (7, .int (pv 0)), (8, .int (nI 0))]) (congrArg (fun z => ([(0, .ref (G.2.2 96)), (1, .int (nI set)), (2, .int (nI left)), (3, .int (nI sum)), (4, .int (nI done)), (5, .long (lN (bagOf S set))), (7, .int z), (8, .int (nI 0))] : List (Nat × Value))) e_7) ?_
      exact L30 _ 0 0 (by omega) (BX.zero _ _ _) (Nat.lt_succ_self _)
  exact L24 _ S.B (cov S set) set 16 hB9 hs (by omega) (by omega) (by omega) rfl (Nat.lt_succ_self _)
theorem clRun_cong {S : TS} {f g : Nat → Nat} (h : ∀ j, f j = g j) : ∀ k, clRun S f k = clRun S g k
  | 0 => rfl
  | k + 1 => by rw [clRun, clRun, clRun_cong h k, h k]
theorem bd_eq (S : TS) (K : Nat) : bdL S K = (clRun S (fun j => grPick S true j - 1) K).2.1 ∧ bdB S K = (clRun S (fun j => grPick S true j - 1) K).2.2 := by
  unfold bdL bdB
  rw [(cl1 S K).2.1, clRun_cong (f := clStp S 1 K) (g := fun j => grPick S true j - 1) (cl1 S K).2.2]
  exact ⟨rfl, rfl⟩
theorem ok_X9_bound {G : Gx} {μ : Mu} (a : AS) (hRf : Rf μ a) (x : Nat) (hx : x < 2 ^ 32) (K : Nat) (hKe : GrEnd a.S true K) : Runs 9 M_X9_bound [.ref (G.2.2 96), .int (nI x)] G μ (RP μ (sp_bound a x K)) := by
  refine Runs.go RX9 rfl (by decide) [(0, .ref (G.2.2 96)), (1, .int (nI x))] (Nat.le_of_ble_eq_true rfl) rfl (fun X hF => ?_)
  refine V.aload_n (pc := 0) 0 dX9_bound_0 rfl ?_
  refine V.iconst (pc := 1) (v := nI 0) dX9_bound_1 (by decide) ?_
  refine pf_X9_60 (pc := 2) dX9_bound_2 ?_
  obtain ⟨μ0, hμ0⟩ : ∃ m, m = si μ 96 0 (nI 0) := ⟨_, rfl⟩
  rw [← hμ0]
  have hR0 : Rf μ0 a := by rw [hμ0]; exact hRf.fld 0 _ (by decide)
  have hth : μ0.1 96 0 = nI 0 := by rw [hμ0, si_s]
  have hC0 : Fr μ μ0 RK := by rw [hμ0]; exact (Fr.refl μ RK).si _ _ (by unfold RK; decide)
  clear hμ0
  have hR := hR0.rw
  have hvs := hR.vs
  have hn16 := hvs.n16
  have hu48 := hvs.u48
  have hT2 := hvs.tk
  have hp16 := pow16 hvs
  have hB9 := hvs.B9
  have hp48 := pow48 hvs
  have hLL := hvs.le
  refine V.aload_n (pc := 5) 0 dX9_bound_5 rfl ?_
  refine V.iload_n (pc := 6) 1 dX9_bound_6 rfl ?_
  refine V.iconst (pc := 7) (v := nI 0) dX9_bound_7 (by decide) ?_
  refine V.iconst (pc := 8) (v := nI 3) dX9_bound_8 (by decide) ?_
  refine cp_X9_116 (pc := 9) dX9_bound_9 (ok_X9_in x 4 hx (by decide)) (by omega) (Nat.le_of_ble_eq_true rfl) ?_
  refine V.ifB_ne (pc := 12) 19 dX9_bound_12 (by decide) (fun h_12 => ?_) (fun h_12 => ?_)
  · have hx1 := of_decide_eq_true h_12
    refine V.iconst (pc := 19) (v := nI 0) dX9_bound_19 (by decide) ?_
    refine V.iconst (pc := 20) (v := nI 1) dX9_bound_20 (by decide) ?_
    refine V.iconst (pc := 21) (v := nI 1) dX9_bound_21 (by decide) ?_
    refine cp_X9_119 (pc := 22) dX9_bound_22 (ok_bad0 1 1 hth) (by omega) (Nat.le_of_ble_eq_true rfl) ?_
    refine V.ifN_eq (pc := 25) 30 dX9_bound_25 (by decide) (by decide) (fun h_25 => ?_) (fun h_ => absurd h_ (by decide))
    refine V.iload_n (pc := 30) 1 dX9_bound_30 rfl ?_
    refine V.ifN_ne (pc := 31) 39 dX9_bound_31 (by decide) (by omega) (fun h_31 => ?_) (fun h_31 => ?_)
    · refine V.aload_n (pc := 39) 0 dX9_bound_39 rfl ?_
      refine V.iconst (pc := 40) (v := nI 1) dX9_bound_40 (by decide) ?_
      refine cl_X9_218 (pc := 41) dX9_bound_41 (ok_X9_goes a.S hR 1 true rfl (by decide) K hKe) (by omega) (Nat.le_of_ble_eq_true rfl) (fun r_ μ_ h_ => ?_)
      obtain ⟨rfl, hkp, -, hG⟩ := h_
      have hR1 := hkp.rw hR
      have hRf1 := hkp.rf hR0
      have hth1 := hkp.th.trans hth
      have hC1 := hkp.fr hC0
      have hKn := hKe.1
      have hstp : ∀ j, j < K → grPick a.S true j - 1 < a.S.n := fun j hj => grPick_lt (hKe.2.2 j hj)
      refine V.aload_n (pc := 44) 0 dX9_bound_44 rfl ?_
      refine V.iconst (pc := 45) (v := nI 0) dX9_bound_45 (by decide) ?_
      refine cp_X9_242 (pc := 46) dX9_bound_46 (ok_X9_boundBy a.S hR1 0 (by decide)) (by omega) (Nat.le_of_ble_eq_true rfl) ?_
      refine V.istore_n (pc := 49) (lv' := [(0, .ref (G.2.2 96)), (1, .int (nI x)), (2, .int (nI (ceilBy a.S 0)))]) dX9_bound_49 (by decide) rfl ?_
      refine V.iconst (pc := 50) (v := nI 0) dX9_bound_50 (by decide) ?_
      refine V.istore_n (pc := 51) (lv' := [(0, .ref (G.2.2 96)), (1, .int (nI x)), (2, .int (nI (ceilBy a.S 0))), (3, .int (nI 0))]) dX9_bound_51 (by decide) rfl ?_
      refine V.iconst (pc := 52) (v := nI 0) dX9_bound_52 (by decide) ?_
      refine V.istore (pc := 53) (lv' := [(0, .ref (G.2.2 96)), (1, .int (nI x)), (2, .int (nI (ceilBy a.S 0))), (3, .int (nI 0)), (4, .int (nI 0))]) dX9_bound_53 (by decide) rfl ?_
      refine V.iconst (pc := 55) (v := nI 0) dX9_bound_55 (by decide) ?_
      refine V.istore (pc := 56) (lv' := [(0, .ref (G.2.2 96)), (1, .int (nI x)), (2, .int (nI (ceilBy a.S 0))), (3, .int (nI 0)), (4, .int (nI 0)), (5, .int (nI 0))]) dX9_bound_56 (by decide) rfl ?_
      have L58 : ∀ (n_ : Nat) (k : Nat), (k ≤ K) → K - k < n_ → V G RX9 cX9_bound 7 9 X 58 [(0, .ref (G.2.2 96)), (1, .int (nI x)), (2, .int (nI ((clRun a.S (fun j => grPick a.S true j - 1) k).2.1))), (3, .int (nI ((clRun a.S (fun j => grPick a.S true j - 1) k).2.2))), (4, .int (nI ((clRun a.S (fun j => grPick a.S true j - 1) k).1))), (5, .int (nI k))] [] μ_ := by
        intro n_
        induction n_ with
        | zero => intro k hk hm_; exact absurd hm_ (Nat.not_lt_zero _)
        | succ n_ ih58 =>
          intro k hk hm_
          have hcr := clRun_lt (stp := (fun j => grPick a.S true j - 1)) hvs k (fun j hj => hstp j (by omega))
          have hcrb := clRun_b (S := a.S) (stp := (fun j => grPick a.S true j - 1)) k
          refine V.iload (pc := 58) 5 dX9_bound_58 rfl ?_
          refine V.aload_n (pc := 60) 0 dX9_bound_60 rfl ?_
          refine gf_X9_209 (pc := 61) (v := nI K) dX9_bound_61 hG.2.1 ?_
          refine V.icmpN_ge (pc := 64) 114 dX9_bound_64 (by decide) (by omega) (by omega) (fun h_64 => ?_) (fun h_64 => ?_)
          · have hkK : K = k := by omega
            subst hkK
            have hbL := bd_eq a.S K
            have hblb := (bdL_le hvs hKe).1
            have hkk := hk
            · refine V.sub [0, 1, 2, 3] rfl ?_
              refine V.lvs (lv' := [(0, .ref (G.2.2 96)), (1, .int (nI x)), (2, .int (nI (bdL a.S K))), (3, .int (nI (bdB a.S K)))]) (by rw [hbL.1, hbL.2]; rfl) ?_
              refine V.iload_n (pc := 114) 1 dX9_bound_114 rfl ?_
              refine V.iconst (pc := 115) (v := nI 3) dX9_bound_115 (by decide) ?_
              refine V.icmpN_ge (pc := 116) 130 dX9_bound_116 (by decide) (by omega) (by omega) (fun h_116 => ?_) (fun h_116 => ?_)
              · refine V.aload_n (pc := 130) 0 dX9_bound_130 rfl ?_
                refine V.iconst (pc := 131) (v := nI 2) dX9_bound_131 (by decide) ?_
                refine cl_X9_224 (pc := 132) dX9_bound_132 (ok_X9_lays a.S hR1 2 (by decide) K hKe) (by omega) (Nat.le_of_ble_eq_true rfl) (fun r_ μ_ h_ => ?_)
                obtain ⟨rfl, hkp2, hG2⟩ := h_
                have hkp3 := hkp.trans hkp2
                have hR2 := hkp3.rw hR
                have hRf2 := hkp3.rf hR0
                have hth2 := hkp3.th.trans hth
                have hC2 := hkp3.fr hC0
                have hcs := clSet_lt hvs (kind := 2) hKe
                have hcv : cov a.S (clSet a.S 2 K) ≤ 48000 := wOf_le hvs _
                refine V.iload_n (pc := 135) 2 dX9_bound_135 rfl ?_
                refine V.ifN_ne (pc := 136) 145 dX9_bound_136 (by decide) (by omega) (fun h_136 => ?_) (fun h_136 => ?_)
                · refine V.aload_n (pc := 145) 0 dX9_bound_145 rfl ?_
                  refine V.aload_n (pc := 146) 0 dX9_bound_146 rfl ?_
                  refine gf_X9_212 (pc := 147) (v := nI (clSet a.S 2 K)) dX9_bound_147 hG2.1 ?_
                  refine cp_X9_196 (pc := 150) dX9_bound_150 (ok_X9_covered a.S hR2 (clSet a.S 2 K) (by omega)) (by omega) (Nat.le_of_ble_eq_true rfl) ?_
                  refine V.sipush (pc := 153) (v := nI 1000) dX9_bound_153 (by decide) ?_
                  refine V.imul (pc := 156) (v := nI ((cov a.S (clSet a.S 2 K)) * 1000)) dX9_bound_156 (pk_mul _ _) ?_
                  refine V.iload_n (pc := 157) 2 dX9_bound_157 rfl ?_
                  refine V.idiv (pc := 158) (v := nI (((cov a.S (clSet a.S 2 K)) * 1000) / (bdL a.S K))) dX9_bound_158 (nn_div0 (by omega) (by omega)) (pk_div (by omega) (by omega) (by omega)) ?_
                  exact V.iret (pc := 159) hF dX9_bound_159 (RP.mk ((if_pos (by omega)).trans (by rw [show x = 3 by omega]; show rOk (if bdL a.S K = 0 then _ else _) a = _; rw [if_neg (by omega)])) hRf2 hth2 hC2)
                · refine V.sipush (pc := 139) (v := nI 1000) dX9_bound_139 (by decide) ?_
                  refine V.goto (pc := 142) 159 dX9_bound_142 (by decide) ?_
                  exact V.iret (pc := 159) hF dX9_bound_159 (RP.mk ((if_pos (by omega)).trans (by rw [show x = 3 by omega]; show rOk (if bdL a.S K = 0 then _ else _) a = _; rw [if_pos h_136])) hRf2 hth2 hC2)
              · refine V.iload_n (pc := 119) 1 dX9_bound_119 rfl ?_
                refine V.iconst (pc := 120) (v := nI 1) dX9_bound_120 (by decide) ?_
                refine V.icmpN_ne (pc := 121) 128 dX9_bound_121 (by decide) (by omega) (by omega) (fun h_121 => ?_) (fun h_121 => ?_)
                · refine V.iload_n (pc := 128) 3 dX9_bound_128 rfl ?_
                  exact V.iret (pc := 129) hF dX9_bound_129 (RP.mk ((if_pos (by omega)).trans (by rw [show x = 2 by omega]; rfl)) hRf1 hth1 hC1)
                · refine V.iload_n (pc := 124) 2 dX9_bound_124 rfl ?_
                  refine V.goto (pc := 125) 129 dX9_bound_125 (by decide) ?_
                  exact V.iret (pc := 129) hF dX9_bound_129 (RP.mk ((if_pos (by omega)).trans (by rw [show x = 1 by omega]; rfl)) hRf1 hth1 hC1)
          · have hcb := ceilBy_le hvs ((clRun a.S (fun j => grPick a.S true j - 1) k).1 ||| chain a.S (grPick a.S true k - 1))
            refine V.iload (pc := 67) 4 dX9_bound_67 rfl ?_
            refine V.aload_n (pc := 69) 0 dX9_bound_69 rfl ?_
            refine V.aload_n (pc := 70) 0 dX9_bound_70 rfl ?_
            refine gf_X9_32 (pc := 71) dX9_bound_71 ?_
            refine V.iload (pc := 74) 5 dX9_bound_74 rfl ?_
            refine V.iald (pc := 76) (k := 110) (n := 16) (v := nI (grPick a.S true k - 1)) (Nat.le_of_ble_eq_true rfl) (fun _ _ => rfl) k (by omega) (by decide) dX9_bound_76 (hG.2.2.2 k h_64) ?_
            refine cp_X9_163 (pc := 77) dX9_bound_77 (ok_X9_chain a.S hR1 (grPick a.S true k - 1) (hstp k h_64)) (by omega) (Nat.le_of_ble_eq_true rfl) ?_
            refine V.ior (pc := 80) (v := nI (((clRun a.S (fun j => grPick a.S true j - 1) k).1) ||| (chain a.S (grPick a.S true k - 1)))) dX9_bound_80 (nn_or _ _) ?_
            refine V.istore (pc := 81) (lv' := [(0, .ref (G.2.2 96)), (1, .int (nI x)), (2, .int (nI ((clRun a.S (fun j => grPick a.S true j - 1) k).2.1))), (3, .int (nI ((clRun a.S (fun j => grPick a.S true j - 1) k).2.2))), (4, .int (nI (((clRun a.S (fun j => grPick a.S true j - 1) k).1) ||| (chain a.S (grPick a.S true k - 1))))), (5, .int (nI k))]) dX9_bound_81 (by decide) rfl ?_
            refine V.aload_n (pc := 83) 0 dX9_bound_83 rfl ?_
            refine V.iload (pc := 84) 4 dX9_bound_84 rfl ?_
            refine cp_X9_242 (pc := 86) dX9_bound_86 (ok_X9_boundBy a.S hR1 ((clRun a.S (fun j => grPick a.S true j - 1) k).1 ||| chain a.S (grPick a.S true k - 1)) (by have := or_lt hcr.1 (chain_ltn (hstp k h_64)); omega)) (by omega) (Nat.le_of_ble_eq_true rfl) ?_
            refine V.istore (pc := 89) (lv' := [(0, .ref (G.2.2 96)), (1, .int (nI x)), (2, .int (nI ((clRun a.S (fun j => grPick a.S true j - 1) k).2.1))), (3, .int (nI ((clRun a.S (fun j => grPick a.S true j - 1) k).2.2))), (4, .int (nI (((clRun a.S (fun j => grPick a.S true j - 1) k).1) ||| (chain a.S (grPick a.S true k - 1))))), (5, .int (nI k)), (6, .int (nI (ceilBy a.S ((clRun a.S (fun j => grPick a.S true j - 1) k).1 ||| chain a.S (grPick a.S true k - 1)))))]) dX9_bound_89 (by decide) rfl ?_
            refine V.iload (pc := 91) 6 dX9_bound_91 rfl ?_
            refine V.iload_n (pc := 93) 2 dX9_bound_93 rfl ?_
            refine V.icmpN_lt (pc := 94) 100 dX9_bound_94 (by decide) (by omega) (by omega) (fun h_94 => ?_) (fun h_94 => ?_)
            · refine V.iload (pc := 100) 6 dX9_bound_100 rfl ?_
              refine V.istore_n (pc := 102) (lv' := [(0, .ref (G.2.2 96)), (1, .int (nI x)), (2, .int (nI (ceilBy a.S ((clRun a.S (fun j => grPick a.S true j - 1) k).1 ||| chain a.S (grPick a.S true k - 1))))), (3, .int (nI ((clRun a.S (fun j => grPick a.S true j - 1) k).2.2))), (4, .int (nI (((clRun a.S (fun j => grPick a.S true j - 1) k).1) ||| (chain a.S (grPick a.S true k - 1))))), (5, .int (nI k)), (6, .int (nI (ceilBy a.S ((clRun a.S (fun j => grPick a.S true j - 1) k).1 ||| chain a.S (grPick a.S true k - 1)))))]) dX9_bound_102 (by decide) rfl ?_
              refine V.iload (pc := 103) 5 dX9_bound_103 rfl ?_
              refine V.iconst (pc := 105) (v := nI 1) dX9_bound_105 (by decide) ?_
              refine V.iadd (pc := 106) (v := nI (k + 1)) dX9_bound_106 (nI_add _ _) ?_
              refine V.istore_n (pc := 107) (lv' := [(0, .ref (G.2.2 96)), (1, .int (nI x)), (2, .int (nI (ceilBy a.S ((clRun a.S (fun j => grPick a.S true j - 1) k).1 ||| chain a.S (grPick a.S true k - 1))))), (3, .int (nI (k + 1))), (4, .int (nI (((clRun a.S (fun j => grPick a.S true j - 1) k).1) ||| (chain a.S (grPick a.S true k - 1))))), (5, .int (nI k)), (6, .int (nI (ceilBy a.S ((clRun a.S (fun j => grPick a.S true j - 1) k).1 ||| chain a.S (grPick a.S true k - 1)))))]) dX9_bound_107 (by decide) rfl ?_
              refine V.iinc (pc := 108) (v := nI (k + 1)) (lv' := [(0, .ref (G.2.2 96)), (1, .int (nI x)), (2, .int (nI (ceilBy a.S ((clRun a.S (fun j => grPick a.S true j - 1) k).1 ||| chain a.S (grPick a.S true k - 1))))), (3, .int (nI (k + 1))), (4, .int (nI (((clRun a.S (fun j => grPick a.S true j - 1) k).1) ||| (chain a.S (grPick a.S true k - 1))))), (5, .int (nI (k + 1))), (6, .int (nI (ceilBy a.S ((clRun a.S (fun j => grPick a.S true j - 1) k).1 ||| chain a.S (grPick a.S true k - 1)))))]) 5 dX9_bound_108 rfl (nn_inc _) (by decide) rfl ?_
              refine V.goto (pc := 111) 58 dX9_bound_111 (by decide) ?_
              refine V.sub (lv' := [(0, .ref (G.2.2 96)), (1, .int (nI x)), (2, .int (nI (ceilBy a.S ((clRun a.S (fun j => grPick a.S true j - 1) k).1 ||| chain a.S (grPick a.S true k - 1))))), (3, .int (nI (k + 1))), (4, .int (nI (((clRun a.S (fun j => grPick a.S true j - 1) k).1) ||| (chain a.S (grPick a.S true k - 1))))), (5, .int (nI (k + 1)))]) [0, 1, 2, 3, 4, 5] rfl ?_
              have e_2 : nI (ceilBy a.S ((clRun a.S (fun j => grPick a.S true j - 1) k).1 ||| chain a.S (grPick a.S true k - 1))) = nI ((clRun a.S (fun j => grPick a.S true j - 1) (k + 1)).2.1) := by rw [clRun_t h_94]
              have e_3 : nI (k + 1) = nI ((clRun a.S (fun j => grPick a.S true j - 1) (k + 1)).2.2) := by rw [clRun_t h_94]
              have e_4 : nI (((clRun a.S (fun j => grPick a.S true j - 1) k).1) ||| (chain a.S (grPick a.S true k - 1))) = nI ((clRun a.S (fun j => grPick a.S true j - 1) (k + 1)).1) := by rw [clRun_t h_94]
              refine V.lvs (lv' := [(0, .ref (G.2.2 96)), (1, .int (nI x)), (2, .int (nI ((clRun a.S (fun j => grPick a.S true j - 1) (k + 1)).2.1))), (3, .int (nI (k + 1))), (4, .int (nI (((clRun a.S (fun j => grPick a.S true j - 1) k).1) ||| (chain a.S (grPick a.S true k - 1))))), (5, .int (nI (k + 1)))]) (congrArg (fun z => ([(0, .ref (G.2.2 96)), (1, .int (nI x)), (2, .int z), (3, .int (nI (k + 1))), (4, .int (nI (((clRun a.S (fun j => grPick a.S true j - 1) k).1) ||| (chain a.S (grPick a.S true k - 1))))), (5, .int (nI (k + 1)))] : List (Nat × Value))) e_2) ?_
              refine V.lvs (lv' := [(0, .ref (G.2.2 96)), (1, .int (nI x)), (2, .int (nI ((clRun a.S (fun j => grPick a.S true j - 1) (k + 1)).2.1))), (3, .int (nI ((clRun a.S (fun j => grPick a.S true j - 1) (k + 1)).2.2))), (4, .int (nI (((clRun a.S (fun j => grPick a.S true j - 1) k).1) ||| (chain a.S (grPick a.S true k - 1))))), (5, .int (nI (k + 1)))]) (congrArg (fun z => ([(0, .ref (G.2.2 96)), (1, .int (nI x)), (2, .int (nI ((clRun a.S (fun j => grPick a.S true j - 1) (k + 1)).2.1))), (3, .int z), (4, .int (nI (((clRun a.S (fun j => grPick a.S true j - 1) k).1) ||| (chain a.S (grPick a.S true k - 1))))), (5, .int (nI (k + 1)))] : List (Nat × Value))) e_3) ?_
              refine V.lvs (lv' := [(0, .ref (G.2.2 96)), (1, .int (nI x)), (2, .int (nI ((clRun a.S (fun j => grPick a.S true j - 1) (k + 1)).2.1))), (3, .int (nI ((clRun a.S (fun j => grPick a.S true j - 1) (k + 1)).2.2))), (4, .int (nI ((clRun a.S (fun j => grPick a.S true j - 1) (k + 1)).1))), (5, .int (nI (k + 1)))]) (congrArg (fun z => ([(0, .ref (G.2.2 96)), (1, .int (nI x)), (2, .int (nI ((clRun a.S (fun j => grPick a.S true j - 1) (k + 1)).2.1))), (3, .int (nI ((clRun a.S (fun j => grPick a.S true j - 1) (k + 1)).2.2))), (4, .int z), (5, .int (nI (k + 1)))] : List (Nat × Value))) e_4) ?_
              exact ih58 (k + 1) (by omega) (by omega)
            · refine V.goto (pc := 97) 108 dX9_bound_97 (by decide) ?_
              refine V.iinc (pc := 108) (v := nI (k + 1)) (lv' := [(0, .ref (G.2.2 96)), (1, .int (nI x)), (2, .int (nI ((clRun a.S (fun j => grPick a.S true j - 1) k).2.1))), (3, .int (nI ((clRun a.S (fun j => grPick a.S true j - 1) k).2.2))), (4, .int (nI (((clRun a.S (fun j => grPick a.S true j - 1) k).1) ||| (chain a.S (grPick a.S true k - 1))))), (5, .int (nI (k + 1))), (6, .int (nI (ceilBy a.S ((clRun a.S (fun j => grPick a.S true j - 1) k).1 ||| chain a.S (grPick a.S true k - 1)))))]) 5 dX9_bound_108 rfl (nn_inc _) (by decide) rfl ?_
              refine V.goto (pc := 111) 58 dX9_bound_111 (by decide) ?_
              refine V.sub (lv' := [(0, .ref (G.2.2 96)), (1, .int (nI x)), (2, .int (nI ((clRun a.S (fun j => grPick a.S true j - 1) k).2.1))), (3, .int (nI ((clRun a.S (fun j => grPick a.S true j - 1) k).2.2))), (4, .int (nI (((clRun a.S (fun j => grPick a.S true j - 1) k).1) ||| (chain a.S (grPick a.S true k - 1))))), (5, .int (nI (k + 1)))]) [0, 1, 2, 3, 4, 5] rfl ?_
              have e_2 : nI ((clRun a.S (fun j => grPick a.S true j - 1) k).2.1) = nI ((clRun a.S (fun j => grPick a.S true j - 1) (k + 1)).2.1) := by rw [clRun_f (by omega)]
              have e_3 : nI ((clRun a.S (fun j => grPick a.S true j - 1) k).2.2) = nI ((clRun a.S (fun j => grPick a.S true j - 1) (k + 1)).2.2) := by rw [clRun_f (by omega)]
              have e_4 : nI (((clRun a.S (fun j => grPick a.S true j - 1) k).1) ||| (chain a.S (grPick a.S true k - 1))) = nI ((clRun a.S (fun j => grPick a.S true j - 1) (k + 1)).1) := by rw [clRun_f (by omega)]
              refine V.lvs (lv' := [(0, .ref (G.2.2 96)), (1, .int (nI x)), (2, .int (nI ((clRun a.S (fun j => grPick a.S true j - 1) (k + 1)).2.1))), (3, .int (nI ((clRun a.S (fun j => grPick a.S true j - 1) k).2.2))), (4, .int (nI (((clRun a.S (fun j => grPick a.S true j - 1) k).1) ||| (chain a.S (grPick a.S true k - 1))))), (5, .int (nI (k + 1)))]) (congrArg (fun z => ([(0, .ref (G.2.2 96)), (1, .int (nI x)), (2, .int z), (3, .int (nI ((clRun a.S (fun j => grPick a.S true j - 1) k).2.2))), (4, .int (nI (((clRun a.S (fun j => grPick a.S true j - 1) k).1) ||| (chain a.S (grPick a.S true k - 1))))), (5, .int (nI (k + 1)))] : List (Nat × Value))) e_2) ?_
              refine V.lvs (lv' := [(0, .ref (G.2.2 96)), (1, .int (nI x)), (2, .int (nI ((clRun a.S (fun j => grPick a.S true j - 1) (k + 1)).2.1))), (3, .int (nI ((clRun a.S (fun j => grPick a.S true j - 1) (k + 1)).2.2))), (4, .int (nI (((clRun a.S (fun j => grPick a.S true j - 1) k).1) ||| (chain a.S (grPick a.S true k - 1))))), (5, .int (nI (k + 1)))]) (congrArg (fun z => ([(0, .ref (G.2.2 96)), (1, .int (nI x)), (2, .int (nI ((clRun a.S (fun j => grPick a.S true j - 1) (k + 1)).2.1))), (3, .int z), (4, .int (nI (((clRun a.S (fun j => grPick a.S true j - 1) k).1) ||| (chain a.S (grPick a.S true k - 1))))), (5, .int (nI (k + 1)))] : List (Nat × Value))) e_3) ?_
              refine V.lvs (lv' := [(0, .ref (G.2.2 96)), (1, .int (nI x)), (2, .int (nI ((clRun a.S (fun j => grPick a.S true j - 1) (k + 1)).2.1))), (3, .int (nI ((clRun a.S (fun j => grPick a.S true j - 1) (k + 1)).2.2))), (4, .int (nI ((clRun a.S (fun j => grPick a.S true j - 1) (k + 1)).1))), (5, .int (nI (k + 1)))]) (congrArg (fun z => ([(0, .ref (G.2.2 96)), (1, .int (nI x)), (2, .int (nI ((clRun a.S (fun j => grPick a.S true j - 1) (k + 1)).2.1))), (3, .int (nI ((clRun a.S (fun j => grPick a.S true j - 1) (k + 1)).2.2))), (4, .int z), (5, .int (nI (k + 1)))] : List (Nat × Value))) e_4) ?_
              exact ih58 (k + 1) (by omega) (by omega)
      have e_2 : nI (ceilBy a.S 0) = nI ((clRun a.S (fun j => grPick a.S true j - 1) 0).2.1) := rfl
      have e_3 : nI 0 = nI ((clRun a.S (fun j => grPick a.S true j - 1) 0).2.2) := rfl
      have e_4 : nI 0 = nI ((clRun a.S (fun j => grPick a.S true j - 1) 0).1) := rfl
      refine V.lvs (lv' := [(0, .ref (G.2.2 96)), (1, .int (nI x)), (2, .int (nI ((clRun a.S (fun j => grPick a.S true j - 1) 0).2.1))), (3, .int (nI 0)), (4, .int (nI 0)), (5, .int (nI 0))]) (congrArg (fun z => ([(0, .ref (G.2.2 96)), (1, .int (nI x)), (2, .int z), (3, .int (nI 0)), (4, .int (nI 0)), (5, .int (nI 0))] : List (Nat × Value))) e_2) ?_
      refine V.lvs (lv' := [(0, .ref (G.2.2 96)), (1, .int (nI x)), (2, .int (nI ((clRun a.S (fun j => grPick a.S true j - 1) 0).2.1))), (3, .int (nI ((clRun a.S (fun j => grPick a.S true j - 1) 0).2.2))), (4, .int (nI 0)), (5, .int (nI 0))]) (congrArg (fun z => ([(0, .ref (G.2.2 96)), (1, .int (nI x)), (2, .int (nI ((clRun a.S (fun j => grPick a.S true j - 1) 0).2.1))), (3, .int z), (4, .int (nI 0)), (5, .int (nI 0))] : List (Nat × Value))) e_3) ?_
      refine V.lvs (lv' := [(0, .ref (G.2.2 96)), (1, .int (nI x)), (2, .int (nI ((clRun a.S (fun j => grPick a.S true j - 1) 0).2.1))), (3, .int (nI ((clRun a.S (fun j => grPick a.S true j - 1) 0).2.2))), (4, .int (nI ((clRun a.S (fun j => grPick a.S true j - 1) 0).1))), (5, .int (nI 0))]) (congrArg (fun z => ([(0, .ref (G.2.2 96)), (1, .int (nI x)), (2, .int (nI ((clRun a.S (fun j => grPick a.S true j - 1) 0).2.1))), (3, .int (nI ((clRun a.S (fun j => grPick a.S true j - 1) 0).2.2))), (4, .int z), (5, .int (nI 0))] : List (Nat × Value))) e_4) ?_
      exact L58 _ 0 (by omega) (Nat.lt_succ_self _)
    · refine V.aload_n (pc := 34) 0 dX9_bound_34 rfl ?_
      refine cp_X9_221 (pc := 35) dX9_bound_35 (ok_X9_single a.S hR) (by omega) (Nat.le_of_ble_eq_true rfl) ?_
      exact V.iret (pc := 38) hF dX9_bound_38 (RP.mk ((if_pos (by omega)).trans (by subst h_31; rfl)) hR0 hth hC0)
  · have hx1 := of_decide_eq_false h_12
    refine V.iconst (pc := 15) (v := nI 1) dX9_bound_15 (by decide) ?_
    refine V.goto (pc := 16) 20 dX9_bound_16 (by decide) ?_
    refine V.iconst (pc := 20) (v := nI 1) dX9_bound_20 (by decide) ?_
    refine V.iconst (pc := 21) (v := nI 1) dX9_bound_21 (by decide) ?_
    refine cl_X9_119 (pc := 22) dX9_bound_22 (ok_bad1 1 1 hth (by decide) (by decide) (by decide)) (by omega) (Nat.le_of_ble_eq_true rfl) (fun r_ μ_ h_ => ?_)
    obtain ⟨rfl, rfl⟩ := h_
    refine V.ifN_eq (pc := 25) 30 dX9_bound_25 (by decide) (by decide) (fun h_ => absurd h_ (by decide)) (fun h_25 => ?_)
    refine V.iconst (pc := 28) (v := nI 0) dX9_bound_28 (by decide) ?_
    exact V.iret (pc := 29) hF dX9_bound_29 (RP.no (if_neg (by omega)) (by decide) hR0 (by decide) hC0)
