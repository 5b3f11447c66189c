theorem ok_X9_told {G : Gx} {μ : Mu} (a : AS) (hRf : Rf μ a) (x : Nat) (hx : x < 2 ^ 32) : Runs 6 M_X9_told [.ref (G.2.2 96), .int (nI x)] G μ (RP μ (sp_told a x)) := by
  refine Runs.go RX9 rfl (by decide) [(0, .ref (G.2.2 96)), (1, .int (nI x))] (Nat.le_of_ble_eq_true rfl) rfl (fun X hF => ?_)
  refine V.aload_n (pc := 0) 0 dX9_told_0 rfl ?_
  refine V.iconst (pc := 1) (v := nI 0) dX9_told_1 (by decide) ?_
  refine pf_X9_60 (pc := 2) dX9_told_2 ?_
  obtain ⟨μ0, hμ0⟩ : ∃ m, m = si μ 96 0 (nI 0) := ⟨_, rfl⟩
  rw [← hμ0]
  have hR0 : Rf μ0 a := by rw [hμ0]; exact hRf.fld 0 _ (by decide)
  have hth : μ0.1 96 0 = nI 0 := by rw [hμ0, si_s]
  have hC0 : Fr μ μ0 RK := by rw [hμ0]; exact (Fr.refl μ RK).si _ _ (by unfold RK; decide)
  clear hμ0
  have hR := hR0.rw
  have hvs := hR.vs
  have hn16 := hvs.n16
  have hu48 := hvs.u48
  have hT2 := hvs.tk
  have hp16 := pow16 hvs
  have hB9 := hvs.B9
  have hp48 := pow48 hvs
  have hLL := hvs.le
  refine V.aload_n (pc := 5) 0 dX9_told_5 rfl ?_
  refine V.iload_n (pc := 6) 1 dX9_told_6 rfl ?_
  refine V.iconst (pc := 7) (v := nI 0) dX9_told_7 (by decide) ?_
  refine V.bipush (pc := 8) (v := nI 9) dX9_told_8 (by decide) ?_
  refine cp_X9_116 (pc := 10) dX9_told_10 (ok_X9_in x 10 hx (by decide)) (by omega) (Nat.le_of_ble_eq_true rfl) ?_
  refine V.ifB_ne (pc := 13) 20 dX9_told_13 (by decide) (fun h_13 => ?_) (fun h_13 => ?_)
  · have hx1 := of_decide_eq_true h_13
    refine V.iconst (pc := 20) (v := nI 0) dX9_told_20 (by decide) ?_
    refine V.iconst (pc := 21) (v := nI 1) dX9_told_21 (by decide) ?_
    refine V.iconst (pc := 22) (v := nI 1) dX9_told_22 (by decide) ?_
    refine cp_X9_119 (pc := 23) dX9_told_23 (ok_bad0 1 1 hth) (by omega) (Nat.le_of_ble_eq_true rfl) ?_
    refine V.ifN_eq (pc := 26) 31 dX9_told_26 (by decide) (by decide) (fun h_26 => ?_) (fun h_ => absurd h_ (by decide))
    have hpp := Nat.two_pow_pos a.S.n
    refine V.iconst (pc := 31) (v := nI 1) dX9_told_31 (by decide) ?_
    refine V.aload_n (pc := 32) 0 dX9_told_32 rfl ?_
    refine cp_X9_133 (pc := 33) dX9_told_33 (ok_X9_many a.S hR) (by omega) (Nat.le_of_ble_eq_true rfl) ?_
    refine V.ishl (pc := 36) (v := nI (2 ^ a.S.n)) dX9_told_36 (nn_shl1 (by omega)) ?_
    refine V.iconst (pc := 37) (v := nI 1) dX9_told_37 (by decide) ?_
    refine V.isub (pc := 38) (v := nI ((2 ^ a.S.n) - 1)) dX9_told_38 (pk_sub (by omega)) ?_
    refine V.istore_n (pc := 39) (lv' := [(0, .ref (G.2.2 96)), (1, .int (nI x)), (2, .int (nI ((2 ^ a.S.n) - 1)))]) dX9_told_39 (by decide) rfl ?_
    refine V.iload_n (pc := 40) 1 dX9_told_40 rfl ?_
    have hts_41 : x = 0 ∨ x = 1 ∨ x = 2 ∨ x = 3 ∨ x = 4 ∨ x = 5 ∨ x = 6 ∨ x = 7 ∨ x = 8 ∨ 8 < x := by omega
    rcases hts_41 with h_41 | h_41 | h_41 | h_41 | h_41 | h_41 | h_41 | h_41 | h_41 | h_41
    · refine V.tsIn (pc := 41) 0 92 h_41 (by decide) dX9_told_41 (by decide) rfl (by decide) ?_
      refine V.aload_n (pc := 92) 0 dX9_told_92 rfl ?_
      refine cp_X9_133 (pc := 93) dX9_told_93 (ok_X9_many a.S hR) (by omega) (Nat.le_of_ble_eq_true rfl) ?_
      exact V.iret (pc := 96) hF dX9_told_96 (RP.mk ((if_pos (by omega)).trans (by subst h_41; rfl)) hR0 hth hC0)
    · refine V.tsIn (pc := 41) 1 97 h_41 (by decide) dX9_told_41 (by decide) rfl (by decide) ?_
      refine V.aload_n (pc := 97) 0 dX9_told_97 rfl ?_
      refine cp_X9_147 (pc := 98) dX9_told_98 (ok_X9_wordMany a.S hR) (by omega) (Nat.le_of_ble_eq_true rfl) ?_
      exact V.iret (pc := 101) hF dX9_told_101 (RP.mk ((if_pos (by omega)).trans (by subst h_41; rfl)) hR0 hth hC0)
    · refine V.tsIn (pc := 41) 2 102 h_41 (by decide) dX9_told_41 (by decide) rfl (by decide) ?_
      refine V.aload_n (pc := 102) 0 dX9_told_102 rfl ?_
      refine gf_X9_20 (pc := 103) dX9_told_103 ?_
      refine V.iconst (pc := 106) (v := nI 2) dX9_told_106 (by decide) ?_
      refine V.lald (pc := 107) (k := 99) (n := 645) (v := lN a.S.B) (Nat.le_of_ble_eq_true rfl) (fun _ _ => rfl) 2 (by omega) (by decide) dX9_told_107 hR.B ?_
      refine V.l2i (pc := 108) (v := nI a.S.B) dX9_told_108 (lN_i _) ?_
      exact V.iret (pc := 109) hF dX9_told_109 (RP.mk ((if_pos (by omega)).trans (by subst h_41; rfl)) hR0 hth hC0)
    · refine V.tsIn (pc := 41) 3 110 h_41 (by decide) dX9_told_41 (by decide) rfl (by decide) ?_
      refine V.aload_n (pc := 110) 0 dX9_told_110 rfl ?_
      refine V.iload_n (pc := 111) 2 dX9_told_111 rfl ?_
      refine cp_X9_196 (pc := 112) dX9_told_112 (ok_X9_covered a.S hR ((2 ^ a.S.n) - 1) (by omega)) (by omega) (Nat.le_of_ble_eq_true rfl) ?_
      exact V.iret (pc := 115) hF dX9_told_115 (RP.mk ((if_pos (by omega)).trans (by subst h_41; rfl)) hR0 hth hC0)
    · refine V.tsIn (pc := 41) 4 116 h_41 (by decide) dX9_told_41 (by decide) rfl (by decide) ?_
      refine V.aload_n (pc := 116) 0 dX9_told_116 rfl ?_
      refine V.iload_n (pc := 117) 2 dX9_told_117 rfl ?_
      refine cp_X9_166 (pc := 118) dX9_told_118 (ok_X9_length a.S hR ((2 ^ a.S.n) - 1) (by omega)) (by omega) (Nat.le_of_ble_eq_true rfl) ?_
      exact V.iret (pc := 121) hF dX9_told_121 (RP.mk ((if_pos (by omega)).trans (by subst h_41; rfl)) hR0 hth hC0)
    · refine V.tsIn (pc := 41) 5 122 h_41 (by decide) dX9_told_41 (by decide) rfl (by decide) ?_
      refine V.aload_n (pc := 122) 0 dX9_told_122 rfl ?_
      refine gf_X9_63 (pc := 123) (v := nI a.tb) dX9_told_123 hR0.1 ?_
      exact V.iret (pc := 126) hF dX9_told_126 (RP.mk ((if_pos (by omega)).trans (by subst h_41; rfl)) hR0 hth hC0)
    · refine V.tsIn (pc := 41) 6 127 h_41 (by decide) dX9_told_41 (by decide) rfl (by decide) ?_
      refine V.aload_n (pc := 127) 0 dX9_told_127 rfl ?_
      refine gf_X9_177 (pc := 128) (v := nI a.k) dX9_told_128 hR0.2.2.2.2.2.2.1 ?_
      exact V.iret (pc := 131) hF dX9_told_131 (RP.mk ((if_pos (by omega)).trans (by subst h_41; rfl)) hR0 hth hC0)
    · refine V.tsIn (pc := 41) 7 132 h_41 (by decide) dX9_told_41 (by decide) rfl (by decide) ?_
      refine V.aload_n (pc := 132) 0 dX9_told_132 rfl ?_
      refine cp_X9_186 (pc := 133) dX9_told_133 (ok_X9_takenNow a.S hR) (by omega) (Nat.le_of_ble_eq_true rfl) ?_
      exact V.iret (pc := 136) hF dX9_told_136 (RP.mk ((if_pos (by omega)).trans (by subst h_41; rfl)) hR0 hth hC0)
    · refine V.tsIn (pc := 41) 8 137 h_41 (by decide) dX9_told_41 (by decide) rfl (by decide) ?_
      refine V.aload_n (pc := 137) 0 dX9_told_137 rfl ?_
      refine V.aload_n (pc := 138) 0 dX9_told_138 rfl ?_
      refine cp_X9_186 (pc := 139) dX9_told_139 (ok_X9_takenNow a.S hR) (by omega) (Nat.le_of_ble_eq_true rfl) ?_
      refine cp_X9_196 (pc := 142) dX9_told_142 (ok_X9_covered a.S hR a.S.T (by omega)) (by omega) (Nat.le_of_ble_eq_true rfl) ?_
      exact V.iret (pc := 145) hF dX9_told_145 (RP.mk ((if_pos (by omega)).trans (by subst h_41; rfl)) hR0 hth hC0)
    · refine V.tsOut (pc := 41) 146 (by omega) (by omega) dX9_told_41 (by decide) ?_
      refine V.aload_n (pc := 146) 0 dX9_told_146 rfl ?_
      refine V.aload_n (pc := 147) 0 dX9_told_147 rfl ?_
      refine cp_X9_186 (pc := 148) dX9_told_148 (ok_X9_takenNow a.S hR) (by omega) (Nat.le_of_ble_eq_true rfl) ?_
      refine cp_X9_166 (pc := 151) dX9_told_151 (ok_X9_length a.S hR a.S.T (by omega)) (by omega) (Nat.le_of_ble_eq_true rfl) ?_
      exact V.iret (pc := 154) hF dX9_told_154 (RP.mk ((if_pos (by omega)).trans (by rw [show x = 9 by omega]; rfl)) hR0 hth hC0)
  · have hx1 := of_decide_eq_false h_13
    refine V.iconst (pc := 16) (v := nI 1) dX9_told_16 (by decide) ?_
    refine V.goto (pc := 17) 21 dX9_told_17 (by decide) ?_
    refine V.iconst (pc := 21) (v := nI 1) dX9_told_21 (by decide) ?_
    refine V.iconst (pc := 22) (v := nI 1) dX9_told_22 (by decide) ?_
    refine cl_X9_119 (pc := 23) dX9_told_23 (ok_bad1 1 1 hth (by decide) (by decide) (by decide)) (by omega) (Nat.le_of_ble_eq_true rfl) (fun r_ μ_ h_ => ?_)
    obtain ⟨rfl, rfl⟩ := h_
    refine V.ifN_eq (pc := 26) 31 dX9_told_26 (by decide) (by decide) (fun h_ => absurd h_ (by decide)) (fun h_26 => ?_)
    refine V.iconst (pc := 29) (v := nI 0) dX9_told_29 (by decide) ?_
    exact V.iret (pc := 30) hF dX9_told_30 (RP.no (if_neg (by omega)) (by decide) hR0 (by decide) hC0)
theorem ok_X9_sentence {G : Gx} {μ : Mu} (a : AS) (hRf : Rf μ a) (s x : Nat) (hs : s < 2 ^ 32) (hx : x < 2 ^ 32) : Runs 6 M_X9_sentence [.ref (G.2.2 96), .int (nI s), .int (nI x)] G μ (RP μ (sp_sentence a s x)) := by
  refine Runs.go RX9 rfl (by decide) [(0, .ref (G.2.2 96)), (1, .int (nI s)), (2, .int (nI x))] (Nat.le_of_ble_eq_true rfl) rfl (fun X hF => ?_)
  refine V.aload_n (pc := 0) 0 dX9_sentence_0 rfl ?_
  refine V.iconst (pc := 1) (v := nI 0) dX9_sentence_1 (by decide) ?_
  refine pf_X9_60 (pc := 2) dX9_sentence_2 ?_
  obtain ⟨μ0, hμ0⟩ : ∃ m, m = si μ 96 0 (nI 0) := ⟨_, rfl⟩
  rw [← hμ0]
  have hR0 : Rf μ0 a := by rw [hμ0]; exact hRf.fld 0 _ (by decide)
  have hth : μ0.1 96 0 = nI 0 := by rw [hμ0, si_s]
  have hC0 : Fr μ μ0 RK := by rw [hμ0]; exact (Fr.refl μ RK).si _ _ (by unfold RK; decide)
  clear hμ0
  have hR := hR0.rw
  have hvs := hR.vs
  have hn16 := hvs.n16
  have hu48 := hvs.u48
  have hT2 := hvs.tk
  have hp16 := pow16 hvs
  have hB9 := hvs.B9
  have hp48 := pow48 hvs
  have hLL := hvs.le
  refine V.aload_n (pc := 5) 0 dX9_sentence_5 rfl ?_
  refine V.aload_n (pc := 6) 0 dX9_sentence_6 rfl ?_
  refine V.iload_n (pc := 7) 1 dX9_sentence_7 rfl ?_
  refine cp_X9_183 (pc := 8) dX9_sentence_8 (ok_X9_isSentence a.S hR s hs) (by omega) (Nat.le_of_ble_eq_true rfl) ?_
  refine V.ifB_ne (pc := 11) 18 dX9_sentence_11 (by decide) (fun h_11 => ?_) (fun h_11 => ?_)
  · have hsn := of_decide_eq_true h_11
    refine V.iconst (pc := 18) (v := nI 0) dX9_sentence_18 (by decide) ?_
    refine V.iconst (pc := 19) (v := nI 1) dX9_sentence_19 (by decide) ?_
    refine V.iconst (pc := 20) (v := nI 0) dX9_sentence_20 (by decide) ?_
    refine cp_X9_119 (pc := 21) dX9_sentence_21 (ok_bad0 1 0 hth) (by omega) (Nat.le_of_ble_eq_true rfl) ?_
    refine V.ifN_ne (pc := 24) 51 dX9_sentence_24 (by decide) (by decide) (fun h_ => absurd h_ (by decide)) (fun h_24 => ?_)
    refine V.aload_n (pc := 27) 0 dX9_sentence_27 rfl ?_
    refine V.iload_n (pc := 28) 2 dX9_sentence_28 rfl ?_
    refine V.iconst (pc := 29) (v := nI 0) dX9_sentence_29 (by decide) ?_
    refine V.bipush (pc := 30) (v := nI 7) dX9_sentence_30 (by decide) ?_
    refine cp_X9_116 (pc := 32) dX9_sentence_32 (ok_X9_in x 8 hx (by decide)) (by omega) (Nat.le_of_ble_eq_true rfl) ?_
    refine V.ifB_ne (pc := 35) 42 dX9_sentence_35 (by decide) (fun h_35 => ?_) (fun h_35 => ?_)
    · have hx1 := of_decide_eq_true h_35
      refine V.iconst (pc := 42) (v := nI 0) dX9_sentence_42 (by decide) ?_
      refine V.iconst (pc := 43) (v := nI 2) dX9_sentence_43 (by decide) ?_
      refine V.iconst (pc := 44) (v := nI 1) dX9_sentence_44 (by decide) ?_
      refine cp_X9_119 (pc := 45) dX9_sentence_45 (ok_bad0 2 1 hth) (by omega) (Nat.le_of_ble_eq_true rfl) ?_
      refine V.ifN_eq (pc := 48) 53 dX9_sentence_48 (by decide) (by decide) (fun h_48 => ?_) (fun h_ => absurd h_ (by decide))
      have hbg := (hvs.sen hsn).2.2.2.2.2
      refine V.iload_n (pc := 53) 2 dX9_sentence_53 rfl ?_
      have hts_54 : x = 0 ∨ x = 1 ∨ x = 2 ∨ x = 3 ∨ x = 4 ∨ x = 5 ∨ x = 6 ∨ 6 < x := by omega
      rcases hts_54 with h_54 | h_54 | h_54 | h_54 | h_54 | h_54 | h_54 | h_54
      · refine V.tsIn (pc := 54) 0 96 h_54 (by decide) dX9_sentence_54 (by decide) rfl (by decide) ?_
        refine V.aload_n (pc := 96) 0 dX9_sentence_96 rfl ?_
        refine V.iload_n (pc := 97) 1 dX9_sentence_97 rfl ?_
        refine cp_X9_160 (pc := 98) dX9_sentence_98 (ok_X9_lengthOf a.S hR s (by omega)) (by omega) (Nat.le_of_ble_eq_true rfl) ?_
        exact V.iret (pc := 101) hF dX9_sentence_101 (RP.mk ((if_pos hsn).trans ((if_pos (by omega)).trans (by subst h_54; rfl))) hR0 hth hC0)
      · refine V.tsIn (pc := 54) 1 102 h_54 (by decide) dX9_sentence_54 (by decide) rfl (by decide) ?_
        refine V.aload_n (pc := 102) 0 dX9_sentence_102 rfl ?_
        refine gf_X9_20 (pc := 103) dX9_sentence_103 ?_
        refine V.iload_n (pc := 106) 1 dX9_sentence_106 rfl ?_
        refine cp_X9_66 (pc := 107) dX9_sentence_107 (ok_X9_sentenceAt s) (by omega) (Nat.le_of_ble_eq_true rfl) ?_
        refine V.iconst (pc := 110) (v := nI 2) dX9_sentence_110 (by decide) ?_
        refine V.iadd (pc := 111) (v := nI (5 + 4 * s + 2)) dX9_sentence_111 (nI_add _ _) ?_
        refine V.lald (pc := 112) (k := 99) (n := 645) (v := lN (a.S.cnt s)) (Nat.le_of_ble_eq_true rfl) (fun _ _ => rfl) (5 + 4 * s + 2) (by omega) (by decide) dX9_sentence_112 (hR.cnt (by omega)) ?_
        refine V.l2i (pc := 113) (v := nI (a.S.cnt s)) dX9_sentence_113 (lN_i _) ?_
        exact V.iret (pc := 114) hF dX9_sentence_114 (RP.mk ((if_pos hsn).trans ((if_pos (by omega)).trans (by subst h_54; rfl))) hR0 hth hC0)
      · refine V.tsIn (pc := 54) 2 115 h_54 (by decide) dX9_sentence_54 (by decide) rfl (by decide) ?_
        refine V.aload_n (pc := 115) 0 dX9_sentence_115 rfl ?_
        refine V.iload_n (pc := 116) 1 dX9_sentence_116 rfl ?_
        refine cp_X9_136 (pc := 117) dX9_sentence_117 (ok_X9_wordsOf a.S hR s (by omega)) (by omega) (Nat.le_of_ble_eq_true rfl) ?_
        refine cp_X9_199 (pc := 120) dX9_sentence_120 (ok_X9_ones (a.S.bag s) 48 (by omega) (by decide)) (by omega) (Nat.le_of_ble_eq_true rfl) ?_
        exact V.iret (pc := 123) hF dX9_sentence_123 (RP.mk ((if_pos hsn).trans ((if_pos (by omega)).trans (by subst h_54; rfl))) hR0 hth hC0)
      · refine V.tsIn (pc := 54) 3 124 h_54 (by decide) dX9_sentence_54 (by decide) rfl (by decide) ?_
        refine V.aload_n (pc := 124) 0 dX9_sentence_124 rfl ?_
        refine V.aload_n (pc := 125) 0 dX9_sentence_125 rfl ?_
        refine V.iload_n (pc := 126) 1 dX9_sentence_126 rfl ?_
        refine cp_X9_136 (pc := 127) dX9_sentence_127 (ok_X9_wordsOf a.S hR s (by omega)) (by omega) (Nat.le_of_ble_eq_true rfl) ?_
        refine cp_X9_156 (pc := 130) dX9_sentence_130 (ok_X9_weightsOf a.S hR (a.S.bag s) (by omega)) (by omega) (Nat.le_of_ble_eq_true rfl) ?_
        exact V.iret (pc := 133) hF dX9_sentence_133 (RP.mk ((if_pos hsn).trans ((if_pos (by omega)).trans (by subst h_54; rfl))) hR0 hth hC0)
      · refine V.tsIn (pc := 54) 4 134 h_54 (by decide) dX9_sentence_54 (by decide) rfl (by decide) ?_
        refine V.aload_n (pc := 134) 0 dX9_sentence_134 rfl ?_
        refine V.iload_n (pc := 135) 1 dX9_sentence_135 rfl ?_
        refine cp_X9_163 (pc := 136) dX9_sentence_136 (ok_X9_chain a.S hR s (by omega)) (by omega) (Nat.le_of_ble_eq_true rfl) ?_
        exact V.iret (pc := 139) hF dX9_sentence_139 (RP.mk ((if_pos hsn).trans ((if_pos (by omega)).trans (by subst h_54; rfl))) hR0 hth hC0)
      · refine V.tsIn (pc := 54) 5 140 h_54 (by decide) dX9_sentence_54 (by decide) rfl (by decide) ?_
        refine V.aload_n (pc := 140) 0 dX9_sentence_140 rfl ?_
        refine V.aload_n (pc := 141) 0 dX9_sentence_141 rfl ?_
        refine cp_X9_186 (pc := 142) dX9_sentence_142 (ok_X9_takenNow a.S hR) (by omega) (Nat.le_of_ble_eq_true rfl) ?_
        refine V.iload_n (pc := 145) 1 dX9_sentence_145 rfl ?_
        refine cp_X9_193 (pc := 146) dX9_sentence_146 (ok_X9_gain a.S hR a.S.T s (by omega) (by omega)) (by omega) (Nat.le_of_ble_eq_true rfl) ?_
        exact V.iret (pc := 149) hF dX9_sentence_149 (RP.mk ((if_pos hsn).trans ((if_pos (by omega)).trans (by subst h_54; rfl))) hR0 hth hC0)
      · refine V.tsIn (pc := 54) 6 150 h_54 (by decide) dX9_sentence_54 (by decide) rfl (by decide) ?_
        refine V.aload_n (pc := 150) 0 dX9_sentence_150 rfl ?_
        refine V.aload_n (pc := 151) 0 dX9_sentence_151 rfl ?_
        refine cp_X9_186 (pc := 152) dX9_sentence_152 (ok_X9_takenNow a.S hR) (by omega) (Nat.le_of_ble_eq_true rfl) ?_
        refine V.iload_n (pc := 155) 1 dX9_sentence_155 rfl ?_
        refine cp_X9_169 (pc := 156) dX9_sentence_156 (ok_X9_cost a.S hR a.S.T s (by omega) (by omega)) (by omega) (Nat.le_of_ble_eq_true rfl) ?_
        exact V.iret (pc := 159) hF dX9_sentence_159 (RP.mk ((if_pos hsn).trans ((if_pos (by omega)).trans (by subst h_54; rfl))) hR0 hth hC0)
      · refine V.tsOut (pc := 54) 160 (by omega) (by omega) dX9_sentence_54 (by decide) ?_
        refine V.aload_n (pc := 160) 0 dX9_sentence_160 rfl ?_
        refine V.aload_n (pc := 161) 0 dX9_sentence_161 rfl ?_
        refine cp_X9_186 (pc := 162) dX9_sentence_162 (ok_X9_takenNow a.S hR) (by omega) (Nat.le_of_ble_eq_true rfl) ?_
        refine V.iload_n (pc := 165) 1 dX9_sentence_165 rfl ?_
        refine cp_X9_189 (pc := 166) dX9_sentence_166 (ok_X9_fits a.S hR a.S.T s (by omega) (by omega)) (by omega) (Nat.le_of_ble_eq_true rfl) ?_
        refine V.ifB_eq (pc := 169) 176 dX9_sentence_169 (by decide) (fun h_169 => ?_) (fun h_169 => ?_)
        · refine V.iconst (pc := 176) (v := nI 0) dX9_sentence_176 (by decide) ?_
          exact V.iret (pc := 177) hF dX9_sentence_177 (RP.mk ((if_pos hsn).trans ((if_pos (by omega)).trans (by rw [show x = 7 by omega]; unfold sentN; simp [h_169]))) hR0 hth hC0)
        · refine V.iconst (pc := 172) (v := nI 1) dX9_sentence_172 (by decide) ?_
          refine V.goto (pc := 173) 177 dX9_sentence_173 (by decide) ?_
          exact V.iret (pc := 177) hF dX9_sentence_177 (RP.mk ((if_pos hsn).trans ((if_pos (by omega)).trans (by rw [show x = 7 by omega]; unfold sentN; simp [h_169]))) hR0 hth hC0)
    · have hx1 := of_decide_eq_false h_35
      refine V.iconst (pc := 38) (v := nI 1) dX9_sentence_38 (by decide) ?_
      refine V.goto (pc := 39) 43 dX9_sentence_39 (by decide) ?_
      refine V.iconst (pc := 43) (v := nI 2) dX9_sentence_43 (by decide) ?_
      refine V.iconst (pc := 44) (v := nI 1) dX9_sentence_44 (by decide) ?_
      refine cl_X9_119 (pc := 45) dX9_sentence_45 (ok_bad1 2 1 hth (by decide) (by decide) (by decide)) (by omega) (Nat.le_of_ble_eq_true rfl) (fun r_ μ_ h_ => ?_)
      obtain ⟨rfl, rfl⟩ := h_
      refine V.ifN_eq (pc := 48) 53 dX9_sentence_48 (by decide) (by decide) (fun h_ => absurd h_ (by decide)) (fun h_48 => ?_)
      refine V.iconst (pc := 51) (v := nI 0) dX9_sentence_51 (by decide) ?_
      exact V.iret (pc := 52) hF dX9_sentence_52 (RP.no ((if_pos hsn).trans (if_neg (by omega))) (by decide) hR0 (by decide) hC0)
  · have hsn := of_decide_eq_false h_11
    refine V.iconst (pc := 14) (v := nI 1) dX9_sentence_14 (by decide) ?_
    refine V.goto (pc := 15) 19 dX9_sentence_15 (by decide) ?_
    refine V.iconst (pc := 19) (v := nI 1) dX9_sentence_19 (by decide) ?_
    refine V.iconst (pc := 20) (v := nI 0) dX9_sentence_20 (by decide) ?_
    refine cl_X9_119 (pc := 21) dX9_sentence_21 (ok_bad1 1 0 hth (by decide) (by decide) (by decide)) (by omega) (Nat.le_of_ble_eq_true rfl) (fun r_ μ_ h_ => ?_)
    obtain ⟨rfl, rfl⟩ := h_
    refine V.ifN_ne (pc := 24) 51 dX9_sentence_24 (by decide) (by decide) (fun h_24 => ?_) (fun h_ => absurd h_ (by decide))
    refine V.iconst (pc := 51) (v := nI 0) dX9_sentence_51 (by decide) ?_
    exact V.iret (pc := 52) hF dX9_sentence_52 (RP.no (if_neg hsn) (by decide) hR0 (by decide) hC0)
theorem rR_0 (μ : Mu) (c r : Nat) : (rR μ c r).1 96 0 = nI c := by
  unfold rR
  rw [si_c _ _ _ (by decide), si_s]
theorem ok_X9_words {G : Gx} {μ : Mu} (a : AS) (hRf : Rf μ a) (s : Nat) (hs : s < 2 ^ 32) : Runs 4 M_X9_words [.ref (G.2.2 96), .int (nI s)] G μ (fun r μ' => (s < a.S.n ∧ r = some (.long (lN (a.S.bag s))) ∧ Rf μ' a ∧ μ'.1 96 0 = nI 0 ∧ Fr μ μ' RK) ∨ (¬ s < a.S.n ∧ (∃ v, r = some (.long v)) ∧ Rf μ' (a.ref 0) ∧ μ'.1 96 0 = nI 1 ∧ Fr μ μ' RK)) := by
  refine Runs.go RX9 rfl (by decide) [(0, .ref (G.2.2 96)), (1, .int (nI s))] (Nat.le_of_ble_eq_true rfl) rfl (fun X hF => ?_)
  refine V.aload_n (pc := 0) 0 dX9_words_0 rfl ?_
  refine V.iconst (pc := 1) (v := nI 0) dX9_words_1 (by decide) ?_
  refine pf_X9_60 (pc := 2) dX9_words_2 ?_
  obtain ⟨μ0, hμ0⟩ : ∃ m, m = si μ 96 0 (nI 0) := ⟨_, rfl⟩
  rw [← hμ0]
  have hR0 : Rf μ0 a := by rw [hμ0]; exact hRf.fld 0 _ (by decide)
  have hth : μ0.1 96 0 = nI 0 := by rw [hμ0, si_s]
  have hC0 : Fr μ μ0 RK := by rw [hμ0]; exact (Fr.refl μ RK).si _ _ (by unfold RK; decide)
  clear hμ0
  have hR := hR0.rw
  have hvs := hR.vs
  have hn16 := hvs.n16
  have hu48 := hvs.u48
  have hT2 := hvs.tk
  have hp16 := pow16 hvs
  have hB9 := hvs.B9
  have hp48 := pow48 hvs
  have hLL := hvs.le
  refine V.aload_n (pc := 5) 0 dX9_words_5 rfl ?_
  refine V.aload_n (pc := 6) 0 dX9_words_6 rfl ?_
  refine V.iload_n (pc := 7) 1 dX9_words_7 rfl ?_
  refine cp_X9_183 (pc := 8) dX9_words_8 (ok_X9_isSentence a.S hR s hs) (by omega) (Nat.le_of_ble_eq_true rfl) ?_
  refine V.ifB_ne (pc := 11) 18 dX9_words_11 (by decide) (fun h_11 => ?_) (fun h_11 => ?_)
  · have hsn := of_decide_eq_true h_11
    refine V.iconst (pc := 18) (v := nI 0) dX9_words_18 (by decide) ?_
    refine V.iconst (pc := 19) (v := nI 1) dX9_words_19 (by decide) ?_
    refine V.iconst (pc := 20) (v := nI 0) dX9_words_20 (by decide) ?_
    refine cp_X9_119 (pc := 21) dX9_words_21 (ok_bad0 1 0 hth) (by omega) (Nat.le_of_ble_eq_true rfl) ?_
    refine V.ifN_eq (pc := 24) 31 dX9_words_24 (by decide) (by decide) (fun h_24 => ?_) (fun h_ => absurd h_ (by decide))
    refine V.aload_n (pc := 31) 0 dX9_words_31 rfl ?_
    refine V.iload_n (pc := 32) 1 dX9_words_32 rfl ?_
    refine cp_X9_136 (pc := 33) dX9_words_33 (ok_X9_wordsOf a.S hR s (by omega)) (by omega) (Nat.le_of_ble_eq_true rfl) ?_
    exact V.lret (pc := 36) hF dX9_words_36 (Or.inl ⟨hsn, rfl, hR0, hth, hC0⟩)
  · have hsn := of_decide_eq_false h_11
    refine V.iconst (pc := 14) (v := nI 1) dX9_words_14 (by decide) ?_
    refine V.goto (pc := 15) 19 dX9_words_15 (by decide) ?_
    refine V.iconst (pc := 19) (v := nI 1) dX9_words_19 (by decide) ?_
    refine V.iconst (pc := 20) (v := nI 0) dX9_words_20 (by decide) ?_
    refine cl_X9_119 (pc := 21) dX9_words_21 (ok_bad1 1 0 hth (by decide) (by decide) (by decide)) (by omega) (Nat.le_of_ble_eq_true rfl) (fun r_ μ_ h_ => ?_)
    obtain ⟨rfl, rfl⟩ := h_
    refine V.ifN_eq (pc := 24) 31 dX9_words_24 (by decide) (by decide) (fun h_ => absurd h_ (by decide)) (fun h_24 => ?_)
    refine V.lconst (pc := 27) (v := lN 0) dX9_words_27 (by decide) ?_
    refine V.goto (pc := 28) 36 dX9_words_28 (by decide) ?_
    exact V.lret (pc := 36) hF dX9_words_36 (Or.inr ⟨hsn, ⟨_, rfl⟩, hR0.no 1 (by decide), rR_0 _ _ _, (hC0.si _ _ (by unfold RK; decide)).si _ _ (by unfold RK; decide)⟩)
theorem ok_X9_word {G : Gx} {μ : Mu} (a : AS) (hRf : Rf μ a) (w x : Nat) (hw : w < 2 ^ 32) (hx : x < 2 ^ 32) : Runs 6 M_X9_word [.ref (G.2.2 96), .int (nI w), .int (nI x)] G μ (RP μ (sp_word a w x)) := by
  refine Runs.go RX9 rfl (by decide) [(0, .ref (G.2.2 96)), (1, .int (nI w)), (2, .int (nI x))] (Nat.le_of_ble_eq_true rfl) rfl (fun X hF => ?_)
  refine V.aload_n (pc := 0) 0 dX9_word_0 rfl ?_
  refine V.iconst (pc := 1) (v := nI 0) dX9_word_1 (by decide) ?_
  refine pf_X9_60 (pc := 2) dX9_word_2 ?_
  obtain ⟨μ0, hμ0⟩ : ∃ m, m = si μ 96 0 (nI 0) := ⟨_, rfl⟩
  rw [← hμ0]
  have hR0 : Rf μ0 a := by rw [hμ0]; exact hRf.fld 0 _ (by decide)
  have hth : μ0.1 96 0 = nI 0 := by rw [hμ0, si_s]
  have hC0 : Fr μ μ0 RK := by rw [hμ0]; exact (Fr.refl μ RK).si _ _ (by unfold RK; decide)
  clear hμ0
  have hR := hR0.rw
  have hvs := hR.vs
  have hn16 := hvs.n16
  have hu48 := hvs.u48
  have hT2 := hvs.tk
  have hp16 := pow16 hvs
  have hB9 := hvs.B9
  have hp48 := pow48 hvs
  have hLL := hvs.le
  refine V.aload_n (pc := 5) 0 dX9_word_5 rfl ?_
  refine V.aload_n (pc := 6) 0 dX9_word_6 rfl ?_
  refine V.iload_n (pc := 7) 1 dX9_word_7 rfl ?_
  refine cp_X9_180 (pc := 8) dX9_word_8 (ok_X9_isThere a.S hR w hw) (by omega) (Nat.le_of_ble_eq_true rfl) ?_
  refine V.ifB_ne (pc := 11) 18 dX9_word_11 (by decide) (fun h_11 => ?_) (fun h_11 => ?_)
  · have hwu := of_decide_eq_true h_11
    refine V.iconst (pc := 18) (v := nI 0) dX9_word_18 (by decide) ?_
    refine V.iconst (pc := 19) (v := nI 1) dX9_word_19 (by decide) ?_
    refine V.iconst (pc := 20) (v := nI 0) dX9_word_20 (by decide) ?_
    refine cp_X9_119 (pc := 21) dX9_word_21 (ok_bad0 1 0 hth) (by omega) (Nat.le_of_ble_eq_true rfl) ?_
    refine V.ifN_ne (pc := 24) 50 dX9_word_24 (by decide) (by decide) (fun h_ => absurd h_ (by decide)) (fun h_24 => ?_)
    refine V.aload_n (pc := 27) 0 dX9_word_27 rfl ?_
    refine V.iload_n (pc := 28) 2 dX9_word_28 rfl ?_
    refine V.iconst (pc := 29) (v := nI 0) dX9_word_29 (by decide) ?_
    refine V.iconst (pc := 30) (v := nI 3) dX9_word_30 (by decide) ?_
    refine cp_X9_116 (pc := 31) dX9_word_31 (ok_X9_in x 4 hx (by decide)) (by omega) (Nat.le_of_ble_eq_true rfl) ?_
    refine V.ifB_ne (pc := 34) 41 dX9_word_34 (by decide) (fun h_34 => ?_) (fun h_34 => ?_)
    · have hx1 := of_decide_eq_true h_34
      refine V.iconst (pc := 41) (v := nI 0) dX9_word_41 (by decide) ?_
      refine V.iconst (pc := 42) (v := nI 2) dX9_word_42 (by decide) ?_
      refine V.iconst (pc := 43) (v := nI 1) dX9_word_43 (by decide) ?_
      refine cp_X9_119 (pc := 44) dX9_word_44 (ok_bad0 2 1 hth) (by omega) (Nat.le_of_ble_eq_true rfl) ?_
      refine V.ifN_eq (pc := 47) 52 dX9_word_47 (by decide) (by decide) (fun h_47 => ?_) (fun h_ => absurd h_ (by decide))
      refine V.iload_n (pc := 52) 2 dX9_word_52 rfl ?_
      refine V.ifN_ne (pc := 53) 64 dX9_word_53 (by decide) (by omega) (fun h_53 => ?_) (fun h_53 => ?_)
      · refine V.iload_n (pc := 64) 2 dX9_word_64 rfl ?_
        refine V.iconst (pc := 65) (v := nI 1) dX9_word_65 (by decide) ?_
        refine V.icmpN_ne (pc := 66) 85 dX9_word_66 (by decide) (by omega) (by omega) (fun h_66 => ?_) (fun h_66 => ?_)
        · refine V.iload_n (pc := 85) 2 dX9_word_85 rfl ?_
          refine V.iconst (pc := 86) (v := nI 2) dX9_word_86 (by decide) ?_
          refine V.icmpN_ne (pc := 87) 98 dX9_word_87 (by decide) (by omega) (by omega) (fun h_87 => ?_) (fun h_87 => ?_)
          · refine V.aload_n (pc := 98) 0 dX9_word_98 rfl ?_
            refine gf_X9_20 (pc := 99) dX9_word_99 ?_
            refine V.iconst (pc := 102) (v := nI 4) dX9_word_102 (by decide) ?_
            refine V.lald (pc := 103) (k := 99) (n := 645) (v := lN a.S.L) (Nat.le_of_ble_eq_true rfl) (fun _ _ => rfl) 4 (by omega) (by decide) dX9_word_103 hR.L ?_
            refine V.iload_n (pc := 104) 1 dX9_word_104 rfl ?_
            refine cp_X9_140 (pc := 105) dX9_word_105 (ok_X9_has a.S.L w (by omega) (by omega)) (by omega) (Nat.le_of_ble_eq_true rfl) ?_
            refine V.ifB_eq (pc := 108) 115 dX9_word_108 (by decide) (fun h_108 => ?_) (fun h_108 => ?_)
            · refine V.iconst (pc := 115) (v := nI 0) dX9_word_115 (by decide) ?_
              exact V.iret (pc := 116) hF dX9_word_116 (RP.mk ((if_pos hwu).trans ((if_pos (by omega)).trans (by rw [show x = 3 by omega]; unfold wordN; simp [h_108]))) hR0 hth hC0)
            · refine V.iconst (pc := 111) (v := nI 1) dX9_word_111 (by decide) ?_
              refine V.goto (pc := 112) 116 dX9_word_112 (by decide) ?_
              exact V.iret (pc := 116) hF dX9_word_116 (RP.mk ((if_pos hwu).trans ((if_pos (by omega)).trans (by rw [show x = 3 by omega]; unfold wordN; simp [h_108]))) hR0 hth hC0)
          · refine V.aload_n (pc := 90) 0 dX9_word_90 rfl ?_
            refine V.iload_n (pc := 91) 1 dX9_word_91 rfl ?_
            refine cp_X9_144 (pc := 92) dX9_word_92 (ok_X9_standsIn a.S hR w (by omega)) (by omega) (Nat.le_of_ble_eq_true rfl) ?_
            refine V.goto (pc := 95) 116 dX9_word_95 (by decide) ?_
            exact V.iret (pc := 116) hF dX9_word_116 (RP.mk ((if_pos hwu).trans ((if_pos (by omega)).trans (by rw [show x = 2 by omega]; rfl))) hR0 hth hC0)
        · refine V.aload_n (pc := 69) 0 dX9_word_69 rfl ?_
          refine gf_X9_20 (pc := 70) dX9_word_70 ?_
          refine V.iload_n (pc := 73) 1 dX9_word_73 rfl ?_
          refine cp_X9_103 (pc := 74) dX9_word_74 (ok_X9_wordAt w) (by omega) (Nat.le_of_ble_eq_true rfl) ?_
          refine V.bipush (pc := 77) (v := nI 10) dX9_word_77 (by decide) ?_
          refine V.iadd (pc := 79) (v := nI (69 + 12 * w + 10)) dX9_word_79 (nI_add _ _) ?_
          refine V.lald (pc := 80) (k := 99) (n := 645) (v := lN (a.S.nl w)) (Nat.le_of_ble_eq_true rfl) (fun _ _ => rfl) (69 + 12 * w + 10) (by omega) (by decide) dX9_word_80 (hR.wrd (by omega)).2.1 ?_
          refine V.l2i (pc := 81) (v := nI (a.S.nl w)) dX9_word_81 (lN_i _) ?_
          refine V.goto (pc := 82) 116 dX9_word_82 (by decide) ?_
          exact V.iret (pc := 116) hF dX9_word_116 (RP.mk ((if_pos hwu).trans ((if_pos (by omega)).trans (by rw [show x = 1 by omega]; rfl))) hR0 hth hC0)
      · refine V.aload_n (pc := 56) 0 dX9_word_56 rfl ?_
        refine V.iload_n (pc := 57) 1 dX9_word_57 rfl ?_
        refine cp_X9_150 (pc := 58) dX9_word_58 (ok_X9_weightOf a.S hR w (by omega)) (by omega) (Nat.le_of_ble_eq_true rfl) ?_
        refine V.goto (pc := 61) 116 dX9_word_61 (by decide) ?_
        exact V.iret (pc := 116) hF dX9_word_116 (RP.mk ((if_pos hwu).trans ((if_pos (by omega)).trans (by rw [show x = 0 by omega]; rfl))) hR0 hth hC0)
    · have hx1 := of_decide_eq_false h_34
      refine V.iconst (pc := 37) (v := nI 1) dX9_word_37 (by decide) ?_
      refine V.goto (pc := 38) 42 dX9_word_38 (by decide) ?_
      refine V.iconst (pc := 42) (v := nI 2) dX9_word_42 (by decide) ?_
      refine V.iconst (pc := 43) (v := nI 1) dX9_word_43 (by decide) ?_
      refine cl_X9_119 (pc := 44) dX9_word_44 (ok_bad1 2 1 hth (by decide) (by decide) (by decide)) (by omega) (Nat.le_of_ble_eq_true rfl) (fun r_ μ_ h_ => ?_)
      obtain ⟨rfl, rfl⟩ := h_
      refine V.ifN_eq (pc := 47) 52 dX9_word_47 (by decide) (by decide) (fun h_ => absurd h_ (by decide)) (fun h_47 => ?_)
      refine V.iconst (pc := 50) (v := nI 0) dX9_word_50 (by decide) ?_
      exact V.iret (pc := 51) hF dX9_word_51 (RP.no ((if_pos hwu).trans (if_neg (by omega))) (by decide) hR0 (by decide) hC0)
  · have hwu := of_decide_eq_false h_11
    refine V.iconst (pc := 14) (v := nI 1) dX9_word_14 (by decide) ?_
    refine V.goto (pc := 15) 19 dX9_word_15 (by decide) ?_
    refine V.iconst (pc := 19) (v := nI 1) dX9_word_19 (by decide) ?_
    refine V.iconst (pc := 20) (v := nI 0) dX9_word_20 (by decide) ?_
    refine cl_X9_119 (pc := 21) dX9_word_21 (ok_bad1 1 0 hth (by decide) (by decide) (by decide)) (by omega) (Nat.le_of_ble_eq_true rfl) (fun r_ μ_ h_ => ?_)
    obtain ⟨rfl, rfl⟩ := h_
    refine V.ifN_ne (pc := 24) 50 dX9_word_24 (by decide) (by decide) (fun h_24 => ?_) (fun h_ => absurd h_ (by decide))
    refine V.iconst (pc := 50) (v := nI 0) dX9_word_50 (by decide) ?_
    exact V.iret (pc := 51) hF dX9_word_51 (RP.no (if_neg hwu) (by decide) hR0 (by decide) hC0)
theorem ok_X9_letter {G : Gx} {μ : Mu} (a : AS) (hRf : Rf μ a) (w x : Nat) (hw : w < 2 ^ 32) (hx : x < 2 ^ 32) : Runs 6 M_X9_letter [.ref (G.2.2 96), .int (nI w), .int (nI x)] G μ (RP μ (sp_letter a w x)) := by
  refine Runs.go RX9 rfl (by decide) [(0, .ref (G.2.2 96)), (1, .int (nI w)), (2, .int (nI x))] (Nat.le_of_ble_eq_true rfl) rfl (fun X hF => ?_)
  refine V.aload_n (pc := 0) 0 dX9_letter_0 rfl ?_
  refine V.iconst (pc := 1) (v := nI 0) dX9_letter_1 (by decide) ?_
  refine pf_X9_60 (pc := 2) dX9_letter_2 ?_
  obtain ⟨μ0, hμ0⟩ : ∃ m, m = si μ 96 0 (nI 0) := ⟨_, rfl⟩
  rw [← hμ0]
  have hR0 : Rf μ0 a := by rw [hμ0]; exact hRf.fld 0 _ (by decide)
  have hth : μ0.1 96 0 = nI 0 := by rw [hμ0, si_s]
  have hC0 : Fr μ μ0 RK := by rw [hμ0]; exact (Fr.refl μ RK).si _ _ (by unfold RK; decide)
  clear hμ0
  have hR := hR0.rw
  have hvs := hR.vs
  have hn16 := hvs.n16
  have hu48 := hvs.u48
  have hT2 := hvs.tk
  have hp16 := pow16 hvs
  have hB9 := hvs.B9
  have hp48 := pow48 hvs
  have hLL := hvs.le
  refine V.aload_n (pc := 5) 0 dX9_letter_5 rfl ?_
  refine V.aload_n (pc := 6) 0 dX9_letter_6 rfl ?_
  refine V.iload_n (pc := 7) 1 dX9_letter_7 rfl ?_
  refine cp_X9_180 (pc := 8) dX9_letter_8 (ok_X9_isThere a.S hR w hw) (by omega) (Nat.le_of_ble_eq_true rfl) ?_
  refine V.ifB_eq (pc := 11) 49 dX9_letter_11 (by decide) (fun h_11 => ?_) (fun h_11 => ?_)
  · have hwu := of_decide_eq_false h_11
    refine V.iconst (pc := 49) (v := nI 1) dX9_letter_49 (by decide) ?_
    refine V.goto (pc := 50) 54 dX9_letter_50 (by decide) ?_
    refine V.iconst (pc := 54) (v := nI 1) dX9_letter_54 (by decide) ?_
    refine V.iconst (pc := 55) (v := nI 0) dX9_letter_55 (by decide) ?_
    refine cl_X9_119 (pc := 56) dX9_letter_56 (ok_bad1 1 0 hth (by decide) (by decide) (by decide)) (by omega) (Nat.le_of_ble_eq_true rfl) (fun r_ μ_ h_ => ?_)
    obtain ⟨rfl, rfl⟩ := h_
    refine V.ifN_eq (pc := 59) 64 dX9_letter_59 (by decide) (by decide) (fun h_ => absurd h_ (by decide)) (fun h_59 => ?_)
    refine V.iconst (pc := 62) (v := nI 0) dX9_letter_62 (by decide) ?_
    exact V.iret (pc := 63) hF dX9_letter_63 (RP.no (if_neg hwu) (by decide) hR0 (by decide) hC0)
  · have hwu := of_decide_eq_true h_11
    have hnl := (hvs.wrd hwu).2.2.1
    refine V.iload_n (pc := 14) 2 dX9_letter_14 rfl ?_
    refine V.iconst (pc := 15) (v := nI 0) dX9_letter_15 (by decide) ?_
    refine V.aload_n (pc := 16) 0 dX9_letter_16 rfl ?_
    refine gf_X9_20 (pc := 17) dX9_letter_17 ?_
    refine V.aload_n (pc := 20) 0 dX9_letter_20 rfl ?_
    refine V.iload_n (pc := 21) 1 dX9_letter_21 rfl ?_
    refine cp_X9_180 (pc := 22) dX9_letter_22 (ok_X9_isThere a.S hR w hw) (by omega) (Nat.le_of_ble_eq_true rfl) ?_
    refine V.ifB_eq (pc := 25) 32 dX9_letter_25 (by decide) (fun h_25 => ?_) (fun h_25 => ?_)
    · exact absurd h_25 (by rw [decide_eq_true hwu]; decide)
    · refine V.iload_n (pc := 28) 1 dX9_letter_28 rfl ?_
      refine V.goto (pc := 29) 33 dX9_letter_29 (by decide) ?_
      refine cp_X9_103 (pc := 33) dX9_letter_33 (ok_X9_wordAt w) (by omega) (Nat.le_of_ble_eq_true rfl) ?_
      refine V.bipush (pc := 36) (v := nI 10) dX9_letter_36 (by decide) ?_
      refine V.iadd (pc := 38) (v := nI (69 + 12 * w + 10)) dX9_letter_38 (nI_add _ _) ?_
      refine V.lald (pc := 39) (k := 99) (n := 645) (v := lN (a.S.nl w)) (Nat.le_of_ble_eq_true rfl) (fun _ _ => rfl) (69 + 12 * w + 10) (by omega) (by decide) dX9_letter_39 (hR.wrd (by omega)).2.1 ?_
      refine V.l2i (pc := 40) (v := nI (a.S.nl w)) dX9_letter_40 (lN_i _) ?_
      refine V.iconst (pc := 41) (v := nI 1) dX9_letter_41 (by decide) ?_
      refine V.isub (pc := 42) (v := pv (a.S.nl w)) dX9_letter_42 (pv_sub _) ?_
      refine cp_X9_116 (pc := 43) dX9_letter_43 (ok_X9_in x (a.S.nl w) hx (by omega)) (by omega) (Nat.le_of_ble_eq_true rfl) ?_
      refine V.ifB_ne (pc := 46) 53 dX9_letter_46 (by decide) (fun h_46 => ?_) (fun h_46 => ?_)
      · have hxl := of_decide_eq_true h_46
        refine V.iconst (pc := 53) (v := nI 0) dX9_letter_53 (by decide) ?_
        refine V.iconst (pc := 54) (v := nI 1) dX9_letter_54 (by decide) ?_
        refine V.iconst (pc := 55) (v := nI 0) dX9_letter_55 (by decide) ?_
        refine cp_X9_119 (pc := 56) dX9_letter_56 (ok_bad0 1 0 hth) (by omega) (Nat.le_of_ble_eq_true rfl) ?_
        refine V.ifN_eq (pc := 59) 64 dX9_letter_59 (by decide) (by decide) (fun h_59 => ?_) (fun h_ => absurd h_ (by decide))
        refine V.aload_n (pc := 64) 0 dX9_letter_64 rfl ?_
        refine gf_X9_20 (pc := 65) dX9_letter_65 ?_
        refine V.iload_n (pc := 68) 1 dX9_letter_68 rfl ?_
        refine cp_X9_103 (pc := 69) dX9_letter_69 (ok_X9_wordAt w) (by omega) (Nat.le_of_ble_eq_true rfl) ?_
        refine V.iload_n (pc := 72) 2 dX9_letter_72 rfl ?_
        refine V.iadd (pc := 73) (v := nI (69 + 12 * w + x)) dX9_letter_73 (nI_add _ _) ?_
        refine V.lald (pc := 74) (k := 99) (n := 645) (v := lN (a.S.lt w x)) (Nat.le_of_ble_eq_true rfl) (fun _ _ => rfl) (69 + 12 * w + x) (by omega) (by decide) dX9_letter_74 ((hR.wrd hwu).1 x hxl) ?_
        refine V.l2i (pc := 75) (v := nI (a.S.lt w x)) dX9_letter_75 (lN_i _) ?_
        exact V.iret (pc := 76) hF dX9_letter_76 (RP.mk ((if_pos hwu).trans (if_pos hxl)) hR0 hth hC0)
      · have hxl := of_decide_eq_false h_46
        refine V.iconst (pc := 49) (v := nI 1) dX9_letter_49 (by decide) ?_
        refine V.goto (pc := 50) 54 dX9_letter_50 (by decide) ?_
        refine V.iconst (pc := 54) (v := nI 1) dX9_letter_54 (by decide) ?_
        refine V.iconst (pc := 55) (v := nI 0) dX9_letter_55 (by decide) ?_
        refine cl_X9_119 (pc := 56) dX9_letter_56 (ok_bad1 1 0 hth (by decide) (by decide) (by decide)) (by omega) (Nat.le_of_ble_eq_true rfl) (fun r_ μ_ h_ => ?_)
        obtain ⟨rfl, rfl⟩ := h_
        refine V.ifN_eq (pc := 59) 64 dX9_letter_59 (by decide) (by decide) (fun h_ => absurd h_ (by decide)) (fun h_59 => ?_)
        refine V.iconst (pc := 62) (v := nI 0) dX9_letter_62 (by decide) ?_
        exact V.iret (pc := 63) hF dX9_letter_63 (RP.no ((if_pos hwu).trans (if_neg hxl)) (by decide) hR0 (by decide) hC0)
theorem ok_X9_print {G : Gx} {μ : Mu} (a : AS) (hRf : Rf μ a)  : Runs 6 M_X9_print [.ref (G.2.2 96)] G μ (fun r μ' => r = some (.long (lN (prUp a.S a.S.n))) ∧ Rf μ' a ∧ Fr μ μ' RK) := by
  refine Runs.go RX9 rfl (by decide) [(0, .ref (G.2.2 96))] (Nat.le_of_ble_eq_true rfl) rfl (fun X hF => ?_)
  refine V.aload_n (pc := 0) 0 dX9_print_0 rfl ?_
  refine V.iconst (pc := 1) (v := nI 0) dX9_print_1 (by decide) ?_
  refine pf_X9_60 (pc := 2) dX9_print_2 ?_
  obtain ⟨μ0, hμ0⟩ : ∃ m, m = si μ 96 0 (nI 0) := ⟨_, rfl⟩
  rw [← hμ0]
  have hR0 : Rf μ0 a := by rw [hμ0]; exact hRf.fld 0 _ (by decide)
  have hth : μ0.1 96 0 = nI 0 := by rw [hμ0, si_s]
  have hC0 : Fr μ μ0 RK := by rw [hμ0]; exact (Fr.refl μ RK).si _ _ (by unfold RK; decide)
  clear hμ0
  have hR := hR0.rw
  have hvs := hR.vs
  have hn16 := hvs.n16
  have hu48 := hvs.u48
  have hT2 := hvs.tk
  have hp16 := pow16 hvs
  have hB9 := hvs.B9
  have hp48 := pow48 hvs
  have hLL := hvs.le
  refine V.lconst (pc := 5) (v := lN 0) dX9_print_5 (by decide) ?_
  refine V.lstore_n (pc := 6) (lv' := [(0, .ref (G.2.2 96)), (1, .long (lN 0))]) dX9_print_6 (by decide) rfl ?_
  refine V.iconst (pc := 7) (v := nI 0) dX9_print_7 (by decide) ?_
  refine V.istore_n (pc := 8) (lv' := [(0, .ref (G.2.2 96)), (1, .long (lN 0)), (3, .int (nI 0))]) dX9_print_8 (by decide) rfl ?_
  have L9 : ∀ (n_ : Nat) (i : Nat), (i ≤ a.S.n) → a.S.n - i < n_ → V G RX9 cX9_print 4 6 X 9 [(0, .ref (G.2.2 96)), (1, .long (lN (prUp a.S i))), (3, .int (nI i))] [] μ0 := by
    intro n_
    induction n_ with
    | zero => intro i hi hm_; exact absurd hm_ (Nat.not_lt_zero _)
    | succ n_ ih9 =>
      intro i hi hm_
      refine V.iload_n (pc := 9) 2 dX9_print_9 rfl ?_
      refine V.aload_n (pc := 10) 0 dX9_print_10 rfl ?_
      refine cp_X9_133 (pc := 11) dX9_print_11 (ok_X9_many a.S hR) (by omega) (Nat.le_of_ble_eq_true rfl) ?_
      refine V.icmpN_ge (pc := 14) 55 dX9_print_14 (by decide) (by omega) (by omega) (fun h_14 => ?_) (fun h_14 => ?_)
      · refine V.lload_n (pc := 55) 1 dX9_print_55 rfl ?_
        exact V.lret (pc := 56) hF dX9_print_56 ⟨by rw [show i = a.S.n by omega], hR0, hC0⟩
      · have hbg := (hvs.sen h_14).2.2.2.2.2
        have hwo := wOf_le hvs (a.S.bag i)
        have hga : gain a.S i a.S.T ≤ 48000 := wOf_le hvs _
        refine V.ldc2_w (pc := 17) (v := lN 31) mw_6_59 dX9_print_17 ?_
        refine V.ldc2_w (pc := 20) (v := lN 31) mw_6_59 dX9_print_20 ?_
        refine V.lload_n (pc := 23) 1 dX9_print_23 rfl ?_
        refine V.lmul (pc := 24) (v := lN (31 * (prUp a.S i))) dX9_print_24 (lN_mul _ _) ?_
        refine V.aload_n (pc := 25) 0 dX9_print_25 rfl ?_
        refine V.aload_n (pc := 26) 0 dX9_print_26 rfl ?_
        refine V.iload_n (pc := 27) 2 dX9_print_27 rfl ?_
        refine cp_X9_136 (pc := 28) dX9_print_28 (ok_X9_wordsOf a.S hR i (by omega)) (by omega) (Nat.le_of_ble_eq_true rfl) ?_
        refine cp_X9_156 (pc := 31) dX9_print_31 (ok_X9_weightsOf a.S hR (a.S.bag i) (by omega)) (by omega) (Nat.le_of_ble_eq_true rfl) ?_
        refine V.i2l (pc := 34) (v := lN (wOf a.S (a.S.bag i))) dX9_print_34 (nI_l (by omega)) ?_
        refine V.ladd (pc := 35) (v := lN (31 * (prUp a.S i) + (wOf a.S (a.S.bag i)))) dX9_print_35 (lN_add _ _) ?_
        refine V.lmul (pc := 36) (v := lN (31 * (31 * (prUp a.S i) + (wOf a.S (a.S.bag i))))) dX9_print_36 (lN_mul _ _) ?_
        refine V.aload_n (pc := 37) 0 dX9_print_37 rfl ?_
        refine V.aload_n (pc := 38) 0 dX9_print_38 rfl ?_
        refine cp_X9_186 (pc := 39) dX9_print_39 (ok_X9_takenNow a.S hR) (by omega) (Nat.le_of_ble_eq_true rfl) ?_
        refine V.iload_n (pc := 42) 2 dX9_print_42 rfl ?_
        refine cp_X9_193 (pc := 43) dX9_print_43 (ok_X9_gain a.S hR a.S.T i (by omega) (by omega)) (by omega) (Nat.le_of_ble_eq_true rfl) ?_
        refine V.i2l (pc := 46) (v := lN (gain a.S i a.S.T)) dX9_print_46 (nI_l (by omega)) ?_
        refine V.ladd (pc := 47) (v := lN (31 * (31 * (prUp a.S i) + (wOf a.S (a.S.bag i))) + (gain a.S i a.S.T))) dX9_print_47 (lN_add _ _) ?_
        refine V.lstore_n (pc := 48) (lv' := [(0, .ref (G.2.2 96)), (1, .long (lN (31 * (31 * (prUp a.S i) + (wOf a.S (a.S.bag i))) + (gain a.S i a.S.T)))), (3, .int (nI i))]) dX9_print_48 (by decide) rfl ?_
        refine V.iinc (pc := 49) (v := nI (i + 1)) (lv' := [(0, .ref (G.2.2 96)), (1, .long (lN (31 * (31 * (prUp a.S i) + (wOf a.S (a.S.bag i))) + (gain a.S i a.S.T)))), (3, .int (nI (i + 1)))]) 2 dX9_print_49 rfl (nn_inc _) (by decide) rfl ?_
        refine V.goto (pc := 52) 9 dX9_print_52 (by decide) ?_
        have e_1 : lN (31 * (31 * (prUp a.S i) + (wOf a.S (a.S.bag i))) + (gain a.S i a.S.T)) = lN (prUp a.S (i + 1)) := congrArg lN (by rw [prUp, Nat.mul_comm 31, Nat.mul_comm 31])
        refine V.lvs (lv' := [(0, .ref (G.2.2 96)), (1, .long (lN (prUp a.S (i + 1)))), (3, .int (nI (i + 1)))]) (congrArg (fun z => ([(0, .ref (G.2.2 96)), (1, .long z), (3, .int (nI (i + 1)))] : List (Nat × Value))) e_1) ?_
        exact ih9 (i + 1) (by omega) (by omega)
  have e_1 : lN 0 = lN (prUp a.S 0) := rfl
  refine V.lvs (lv' := [(0, .ref (G.2.2 96)), (1, .long (lN (prUp a.S 0))), (3, .int (nI 0))]) (congrArg (fun z => ([(0, .ref (G.2.2 96)), (1, .long z), (3, .int (nI 0))] : List (Nat × Value))) e_1) ?_
  exact L9 _ 0 (by omega) (Nat.lt_succ_self _)
theorem ok_X9_likeness {G : Gx} {μ : Mu} (a : AS) (hRf : Rf μ a) (s t x : Nat) (hs : s < 2 ^ 32) (ht : t < 2 ^ 32) (hx : x < 2 ^ 32) : Runs 6 M_X9_likeness [.ref (G.2.2 96), .int (nI s), .int (nI t), .int (nI x)] G μ (RP μ (sp_likeness a s t x)) := by
  refine Runs.go RX9 rfl (by decide) [(0, .ref (G.2.2 96)), (1, .int (nI s)), (2, .int (nI t)), (3, .int (nI x))] (Nat.le_of_ble_eq_true rfl) rfl (fun X hF => ?_)
  refine V.aload_n (pc := 0) 0 dX9_likeness_0 rfl ?_
  refine V.iconst (pc := 1) (v := nI 0) dX9_likeness_1 (by decide) ?_
  refine pf_X9_60 (pc := 2) dX9_likeness_2 ?_
  obtain ⟨μ0, hμ0⟩ : ∃ m, m = si μ 96 0 (nI 0) := ⟨_, rfl⟩
  rw [← hμ0]
  have hR0 : Rf μ0 a := by rw [hμ0]; exact hRf.fld 0 _ (by decide)
  have hth : μ0.1 96 0 = nI 0 := by rw [hμ0, si_s]
  have hC0 : Fr μ μ0 RK := by rw [hμ0]; exact (Fr.refl μ RK).si _ _ (by unfold RK; decide)
  clear hμ0
  have hR := hR0.rw
  have hvs := hR.vs
  have hn16 := hvs.n16
  have hu48 := hvs.u48
  have hT2 := hvs.tk
  have hp16 := pow16 hvs
  have hB9 := hvs.B9
  have hp48 := pow48 hvs
  have hLL := hvs.le
  refine V.aload_n (pc := 5) 0 dX9_likeness_5 rfl ?_
  refine V.aload_n (pc := 6) 0 dX9_likeness_6 rfl ?_
  refine V.iload_n (pc := 7) 1 dX9_likeness_7 rfl ?_
  refine cp_X9_183 (pc := 8) dX9_likeness_8 (ok_X9_isSentence a.S hR s hs) (by omega) (Nat.le_of_ble_eq_true rfl) ?_
  refine V.ifB_eq (pc := 11) 22 dX9_likeness_11 (by decide) (fun h_11 => ?_) (fun h_11 => ?_)
  · have hsn := of_decide_eq_false h_11
    refine V.iconst (pc := 22) (v := nI 1) dX9_likeness_22 (by decide) ?_
    refine V.goto (pc := 23) 27 dX9_likeness_23 (by decide) ?_
    refine V.iconst (pc := 27) (v := nI 1) dX9_likeness_27 (by decide) ?_
    refine V.iconst (pc := 28) (v := nI 0) dX9_likeness_28 (by decide) ?_
    refine cl_X9_119 (pc := 29) dX9_likeness_29 (ok_bad1 1 0 hth (by decide) (by decide) (by decide)) (by omega) (Nat.le_of_ble_eq_true rfl) (fun r_ μ_ h_ => ?_)
    obtain ⟨rfl, rfl⟩ := h_
    refine V.ifN_ne (pc := 32) 58 dX9_likeness_32 (by decide) (by decide) (fun h_32 => ?_) (fun h_ => absurd h_ (by decide))
    refine V.iconst (pc := 58) (v := nI 0) dX9_likeness_58 (by decide) ?_
    exact V.iret (pc := 59) hF dX9_likeness_59 (RP.no (if_neg hsn) (by decide) hR0 (by decide) hC0)
  · have hsn := of_decide_eq_true h_11
    refine V.aload_n (pc := 14) 0 dX9_likeness_14 rfl ?_
    refine V.iload_n (pc := 15) 2 dX9_likeness_15 rfl ?_
    refine cp_X9_183 (pc := 16) dX9_likeness_16 (ok_X9_isSentence a.S hR t ht) (by omega) (Nat.le_of_ble_eq_true rfl) ?_
    refine V.ifB_ne (pc := 19) 26 dX9_likeness_19 (by decide) (fun h_19 => ?_) (fun h_19 => ?_)
    · have htn := of_decide_eq_true h_19
      refine V.iconst (pc := 26) (v := nI 0) dX9_likeness_26 (by decide) ?_
      refine V.iconst (pc := 27) (v := nI 1) dX9_likeness_27 (by decide) ?_
      refine V.iconst (pc := 28) (v := nI 0) dX9_likeness_28 (by decide) ?_
      refine cp_X9_119 (pc := 29) dX9_likeness_29 (ok_bad0 1 0 hth) (by omega) (Nat.le_of_ble_eq_true rfl) ?_
      refine V.ifN_ne (pc := 32) 58 dX9_likeness_32 (by decide) (by decide) (fun h_ => absurd h_ (by decide)) (fun h_32 => ?_)
      refine V.aload_n (pc := 35) 0 dX9_likeness_35 rfl ?_
      refine V.iload_n (pc := 36) 3 dX9_likeness_36 rfl ?_
      refine V.iconst (pc := 37) (v := nI 0) dX9_likeness_37 (by decide) ?_
      refine V.iconst (pc := 38) (v := nI 1) dX9_likeness_38 (by decide) ?_
      refine cp_X9_116 (pc := 39) dX9_likeness_39 (ok_X9_in x 2 hx (by decide)) (by omega) (Nat.le_of_ble_eq_true rfl) ?_
      refine V.ifB_ne (pc := 42) 49 dX9_likeness_42 (by decide) (fun h_42 => ?_) (fun h_42 => ?_)
      · have hx1 := of_decide_eq_true h_42
        refine V.iconst (pc := 49) (v := nI 0) dX9_likeness_49 (by decide) ?_
        refine V.iconst (pc := 50) (v := nI 2) dX9_likeness_50 (by decide) ?_
        refine V.iconst (pc := 51) (v := nI 1) dX9_likeness_51 (by decide) ?_
        refine cp_X9_119 (pc := 52) dX9_likeness_52 (ok_bad0 2 1 hth) (by omega) (Nat.le_of_ble_eq_true rfl) ?_
        refine V.ifN_eq (pc := 55) 60 dX9_likeness_55 (by decide) (by decide) (fun h_55 => ?_) (fun h_ => absurd h_ (by decide))
        have hbs := (hvs.sen hsn).2.2.2.2.2
        have hbt := (hvs.sen htn).2.2.2.2.2
        have hlb : lkB a.S s t ≤ 48000 := wOf_le hvs _
        have hle : lkE a.S s t ≤ 48000 := wOf_le hvs _
        refine V.aload_n (pc := 60) 0 dX9_likeness_60 rfl ?_
        refine V.aload_n (pc := 61) 0 dX9_likeness_61 rfl ?_
        refine V.iload_n (pc := 62) 1 dX9_likeness_62 rfl ?_
        refine cp_X9_136 (pc := 63) dX9_likeness_63 (ok_X9_wordsOf a.S hR s (by omega)) (by omega) (Nat.le_of_ble_eq_true rfl) ?_
        refine V.aload_n (pc := 66) 0 dX9_likeness_66 rfl ?_
        refine V.iload_n (pc := 67) 2 dX9_likeness_67 rfl ?_
        refine cp_X9_136 (pc := 68) dX9_likeness_68 (ok_X9_wordsOf a.S hR t (by omega)) (by omega) (Nat.le_of_ble_eq_true rfl) ?_
        refine V.land (pc := 71) (v := lN ((a.S.bag s) &&& (a.S.bag t))) dX9_likeness_71 (ll_and _ _) ?_
        refine cp_X9_156 (pc := 72) dX9_likeness_72 (ok_X9_weightsOf a.S hR (a.S.bag s &&& a.S.bag t) (by have : a.S.bag s &&& a.S.bag t ≤ a.S.bag s := Nat.and_le_left; omega)) (by omega) (Nat.le_of_ble_eq_true rfl) ?_
        refine V.istore (pc := 75) (lv' := [(0, .ref (G.2.2 96)), (1, .int (nI s)), (2, .int (nI t)), (3, .int (nI x)), (4, .int (nI (lkB a.S s t)))]) dX9_likeness_75 (by decide) rfl ?_
        refine V.aload_n (pc := 77) 0 dX9_likeness_77 rfl ?_
        refine V.aload_n (pc := 78) 0 dX9_likeness_78 rfl ?_
        refine V.iload_n (pc := 79) 1 dX9_likeness_79 rfl ?_
        refine cp_X9_136 (pc := 80) dX9_likeness_80 (ok_X9_wordsOf a.S hR s (by omega)) (by omega) (Nat.le_of_ble_eq_true rfl) ?_
        refine V.aload_n (pc := 83) 0 dX9_likeness_83 rfl ?_
        refine V.iload_n (pc := 84) 2 dX9_likeness_84 rfl ?_
        refine cp_X9_136 (pc := 85) dX9_likeness_85 (ok_X9_wordsOf a.S hR t (by omega)) (by omega) (Nat.le_of_ble_eq_true rfl) ?_
        refine V.lor (pc := 88) (v := lN ((a.S.bag s) ||| (a.S.bag t))) dX9_likeness_88 (ll_or _ _) ?_
        refine cp_X9_156 (pc := 89) dX9_likeness_89 (ok_X9_weightsOf a.S hR (a.S.bag s ||| a.S.bag t) (by have := or_lt hbs hbt; omega)) (by omega) (Nat.le_of_ble_eq_true rfl) ?_
        refine V.istore (pc := 92) (lv' := [(0, .ref (G.2.2 96)), (1, .int (nI s)), (2, .int (nI t)), (3, .int (nI x)), (4, .int (nI (lkB a.S s t))), (5, .int (nI (lkE a.S s t)))]) dX9_likeness_92 (by decide) rfl ?_
        refine V.iload (pc := 94) 4 dX9_likeness_94 rfl ?_
        refine V.ifN_ne (pc := 96) 101 dX9_likeness_96 (by decide) (by omega) (fun h_96 => ?_) (fun h_96 => ?_)
        · have hg : Nat.gcd (lkE a.S s t) (lkB a.S s t) ≤ 48000 := gcd_le hle hlb
          have hgp := Nat.gcd_pos_of_pos_right (lkE a.S s t) h_96
          refine V.iload_n (pc := 101) 3 dX9_likeness_101 rfl ?_
          refine V.ifN_ne (pc := 102) 110 dX9_likeness_102 (by decide) (by omega) (fun h_102 => ?_) (fun h_102 => ?_)
          · refine V.iload (pc := 110) 5 dX9_likeness_110 rfl ?_
            refine V.iload (pc := 112) 4 dX9_likeness_112 rfl ?_
            refine V.iload (pc := 114) 5 dX9_likeness_114 rfl ?_
            refine cp_X9_251 (pc := 116) dX9_likeness_116 (by have h := ok_X9_divisor (G := G) (μ := μ0) (lkB a.S s t) (lkE a.S s t) hlb hle; rw [Nat.gcd_comm] at h; exact h) (by omega) (Nat.le_of_ble_eq_true rfl) ?_
            refine V.idiv (pc := 119) (v := nI ((lkE a.S s t) / (Nat.gcd (lkE a.S s t) (lkB a.S s t)))) dX9_likeness_119 (nn_div0 (by omega) (by omega)) (pk_div (by omega) (by omega) (by omega)) ?_
            exact V.iret (pc := 120) hF dX9_likeness_120 (RP.mk ((if_pos hsn).trans ((if_pos htn).trans ((if_pos (by omega)).trans (congrArg (fun v => rOk (nI v) a) ((if_neg (by omega)).trans (by rw [if_neg (by omega)])))))) hR0 hth hC0)
          · refine V.iload (pc := 105) 4 dX9_likeness_105 rfl ?_
            refine V.goto (pc := 107) 112 dX9_likeness_107 (by decide) ?_
            refine V.iload (pc := 112) 4 dX9_likeness_112 rfl ?_
            refine V.iload (pc := 114) 5 dX9_likeness_114 rfl ?_
            refine cp_X9_251 (pc := 116) dX9_likeness_116 (by have h := ok_X9_divisor (G := G) (μ := μ0) (lkB a.S s t) (lkE a.S s t) hlb hle; rw [Nat.gcd_comm] at h; exact h) (by omega) (Nat.le_of_ble_eq_true rfl) ?_
            refine V.idiv (pc := 119) (v := nI ((lkB a.S s t) / (Nat.gcd (lkE a.S s t) (lkB a.S s t)))) dX9_likeness_119 (nn_div0 (by omega) (by omega)) (pk_div (by omega) (by omega) (by omega)) ?_
            exact V.iret (pc := 120) hF dX9_likeness_120 (RP.mk ((if_pos hsn).trans ((if_pos htn).trans ((if_pos (by omega)).trans (congrArg (fun v => rOk (nI v) a) ((if_neg (by omega)).trans (by rw [if_pos h_102])))))) hR0 hth hC0)
        · refine V.iload_n (pc := 99) 3 dX9_likeness_99 rfl ?_
          exact V.iret (pc := 100) hF dX9_likeness_100 (RP.mk ((if_pos hsn).trans ((if_pos htn).trans ((if_pos (by omega)).trans (congrArg (fun v => rOk (nI v) a) (if_pos h_96))))) hR0 hth hC0)
      · have hx1 := of_decide_eq_false h_42
        refine V.iconst (pc := 45) (v := nI 1) dX9_likeness_45 (by decide) ?_
        refine V.goto (pc := 46) 50 dX9_likeness_46 (by decide) ?_
        refine V.iconst (pc := 50) (v := nI 2) dX9_likeness_50 (by decide) ?_
        refine V.iconst (pc := 51) (v := nI 1) dX9_likeness_51 (by decide) ?_
        refine cl_X9_119 (pc := 52) dX9_likeness_52 (ok_bad1 2 1 hth (by decide) (by decide) (by decide)) (by omega) (Nat.le_of_ble_eq_true rfl) (fun r_ μ_ h_ => ?_)
        obtain ⟨rfl, rfl⟩ := h_
        refine V.ifN_eq (pc := 55) 60 dX9_likeness_55 (by decide) (by decide) (fun h_ => absurd h_ (by decide)) (fun h_55 => ?_)
        refine V.iconst (pc := 58) (v := nI 0) dX9_likeness_58 (by decide) ?_
        exact V.iret (pc := 59) hF dX9_likeness_59 (RP.no ((if_pos hsn).trans ((if_pos htn).trans (if_neg (by omega)))) (by decide) hR0 (by decide) hC0)
    · have htn := of_decide_eq_false h_19
      refine V.iconst (pc := 22) (v := nI 1) dX9_likeness_22 (by decide) ?_
      refine V.goto (pc := 23) 27 dX9_likeness_23 (by decide) ?_
      refine V.iconst (pc := 27) (v := nI 1) dX9_likeness_27 (by decide) ?_
      refine V.iconst (pc := 28) (v := nI 0) dX9_likeness_28 (by decide) ?_
      refine cl_X9_119 (pc := 29) dX9_likeness_29 (ok_bad1 1 0 hth (by decide) (by decide) (by decide)) (by omega) (Nat.le_of_ble_eq_true rfl) (fun r_ μ_ h_ => ?_)
      obtain ⟨rfl, rfl⟩ := h_
      refine V.ifN_ne (pc := 32) 58 dX9_likeness_32 (by decide) (by decide) (fun h_32 => ?_) (fun h_ => absurd h_ (by decide))
      refine V.iconst (pc := 58) (v := nI 0) dX9_likeness_58 (by decide) ?_
      exact V.iret (pc := 59) hF dX9_likeness_59 (RP.no ((if_pos hsn).trans (if_neg htn)) (by decide) hR0 (by decide) hC0)
