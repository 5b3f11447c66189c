def AS.rd (a : AS) (m : Nat) : AS := (a.bs, 0, (rfin a.bs m).pl, a.rf, a.S, a.k, a.h)
def sp_text (a : AS) (m : Nat) : Res := if m ≤ a.tb then if (rfin a.bs m).ft = 0 then rOk (nI (rfin a.bs m).D.n) ((a.rd m).act (txt (rfin a.bs m).D a.S.B)) else rOk (nI (rfin a.bs m).ft - nI 10) (a.rd m) else rNo 1 a 1
theorem Kl.read {μ μ2 μ3 : Mu} {a : AS} (h : Kl μ a) {m : Nat} (hf : Fr (si μ 80 1 (nI 0)) μ2 CR) (e : μ3 = si μ2 80 2 (pv (rfin a.bs m).pl)) : Kl μ3 (a.rd m) ∧ Fr μ μ3 CK := by
  obtain ⟨h1, h2, h3, h4, h5, h6, o, h7⟩ := h
  subst e
  have q : ∀ c, CR c → c = 85 ∨ (8 ≤ c ∧ c < 16) := fun c z => by rcases z with z | z; exact Or.inl z; unfold Blk at z; omega
  have f : Fr μ (si μ2 80 2 (pv (rfin a.bs m).pl)) (fun c => c = 80 ∨ c = 85 ∨ (8 ≤ c ∧ c < 16)) := (((Fr.refl μ (fun c => c = 80 ∨ c = 85 ∨ (8 ≤ c ∧ c < 16))).si 1 (nI 0) (Or.inl rfl)).trans hf (fun _ z => z) (fun c z => Or.inr (q c z))).si _ _ (Or.inl rfl)
  refine ⟨⟨?_, Nat.zero_le _, fun i hi => absurd hi (Nat.not_lt_zero _), by rw [si_s]; rfl, fun r hr => by rw [(f 82 (by omega)).1]; exact h5 r hr, h6.fr f (fun j hj z => by omega), o, h7.fr f (fun c z => by omega)⟩, f.ck (fun c z => by omega)⟩
  rw [si_i _ _ _ (by decide), (hf 80 (fun z => by have := q _ z; omega)).1, si_s]
  rfl
theorem Dr_txt {μ : Mu} {bs : Nat → Nat} {M : RM} {B : Nat} (h : Dr μ M.D (opn M)) (hw : M.wo = 0) (hv : RV bs M) (hB : B ≤ 9999) (hz : senUp M.D.len M.D.n ≤ 600) : St0 (si μ (8 * 1) 2 (nI B)) 1 (txt M.D B) := by
  have eo : opn M = M.D.n := by unfold opn; rw [hw]; rfl
  rw [eo] at h
  obtain ⟨h1, h2, h3, h4, h5, h6, h7, h8, h9, h10⟩ := h
  have c : ∀ k, k ≠ 8 * 1 → (si μ (8 * 1) 2 (nI B)).1 k = μ.1 k := fun k hk => si_c μ 2 (nI B) hk
  exact ⟨by rw [si_i _ _ _ (by decide)]; exact h1, by rw [si_i _ _ _ (by decide)]; exact h2, by rw [si_s]; rfl, by rw [si_i _ _ _ (by decide)]; exact h9, h10, fun i hi => by rw [c _ (by decide)]; exact h3 i hi, fun i hi => by rw [c _ (by decide)]; exact h4 i hi, fun i hi => by rw [c _ (by decide)]; exact h5 i hi, h6, fun x hx => (h7 x hx).trans (congrArg lN (spl_cong' (S := M.D) (S' := txt M.D B) rfl rfl x).symm), fun x hx => by rw [c _ (by decide)]; exact h8 x hx, (hv.vs hw hB hz).1⟩
theorem rfin_b (bs : Nat → Nat) (m : Nat) : (rfin bs m).ft < 4 := by
  have h1 := (endW_b bs (rrun bs m)).2 (rrun_b bs m).2.2
  unfold rfin
  split
  · exact (rfs_b _ 1 m (by decide)).2.2 h1
  · exact h1
theorem txt_fr {μ4 μ6 μ7 : Mu} {B : Nat} (hc : CopyOf (si μ4 (8 * 1) 2 (nI B)) μ6 1 0) (hl : Fr μ6 μ7 (fun c => c = 8 * 0 + 4)) : Fr μ4 μ7 (fun c => c < 16) :=
  (((Fr.refl μ4 (fun c => c < 16)).si _ _ (by decide)).trans hc.1 (fun _ z => z) (fun c z => by unfold Blk at z; omega)).trans hl (fun _ z => z) (fun c z => by omega)
theorem ok_X8_text {G : Gx} {μ : Mu} (a : AS) (hK : Kl μ a) (m : Nat) (hm : m < 2 ^ 32) : RunsX 9 4 M_X8_text [.ref (G.2.2 80), .int (nI m)] G μ (CF μ (sp_text a m)) (CT nIA nIA μ (sp_text a m)) := by
  obtain ⟨o, hPa⟩ := hK.2.2.2.2.2.2
  have hvs := hK.vs
  have hn16 := hvs.n16
  have hu48 := hvs.u48
  have hT2 := hvs.tk
  have hp16 := pow16 hvs
  have hB9 := hvs.B9
  have hp48 := pow48 hvs
  have hLL := hvs.le
  have htb := hK.2.1
  refine RunsX.of RX8 rfl (by decide) [(0, .ref (G.2.2 80)), (1, .int (nI m))] (Nat.le_of_ble_eq_true rfl) rfl (fun X hF => ?_)
  refine V.aload_n (pc := 0) 0 dX8_text_0 rfl ?_
  refine V.iload_n (pc := 1) 1 dX8_text_1 rfl ?_
  refine V.iconst (pc := 2) (v := nI 0) dX8_text_2 (by decide) ?_
  refine V.aload_n (pc := 3) 0 dX8_text_3 rfl ?_
  refine gf_X8_13 (pc := 4) (v := nI a.tb) dX8_text_4 hK.1 ?_
  refine cx_X8_84 (pc := 7) dX8_text_7 hF (ok_X8_needNumber m a.tb hm (by omega)) (by decide) (by omega) (Nat.le_of_ble_eq_true rfl) (fun E μ' h => CT.one (if_neg h.1) hK (Fr.refl _ _) (by decide) h.2.1 h.2.2) (fun X hF r_ μ_ h_ => ?_)
  obtain ⟨hmt, rfl, rfl⟩ := h_
  refine V.aload_n (pc := 10) 0 dX8_text_10 rfl ?_
  refine V.iconst (pc := 11) (v := nI 0) dX8_text_11 (by decide) ?_
  refine pf_X8_13 (pc := 12) dX8_text_12 ?_
  refine V.aload_n (pc := 15) 0 dX8_text_15 rfl ?_
  refine gf_X8_41 (pc := 16) dX8_text_16 ?_
  refine V.aload_n (pc := 19) 0 dX8_text_19 rfl ?_
  refine gf_X8_9 (pc := 20) dX8_text_20 ?_
  refine V.iload_n (pc := 23) 1 dX8_text_23 rfl ?_
  refine cl_X8_88 (pc := 24) dX8_text_24 (ok_X4_read a.bs m (by omega) (fun i hi => (hK.2.2.1 i (by omega)).2) (fun i hi => (congrFun (si_c _ 1 (nI 0) (show (81 : Nat) ≠ 80 by decide)) i).trans (hK.2.2.1 i (by omega)).1)) (by omega) (Nat.le_of_ble_eq_true rfl) (fun r_ μ_ h_ => ?_)
  obtain ⟨rfl, hfR, hRd⟩ := h_
  have hft : (rfin a.bs m).ft < 4 := rfin_b a.bs m
  refine V.istore_n (pc := 27) (lv' := [(0, .ref (G.2.2 80)), (1, .int (nI m)), (2, .int (nI ((rfin a.bs m).ft)))]) dX8_text_27 (by decide) rfl ?_
  refine V.aload_n (pc := 28) 0 dX8_text_28 rfl ?_
  refine V.aload_n (pc := 29) 0 dX8_text_29 rfl ?_
  refine gf_X8_41 (pc := 30) dX8_text_30 ?_
  refine gf_X8_92 (pc := 33) (v := pv (rfin a.bs m).pl) dX8_text_33 hRd.2.1 ?_
  refine pf_X8_17 (pc := 36) dX8_text_36 ?_
  have hKd := hK.read (m := m) hfR rfl
  obtain ⟨o3, hP3⟩ := hKd.1.2.2.2.2.2.2
  refine V.iload_n (pc := 39) 2 dX8_text_39 rfl ?_
  refine V.ifN_eq (pc := 40) 48 dX8_text_40 (by decide) (by omega) (fun h_40 => ?_) (fun h_40 => ?_)
  · refine V.aload_n (pc := 48) 0 dX8_text_48 rfl ?_
    refine gf_X8_34 (pc := 49) dX8_text_49 ?_
    refine V.aload_n (pc := 52) 0 dX8_text_52 rfl ?_
    refine gf_X8_27 (pc := 53) dX8_text_53 ?_
    refine cl_X8_95 (pc := 56) dX8_text_56 (ok_X2_keep o3 a.k a.h a.S hP3 hKd.1.st) (by omega) (Nat.le_of_ble_eq_true rfl) (fun r_ μ_ h_ => ?_)
    obtain ⟨rfl, hfk, hpk⟩ := h_
    have hS4 : St μ_ 0 a.S := hKd.1.st.kept hfk
    refine V.aload_n (pc := 59) 0 dX8_text_59 rfl ?_
    refine gf_X8_41 (pc := 60) dX8_text_60 ?_
    refine gf_X8_99 (pc := 63) dX8_text_63 ?_
    refine V.aload_n (pc := 66) 0 dX8_text_66 rfl ?_
    refine gf_X8_27 (pc := 67) dX8_text_67 ?_
    refine gf_X8_102 (pc := 70) 0 (by decide) (v := nI a.S.B) dX8_text_70 hS4.B ?_
    refine pf_X8_102 (pc := 73) 1 (by decide) dX8_text_73 ?_
    have hDr : Dr μ_ (rfin a.bs m).D (opn (rfin a.bs m)) := hRd.2.2.2.2.2.fr (fun c hc => by have e1 := hfk c (fun z => by unfold Blk at hc; have z : c = 83 ∨ (16 ≤ c ∧ c < 80) := z; omega); exact ⟨e1.1.trans (si_c _ _ _ (by unfold Blk at hc; omega)), e1.2⟩)
    refine V.aload_n (pc := 76) 0 dX8_text_76 rfl ?_
    refine gf_X8_27 (pc := 77) dX8_text_77 ?_
    refine V.aload_n (pc := 80) 0 dX8_text_80 rfl ?_
    refine gf_X8_41 (pc := 81) dX8_text_81 ?_
    refine gf_X8_99 (pc := 84) dX8_text_84 ?_
    refine cl_X8_105 (pc := 87) 0 (by decide) dX8_text_87 (ok_X6_copyFrom 0 1 (by decide) (by decide) (by decide)) (by omega) (Nat.le_of_ble_eq_true rfl) (fun r_ μ_ h_ => ?_)
    obtain ⟨rfl, hcp⟩ := h_
    refine V.aload_n (pc := 90) 0 dX8_text_90 rfl ?_
    refine gf_X8_27 (pc := 91) dX8_text_91 ?_
    refine cl_X8_108 (pc := 94) 0 (by decide) dX8_text_94 (ok_X6_linkChains 0 (by decide) (txt (rfin a.bs m).D a.S.B) (hcp.st0 (Dr_txt hDr (rfin_wo h_40) (RV_fin a.bs m) hB9 (Nat.le_trans (rfin_tot h_40) (by omega))))) (by omega) (Nat.le_of_ble_eq_true rfl) (fun r_ μ_ h_ => ?_)
    obtain ⟨rfl, hfl, hS7⟩ := h_
    refine V.aload_n (pc := 97) 0 dX8_text_97 rfl ?_
    refine gf_X8_27 (pc := 98) dX8_text_98 ?_
    refine gf_X8_111 (pc := 101) 0 (by decide) (v := nI ((rfin a.bs m).D.n)) dX8_text_101 hS7.n ?_
    exact V.iretX (pc := 104) hF dX8_text_104 (CF.mk ((if_pos hmt).trans (if_pos h_40)) (hKd.1.acted (S := txt (rfin a.bs m).D a.S.B) hfk hpk (txt_fr hcp hfl) hS7).1 (hKd.2.ck2 (hKd.1.acted (S := txt (rfin a.bs m).D a.S.B) hfk hpk (txt_fr hcp hfl) hS7).2 (fun _ z => z)))
  · refine V.iload_n (pc := 43) 2 dX8_text_43 rfl ?_
    refine V.bipush (pc := 44) (v := nI 10) dX8_text_44 (by decide) ?_
    refine V.isub (pc := 46) (v := nI (rfin a.bs m).ft - nI 10) dX8_text_46 rfl ?_
    exact V.iretX (pc := 47) hF dX8_text_47 (CF.mk ((if_pos hmt).trans (if_neg (by omega))) hKd.1 hKd.2)
def tellN (a : AS) (x : Nat) : Nat := if x = 0 then a.S.n else if x = 1 then a.S.u else if x = 2 then a.S.B else if x = 3 then cov a.S (2 ^ a.S.n - 1) else if x = 4 then lenOf a.S (2 ^ a.S.n - 1) else if x = 5 then a.tb else if x = 6 then a.k else if x = 7 then a.S.T else if x = 8 then cov a.S a.S.T else lenOf a.S a.S.T
def sp_told (a : AS) (x : Nat) : Res := if x ≤ 9 then rOk (nI (tellN a x)) a else rNo 1 a 1
theorem ok_X8_told {G : Gx} {μ : Mu} (a : AS) (hK : Kl μ a) (x : Nat) (hx : x < 2 ^ 32) : RunsX 9 4 M_X8_told [.ref (G.2.2 80), .int (nI x)] G μ (CF μ (sp_told a x)) (CT nIA nIA μ (sp_told a x)) := by
  obtain ⟨o, hPa⟩ := hK.2.2.2.2.2.2
  have hvs := hK.vs
  have hn16 := hvs.n16
  have hu48 := hvs.u48
  have hT2 := hvs.tk
  have hp16 := pow16 hvs
  have hB9 := hvs.B9
  have hp48 := pow48 hvs
  have hLL := hvs.le
  refine RunsX.of RX8 rfl (by decide) [(0, .ref (G.2.2 80)), (1, .int (nI x))] (Nat.le_of_ble_eq_true rfl) rfl (fun X hF => ?_)
  refine V.aload_n (pc := 0) 0 dX8_told_0 rfl ?_
  refine V.iload_n (pc := 1) 1 dX8_told_1 rfl ?_
  refine V.iconst (pc := 2) (v := nI 0) dX8_told_2 (by decide) ?_
  refine V.bipush (pc := 3) (v := nI 9) dX8_told_3 (by decide) ?_
  refine cx_X8_84 (pc := 5) dX8_told_5 hF (ok_X8_needNumber x 9 hx (by decide)) (by decide) (by omega) (Nat.le_of_ble_eq_true rfl) (fun E μ' h => CT.one (if_neg h.1) hK (Fr.refl _ _) (by decide) h.2.1 h.2.2) (fun X hF r_ μ_ h_ => ?_)
  obtain ⟨hx1, rfl, rfl⟩ := h_
  refine V.iload_n (pc := 8) 1 dX8_told_8 rfl ?_
  have hts_9 : x = 0 ∨ x = 1 ∨ x = 2 ∨ x = 3 ∨ x = 4 ∨ x = 5 ∨ x = 6 ∨ x = 7 ∨ x = 8 ∨ 8 < x := by omega
  rcases hts_9 with h_9 | h_9 | h_9 | h_9 | h_9 | h_9 | h_9 | h_9 | h_9 | h_9
  · refine V.tsIn (pc := 9) 0 60 h_9 (by decide) dX8_told_9 (by decide) rfl (by decide) ?_
    refine V.aload_n (pc := 60) 0 dX8_told_60 rfl ?_
    refine gf_X8_27 (pc := 61) dX8_told_61 ?_
    refine gf_X8_111 (pc := 64) 0 (by decide) (v := nI a.S.n) dX8_told_64 hK.st.n ?_
    exact V.iretX (pc := 67) hF dX8_told_67 (CF.mk ((if_pos hx1).trans (by subst h_9; rfl)) hK (Fr.refl _ _))
  · refine V.tsIn (pc := 9) 1 68 h_9 (by decide) dX8_told_9 (by decide) rfl (by decide) ?_
    refine V.aload_n (pc := 68) 0 dX8_told_68 rfl ?_
    refine gf_X8_27 (pc := 69) dX8_told_69 ?_
    refine gf_X8_167 (pc := 72) 0 (by decide) (v := nI a.S.u) dX8_told_72 hK.st.u ?_
    exact V.iretX (pc := 75) hF dX8_told_75 (CF.mk ((if_pos hx1).trans (by subst h_9; rfl)) hK (Fr.refl _ _))
  · refine V.tsIn (pc := 9) 2 76 h_9 (by decide) dX8_told_9 (by decide) rfl (by decide) ?_
    refine V.aload_n (pc := 76) 0 dX8_told_76 rfl ?_
    refine gf_X8_27 (pc := 77) dX8_told_77 ?_
    refine gf_X8_102 (pc := 80) 0 (by decide) (v := nI a.S.B) dX8_told_80 hK.st.B ?_
    exact V.iretX (pc := 83) hF dX8_told_83 (CF.mk ((if_pos hx1).trans (by subst h_9; rfl)) hK (Fr.refl _ _))
  · refine V.tsIn (pc := 9) 3 84 h_9 (by decide) dX8_told_9 (by decide) rfl (by decide) ?_
    refine V.aload_n (pc := 84) 0 dX8_told_84 rfl ?_
    refine gf_X8_27 (pc := 85) dX8_told_85 ?_
    refine V.aload_n (pc := 88) 0 dX8_told_88 rfl ?_
    refine gf_X8_27 (pc := 89) dX8_told_89 ?_
    refine cp_X8_170 (pc := 92) 0 (by decide) dX8_told_92 (ok_X6_everySentence 0 (by decide) a.S hK.st) (by omega) (Nat.le_of_ble_eq_true rfl) ?_
    refine cp_X8_154 (pc := 95) 0 (by decide) dX8_told_95 (ok_X6_coveredBy 0 (by decide) a.S hK.st (2 ^ a.S.n - 1) (by omega)) (by omega) (Nat.le_of_ble_eq_true rfl) ?_
    exact V.iretX (pc := 98) hF dX8_told_98 (CF.mk ((if_pos hx1).trans (by subst h_9; rfl)) hK (Fr.refl _ _))
  · refine V.tsIn (pc := 9) 4 99 h_9 (by decide) dX8_told_9 (by decide) rfl (by decide) ?_
    refine V.aload_n (pc := 99) 0 dX8_told_99 rfl ?_
    refine gf_X8_27 (pc := 100) dX8_told_100 ?_
    refine V.aload_n (pc := 103) 0 dX8_told_103 rfl ?_
    refine gf_X8_27 (pc := 104) dX8_told_104 ?_
    refine cp_X8_170 (pc := 107) 0 (by decide) dX8_told_107 (ok_X6_everySentence 0 (by decide) a.S hK.st) (by omega) (Nat.le_of_ble_eq_true rfl) ?_
    refine cp_X8_174 (pc := 110) 0 (by decide) dX8_told_110 (ok_X6_lengthOf 0 (by decide) a.S hK.st (2 ^ a.S.n - 1) (by omega)) (by omega) (Nat.le_of_ble_eq_true rfl) ?_
    exact V.iretX (pc := 113) hF dX8_told_113 (CF.mk ((if_pos hx1).trans (by subst h_9; rfl)) hK (Fr.refl _ _))
  · refine V.tsIn (pc := 9) 5 114 h_9 (by decide) dX8_told_9 (by decide) rfl (by decide) ?_
    refine V.aload_n (pc := 114) 0 dX8_told_114 rfl ?_
    refine gf_X8_13 (pc := 115) (v := nI a.tb) dX8_told_115 hK.1 ?_
    exact V.iretX (pc := 118) hF dX8_told_118 (CF.mk ((if_pos hx1).trans (by subst h_9; rfl)) hK (Fr.refl _ _))
  · refine V.tsIn (pc := 9) 6 119 h_9 (by decide) dX8_told_9 (by decide) rfl (by decide) ?_
    refine V.aload_n (pc := 119) 0 dX8_told_119 rfl ?_
    refine gf_X8_34 (pc := 120) dX8_told_120 ?_
    refine gf_X8_161 (pc := 123) (v := nI a.k) dX8_told_123 hPa.2.1 ?_
    exact V.iretX (pc := 126) hF dX8_told_126 (CF.mk ((if_pos hx1).trans (by subst h_9; rfl)) hK (Fr.refl _ _))
  · refine V.tsIn (pc := 9) 7 127 h_9 (by decide) dX8_told_9 (by decide) rfl (by decide) ?_
    refine V.aload_n (pc := 127) 0 dX8_told_127 rfl ?_
    refine gf_X8_27 (pc := 128) dX8_told_128 ?_
    refine gf_X8_133 (pc := 131) 0 (by decide) (v := nI a.S.T) dX8_told_131 hK.st.T ?_
    exact V.iretX (pc := 134) hF dX8_told_134 (CF.mk ((if_pos hx1).trans (by subst h_9; rfl)) hK (Fr.refl _ _))
  · refine V.tsIn (pc := 9) 8 135 h_9 (by decide) dX8_told_9 (by decide) rfl (by decide) ?_
    refine V.aload_n (pc := 135) 0 dX8_told_135 rfl ?_
    refine gf_X8_27 (pc := 136) dX8_told_136 ?_
    refine V.aload_n (pc := 139) 0 dX8_told_139 rfl ?_
    refine gf_X8_27 (pc := 140) dX8_told_140 ?_
    refine gf_X8_133 (pc := 143) 0 (by decide) (v := nI a.S.T) dX8_told_143 hK.st.T ?_
    refine cp_X8_154 (pc := 146) 0 (by decide) dX8_told_146 (ok_X6_coveredBy 0 (by decide) a.S hK.st (a.S.T) (by omega)) (by omega) (Nat.le_of_ble_eq_true rfl) ?_
    exact V.iretX (pc := 149) hF dX8_told_149 (CF.mk ((if_pos hx1).trans (by subst h_9; rfl)) hK (Fr.refl _ _))
  · refine V.tsOut (pc := 9) 150 (by omega) (by omega) dX8_told_9 (by decide) ?_
    refine V.aload_n (pc := 150) 0 dX8_told_150 rfl ?_
    refine gf_X8_27 (pc := 151) dX8_told_151 ?_
    refine V.aload_n (pc := 154) 0 dX8_told_154 rfl ?_
    refine gf_X8_27 (pc := 155) dX8_told_155 ?_
    refine gf_X8_133 (pc := 158) 0 (by decide) (v := nI a.S.T) dX8_told_158 hK.st.T ?_
    refine cp_X8_174 (pc := 161) 0 (by decide) dX8_told_161 (ok_X6_lengthOf 0 (by decide) a.S hK.st (a.S.T) (by omega)) (by omega) (Nat.le_of_ble_eq_true rfl) ?_
    exact V.iretX (pc := 164) hF dX8_told_164 (CF.mk ((if_pos hx1).trans (by rw [show x = 9 by omega]; rfl)) hK (Fr.refl _ _))
def sentN (S : TS) (s x : Nat) : Nat := if x = 0 then S.len s else if x = 1 then S.cnt s else if x = 2 then cntB (S.bag s) 48 else if x = 3 then wOf S (S.bag s) else if x = 4 then chain S s else if x = 5 then gain S s S.T else if x = 6 then cost S s S.T else (fitsB S s S.T).toNat
def sp_sentence (a : AS) (s x : Nat) : Res := if s < a.S.n then if x ≤ 7 then rOk (nI (sentN a.S s x)) a else rNo 2 a 1 else rNo 1 a 0
theorem ok_X8_sentence {G : Gx} {μ : Mu} (a : AS) (hK : Kl μ a) (s x : Nat) (hs : s < 2 ^ 32) (hx : x < 2 ^ 32) : RunsX 9 4 M_X8_sentence [.ref (G.2.2 80), .int (nI s), .int (nI x)] G μ (CF μ (sp_sentence a s x)) (CT nNS nIA μ (sp_sentence a s x)) := by
  obtain ⟨o, hPa⟩ := hK.2.2.2.2.2.2
  have hvs := hK.vs
  have hn16 := hvs.n16
  have hu48 := hvs.u48
  have hT2 := hvs.tk
  have hp16 := pow16 hvs
  have hB9 := hvs.B9
  have hp48 := pow48 hvs
  have hLL := hvs.le
  refine RunsX.of RX8 rfl (by decide) [(0, .ref (G.2.2 80)), (1, .int (nI s)), (2, .int (nI x))] (Nat.le_of_ble_eq_true rfl) rfl (fun X hF => ?_)
  refine V.aload_n (pc := 0) 0 dX8_sentence_0 rfl ?_
  refine V.iload_n (pc := 1) 1 dX8_sentence_1 rfl ?_
  refine cx_X8_130 (pc := 2) dX8_sentence_2 hF (ok_X8_needSentence s a.S.n hs hK.st.n (by omega)) (by decide) (by omega) (Nat.le_of_ble_eq_true rfl) (fun E μ' h => CT.one (if_neg h.1) hK (Fr.refl _ _) (by decide) h.2.1 h.2.2) (fun X hF r_ μ_ h_ => ?_)
  obtain ⟨hsn, rfl, rfl⟩ := h_
  refine V.aload_n (pc := 5) 0 dX8_sentence_5 rfl ?_
  refine V.iload_n (pc := 6) 2 dX8_sentence_6 rfl ?_
  refine V.iconst (pc := 7) (v := nI 0) dX8_sentence_7 (by decide) ?_
  refine V.bipush (pc := 8) (v := nI 7) dX8_sentence_8 (by decide) ?_
  refine cx_X8_84 (pc := 10) dX8_sentence_10 hF (ok_X8_needNumber x 7 hx (by decide)) (by decide) (by omega) (Nat.le_of_ble_eq_true rfl) (fun E μ' h => CT.two ((if_pos hsn).trans (if_neg h.1)) hK (Fr.refl _ _) (by decide) h.2.1 h.2.2) (fun X hF r_ μ_ h_ => ?_)
  obtain ⟨hx1, rfl, rfl⟩ := h_
  have hbg := (hvs.sen hsn).2.2.2.2.2
  refine V.iload_n (pc := 13) 2 dX8_sentence_13 rfl ?_
  have hts_14 : x = 0 ∨ x = 1 ∨ x = 2 ∨ x = 3 ∨ x = 4 ∨ x = 5 ∨ x = 6 ∨ 6 < x := by omega
  rcases hts_14 with h_14 | h_14 | h_14 | h_14 | h_14 | h_14 | h_14 | h_14
  · refine V.tsIn (pc := 14) 0 56 h_14 (by decide) dX8_sentence_14 (by decide) rfl (by decide) ?_
    refine V.aload_n (pc := 56) 0 dX8_sentence_56 rfl ?_
    refine gf_X8_27 (pc := 57) dX8_sentence_57 ?_
    refine gf_X8_177 (pc := 60) 0 (by decide) dX8_sentence_60 ?_
    refine V.iload_n (pc := 63) 1 dX8_sentence_63 rfl ?_
    refine V.iald (pc := 64) (k := 8 * 0 + 1) (n := 16) (v := nI (a.S.len s)) (by omega) (cell_Si (by decide) ⟨by decide, by decide⟩) s (by omega) (by decide) dX8_sentence_64 (hK.st.len s (by omega)) ?_
    exact V.iretX (pc := 65) hF dX8_sentence_65 (CF.mk ((if_pos hsn).trans ((if_pos hx1).trans (by subst h_14; rfl))) hK (Fr.refl _ _))
  · refine V.tsIn (pc := 14) 1 66 h_14 (by decide) dX8_sentence_14 (by decide) rfl (by decide) ?_
    refine V.aload_n (pc := 66) 0 dX8_sentence_66 rfl ?_
    refine gf_X8_27 (pc := 67) dX8_sentence_67 ?_
    refine gf_X8_180 (pc := 70) 0 (by decide) dX8_sentence_70 ?_
    refine V.iload_n (pc := 73) 1 dX8_sentence_73 rfl ?_
    refine V.iald (pc := 74) (k := 8 * 0 + 2) (n := 16) (v := nI (a.S.cnt s)) (by omega) (cell_Si (by decide) ⟨by decide, by decide⟩) s (by omega) (by decide) dX8_sentence_74 (hK.st.cnt s (by omega)) ?_
    exact V.iretX (pc := 75) hF dX8_sentence_75 (CF.mk ((if_pos hsn).trans ((if_pos hx1).trans (by subst h_14; rfl))) hK (Fr.refl _ _))
  · refine V.tsIn (pc := 14) 2 76 h_14 (by decide) dX8_sentence_14 (by decide) rfl (by decide) ?_
    refine V.aload_n (pc := 76) 0 dX8_sentence_76 rfl ?_
    refine gf_X8_27 (pc := 77) dX8_sentence_77 ?_
    refine gf_X8_183 (pc := 80) 0 (by decide) dX8_sentence_80 ?_
    refine V.iload_n (pc := 83) 1 dX8_sentence_83 rfl ?_
    refine V.lald (pc := 84) (k := 8 * 0 + 5) (n := 16) (v := lN (a.S.bag s)) (by omega) (cell_Sj (by decide) rfl) s (by omega) (by decide) dX8_sentence_84 (hK.st.bag s (by omega)) ?_
    refine cp_X8_187 (pc := 85) dX8_sentence_85 (ok_bitCountL (a.S.bag s) (by omega)) (by omega) (Nat.le_of_ble_eq_true rfl) ?_
    exact V.iretX (pc := 88) hF dX8_sentence_88 (CF.mk ((if_pos hsn).trans ((if_pos hx1).trans (by subst h_14; rfl))) hK (Fr.refl _ _))
  · refine V.tsIn (pc := 14) 3 89 h_14 (by decide) dX8_sentence_14 (by decide) rfl (by decide) ?_
    refine V.aload_n (pc := 89) 0 dX8_sentence_89 rfl ?_
    refine gf_X8_27 (pc := 90) dX8_sentence_90 ?_
    refine V.aload_n (pc := 93) 0 dX8_sentence_93 rfl ?_
    refine gf_X8_27 (pc := 94) dX8_sentence_94 ?_
    refine gf_X8_183 (pc := 97) 0 (by decide) dX8_sentence_97 ?_
    refine V.iload_n (pc := 100) 1 dX8_sentence_100 rfl ?_
    refine V.lald (pc := 101) (k := 8 * 0 + 5) (n := 16) (v := lN (a.S.bag s)) (by omega) (cell_Sj (by decide) rfl) s (by omega) (by decide) dX8_sentence_101 (hK.st.bag s (by omega)) ?_
    refine cp_X8_193 (pc := 102) 0 (by decide) dX8_sentence_102 (ok_X6_weightOf 0 (by decide) a.S hK.st (a.S.bag s) (by omega)) (by omega) (Nat.le_of_ble_eq_true rfl) ?_
    exact V.iretX (pc := 105) hF dX8_sentence_105 (CF.mk ((if_pos hsn).trans ((if_pos hx1).trans (by subst h_14; rfl))) hK (Fr.refl _ _))
  · refine V.tsIn (pc := 14) 4 106 h_14 (by decide) dX8_sentence_14 (by decide) rfl (by decide) ?_
    refine V.aload_n (pc := 106) 0 dX8_sentence_106 rfl ?_
    refine gf_X8_27 (pc := 107) dX8_sentence_107 ?_
    refine gf_X8_148 (pc := 110) 0 (by decide) dX8_sentence_110 ?_
    refine V.iload_n (pc := 113) 1 dX8_sentence_113 rfl ?_
    refine V.iald (pc := 114) (k := 8 * 0 + 4) (n := 16) (v := nI (chain a.S s)) (by omega) (cell_Si (by decide) ⟨by decide, by decide⟩) s (by omega) (by decide) dX8_sentence_114 (hK.st.chain s (by omega)) ?_
    exact V.iretX (pc := 115) hF dX8_sentence_115 (CF.mk ((if_pos hsn).trans ((if_pos hx1).trans (by subst h_14; rfl))) hK (Fr.refl _ _))
  · refine V.tsIn (pc := 14) 5 116 h_14 (by decide) dX8_sentence_14 (by decide) rfl (by decide) ?_
    refine V.aload_n (pc := 116) 0 dX8_sentence_116 rfl ?_
    refine gf_X8_27 (pc := 117) dX8_sentence_117 ?_
    refine V.iload_n (pc := 120) 1 dX8_sentence_120 rfl ?_
    refine V.aload_n (pc := 121) 0 dX8_sentence_121 rfl ?_
    refine gf_X8_27 (pc := 122) dX8_sentence_122 ?_
    refine gf_X8_133 (pc := 125) 0 (by decide) (v := nI a.S.T) dX8_sentence_125 hK.st.T ?_
    refine cp_X8_144 (pc := 128) 0 (by decide) dX8_sentence_128 (ok_X6_gainOf 0 (by decide) a.S hK.st s a.S.T hsn (by omega)) (by omega) (Nat.le_of_ble_eq_true rfl) ?_
    exact V.iretX (pc := 131) hF dX8_sentence_131 (CF.mk ((if_pos hsn).trans ((if_pos hx1).trans (by subst h_14; rfl))) hK (Fr.refl _ _))
  · refine V.tsIn (pc := 14) 6 132 h_14 (by decide) dX8_sentence_14 (by decide) rfl (by decide) ?_
    refine V.aload_n (pc := 132) 0 dX8_sentence_132 rfl ?_
    refine gf_X8_27 (pc := 133) dX8_sentence_133 ?_
    refine V.iload_n (pc := 136) 1 dX8_sentence_136 rfl ?_
    refine V.aload_n (pc := 137) 0 dX8_sentence_137 rfl ?_
    refine gf_X8_27 (pc := 138) dX8_sentence_138 ?_
    refine gf_X8_133 (pc := 141) 0 (by decide) (v := nI a.S.T) dX8_sentence_141 hK.st.T ?_
    refine cp_X8_196 (pc := 144) 0 (by decide) dX8_sentence_144 (ok_X6_costOf 0 (by decide) a.S hK.st s a.S.T hsn (by omega)) (by omega) (Nat.le_of_ble_eq_true rfl) ?_
    exact V.iretX (pc := 147) hF dX8_sentence_147 (CF.mk ((if_pos hsn).trans ((if_pos hx1).trans (by subst h_14; rfl))) hK (Fr.refl _ _))
  · refine V.tsOut (pc := 14) 148 (by omega) (by omega) dX8_sentence_14 (by decide) ?_
    refine V.aload_n (pc := 148) 0 dX8_sentence_148 rfl ?_
    refine gf_X8_27 (pc := 149) dX8_sentence_149 ?_
    refine V.iload_n (pc := 152) 1 dX8_sentence_152 rfl ?_
    refine V.aload_n (pc := 153) 0 dX8_sentence_153 rfl ?_
    refine gf_X8_27 (pc := 154) dX8_sentence_154 ?_
    refine gf_X8_133 (pc := 157) 0 (by decide) (v := nI a.S.T) dX8_sentence_157 hK.st.T ?_
    refine cp_X8_136 (pc := 160) 0 (by decide) dX8_sentence_160 (ok_X6_fitsInto 0 (by decide) a.S hK.st s a.S.T hsn (by omega)) (by omega) (Nat.le_of_ble_eq_true rfl) ?_
    refine V.ifB_eq (pc := 163) 170 dX8_sentence_163 (by decide) (fun h_163 => ?_) (fun h_163 => ?_)
    · refine V.iconst (pc := 170) (v := nI 0) dX8_sentence_170 (by decide) ?_
      exact V.iretX (pc := 171) hF dX8_sentence_171 (CF.mk ((if_pos hsn).trans ((if_pos hx1).trans (by rw [show x = 7 by omega]; unfold sentN; simp [h_163]))) hK (Fr.refl _ _))
    · refine V.iconst (pc := 166) (v := nI 1) dX8_sentence_166 (by decide) ?_
      refine V.goto (pc := 167) 171 dX8_sentence_167 (by decide) ?_
      exact V.iretX (pc := 171) hF dX8_sentence_171 (CF.mk ((if_pos hsn).trans ((if_pos hx1).trans (by rw [show x = 7 by omega]; unfold sentN; simp [h_163]))) hK (Fr.refl _ _))
/-- words: the one long answer that may be refused -/
def wOk (a : AS) (s : Nat) : Bool := decide (s < a.S.n)
theorem ok_X8_words {G : Gx} {μ : Mu} (a : AS) (hK : Kl μ a) (s : Nat) (hs : s < 2 ^ 32) : RunsX 9 4 M_X8_words [.ref (G.2.2 80), .int (nI s)] G μ (fun r μ' => s < a.S.n ∧ r = some (.long (lN (a.S.bag s))) ∧ μ' = μ) (fun E μ' => ¬ s < a.S.n ∧ E = nNS ∧ μ' = rB μ 0) := by
  obtain ⟨o, hPa⟩ := hK.2.2.2.2.2.2
  have hvs := hK.vs
  have hn16 := hvs.n16
  have hu48 := hvs.u48
  have hT2 := hvs.tk
  have hp16 := pow16 hvs
  have hB9 := hvs.B9
  have hp48 := pow48 hvs
  have hLL := hvs.le
  refine RunsX.of RX8 rfl (by decide) [(0, .ref (G.2.2 80)), (1, .int (nI s))] (Nat.le_of_ble_eq_true rfl) rfl (fun X hF => ?_)
  refine V.aload_n (pc := 0) 0 dX8_words_0 rfl ?_
  refine V.iload_n (pc := 1) 1 dX8_words_1 rfl ?_
  refine cx_X8_130 (pc := 2) dX8_words_2 hF (ok_X8_needSentence s a.S.n hs hK.st.n (by omega)) (by decide) (by omega) (Nat.le_of_ble_eq_true rfl) (fun E μ' h => h) (fun X hF r_ μ_ h_ => ?_)
  obtain ⟨hsn, rfl, rfl⟩ := h_
  refine V.aload_n (pc := 5) 0 dX8_words_5 rfl ?_
  refine gf_X8_27 (pc := 6) dX8_words_6 ?_
  refine gf_X8_183 (pc := 9) 0 (by decide) dX8_words_9 ?_
  refine V.iload_n (pc := 12) 1 dX8_words_12 rfl ?_
  refine V.lald (pc := 13) (k := 8 * 0 + 5) (n := 16) (v := lN (a.S.bag s)) (by omega) (cell_Sj (by decide) rfl) s (by omega) (by decide) dX8_words_13 (hK.st.bag s (by omega)) ?_
  exact V.lretX (pc := 14) hF dX8_words_14 ⟨hsn, rfl, rfl⟩
def wordN (S : TS) (w x : Nat) : Nat := if x = 0 then S.wt w else if x = 1 then S.nl w else if x = 2 then stands S w else (S.L.testBit w).toNat
def sp_word (a : AS) (w x : Nat) : Res := if w < a.S.u then if x ≤ 3 then rOk (nI (wordN a.S w x)) a else rNo 2 a 1 else rNo 1 a 0
theorem ok_X8_word {G : Gx} {μ : Mu} (a : AS) (hK : Kl μ a) (w x : Nat) (hw : w < 2 ^ 32) (hx : x < 2 ^ 32) : RunsX 9 4 M_X8_word [.ref (G.2.2 80), .int (nI w), .int (nI x)] G μ (CF μ (sp_word a w x)) (CT nNS nIA μ (sp_word a w x)) := by
  obtain ⟨o, hPa⟩ := hK.2.2.2.2.2.2
  have hvs := hK.vs
  have hn16 := hvs.n16
  have hu48 := hvs.u48
  have hT2 := hvs.tk
  have hp16 := pow16 hvs
  have hB9 := hvs.B9
  have hp48 := pow48 hvs
  have hLL := hvs.le
  refine RunsX.of RX8 rfl (by decide) [(0, .ref (G.2.2 80)), (1, .int (nI w)), (2, .int (nI x))] (Nat.le_of_ble_eq_true rfl) rfl (fun X hF => ?_)
  refine V.aload_n (pc := 0) 0 dX8_word_0 rfl ?_
  refine V.iload_n (pc := 1) 1 dX8_word_1 rfl ?_
  refine cx_X8_114 (pc := 2) dX8_word_2 hF (ok_X8_needWord w a.S.u hw hK.st.u (by omega)) (by decide) (by omega) (Nat.le_of_ble_eq_true rfl) (fun E μ' h => CT.one (if_neg h.1) hK (Fr.refl _ _) (by decide) h.2.1 h.2.2) (fun X hF r_ μ_ h_ => ?_)
  obtain ⟨hwu, rfl, rfl⟩ := h_
  refine V.aload_n (pc := 5) 0 dX8_word_5 rfl ?_
  refine V.iload_n (pc := 6) 2 dX8_word_6 rfl ?_
  refine V.iconst (pc := 7) (v := nI 0) dX8_word_7 (by decide) ?_
  refine V.iconst (pc := 8) (v := nI 3) dX8_word_8 (by decide) ?_
  refine cx_X8_84 (pc := 9) dX8_word_9 hF (ok_X8_needNumber x 3 hx (by decide)) (by decide) (by omega) (Nat.le_of_ble_eq_true rfl) (fun E μ' h => CT.two ((if_pos hwu).trans (if_neg h.1)) hK (Fr.refl _ _) (by decide) h.2.1 h.2.2) (fun X hF r_ μ_ h_ => ?_)
  obtain ⟨hx1, rfl, rfl⟩ := h_
  refine V.iload_n (pc := 12) 2 dX8_word_12 rfl ?_
  have hts_13 : x = 0 ∨ x = 1 ∨ x = 2 ∨ 2 < x := by omega
  rcases hts_13 with h_13 | h_13 | h_13 | h_13
  · refine V.tsIn (pc := 13) 0 40 h_13 (by decide) dX8_word_13 (by decide) rfl (by decide) ?_
    refine V.aload_n (pc := 40) 0 dX8_word_40 rfl ?_
    refine gf_X8_27 (pc := 41) dX8_word_41 ?_
    refine gf_X8_117 (pc := 44) 0 (by decide) dX8_word_44 ?_
    refine V.iload_n (pc := 47) 1 dX8_word_47 rfl ?_
    refine V.iald (pc := 48) (k := 8 * 0 + 7) (n := 48) (v := nI (a.S.wt w)) (by omega) (cell_Sw (by decide) rfl) w (by omega) (by decide) dX8_word_48 (hK.st.wt w (by omega)) ?_
    exact V.iretX (pc := 49) hF dX8_word_49 (CF.mk ((if_pos hwu).trans ((if_pos hx1).trans (by subst h_13; rfl))) hK (Fr.refl _ _))
  · refine V.tsIn (pc := 13) 1 50 h_13 (by decide) dX8_word_13 (by decide) rfl (by decide) ?_
    refine V.aload_n (pc := 50) 0 dX8_word_50 rfl ?_
    refine gf_X8_27 (pc := 51) dX8_word_51 ?_
    refine V.iload_n (pc := 54) 1 dX8_word_54 rfl ?_
    refine cp_X8_199 (pc := 55) 0 (by decide) dX8_word_55 (ok_X6_lettersOf 0 (by decide) a.S hK.st w hwu) (by omega) (Nat.le_of_ble_eq_true rfl) ?_
    exact V.iretX (pc := 58) hF dX8_word_58 (CF.mk ((if_pos hwu).trans ((if_pos hx1).trans (by subst h_13; rfl))) hK (Fr.refl _ _))
  · refine V.tsIn (pc := 13) 2 59 h_13 (by decide) dX8_word_13 (by decide) rfl (by decide) ?_
    refine V.aload_n (pc := 59) 0 dX8_word_59 rfl ?_
    refine gf_X8_27 (pc := 60) dX8_word_60 ?_
    refine V.iload_n (pc := 63) 1 dX8_word_63 rfl ?_
    refine cp_X8_202 (pc := 64) 0 (by decide) dX8_word_64 (ok_X6_sentencesWith 0 (by decide) a.S hK.st w (by omega)) (by omega) (Nat.le_of_ble_eq_true rfl) ?_
    exact V.iretX (pc := 67) hF dX8_word_67 (CF.mk ((if_pos hwu).trans ((if_pos hx1).trans (by subst h_13; rfl))) hK (Fr.refl _ _))
  · refine V.tsOut (pc := 13) 68 (by omega) (by omega) dX8_word_13 (by decide) ?_
    refine V.aload_n (pc := 68) 0 dX8_word_68 rfl ?_
    refine gf_X8_27 (pc := 69) dX8_word_69 ?_
    refine V.iload_n (pc := 72) 1 dX8_word_72 rfl ?_
    refine cp_X8_120 (pc := 73) 0 (by decide) dX8_word_73 (ok_X6_leans 0 (by decide) a.S.L w hK.st.L (by omega) (by omega)) (by omega) (Nat.le_of_ble_eq_true rfl) ?_
    refine V.ifB_eq (pc := 76) 83 dX8_word_76 (by decide) (fun h_76 => ?_) (fun h_76 => ?_)
    · refine V.iconst (pc := 83) (v := nI 0) dX8_word_83 (by decide) ?_
      exact V.iretX (pc := 84) hF dX8_word_84 (CF.mk ((if_pos hwu).trans ((if_pos hx1).trans (by rw [show x = 3 by omega]; unfold wordN; simp [h_76]))) hK (Fr.refl _ _))
    · refine V.iconst (pc := 79) (v := nI 1) dX8_word_79 (by decide) ?_
      refine V.goto (pc := 80) 84 dX8_word_80 (by decide) ?_
      exact V.iretX (pc := 84) hF dX8_word_84 (CF.mk ((if_pos hwu).trans ((if_pos hx1).trans (by rw [show x = 3 by omega]; unfold wordN; simp [h_76]))) hK (Fr.refl _ _))
def sp_letter (a : AS) (w x : Nat) : Res := if w < a.S.u then if x < a.S.nl w then rOk (nI (a.S.lt w x)) a else rNo 1 a 0 else rNo 1 a 0
theorem ok_X8_letter {G : Gx} {μ : Mu} (a : AS) (hK : Kl μ a) (w x : Nat) (hw : w < 2 ^ 32) (hx : x < 2 ^ 32) : RunsX 9 4 M_X8_letter [.ref (G.2.2 80), .int (nI w), .int (nI x)] G μ (CF μ (sp_letter a w x)) (CT nNS nNS μ (sp_letter a w x)) := by
  obtain ⟨o, hPa⟩ := hK.2.2.2.2.2.2
  have hvs := hK.vs
  have hn16 := hvs.n16
  have hu48 := hvs.u48
  have hT2 := hvs.tk
  have hp16 := pow16 hvs
  have hB9 := hvs.B9
  have hp48 := pow48 hvs
  have hLL := hvs.le
  refine RunsX.of RX8 rfl (by decide) [(0, .ref (G.2.2 80)), (1, .int (nI w)), (2, .int (nI x))] (Nat.le_of_ble_eq_true rfl) rfl (fun X hF => ?_)
  refine V.aload_n (pc := 0) 0 dX8_letter_0 rfl ?_
  refine V.iload_n (pc := 1) 1 dX8_letter_1 rfl ?_
  refine cx_X8_114 (pc := 2) dX8_letter_2 hF (ok_X8_needWord w a.S.u hw hK.st.u (by omega)) (by decide) (by omega) (Nat.le_of_ble_eq_true rfl) (fun E μ' h => CT.one (if_neg h.1) hK (Fr.refl _ _) (by decide) h.2.1 h.2.2) (fun X hF r_ μ_ h_ => ?_)
  obtain ⟨hwu, rfl, rfl⟩ := h_
  have hnl := (hvs.wrd hwu).2.2.1
  refine V.aload_n (pc := 5) 0 dX8_letter_5 rfl ?_
  by_cases hneg : x < 2 ^ 31
  · refine V.iload_n (pc := 6) 2 dX8_letter_6 rfl ?_
    refine V.ifN_lt (pc := 7) 26 dX8_letter_7 (by decide) (by omega) ?_
    refine V.iload_n (pc := 10) 2 dX8_letter_10 rfl ?_
    refine V.aload_n (pc := 11) 0 dX8_letter_11 rfl ?_
    refine gf_X8_27 (pc := 12) dX8_letter_12 ?_
    refine V.iload_n (pc := 15) 1 dX8_letter_15 rfl ?_
    refine cp_X8_199 (pc := 16) 0 (by decide) dX8_letter_16 (ok_X6_lettersOf 0 (by decide) a.S hK.st w hwu) (by omega) (Nat.le_of_ble_eq_true rfl) ?_
    refine V.icmpN_ge (pc := 19) 26 dX8_letter_19 (by decide) (by omega) (by omega) (fun h_19 => ?_) (fun h_19 => ?_)
    · refine V.iconst (pc := 26) (v := nI 0) dX8_letter_26 (by decide) ?_
      refine cx_X8_205 (pc := 27) dX8_letter_27 hF (ok_X8_needElement false) (by decide) (by omega) (Nat.le_of_ble_eq_true rfl) (fun E μ' h => CT.one ((if_pos hwu).trans (if_neg (by omega))) hK (Fr.refl _ _) (by decide) h.2.1 h.2.2) (fun X hF r_ μ_ h_ => ?_)
      exact absurd h_.1 (by decide)
    · refine V.iconst (pc := 22) (v := nI 1) dX8_letter_22 (by decide) ?_
      refine V.goto (pc := 23) 27 dX8_letter_23 (by decide) ?_
      refine cx_X8_205 (pc := 27) dX8_letter_27 hF (ok_X8_needElement true) (by decide) (by omega) (Nat.le_of_ble_eq_true rfl) (fun E μ' h => absurd h.1 (by decide)) (fun X hF r_ μ_ h_ => ?_)
      obtain ⟨-, rfl, rfl⟩ := h_
      refine V.aload_n (pc := 30) 0 dX8_letter_30 rfl ?_
      refine gf_X8_27 (pc := 31) dX8_letter_31 ?_
      refine V.iload_n (pc := 34) 1 dX8_letter_34 rfl ?_
      refine V.iload_n (pc := 35) 2 dX8_letter_35 rfl ?_
      refine cp_X8_208 (pc := 36) 0 (by decide) dX8_letter_36 (ok_X6_letterAt 0 (by decide) a.S hK.st w x hwu h_19) (by omega) (Nat.le_of_ble_eq_true rfl) ?_
      exact V.iretX (pc := 39) hF dX8_letter_39 (CF.mk ((if_pos hwu).trans (if_pos h_19)) hK (Fr.refl _ _))
  · refine V.lvs (lv' := [(0, .ref (G.2.2 80)), (1, .int (nI w)), (2, .int (nI x))]) rfl ?_
    refine V.iload_n (pc := 6) 2 dX8_letter_6 rfl ?_
    refine V.if_lt (pc := 7) 26 dX8_letter_7 (by decide) (fun h_7 => ?_) (fun h_7 => ?_)
    · refine V.iconst (pc := 26) (v := nI 0) dX8_letter_26 (by decide) ?_
      refine cx_X8_205 (pc := 27) dX8_letter_27 hF (ok_X8_needElement false) (by decide) (by omega) (Nat.le_of_ble_eq_true rfl) (fun E μ' h => CT.one ((if_pos hwu).trans (if_neg (by omega))) hK (Fr.refl _ _) (by decide) h.2.1 h.2.2) (fun X hF r_ μ_ h_ => ?_)
      exact absurd h_.1 (by decide)
    · exact absurd (nI_neg (by omega) hx) h_7
def prUp (S : TS) : Nat → Nat
  | 0 => 0
  | i + 1 => ((prUp S i * 31 + wOf S (S.bag i)) * 31) + gain S i S.T
theorem ok_X8_print {G : Gx} {μ : Mu} (a : AS) (hK : Kl μ a)  : RunsP 9 M_X8_print [.ref (G.2.2 80)] G μ (.long (lN (prUp a.S a.S.n))) := by
  obtain ⟨o, hPa⟩ := hK.2.2.2.2.2.2
  have hvs := hK.vs
  have hn16 := hvs.n16
  have hu48 := hvs.u48
  have hT2 := hvs.tk
  have hp16 := pow16 hvs
  have hB9 := hvs.B9
  have hp48 := pow48 hvs
  have hLL := hvs.le
  refine Runs.go RX8 rfl (by decide) [(0, .ref (G.2.2 80))] (Nat.le_of_ble_eq_true rfl) rfl (fun X hF => ?_)
  refine V.lconst (pc := 0) (v := lN 0) dX8_print_0 (by decide) ?_
  refine V.lstore_n (pc := 1) (lv' := [(0, .ref (G.2.2 80)), (1, .long (lN 0))]) dX8_print_1 (by decide) rfl ?_
  refine V.iconst (pc := 2) (v := nI 0) dX8_print_2 (by decide) ?_
  refine V.istore_n (pc := 3) (lv' := [(0, .ref (G.2.2 80)), (1, .long (lN 0)), (3, .int (nI 0))]) dX8_print_3 (by decide) rfl ?_
  have L4 : ∀ (n_ : Nat) (i : Nat), (i ≤ a.S.n) → a.S.n - i < n_ → V G RX8 cX8_print 4 9 X 4 [(0, .ref (G.2.2 80)), (1, .long (lN (prUp a.S i))), (3, .int (nI i))] [] μ := by
    intro n_
    induction n_ with
    | zero => intro i hi hm_; exact absurd hm_ (Nat.not_lt_zero _)
    | succ n_ ih4 =>
      intro i hi hm_
      refine V.iload_n (pc := 4) 2 dX8_print_4 rfl ?_
      refine V.aload_n (pc := 5) 0 dX8_print_5 rfl ?_
      refine gf_X8_27 (pc := 6) dX8_print_6 ?_
      refine gf_X8_111 (pc := 9) 0 (by decide) (v := nI a.S.n) dX8_print_9 hK.st.n ?_
      refine V.icmpN_ge (pc := 12) 68 dX8_print_12 (by decide) (by omega) (by omega) (fun h_12 => ?_) (fun h_12 => ?_)
      · refine V.lload_n (pc := 68) 1 dX8_print_68 rfl ?_
        exact V.lret (pc := 69) hF dX8_print_69 ⟨by rw [show i = a.S.n by omega], rfl⟩
      · have hbg := (hvs.sen h_12).2.2.2.2.2
        have hwo := wOf_le hvs (a.S.bag i)
        have hga : gain a.S i a.S.T ≤ 48000 := wOf_le hvs _
        refine V.lload_n (pc := 15) 1 dX8_print_15 rfl ?_
        refine V.ldc2_w (pc := 16) (v := lN 31) mw_2_110 dX8_print_16 ?_
        refine V.lmul (pc := 19) (v := lN ((prUp a.S i) * 31)) dX8_print_19 (lN_mul _ _) ?_
        refine V.aload_n (pc := 20) 0 dX8_print_20 rfl ?_
        refine gf_X8_27 (pc := 21) dX8_print_21 ?_
        refine V.aload_n (pc := 24) 0 dX8_print_24 rfl ?_
        refine gf_X8_27 (pc := 25) dX8_print_25 ?_
        refine gf_X8_183 (pc := 28) 0 (by decide) dX8_print_28 ?_
        refine V.iload_n (pc := 31) 2 dX8_print_31 rfl ?_
        refine V.lald (pc := 32) (k := 8 * 0 + 5) (n := 16) (v := lN (a.S.bag i)) (by omega) (cell_Sj (by decide) rfl) i (by omega) (by decide) dX8_print_32 (hK.st.bag i (by omega)) ?_
        refine cp_X8_193 (pc := 33) 0 (by decide) dX8_print_33 (ok_X6_weightOf 0 (by decide) a.S hK.st (a.S.bag i) (by omega)) (by omega) (Nat.le_of_ble_eq_true rfl) ?_
        refine V.i2l (pc := 36) (v := lN (wOf a.S (a.S.bag i))) dX8_print_36 (nI_l (by omega)) ?_
        refine V.ladd (pc := 37) (v := lN ((prUp a.S i) * 31 + (wOf a.S (a.S.bag i)))) dX8_print_37 (lN_add _ _) ?_
        refine V.lstore_n (pc := 38) (lv' := [(0, .ref (G.2.2 80)), (1, .long (lN ((prUp a.S i) * 31 + (wOf a.S (a.S.bag i))))), (3, .int (nI i))]) dX8_print_38 (by decide) rfl ?_
        refine V.lload_n (pc := 39) 1 dX8_print_39 rfl ?_
        refine V.ldc2_w (pc := 40) (v := lN 31) mw_2_110 dX8_print_40 ?_
        refine V.lmul (pc := 43) (v := lN (((prUp a.S i) * 31 + (wOf a.S (a.S.bag i))) * 31)) dX8_print_43 (lN_mul _ _) ?_
        refine V.aload_n (pc := 44) 0 dX8_print_44 rfl ?_
        refine gf_X8_27 (pc := 45) dX8_print_45 ?_
        refine V.iload_n (pc := 48) 2 dX8_print_48 rfl ?_
        refine V.aload_n (pc := 49) 0 dX8_print_49 rfl ?_
        refine gf_X8_27 (pc := 50) dX8_print_50 ?_
        refine gf_X8_133 (pc := 53) 0 (by decide) (v := nI a.S.T) dX8_print_53 hK.st.T ?_
        refine cp_X8_144 (pc := 56) 0 (by decide) dX8_print_56 (ok_X6_gainOf 0 (by decide) a.S hK.st i a.S.T h_12 (by omega)) (by omega) (Nat.le_of_ble_eq_true rfl) ?_
        refine V.i2l (pc := 59) (v := lN (gain a.S i a.S.T)) dX8_print_59 (nI_l (by omega)) ?_
        refine V.ladd (pc := 60) (v := lN (((prUp a.S i) * 31 + (wOf a.S (a.S.bag i))) * 31 + (gain a.S i a.S.T))) dX8_print_60 (lN_add _ _) ?_
        refine V.lstore_n (pc := 61) (lv' := [(0, .ref (G.2.2 80)), (1, .long (lN (((prUp a.S i) * 31 + (wOf a.S (a.S.bag i))) * 31 + (gain a.S i a.S.T)))), (3, .int (nI i))]) dX8_print_61 (by decide) rfl ?_
        refine V.iinc (pc := 62) (v := nI (i + 1)) (lv' := [(0, .ref (G.2.2 80)), (1, .long (lN (((prUp a.S i) * 31 + (wOf a.S (a.S.bag i))) * 31 + (gain a.S i a.S.T)))), (3, .int (nI (i + 1)))]) 2 dX8_print_62 rfl (nn_inc _) (by decide) rfl ?_
        refine V.goto (pc := 65) 4 dX8_print_65 (by decide) ?_
        have e_1 : lN (((prUp a.S i) * 31 + (wOf a.S (a.S.bag i))) * 31 + (gain a.S i a.S.T)) = lN (prUp a.S (i + 1)) := rfl
        refine V.lvs (lv' := [(0, .ref (G.2.2 80)), (1, .long (lN (prUp a.S (i + 1)))), (3, .int (nI (i + 1)))]) (congrArg (fun z => ([(0, .ref (G.2.2 80)), (1, .long z), (3, .int (nI (i + 1)))] : List (Nat × Value))) e_1) ?_
        exact ih4 (i + 1) (by omega) (by omega)
  have e_1 : lN 0 = lN (prUp a.S 0) := rfl
  refine V.lvs (lv' := [(0, .ref (G.2.2 80)), (1, .long (lN (prUp a.S 0))), (3, .int (nI 0))]) (congrArg (fun z => ([(0, .ref (G.2.2 80)), (1, .long z), (3, .int (nI 0))] : List (Nat × Value))) e_1) ?_
  exact L4 _ 0 (by omega) (Nat.lt_succ_self _)
