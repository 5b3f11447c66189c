theorem sk_eq {bs : Nat → Nat} {m p q : Nat} (h : Sk bs m p q) (hn : ¬ (p < m ∧ bs p = 32)) : p = q := by
  rcases Nat.lt_or_ge p q with e | e
  · exact absurd (h.2.1 p (Nat.le_refl _) e) hn
  · have := h.1; omega
theorem FL.at_ {μ : Mu} {bs : Nat → Nat} {m : Nat} (h : FL μ bs m) (v : Int32) (i : Nat) (w : Int64) : FL (sj (si μ 96 4 v) 100 i w) bs m := by
  obtain ⟨f, x, h1, h2, h3⟩ := h
  exact ⟨f, x, (si_i μ 96 v (show (6 : Nat) ≠ 4 by decide) 96).trans h1, (si_i μ 96 v (show (7 : Nat) ≠ 4 by decide) 96).trans h2, h3⟩
theorem FL_s {μ : Mu} {bs : Nat → Nat} {m e : Nat} {D : TS} {wo st pl : Nat} (he : e < m) (hE : endW bs (rrun bs e) = (D, wo, 0, st, 0, pl)) (hl : isLt (bs e) = false) (hc : ¬ (bs e = 46 ∧ 0 < wo)) (hc2 : ¬ bs e = 32) (h6 : μ.1 96 6 = nI 1) (h7 : μ.1 96 7 = nI e) : FL μ bs m := by
  have h1 : rrun bs (e + 1) = (D, wo, 0, st, 1, e + 1) := by
    rw [rrun_s (bs := bs) (i := e) rfl (endW_0 (bs := bs) (by rw [hE]; rfl)) hl, hE, sgn_3 hc hc2]; rfl
  have h := fl_s (m := m) he (show (rrun bs (e + 1)).ft = 1 by rw [h1]; rfl) (show (rrun bs (e + 1)).pl = e + 1 by rw [h1]; rfl) (by decide)
  exact ⟨1, e, h6, h7, by decide, by decide, h.1, h.2⟩
theorem FL_e {μ : Mu} {bs : Nat → Nat} {m : Nat} {D : TS} {wo st pl : Nat} (hE : endW bs (rrun bs m) = (D, wo, 0, st, 0, pl)) (hw : 0 < wo) (h6 : μ.1 96 6 = nI 1) (h7 : μ.1 96 7 = nI m) : FL μ bs m := by
  have h : rfin bs m = (D, wo, 0, st, 1, m + 1) := by
    unfold rfin
    rw [hE]; exact (if_pos (show 0 < wo from hw)).trans rfl
  exact ⟨1, m, h6, h7, by decide, by decide, by rw [h]; rfl, by rw [h]; rfl⟩
def SP (μ : Mu) (bs : Nat → Nat) (m B p : Nat) : Prop := ∃ (D : TS) (st pl : Nat), rrun bs p = (D, 0, 0, st, 0, pl) ∧ p ≤ m ∧ μ.1 96 4 = nI p ∧ μ.1 96 6 = nI 0 ∧ Tm μ D B
def WG (μ : Mu) (bs : Nat → Nat) (m B n0 p e : Nat) : Prop := ∃ (D : TS) (wo st pl : Nat), endW bs (rrun bs e) = (D, wo, 0, st, 0, pl) ∧ p ≤ e ∧ e ≤ m ∧ ((rrun bs e).k = 0 ∨ smB bs m e = false) ∧ (wo = 0 → smB bs m e = true) ∧ μ.1 96 4 = nI e ∧ μ.1 96 6 = nI 0 ∧ Tm μ D B ∧ To μ D wo ∧ D.n = n0
theorem WP.to {μ : Mu} {bs : Nat → Nat} {m B n0 p q : Nat} (h : WP μ bs m B n0 q) (hp : p ≤ q) : (∃ e, q < e ∧ e ≤ m ∧ WG μ bs m B n0 p e) ∨ FL μ bs m := by
  rcases h with ⟨e, D, wo, st, pl, h1, h2, h3, h4, h5, h6, h7, h8, h9, h10⟩ | h
  · exact Or.inl ⟨e, h2, h3, D, wo, st, pl, h1, by omega, h3, Or.inr h4, fun z => absurd z (by omega), h5, h6, h7, h8, h9⟩
  · exact Or.inr h
theorem Tm_clr {μ μ1 : Mu} {D : TS} {B : Nat} (h : Tm μ D B) (hn : D.n < 16) (e3 : ∀ i, (i < 5 + 4 * D.n ∨ 5 + 4 * D.n + 4 ≤ i) → μ1.2 100 i = μ.2 100 i) (e4 : ∀ i, i < 4 → μ1.2 100 (5 + 4 * D.n + i) = lN 0) : Tm μ1 D B ∧ To μ1 D 0 := by
  obtain ⟨h1, h2, h3, h4, h5, h6, h7⟩ := h
  refine ⟨⟨by rw [e3 _ (by omega)]; exact h1, by rw [e3 _ (by omega)]; exact h2, by rw [e3 _ (by omega)]; exact h3, by rw [e3 _ (by omega)]; exact h4, by rw [e3 _ (by omega)]; exact h5, fun s hs => ?_, fun w hw => ?_⟩, e4 0 (by decide), e4 1 (by decide), e4 2 (by decide), fun z => absurd z (by omega)⟩
  · rw [e3 _ (by omega), e3 _ (by omega), e3 _ (by omega), e3 _ (by omega)]; exact h6 s hs
  · refine ⟨fun k hk => ?_, ?_, ?_⟩
    · rw [e3 _ (by omega)]; exact (h7 w hw).1 k hk
    · rw [e3 _ (by omega)]; exact (h7 w hw).2.1
    · rw [e3 _ (by omega)]; exact (h7 w hw).2.2
theorem Tm_end {μ μ1 : Mu} {D : TS} {B wo : Nat} (h : Tm μ D B) (hO : To μ D wo) (hw : 0 < wo) (hc : D.cnt D.n = wo) (e0 : μ1.2 100 0 = lN (D.n + 1)) (e : ∀ i, i ≠ 0 → μ1.2 100 i = μ.2 100 i) : Tm μ1 (endS D) B := by
  obtain ⟨h1, h2, h3, h4, h5, h6, h7⟩ := h
  refine ⟨e0, by rw [e _ (by omega)]; exact h2, by rw [e _ (by omega)]; exact h3, by rw [e _ (by omega)]; exact h4, by rw [e _ (by omega)]; exact h5, fun s hs => ?_, fun w hw => ?_⟩
  · have hs : s < D.n + 1 := hs
    rw [e _ (by omega), e _ (by omega), e _ (by omega), e _ (by omega)]
    by_cases z : s = D.n
    · subst z
      obtain ⟨o1, o2, o3, o4⟩ := hO
      rw [bag0, if_neg (by omega)] at o1
      rw [len0, if_neg (by omega)] at o2
      exact ⟨o1, o2, by rw [o3]; exact congrArg lN hc.symm, o4 hw⟩
    · exact h6 s (by omega)
  · refine ⟨fun k hk => ?_, ?_, ?_⟩
    · rw [e _ (by omega)]; exact (h7 w hw).1 k hk
    · rw [e _ (by omega)]; exact (h7 w hw).2.1
    · rw [e _ (by omega)]; exact (h7 w hw).2.2
theorem ok_fineF {G : Gx} {μ : Mu} {bs : Nat → Nat} {m : Nat} (h : FL μ bs m) : RunsP 0 M_X9_fine [.ref (G.2.2 96)] G μ (.int (nI 0)) := by
  obtain ⟨f, w, h1, h2, h3, h4, -⟩ := h
  have := ok_X9_fine (G := G) f h1 h4
  rw [decide_eq_false (by omega)] at this
  exact this
theorem clr_st {μ1 : Mu} {b k : Nat} (h : ∀ i, i < k → μ1.2 100 (b + i) = lN 0) : ∀ i, i < k + 1 → (sj μ1 100 (b + k) (lN 0)).2 100 (b + i) = lN 0 := by
  intro i hi
  by_cases e : i = k
  · subst e; rw [sj_s]
  · rw [sj_i _ _ _ (by omega)]; exact h i (by omega)
theorem ok_X9_readsSentence {G : Gx} {μ : Mu} (bs : Nat → Nat) (m : Nat) (hB : Bs μ bs m) (D : TS) (B st pl p : Nat) (hT : Tm μ D B) (hM : rrun bs p = (D, 0, 0, st, 0, pl)) (hp : p < m) (hns : ¬ bs p = 32) (hat : μ.1 96 4 = nI p) (hf : μ.1 96 6 = nI 0) : Runs 4 M_X9_readsSentence [.ref (G.2.2 96)] G μ (fun r μ' => r = none ∧ Kt μ μ' ∧ ((∃ p', p < p' ∧ SP μ' bs m B p') ∨ FL μ' bs m)) := by
  have hm6 := hB.2.1
  have hV : RV bs (D, 0, 0, st, 0, pl) := by have := RV_run bs p; rw [hM] at this; exact this
  have hn16 : D.n ≤ 16 := hV.1
  have hu48 : D.u ≤ 48 := hV.2.1
  have hE0 : endW bs (rrun bs p) = (D, 0, 0, st, 0, pl) := by rw [hM]; rfl
  refine Runs.go RX9 rfl (by decide) [(0, .ref (G.2.2 96))] (Nat.le_of_ble_eq_true rfl) rfl (fun X hF => ?_)
  refine V.aload_n (pc := 0) 0 dX9_readsSentence_0 rfl ?_
  refine gf_X9_24 (pc := 1) dX9_readsSentence_1 ?_
  refine V.iconst (pc := 4) (v := nI 0) dX9_readsSentence_4 (by decide) ?_
  refine V.lald (pc := 5) (k := 100) (n := 645) (v := lN D.n) (Nat.le_of_ble_eq_true rfl) (fun _ _ => rfl) 0 (by omega) (by decide) dX9_readsSentence_5 hT.1 ?_
  refine V.l2i (pc := 6) (v := nI D.n) dX9_readsSentence_6 (lN_i _) ?_
  refine V.istore_n (pc := 7) (lv' := [(0, .ref (G.2.2 96)), (1, .int (nI D.n))]) dX9_readsSentence_7 (by decide) rfl ?_
  refine V.aload_n (pc := 8) 0 dX9_readsSentence_8 rfl ?_
  refine gf_X9_73 (pc := 9) (v := nI p) dX9_readsSentence_9 hat ?_
  refine V.istore_n (pc := 12) (lv' := [(0, .ref (G.2.2 96)), (1, .int (nI D.n)), (2, .int (nI p))]) dX9_readsSentence_12 (by decide) rfl ?_
  refine V.aload_n (pc := 13) 0 dX9_readsSentence_13 rfl ?_
  refine cl_X9_108 (pc := 14) dX9_readsSentence_14 (ok_X9_here bs m hB p hat (by omega)) (by omega) (Nat.le_of_ble_eq_true rfl) (fun r_ μ_ h_ => ?_)
  obtain ⟨q, hsk, hqm, rfl, rfl⟩ := h_
  have hqp : p = q := sk_eq hsk (fun z => hns z.2)
  subst hqp
  rw [← si_self hat]
  refine cp_X9_85 (pc := 17) dX9_readsSentence_17 (ok_X9_isSmall bs m p (fun z => (hB.2.2 p z).2)) (by omega) (Nat.le_of_ble_eq_true rfl) ?_
  refine V.ifB_ne (pc := 20) 33 dX9_readsSentence_20 (by decide) (fun h_20 => ?_) (fun h_20 => ?_)
  · refine V.iload_n (pc := 33) 1 dX9_readsSentence_33 rfl ?_
    refine V.bipush (pc := 34) (v := nI 16) dX9_readsSentence_34 (by decide) ?_
    refine V.icmpN_ne (pc := 36) 83 dX9_readsSentence_36 (by decide) (by omega) (by omega) (fun h_36 => ?_) (fun h_36 => ?_)
    · refine V.iconst (pc := 83) (v := nI 0) dX9_readsSentence_83 (by decide) ?_
      refine V.istore_n (pc := 84) (lv' := [(0, .ref (G.2.2 96)), (1, .int (nI D.n)), (2, .int (nI p)), (3, .int (nI 0))]) dX9_readsSentence_84 (by decide) rfl ?_
      have L85 : ∀ (n_ : Nat) (k : Nat) ( μ1 : Mu), (k ≤ 4) → (μ1.1 = μ.1) → (∀ c, c ≠ 100 → μ1.2 c = μ.2 c) → (∀ i, (i < 5 + 4 * D.n ∨ 5 + 4 * D.n + 4 ≤ i) → μ1.2 100 i = μ.2 100 i) → (∀ i, i < k → μ1.2 100 (5 + 4 * D.n + i) = lN 0) → 4 - k < n_ → V G RX9 cX9_readsSentence 4 4 X 85 [(0, .ref (G.2.2 96)), (1, .int (nI D.n)), (2, .int (nI p)), (3, .int (nI k))] [] μ1 := by
        intro n_
        induction n_ with
        | zero => intro k μ1 hk e1 e2 e3 e4 hm_; exact absurd hm_ (Nat.not_lt_zero _)
        | succ n_ ih85 =>
          intro k μ1 hk e1 e2 e3 e4 hm_
          refine V.iload_n (pc := 85) 3 dX9_readsSentence_85 rfl ?_
          refine V.iconst (pc := 86) (v := nI 4) dX9_readsSentence_86 (by decide) ?_
          refine V.icmpN_ge (pc := 87) 108 dX9_readsSentence_87 (by decide) (by omega) (by omega) (fun h_87 => ?_) (fun h_87 => ?_)
          · have L108 : ∀ (n_ : Nat) (e : Nat) ( μ2 : Mu), (Kt μ μ2) → (WG μ2 bs m B D.n p e ∨ FL μ2 bs m) → m - e < n_ → V G RX9 cX9_readsSentence 4 4 X 108 [(0, .ref (G.2.2 96)), (1, .int (nI D.n))] [] μ2 := by
              intro n_
              induction n_ with
              | zero => intro e μ2 hK hst hm_; exact absurd hm_ (Nat.not_lt_zero _)
              | succ n_ ih108 =>
                intro e μ2 hK hst hm_
                have hB2 := hK.bs_ hB
                refine V.aload_n (pc := 108) 0 dX9_readsSentence_108 rfl ?_
                rcases hst with ⟨D2, wo, st2, pl2, hE, hpe, hem, hk2, hz0, hat2, hf2, hT2, hO2, hDn⟩ | hfl
                · refine cp_X9_95 (pc := 109) dX9_readsSentence_109 (ok_X9_fine 0 hf2 (by decide)) (by omega) (Nat.le_of_ble_eq_true rfl) ?_
                  refine V.ifN_eq (pc := 112) 133 dX9_readsSentence_112 (by decide) (by decide) (fun h_ => absurd h_ (by decide)) (fun h_112 => ?_)
                  refine V.aload_n (pc := 115) 0 dX9_readsSentence_115 rfl ?_
                  refine cl_X9_108 (pc := 116) dX9_readsSentence_116 (ok_X9_here bs m hB2 e hat2 hem) (by omega) (Nat.le_of_ble_eq_true rfl) (fun r_ μ_ h_ => ?_)
                  obtain ⟨q, hsk, hqm, rfl, rfl⟩ := h_
                  have heq := hsk.1
                  have hrun := sk_run (M := (D2, wo, 0, st2, 0, pl2)) rfl rfl (q - e) e q rfl hsk hE
                  obtain ⟨μ3, hμ3⟩ : ∃ z, z = si μ2 96 4 (nI q) := ⟨_, rfl⟩
                  rw [← hμ3]
                  have hB3 : Bs μ3 bs m := by rw [hμ3]; exact hB2.fld 4 _ (by decide)
                  have hat3 : μ3.1 96 4 = nI q := by rw [hμ3, si_s]
                  have hf3 : μ3.1 96 6 = nI 0 := by rw [hμ3, si_i _ _ _ (by decide)]; exact hf2
                  have hT3 : Tm μ3 D2 B := by rw [hμ3]; exact hT2
                  have hO3 : To μ3 D2 wo := by rw [hμ3]; exact hO2
                  have hK3 : Kt μ μ3 := by rw [hμ3]; exact hK.at_ _
                  clear hμ3
                  refine cp_X9_85 (pc := 119) dX9_readsSentence_119 (ok_X9_isSmall bs m q (fun z => (hB3.2.2 q z).2)) (by omega) (Nat.le_of_ble_eq_true rfl) ?_
                  refine V.ifB_eq (pc := 122) 133 dX9_readsSentence_122 (by decide) (fun h_122 => ?_) (fun h_122 => ?_)
                  · have hwo : 0 < wo := by
                      rcases Nat.eq_zero_or_pos wo with z | z
                      · have h1 := hz0 z
                        have h2 := sm_yes h1
                        have h3 : e = q := by
                          rcases Nat.lt_or_ge e q with y | y
                          · have := (hsk.2.1 e (Nat.le_refl _) y).2
                            rw [this] at h2; exact absurd h2.2 (by decide)
                          · omega
                        rw [← h3, h1] at h_122; cases h_122
                      · exact z
                    have hVe : RV bs (D2, wo, 0, st2, 0, pl2) := by have := (RV_run bs e).ew_; rw [hE] at this; exact this
                    refine V.aload_n (pc := 133) 0 dX9_readsSentence_133 rfl ?_
                    refine cp_X9_95 (pc := 134) dX9_readsSentence_134 (ok_X9_fine 0 hf3 (by decide)) (by omega) (Nat.le_of_ble_eq_true rfl) ?_
                    refine V.ifN_eq (pc := 137) 158 dX9_readsSentence_137 (by decide) (by decide) (fun h_ => absurd h_ (by decide)) (fun h_137 => ?_)
                    refine V.aload_n (pc := 140) 0 dX9_readsSentence_140 rfl ?_
                    refine cl_X9_108 (pc := 141) dX9_readsSentence_141 (ok_X9_here bs m hB3 q hat3 hqm) (by omega) (Nat.le_of_ble_eq_true rfl) (fun r_ μ_ h_ => ?_)
                    obtain ⟨q2, hsk2, hqm2, rfl, rfl⟩ := h_
                    have hqq : q = q2 := sk_eq hsk2 hsk.2.2
                    subst hqq
                    rw [← si_self hat3]
                    refine V.bipush (pc := 144) (v := nI 46) dX9_readsSentence_144 (by decide) ?_
                    refine V.icmp_eq (pc := 146) 158 dX9_readsSentence_146 (by decide) (fun h_146 => ?_) (fun h_146 => ?_)
                    · have hd := (bv_eq (fun z => (hB3.2.2 q z).2) (by decide)).mp h_146
                      have hdot : rrun bs (q + 1) = (endS D2, 0, 0, st2, 0, pl2) := by rw [rrun_s (bs := bs) (i := q) rfl (endW_0 (bs := bs) (by rw [hrun.1]; rfl)) (by rw [hd.2]; rfl), hrun.1, hd.2, sgn_1 rfl hwo]
                      refine V.aload_n (pc := 158) 0 dX9_readsSentence_158 rfl ?_
                      refine V.dup (pc := 159) dX9_readsSentence_159 rfl ?_
                      refine gf_X9_73 (pc := 160) (v := nI q) dX9_readsSentence_160 hat3 ?_
                      refine V.iconst (pc := 163) (v := nI 1) dX9_readsSentence_163 (by decide) ?_
                      refine V.iadd (pc := 164) (v := nI (q + 1)) dX9_readsSentence_164 (nI_add _ _) ?_
                      refine pf_X9_73 (pc := 165) dX9_readsSentence_165 ?_
                      refine V.aload_n (pc := 168) 0 dX9_readsSentence_168 rfl ?_
                      refine gf_X9_24 (pc := 169) dX9_readsSentence_169 ?_
                      refine V.iconst (pc := 172) (v := nI 0) dX9_readsSentence_172 (by decide) ?_
                      refine V.dup2 (pc := 173) dX9_readsSentence_173 rfl rfl ?_
                      refine V.lald (pc := 174) (k := 100) (n := 645) (v := lN D2.n) (Nat.le_of_ble_eq_true rfl) (fun _ _ => rfl) 0 (by omega) (by decide) dX9_readsSentence_174 (Eq.trans (si_f2 _ _ _ _ _ _) hT3.1) ?_
                      refine V.lconst (pc := 175) (v := lN 1) dX9_readsSentence_175 (by decide) ?_
                      refine V.ladd (pc := 176) (v := lN (D2.n + 1)) dX9_readsSentence_176 (lN_add _ _) ?_
                      refine V.last (pc := 177) (k := 100) (n := 645) (v := lN (D2.n + 1)) (Nat.le_of_ble_eq_true rfl) (fun _ _ => rfl) 0 (by omega) (by decide) dX9_readsSentence_177 rfl ?_
                      exact V.vret (pc := 178) hF dX9_readsSentence_178 ⟨rfl, (hK3.at_ _).tld _ _, Or.inl ⟨q + 1, by omega, endS D2, st2, pl2, hdot, by omega, si_s μ3 96 4 (nI (q + 1)), (si_i μ3 96 (nI (q + 1)) (show (6 : Nat) ≠ 4 by decide) 96).trans hf3, Tm_end hT3 hO3 hwo (hVe.2.2.2.2.2.2.2.1 hwo) (sj_s _ _ _ _) (fun i hi => sj_i _ _ _ hi _)⟩⟩
                    · refine V.aload_n (pc := 149) 0 dX9_readsSentence_149 rfl ?_
                      refine V.iconst (pc := 150) (v := nI 1) dX9_readsSentence_150 (by decide) ?_
                      refine V.aload_n (pc := 151) 0 dX9_readsSentence_151 rfl ?_
                      refine gf_X9_73 (pc := 152) (v := nI q) dX9_readsSentence_152 hat3 ?_
                      refine cl_X9_89 (pc := 155) dX9_readsSentence_155 (ok_wrong0 1 q hf3) (by omega) (Nat.le_of_ble_eq_true rfl) (fun r_ μ_ h_ => ?_)
                      obtain ⟨rfl, rfl⟩ := h_
                      have hflt : FL (si (si μ3 96 6 (nI 1)) 96 7 (nI q)) bs m := by
                        by_cases z : q < m
                        · exact FL_s z hrun.1 (by rcases sm_no hqm h_122 with y | y; omega; exact y) (fun y => h_146 ((bv_eq (fun z => (hB3.2.2 q z).2) (by decide)).mpr ⟨z, y.1⟩)) (fun y => hsk.2.2 ⟨z, y⟩) (by simp [si, upd]) (by simp [si, upd])
                        · have zz : q = m := by omega
                          exact FL_e (by rw [← zz]; exact hrun.1) hwo (by simp [si, upd]) (by rw [← zz]; simp [si, upd])
                      refine V.aload_n (pc := 158) 0 dX9_readsSentence_158 rfl ?_
                      refine V.dup (pc := 159) dX9_readsSentence_159 rfl ?_
                      refine gf_X9_73 (pc := 160) (v := nI q) dX9_readsSentence_160 (Eq.trans (si_i _ _ _ (by decide) _) (Eq.trans (si_i _ _ _ (by decide) _) hat3)) ?_
                      refine V.iconst (pc := 163) (v := nI 1) dX9_readsSentence_163 (by decide) ?_
                      refine V.iadd (pc := 164) (v := nI (q + 1)) dX9_readsSentence_164 (nI_add _ _) ?_
                      refine pf_X9_73 (pc := 165) dX9_readsSentence_165 ?_
                      refine V.aload_n (pc := 168) 0 dX9_readsSentence_168 rfl ?_
                      refine gf_X9_24 (pc := 169) dX9_readsSentence_169 ?_
                      refine V.iconst (pc := 172) (v := nI 0) dX9_readsSentence_172 (by decide) ?_
                      refine V.dup2 (pc := 173) dX9_readsSentence_173 rfl rfl ?_
                      refine V.lald (pc := 174) (k := 100) (n := 645) (v := lN D2.n) (Nat.le_of_ble_eq_true rfl) (fun _ _ => rfl) 0 (by omega) (by decide) dX9_readsSentence_174 (Eq.trans (si_f2 _ _ _ _ _ _) (Eq.trans (si_f2 _ _ _ _ _ _) (Eq.trans (si_f2 _ _ _ _ _ _) hT3.1))) ?_
                      refine V.lconst (pc := 175) (v := lN 1) dX9_readsSentence_175 (by decide) ?_
                      refine V.ladd (pc := 176) (v := lN (D2.n + 1)) dX9_readsSentence_176 (lN_add _ _) ?_
                      refine V.last (pc := 177) (k := 100) (n := 645) (v := lN (D2.n + 1)) (Nat.le_of_ble_eq_true rfl) (fun _ _ => rfl) 0 (by omega) (by decide) dX9_readsSentence_177 rfl ?_
                      exact V.vret (pc := 178) hF dX9_readsSentence_178 ⟨rfl, ((hK3.wrg _ (by decide)).at_ _).tld _ _, Or.inr (FL.at_ hflt _ _ _)⟩
                  · have hq := sm_yes h_122
                    have hMq : rrun bs q = (D2, wo, 0, st2, 0, pl2) := by
                      by_cases z : e < q
                      · exact hrun.2 z
                      · have zz : e = q := by omega
                        have hk0 : (rrun bs q).k = 0 := by
                          rw [← zz]
                          rcases hk2 with z2 | z2
                          · exact z2
                          · rw [zz, h_122] at z2; cases z2
                        have := hrun.1
                        rw [show endW bs (rrun bs q) = rrun bs q from if_pos hk0] at this
                        exact this
                    refine V.aload_n (pc := 125) 0 dX9_readsSentence_125 rfl ?_
                    refine V.iload_n (pc := 126) 1 dX9_readsSentence_126 rfl ?_
                    refine cl_X9_112 (pc := 127) dX9_readsSentence_127 (by have h := ok_X9_readsWord (G := G) bs m hB3 D2 B wo st2 pl2 q hT3 hO3 hMq hq.1 hq.2 hat3 hf3 (by omega); rw [hDn] at h; exact h) (by omega) (Nat.le_of_ble_eq_true rfl) (fun r_ μ_ h_ => ?_)
                    obtain ⟨rfl, hKw, hWP⟩ := h_
                    have hWP2 := hWP.to (p := p) (by omega)
                    rcases hWP2 with ⟨e2, he2, he3, hWG⟩ | hfl
                    · refine V.goto (pc := 130) 108 dX9_readsSentence_130 (by decide) ?_
                      exact ih108 e2 μ_ (hK3.trans hKw) (Or.inl hWG) (by omega)
                    · refine V.goto (pc := 130) 108 dX9_readsSentence_130 (by decide) ?_
                      exact ih108 m μ_ (hK3.trans hKw) (Or.inr hfl) (by have := hq.1; omega)
                · refine cp_X9_95 (pc := 109) dX9_readsSentence_109 (ok_fineF hfl) (by omega) (Nat.le_of_ble_eq_true rfl) ?_
                  refine V.ifN_eq (pc := 112) 133 dX9_readsSentence_112 (by decide) (by decide) (fun h_112 => ?_) (fun h_ => absurd h_ (by decide))
                  refine V.aload_n (pc := 133) 0 dX9_readsSentence_133 rfl ?_
                  refine cp_X9_95 (pc := 134) dX9_readsSentence_134 (ok_fineF hfl) (by omega) (Nat.le_of_ble_eq_true rfl) ?_
                  refine V.ifN_eq (pc := 137) 158 dX9_readsSentence_137 (by decide) (by decide) (fun h_137 => ?_) (fun h_ => absurd h_ (by decide))
                  refine V.aload_n (pc := 158) 0 dX9_readsSentence_158 rfl ?_
                  refine V.dup (pc := 159) dX9_readsSentence_159 rfl ?_
                  refine gf_X9_73 (pc := 160) (v := μ2.1 96 4) dX9_readsSentence_160 rfl ?_
                  refine V.iconst (pc := 163) (v := nI 1) dX9_readsSentence_163 (by decide) ?_
                  refine V.iadd (pc := 164) (v := (μ2.1 96 4) + (nI 1)) dX9_readsSentence_164 rfl ?_
                  refine pf_X9_73 (pc := 165) dX9_readsSentence_165 ?_
                  refine V.aload_n (pc := 168) 0 dX9_readsSentence_168 rfl ?_
                  refine gf_X9_24 (pc := 169) dX9_readsSentence_169 ?_
                  refine V.iconst (pc := 172) (v := nI 0) dX9_readsSentence_172 (by decide) ?_
                  refine V.dup2 (pc := 173) dX9_readsSentence_173 rfl rfl ?_
                  refine V.lald (pc := 174) (k := 100) (n := 645) (v := μ2.2 100 0) (Nat.le_of_ble_eq_true rfl) (fun _ _ => rfl) 0 (by omega) (by decide) dX9_readsSentence_174 (Eq.trans (si_f2 _ _ _ _ _ _) rfl) ?_
                  refine V.lconst (pc := 175) (v := lN 1) dX9_readsSentence_175 (by decide) ?_
                  refine V.ladd (pc := 176) (v := (μ2.2 100 0) + (lN 1)) dX9_readsSentence_176 rfl ?_
                  refine V.last (pc := 177) (k := 100) (n := 645) (v := (μ2.2 100 0) + (lN 1)) (Nat.le_of_ble_eq_true rfl) (fun _ _ => rfl) 0 (by omega) (by decide) dX9_readsSentence_177 rfl ?_
                  exact V.vret (pc := 178) hF dX9_readsSentence_178 ⟨rfl, (hK.at_ _).tld _ _, Or.inr (hfl.at_ _ _ _)⟩
            refine V.sub (lv' := [(0, .ref (G.2.2 96)), (1, .int (nI D.n))]) [0, 1] rfl ?_
            exact L108 _ p μ1 (⟨fun i _ _ _ => by rw [e1], fun c _ => by rw [e1], e2, fun z => by rw [e1] at z ⊢; exact ⟨z, rfl⟩⟩) (Or.inl ⟨D, 0, st, pl, hE0, Nat.le_refl _, by omega, Or.inl (by rw [hM]; rfl), fun _ => h_20, by rw [e1]; exact hat, by rw [e1]; exact hf, (Tm_clr hT (by omega) e3 (fun i hi => e4 i (by omega))).1, (Tm_clr hT (by omega) e3 (fun i hi => e4 i (by omega))).2, rfl⟩) (Nat.lt_succ_self _)
          · refine V.aload_n (pc := 90) 0 dX9_readsSentence_90 rfl ?_
            refine gf_X9_24 (pc := 91) dX9_readsSentence_91 ?_
            refine V.iload_n (pc := 94) 1 dX9_readsSentence_94 rfl ?_
            refine cp_X9_66 (pc := 95) dX9_readsSentence_95 (ok_X9_sentenceAt D.n) (by omega) (Nat.le_of_ble_eq_true rfl) ?_
            refine V.iload_n (pc := 98) 3 dX9_readsSentence_98 rfl ?_
            refine V.iadd (pc := 99) (v := nI (5 + 4 * D.n + k)) dX9_readsSentence_99 (nI_add _ _) ?_
            refine V.lconst (pc := 100) (v := lN 0) dX9_readsSentence_100 (by decide) ?_
            refine V.last (pc := 101) (k := 100) (n := 645) (v := lN 0) (Nat.le_of_ble_eq_true rfl) (fun _ _ => rfl) (5 + 4 * D.n + k) (by omega) (by decide) dX9_readsSentence_101 rfl ?_
            refine V.iinc (pc := 102) (v := nI (k + 1)) (lv' := [(0, .ref (G.2.2 96)), (1, .int (nI D.n)), (2, .int (nI p)), (3, .int (nI (k + 1)))]) 3 dX9_readsSentence_102 rfl (nn_inc _) (by decide) rfl ?_
            refine V.goto (pc := 105) 85 dX9_readsSentence_105 (by decide) ?_
            exact ih85 (k + 1) (sj μ1 100 (5 + 4 * D.n + k) (lN 0)) (by omega) e1 (fun c hc => (sj_c _ _ _ hc).trans (e2 c hc)) (fun i hi => (sj_i _ _ _ (by omega) _).trans (e3 i hi)) (fun i hi => clr_st e4 i hi) (by omega)
      exact L85 _ 0 μ (by omega) rfl (fun _ _ => rfl) (fun _ _ => rfl) (fun i hi => absurd hi (by omega)) (Nat.lt_succ_self _)
    · refine V.iconst (pc := 39) (v := nI 0) dX9_readsSentence_39 (by decide) ?_
      refine V.istore_n (pc := 40) (lv' := [(0, .ref (G.2.2 96)), (1, .int (nI D.n)), (2, .int (nI p)), (3, .int (nI 0))]) dX9_readsSentence_40 (by decide) rfl ?_
      have L41 : ∀ (n_ : Nat) (j : Nat), (p + j ≤ m) → (rrun bs (p + j) = (D, 0, j, (if j = 0 then st else p), 0, pl)) → m - (p + j) < n_ → V G RX9 cX9_readsSentence 4 4 X 41 [(0, .ref (G.2.2 96)), (1, .int (nI D.n)), (2, .int (nI p)), (3, .int (nI j))] [] μ := by
        intro n_
        induction n_ with
        | zero => intro j hj0 hM2 hm_; exact absurd hm_ (Nat.not_lt_zero _)
        | succ n_ ih41 =>
          intro j hj0 hM2 hm_
          refine V.aload_n (pc := 41) 0 dX9_readsSentence_41 rfl ?_
          refine V.aload_n (pc := 42) 0 dX9_readsSentence_42 rfl ?_
          refine gf_X9_73 (pc := 43) (v := nI p) dX9_readsSentence_43 hat ?_
          refine V.iload_n (pc := 46) 3 dX9_readsSentence_46 rfl ?_
          refine V.iadd (pc := 47) (v := nI (p + j)) dX9_readsSentence_47 (nI_add _ _) ?_
          refine cp_X9_76 (pc := 48) dX9_readsSentence_48 (ok_X9_byteAt bs m hB (p + j) (by omega)) (by omega) (Nat.le_of_ble_eq_true rfl) ?_
          refine cp_X9_85 (pc := 51) dX9_readsSentence_51 (ok_X9_isSmall bs m (p + j) (fun z => (hB.2.2 (p + j) z).2)) (by omega) (Nat.le_of_ble_eq_true rfl) ?_
          refine V.ifB_eq (pc := 54) 63 dX9_readsSentence_54 (by decide) (fun h_54 => ?_) (fun h_54 => ?_)
          · have hj1 : 0 < j := by
              rcases Nat.eq_zero_or_pos j with z | z
              · rw [z, Nat.add_zero, h_20] at h_54; cases h_54
              · exact z
            have hMe : rrun bs (p + j) = (D, 0, j, p, 0, pl) := by rw [hM2, if_neg (by omega)]
            refine V.aload_n (pc := 63) 0 dX9_readsSentence_63 rfl ?_
            refine V.iload_n (pc := 64) 3 dX9_readsSentence_64 rfl ?_
            refine V.bipush (pc := 65) (v := nI 10) dX9_readsSentence_65 (by decide) ?_
            refine V.icmpN_le (pc := 67) 74 dX9_readsSentence_67 (by decide) (by omega) (by omega) (fun h_67 => ?_) (fun h_67 => ?_)
            · refine V.iconst (pc := 74) (v := nI 3) dX9_readsSentence_74 (by decide) ?_
              refine V.aload_n (pc := 75) 0 dX9_readsSentence_75 rfl ?_
              refine gf_X9_73 (pc := 76) (v := nI p) dX9_readsSentence_76 hat ?_
              refine cl_X9_89 (pc := 79) dX9_readsSentence_79 (ok_wrong0 3 p hf) (by omega) (Nat.le_of_ble_eq_true rfl) (fun r_ μ_ h_ => ?_)
              obtain ⟨rfl, rfl⟩ := h_
              exact V.vret (pc := 82) hF dX9_readsSentence_82 ⟨rfl, (Kt.refl μ).wrg _ (by decide), Or.inr (FL_w (f := 3) (w := p) (D' := D) (wo' := 0) hj0 h_54 hMe rfl (ew_many hj1 (by omega) (by omega)) (by decide) (by simp [si, upd]) (by simp [si, upd]))⟩
            · refine V.iconst (pc := 70) (v := nI 2) dX9_readsSentence_70 (by decide) ?_
              refine V.goto (pc := 71) 75 dX9_readsSentence_71 (by decide) ?_
              refine V.aload_n (pc := 75) 0 dX9_readsSentence_75 rfl ?_
              refine gf_X9_73 (pc := 76) (v := nI p) dX9_readsSentence_76 hat ?_
              refine cl_X9_89 (pc := 79) dX9_readsSentence_79 (ok_wrong0 2 p hf) (by omega) (Nat.le_of_ble_eq_true rfl) (fun r_ μ_ h_ => ?_)
              obtain ⟨rfl, rfl⟩ := h_
              exact V.vret (pc := 82) hF dX9_readsSentence_82 ⟨rfl, (Kt.refl μ).wrg _ (by decide), Or.inr (FL_w (f := 2) (w := p) (D' := D) (wo' := 0) hj0 h_54 hMe rfl (ew_long (by omega)) (by decide) (by simp [si, upd]) (by simp [si, upd]))⟩
          · have hsm := sm_yes h_54
            refine V.iinc (pc := 57) (v := nI (j + 1)) (lv' := [(0, .ref (G.2.2 96)), (1, .int (nI D.n)), (2, .int (nI p)), (3, .int (nI (j + 1)))]) 3 dX9_readsSentence_57 rfl (nn_inc _) (by decide) rfl ?_
            refine V.goto (pc := 60) 41 dX9_readsSentence_60 (by decide) ?_
            exact ih41 (j + 1) (by omega) (rrun_lt hM2 hsm.2) (by omega)
      exact L41 _ 0 (by omega) hM (Nat.lt_succ_self _)
  · refine V.aload_n (pc := 23) 0 dX9_readsSentence_23 rfl ?_
    refine V.iconst (pc := 24) (v := nI 1) dX9_readsSentence_24 (by decide) ?_
    refine V.aload_n (pc := 25) 0 dX9_readsSentence_25 rfl ?_
    refine gf_X9_73 (pc := 26) (v := nI p) dX9_readsSentence_26 hat ?_
    refine cl_X9_89 (pc := 29) dX9_readsSentence_29 (ok_wrong0 1 p hf) (by omega) (Nat.le_of_ble_eq_true rfl) (fun r_ μ_ h_ => ?_)
    obtain ⟨rfl, rfl⟩ := h_
    exact V.vret (pc := 32) hF dX9_readsSentence_32 ⟨rfl, (Kt.refl μ).wrg _ (by decide), Or.inr (FL_s hp hE0 (by rcases sm_no (by omega) h_20 with y | y; omega; exact y) (fun z => by have := z.2; omega) hns (by simp [si, upd]) (by simp [si, upd]))⟩
