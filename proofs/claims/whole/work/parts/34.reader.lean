/-! the Reader -/
def Dr (μ : Mu) (D : TS) (m : Nat) : Prop := μ.1 (8 * 1) 0 = nI D.n ∧ μ.1 (8 * 1) 1 = nI D.u ∧ (∀ s, s < m → μ.1 (8 * 1 + 1) s = nI (D.len s)) ∧ (∀ s, s < m → μ.1 (8 * 1 + 2) s = nI (D.cnt s)) ∧ (∀ s, s < m → μ.1 (8 * 1 + 3) s = nI (D.fst s)) ∧ (∀ s, s < m → μ.2 (8 * 1 + 5) s = lN (D.bag s)) ∧ (∀ w, w < D.u → μ.2 (8 * 1 + 6) w = lN (spl D w)) ∧ (∀ w, w < D.u → μ.1 (8 * 1 + 7) w = nI (D.wt w)) ∧ μ.1 (8 * 1) 3 = nI 0 ∧ μ.2 (8 * 1) 4 = lN 0
def Rd (μ : Mu) (bs : Nat → Nat) (M : RM) : Prop := μ.1 85 1 = nI M.ft ∧ μ.1 85 2 = pv M.pl ∧ μ.1 85 3 = nI M.wo ∧ μ.1 85 4 = nI M.k ∧ (0 < M.k → μ.1 85 5 = nI M.st ∧ μ.2 85 6 = lN (packB bs M.st (min M.k 10))) ∧ Dr μ M.D (opn M)
def CR (a : Nat) : Prop := a = 85 ∨ Blk 1 a
theorem Dr.fr {μ μ' : Mu} {D : TS} {m : Nat} (h : Dr μ D m) (hf : ∀ a, Blk 1 a → μ'.1 a = μ.1 a ∧ μ'.2 a = μ.2 a) : Dr μ' D m := by
  have f : ∀ j, j < 8 → μ'.1 (8 * 1 + j) = μ.1 (8 * 1 + j) ∧ μ'.2 (8 * 1 + j) = μ.2 (8 * 1 + j) := fun j hj => hf _ (by unfold Blk; omega)
  obtain ⟨h1, h2, h3, h4, h5, h6, h7, h8, h9, h10⟩ := h
  have f0 : μ'.1 (8 * 1) = μ.1 (8 * 1) ∧ μ'.2 (8 * 1) = μ.2 (8 * 1) := f 0 (by decide)
  exact ⟨by rw [f0.1]; exact h1, by rw [f0.1]; exact h2, fun s hs => by rw [(f 1 (by decide)).1]; exact h3 s hs, fun s hs => by rw [(f 2 (by decide)).1]; exact h4 s hs, fun s hs => by rw [(f 3 (by decide)).1]; exact h5 s hs, fun s hs => by rw [(f 5 (by decide)).2]; exact h6 s hs, fun s hs => by rw [(f 6 (by decide)).2]; exact h7 s hs, fun s hs => by rw [(f 7 (by decide)).1]; exact h8 s hs, by rw [f0.1]; exact h9, by rw [f0.2]; exact h10⟩
theorem Dr.si {μ : Mu} {D : TS} {m : Nat} (h : Dr μ D m) (i : Nat) (v : Int32) : Dr (si μ 85 i v) D m := h.fr (fun a ha => ⟨si_c _ _ _ (by unfold Blk at ha; omega), rfl⟩)
theorem Dr.sj {μ : Mu} {D : TS} {m : Nat} (h : Dr μ D m) (i : Nat) (v : Int64) : Dr (sj μ 85 i v) D m := h.fr (fun a ha => ⟨rfl, sj_c _ _ _ (by unfold Blk at ha; omega)⟩)
theorem Rd.refuse {μ : Mu} {bs : Nat → Nat} {M : RM} (h : Rd μ bs M) (h0 : M.ft = 0) (f a : Nat) : Rd (si (si μ 85 1 (nI f)) 85 2 (nI a)) bs (rfs M f a) := by
  obtain ⟨h1, h2, h3, h4, h5, h6⟩ := h
  rw [rfs, if_pos h0]
  refine ⟨by simp [si, upd]; rfl, by simp [si, upd]; rfl, by simp [si, upd]; exact h3, by simp [si, upd]; exact h4, fun q => ?_, (h6.si _ _).si _ _⟩
  have := h5 q
  exact ⟨by simp [si, upd]; exact this.1, this.2⟩
theorem ok_X4_refuse {G : Gx} {μ : Mu} (bs : Nat → Nat) (M : RM) (hR : Rd μ bs M) (f a : Nat) (hf3 : M.ft < 4) : Runs 0 M_X4_refuse [.ref (G.2.2 85), .int (nI f), .int (nI a)] G μ (fun r μ' => r = none ∧ Fr μ μ' CR ∧ Rd μ' bs (rfs M f a)) := by
  refine Runs.go RX4 rfl (by decide) [(0, .ref (G.2.2 85)), (1, .int (nI f)), (2, .int (nI a))] (Nat.le_of_ble_eq_true rfl) rfl (fun X hF => ?_)
  refine V.aload_n (pc := 0) 0 dX4_refuse_0 rfl ?_
  refine gf_X4_18 (pc := 1) (v := nI M.ft) dX4_refuse_1 hR.1 ?_
  refine V.ifN_ne (pc := 4) 17 dX4_refuse_4 (by decide) (by omega) (fun h_4 => ?_) (fun h_4 => ?_)
  · exact V.vret (pc := 17) hF dX4_refuse_17 ⟨rfl, Fr.refl _ _, by rw [rfs, if_neg (by omega)]; exact hR⟩
  · refine V.aload_n (pc := 7) 0 dX4_refuse_7 rfl ?_
    refine V.iload_n (pc := 8) 1 dX4_refuse_8 rfl ?_
    refine pf_X4_18 (pc := 9) dX4_refuse_9 ?_
    refine V.aload_n (pc := 12) 0 dX4_refuse_12 rfl ?_
    refine V.iload_n (pc := 13) 2 dX4_refuse_13 rfl ?_
    refine pf_X4_22 (pc := 14) dX4_refuse_14 ?_
    exact V.vret (pc := 17) hF dX4_refuse_17 ⟨rfl, ((Fr.refl μ CR).si _ _ (Or.inl rfl)).si _ _ (Or.inl rfl), hR.refuse h_4 f a⟩
theorem ok_X6_spelledWith {G : Gx} {μ : Mu} (sp i c : Nat) (hi : i < 10) (hc : 96 ≤ c) (hc2 : c < 256) : RunsP 0 M_X6_spelledWith [.long (lN sp), .int (nI i), .int (nI c)] G μ (.long (lN (sp ||| ((c - 96) <<< (5 * i))))) := by
  refine Runs.go RX6 rfl (by decide) [(0, .long (lN sp)), (2, .int (nI i)), (3, .int (nI c))] (Nat.le_of_ble_eq_true rfl) rfl (fun X hF => ?_)
  refine V.lload_n (pc := 0) 0 dX6_spelledWith_0 rfl ?_
  refine V.iload_n (pc := 1) 2 dX6_spelledWith_1 rfl ?_
  refine V.bipush (pc := 2) (v := nI 96) dX6_spelledWith_2 (by decide) ?_
  refine V.isub (pc := 4) (v := nI (c - 96)) dX6_spelledWith_4 (pk_sub (by omega)) ?_
  refine V.i2l (pc := 5) (v := lN (c - 96)) dX6_spelledWith_5 (nI_l (by omega)) ?_
  refine V.iconst (pc := 6) (v := nI 5) dX6_spelledWith_6 (by decide) ?_
  refine V.iload_n (pc := 7) 1 dX6_spelledWith_7 rfl ?_
  refine V.imul (pc := 8) (v := nI (5 * i)) dX6_spelledWith_8 (pk_mul _ _) ?_
  refine V.lshl (pc := 9) (v := lN ((c - 96) <<< (5 * i))) dX6_spelledWith_9 (ll_shl _ (by omega)) ?_
  refine V.lor (pc := 10) (v := lN (sp ||| ((c - 96) <<< (5 * i)))) dX6_spelledWith_10 (ll_or _ _) ?_
  exact V.lret (pc := 11) hF dX6_spelledWith_11 ⟨rfl, rfl⟩
theorem pack_s (bs : Nat → Nat) (st k : Nat) (hk : k < 10) : packB bs st (min k 10) ||| ((bs (st + k) - 96) <<< (5 * k)) = packB bs st (min (k + 1) 10) := by
  rw [Nat.min_eq_left (by omega), Nat.min_eq_left (by omega)]; rfl
theorem Rd.letter {μ : Mu} {bs : Nat → Nat} {D : TS} {wo k st ft pl a : Nat} (h : Rd μ bs (D, wo, k, st, ft, pl)) {μ' : Mu} (e1 : μ'.1 85 1 = μ.1 85 1) (e2 : μ'.1 85 2 = μ.1 85 2) (e3 : μ'.1 85 3 = μ.1 85 3) (e4 : μ'.1 85 4 = nI (k + 1)) (e5 : μ'.1 85 5 = nI (if k = 0 then a else st)) (e6 : μ'.2 85 6 = lN (packB bs (if k = 0 then a else st) (min (k + 1) 10))) (e7 : Dr μ' D (opn (D, wo, k, st, ft, pl))) : Rd μ' bs (ltr (D, wo, k, st, ft, pl) a) := by
  obtain ⟨h1, h2, h3, h4, h5, h6⟩ := h
  exact ⟨e1.trans h1, e2.trans h2, e3.trans h3, e4, fun _ => ⟨e5, e6⟩, e7⟩
theorem ok_X4_readLetter {G : Gx} {μ : Mu} (bs : Nat → Nat) (D : TS) (wo k st ft pl : Nat) (hR : Rd μ bs (D, wo, k, st, ft, pl)) (a c : Nat) (hkb : k ≤ 600) (hc : bs a = c) (hl : 97 ≤ c ∧ c ≤ 122) (hst : k = 0 ∨ st + k = a) : Runs 1 M_X4_readLetter [.ref (G.2.2 85), .int (nI c), .int (nI a)] G μ (fun r μ' => r = none ∧ Fr μ μ' CR ∧ Rd μ' bs (ltr (D, wo, k, st, ft, pl) a)) := by
  refine Runs.go RX4 rfl (by decide) [(0, .ref (G.2.2 85)), (1, .int (nI c)), (2, .int (nI a))] (Nat.le_of_ble_eq_true rfl) rfl (fun X hF => ?_)
  refine V.aload_n (pc := 0) 0 dX4_readLetter_0 rfl ?_
  refine gf_X4_28 (pc := 1) (v := nI k) dX4_readLetter_1 hR.2.2.2.1 ?_
  refine V.ifN_ne (pc := 4) 17 dX4_readLetter_4 (by decide) (by omega) (fun h_4 => ?_) (fun h_4 => ?_)
  · have hk0 : 0 < (k : Nat) := h_4
    have hsa : st + k = a := by omega
    refine V.aload_n (pc := 17) 0 dX4_readLetter_17 rfl ?_
    refine gf_X4_28 (pc := 18) (v := nI k) dX4_readLetter_18 hR.2.2.2.1 ?_
    refine V.bipush (pc := 21) (v := nI 10) dX4_readLetter_21 (by decide) ?_
    refine V.icmpN_ge (pc := 23) 42 dX4_readLetter_23 (by decide) (by omega) (by omega) (fun h_23 => ?_) (fun h_23 => ?_)
    · refine V.aload_n (pc := 42) 0 dX4_readLetter_42 rfl ?_
      refine V.dup (pc := 43) dX4_readLetter_43 rfl ?_
      refine gf_X4_28 (pc := 44) (v := nI k) dX4_readLetter_44 hR.2.2.2.1 ?_
      refine V.iconst (pc := 47) (v := nI 1) dX4_readLetter_47 (by decide) ?_
      refine V.iadd (pc := 48) (v := nI (k + 1)) dX4_readLetter_48 (nI_add _ _) ?_
      refine pf_X4_28 (pc := 49) dX4_readLetter_49 ?_
      exact V.vret (pc := 52) hF dX4_readLetter_52 ⟨rfl, (Fr.refl μ CR).si _ _ (Or.inl rfl), hR.letter (by simp [si, sj, upd]) (by simp [si, sj, upd]) (by simp [si, sj, upd]) (by simp [si, sj, upd]) (by rw [if_neg (by omega)]; simp [si, sj, upd]; exact (hR.2.2.2.2.1 hk0).1) (by rw [if_neg (by omega)]; rw [show min (k + 1) 10 = min k 10 by omega]; exact (hR.2.2.2.2.1 hk0).2) (hR.2.2.2.2.2.si _ _)⟩
    · refine V.aload_n (pc := 26) 0 dX4_readLetter_26 rfl ?_
      refine V.aload_n (pc := 27) 0 dX4_readLetter_27 rfl ?_
      refine gf_X4_34 (pc := 28) (v := lN (packB bs st (min k 10))) dX4_readLetter_28 (hR.2.2.2.2.1 hk0).2 ?_
      refine V.aload_n (pc := 31) 0 dX4_readLetter_31 rfl ?_
      refine gf_X4_28 (pc := 32) (v := nI k) dX4_readLetter_32 hR.2.2.2.1 ?_
      refine V.iload_n (pc := 35) 1 dX4_readLetter_35 rfl ?_
      have hpk : packB bs st (min k 10) ||| ((c - 96) <<< (5 * k)) = packB bs st (min (k + 1) 10) := by rw [← hc, ← hsa]; exact pack_s bs st k h_23
      refine cp_X4_54 (pc := 36) dX4_readLetter_36 (ok_X6_spelledWith (packB bs st (min k 10)) k c h_23 (by omega) (by omega)) (by omega) (Nat.le_of_ble_eq_true rfl) ?_
      refine pf_X4_34 (pc := 39) dX4_readLetter_39 ?_
      refine V.aload_n (pc := 42) 0 dX4_readLetter_42 rfl ?_
      refine V.dup (pc := 43) dX4_readLetter_43 rfl ?_
      refine gf_X4_28 (pc := 44) (v := nI k) dX4_readLetter_44 (Eq.trans (sj_f1 _ _ _ _ _ _) hR.2.2.2.1) ?_
      refine V.iconst (pc := 47) (v := nI 1) dX4_readLetter_47 (by decide) ?_
      refine V.iadd (pc := 48) (v := nI (k + 1)) dX4_readLetter_48 (nI_add _ _) ?_
      refine pf_X4_28 (pc := 49) dX4_readLetter_49 ?_
      exact V.vret (pc := 52) hF dX4_readLetter_52 ⟨rfl, ((Fr.refl μ CR).sj _ _ (Or.inl rfl)).si _ _ (Or.inl rfl), hR.letter (by simp [si, sj, upd]) (by simp [si, sj, upd]) (by simp [si, sj, upd]) (by simp [si, sj, upd]) (by rw [if_neg (by omega)]; simp [si, sj, upd]; exact (hR.2.2.2.2.1 hk0).1) (by rw [if_neg (by omega)]; simp [si, sj, vp_updL, hpk]) ((hR.2.2.2.2.2.sj _ _).si _ _)⟩
  · refine V.aload_n (pc := 7) 0 dX4_readLetter_7 rfl ?_
    refine V.iload_n (pc := 8) 2 dX4_readLetter_8 rfl ?_
    refine pf_X4_31 (pc := 9) dX4_readLetter_9 ?_
    refine V.aload_n (pc := 12) 0 dX4_readLetter_12 rfl ?_
    refine V.lconst (pc := 13) (v := lN 0) dX4_readLetter_13 (by decide) ?_
    refine pf_X4_34 (pc := 14) dX4_readLetter_14 ?_
    refine V.aload_n (pc := 17) 0 dX4_readLetter_17 rfl ?_
    refine gf_X4_28 (pc := 18) (v := nI k) dX4_readLetter_18 (Eq.trans (sj_f1 _ _ _ _ _ _) (Eq.trans (si_i _ _ _ (by decide) _) hR.2.2.2.1)) ?_
    refine V.bipush (pc := 21) (v := nI 10) dX4_readLetter_21 (by decide) ?_
    refine V.icmpN_ge (pc := 23) 42 dX4_readLetter_23 (by decide) (by omega) (by omega) (fun h_23 => ?_) (fun h_23 => ?_)
    · exact absurd h_23 (by omega)
    · refine V.aload_n (pc := 26) 0 dX4_readLetter_26 rfl ?_
      refine V.aload_n (pc := 27) 0 dX4_readLetter_27 rfl ?_
      refine gf_X4_34 (pc := 28) (v := lN 0) dX4_readLetter_28 (sj_s _ _ _ _) ?_
      refine V.aload_n (pc := 31) 0 dX4_readLetter_31 rfl ?_
      refine gf_X4_28 (pc := 32) (v := nI k) dX4_readLetter_32 (Eq.trans (sj_f1 _ _ _ _ _ _) (Eq.trans (si_i _ _ _ (by decide) _) hR.2.2.2.1)) ?_
      refine V.iload_n (pc := 35) 1 dX4_readLetter_35 rfl ?_
      have hpk : 0 ||| ((c - 96) <<< (5 * k)) = packB bs a (min (k + 1) 10) := by rw [h_4, ← hc]; rfl
      refine cp_X4_54 (pc := 36) dX4_readLetter_36 (ok_X6_spelledWith 0 k c h_23 (by omega) (by omega)) (by omega) (Nat.le_of_ble_eq_true rfl) ?_
      refine pf_X4_34 (pc := 39) dX4_readLetter_39 ?_
      refine V.aload_n (pc := 42) 0 dX4_readLetter_42 rfl ?_
      refine V.dup (pc := 43) dX4_readLetter_43 rfl ?_
      refine gf_X4_28 (pc := 44) (v := nI k) dX4_readLetter_44 (Eq.trans (sj_f1 _ _ _ _ _ _) (Eq.trans (sj_f1 _ _ _ _ _ _) (Eq.trans (si_i _ _ _ (by decide) _) hR.2.2.2.1))) ?_
      refine V.iconst (pc := 47) (v := nI 1) dX4_readLetter_47 (by decide) ?_
      refine V.iadd (pc := 48) (v := nI (k + 1)) dX4_readLetter_48 (nI_add _ _) ?_
      refine pf_X4_28 (pc := 49) dX4_readLetter_49 ?_
      exact V.vret (pc := 52) hF dX4_readLetter_52 ⟨rfl, ((((Fr.refl μ CR).si _ _ (Or.inl rfl)).sj _ _ (Or.inl rfl)).sj _ _ (Or.inl rfl)).si _ _ (Or.inl rfl), hR.letter (by simp [si, sj, upd]) (by simp [si, sj, upd]) (by simp [si, sj, upd]) (by simp [si, sj, upd]) (by rw [if_pos h_4]; simp [si, sj, upd]) (by rw [if_pos h_4]; simp [si, sj, vp_updL, hpk]) ((((hR.2.2.2.2.2.si _ _).sj _ _).sj _ _).si _ _)⟩
