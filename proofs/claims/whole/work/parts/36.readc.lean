def sbI (b : Nat) : Int32 := if b < 128 then nI b else nI b - 256
theorem sb_lo {b : Nat} (h : b < 128) : sbI b = nI b := if_pos h
theorem sb_tab : ∀ b : Fin 256, 128 ≤ b.val → sbI b.val < nI 97 ∧ sbI b.val ≠ nI 46 ∧ sbI b.val ≠ nI 32 := by decide +kernel
theorem sb_hi {b : Nat} (h : b < 256) (h2 : ¬ b < 128) : sbI b < nI 97 ∧ sbI b ≠ nI 46 ∧ sbI b ≠ nI 32 := sb_tab ⟨b, h⟩ (by show 128 ≤ b; omega)
theorem Rd.sent {μ : Mu} {bs : Nat → Nat} {D : TS} {wo k st ft pl : Nat} (h : Rd μ bs (D, wo, k, st, ft, pl)) (hw : 0 < wo) : Rd (si (si μ (8 * 1) 0 (nI (D.n + 1))) 85 3 (nI 0)) bs (endS D, 0, k, st, ft, pl) := by
  obtain ⟨h1, h2, h3, h4, h5, ⟨r1, r2, r3, r4, r5, r6, r7, r8, r9, r10⟩⟩ := h
  have e1 : opn (endS D, 0, k, st, ft, pl) = opn (D, wo, k, st, ft, pl) := by
    show D.n + 1 + 0 = D.n + (if 0 < wo then 1 else 0)
    rw [if_pos hw]
  refine ⟨by simp [si, upd]; exact h1, by simp [si, upd]; exact h2, by simp [si, upd]; rfl, by simp [si, upd]; exact h4, fun q => ⟨by simp [si, upd]; exact (h5 q).1, (h5 q).2⟩, ?_⟩
  rw [e1]
  exact ⟨by simp [si, upd]; rfl, by simp [si, upd]; exact r2, fun s hs => by simp [si, upd]; exact r3 s hs, fun s hs => by simp [si, upd]; exact r4 s hs, fun s hs => by simp [si, upd]; exact r5 s hs, fun s hs => r6 s hs, fun w hw => (r7 w hw).trans (congrArg lN (spl_cong (D := D) (D' := endS D) (fun _ => rfl) rfl).symm), fun w hw => by simp [si, upd]; exact r8 w hw, by simp [si, upd]; exact r9, r10⟩
theorem sgn_1 {D : TS} {wo k st ft pl cn a : Nat} (h : cn = 46) (hw : 0 < wo) : sgn (D, wo, k, st, ft, pl) cn a = (endS D, 0, k, st, ft, pl) := if_pos ⟨h, hw⟩
theorem sgn_2 {D : TS} {wo k st ft pl cn a : Nat} (h : ¬ (cn = 46 ∧ 0 < wo)) (hw : cn = 32) : sgn (D, wo, k, st, ft, pl) cn a = (D, wo, k, st, ft, pl) := (if_neg h).trans (if_pos hw)
theorem sgn_3 {D : TS} {wo k st ft pl cn a : Nat} (h : ¬ (cn = 46 ∧ 0 < wo)) (hw : ¬ cn = 32) : sgn (D, wo, k, st, ft, pl) cn a = rfs (D, wo, k, st, ft, pl) 1 a := (if_neg h).trans (if_neg hw)
theorem ok_X4_readSign {G : Gx} {μ : Mu} (bs : Nat → Nat) (D : TS) (wo k st ft pl : Nat) (hR : Rd μ bs (D, wo, k, st, ft, pl)) (a cn : Nat) (c : Int32) (hc46 : c = nI 46 ↔ cn = 46) (hc32 : c = nI 32 ↔ cn = 32) (hf3 : ft < 4) (hV : RV bs (D, wo, k, st, ft, pl)) : Runs 1 M_X4_readSign [.ref (G.2.2 85), .int c, .int (nI a)] G μ (fun r μ' => r = none ∧ Fr μ μ' CR ∧ Rd μ' bs (sgn (D, wo, k, st, ft, pl) cn a)) := by
  have hwo : wo ≤ 30 := hV.2.2.1
  have hn : D.n ≤ 16 := hV.1
  refine Runs.go RX4 rfl (by decide) [(0, .ref (G.2.2 85)), (1, .int c), (2, .int (nI a))] (Nat.le_of_ble_eq_true rfl) rfl (fun X hF => ?_)
  refine V.iload_n (pc := 0) 1 dX4_readSign_0 rfl ?_
  refine V.bipush (pc := 1) (v := nI 46) dX4_readSign_1 (by decide) ?_
  refine V.icmp_ne (pc := 3) 34 dX4_readSign_3 (by decide) (fun h_3 => ?_) (fun h_3 => ?_)
  · refine V.iload_n (pc := 34) 1 dX4_readSign_34 rfl ?_
    refine V.bipush (pc := 35) (v := nI 32) dX4_readSign_35 (by decide) ?_
    refine V.icmp_eq (pc := 37) 46 dX4_readSign_37 (by decide) (fun h_37 => ?_) (fun h_37 => ?_)
    · exact V.vret (pc := 46) hF dX4_readSign_46 ⟨rfl, Fr.refl _ _, by rw [sgn_2 (fun q => h_3 (hc46.mpr q.1)) (hc32.mp h_37)]; exact hR⟩
    · refine V.aload_n (pc := 40) 0 dX4_readSign_40 rfl ?_
      refine V.iconst (pc := 41) (v := nI 1) dX4_readSign_41 (by decide) ?_
      refine V.iload_n (pc := 42) 2 dX4_readSign_42 rfl ?_
      refine cl_X4_51 (pc := 43) dX4_readSign_43 (ok_X4_refuse bs (D, wo, k, st, ft, pl) hR 1 a hf3) (by omega) (Nat.le_of_ble_eq_true rfl) (fun r_ μ_ h_ => ?_)
      obtain ⟨rfl, hfrA, hRA⟩ := h_
      exact V.vret (pc := 46) hF dX4_readSign_46 ⟨rfl, hfrA, by rw [sgn_3 (fun q => h_3 (hc46.mpr q.1)) (fun q => h_37 (hc32.mpr q))]; exact hRA⟩
  · refine V.aload_n (pc := 6) 0 dX4_readSign_6 rfl ?_
    refine gf_X4_25 (pc := 7) (v := nI wo) dX4_readSign_7 hR.2.2.1 ?_
    refine V.ifN_le (pc := 10) 34 dX4_readSign_10 (by decide) (by omega) (fun h_10 => ?_) (fun h_10 => ?_)
    · refine V.iload_n (pc := 34) 1 dX4_readSign_34 rfl ?_
      refine V.bipush (pc := 35) (v := nI 32) dX4_readSign_35 (by decide) ?_
      refine V.icmp_eq (pc := 37) 46 dX4_readSign_37 (by decide) (fun h_37 => ?_) (fun h_37 => ?_)
      · exact V.vret (pc := 46) hF dX4_readSign_46 ⟨rfl, Fr.refl _ _, by rw [sgn_2 (fun q => absurd q.2 (by omega)) (hc32.mp h_37)]; exact hR⟩
      · refine V.aload_n (pc := 40) 0 dX4_readSign_40 rfl ?_
        refine V.iconst (pc := 41) (v := nI 1) dX4_readSign_41 (by decide) ?_
        refine V.iload_n (pc := 42) 2 dX4_readSign_42 rfl ?_
        refine cl_X4_51 (pc := 43) dX4_readSign_43 (ok_X4_refuse bs (D, wo, k, st, ft, pl) hR 1 a hf3) (by omega) (Nat.le_of_ble_eq_true rfl) (fun r_ μ_ h_ => ?_)
        obtain ⟨rfl, hfrA, hRA⟩ := h_
        exact V.vret (pc := 46) hF dX4_readSign_46 ⟨rfl, hfrA, by rw [sgn_3 (fun q => absurd q.2 (by omega)) (fun q => h_37 (hc32.mpr q))]; exact hRA⟩
    · refine V.aload_n (pc := 13) 0 dX4_readSign_13 rfl ?_
      refine gf_X4_12 (pc := 14) dX4_readSign_14 ?_
      refine V.dup (pc := 17) dX4_readSign_17 rfl ?_
      refine gf_X4_58 (pc := 18) 1 (by decide) (v := nI D.n) dX4_readSign_18 hR.2.2.2.2.2.1 ?_
      refine V.iconst (pc := 21) (v := nI 1) dX4_readSign_21 (by decide) ?_
      refine V.iadd (pc := 22) (v := nI (D.n + 1)) dX4_readSign_22 (nI_add _ _) ?_
      refine pf_X4_58 (pc := 23) 1 (by decide) dX4_readSign_23 ?_
      refine V.aload_n (pc := 26) 0 dX4_readSign_26 rfl ?_
      refine V.iconst (pc := 27) (v := nI 0) dX4_readSign_27 (by decide) ?_
      refine pf_X4_25 (pc := 28) dX4_readSign_28 ?_
      refine V.goto (pc := 31) 46 dX4_readSign_31 (by decide) ?_
      exact V.vret (pc := 46) hF dX4_readSign_46 ⟨rfl, ((Fr.refl μ CR).si _ _ (Or.inr (by unfold Blk; omega))).si _ _ (Or.inl rfl), by rw [sgn_1 (hc46.mp h_3) h_10]; exact hR.sent h_10⟩
theorem rrun_l {bs : Nat → Nat} {i : Nat} {M : RM} (h : rrun bs i = M) (h0 : M.ft = 0) (hl : isLt (bs i) = true) : rrun bs (i + 1) = ltr M i := by
  rw [rrun, h, if_pos h0, rstep, if_pos hl]
theorem rrun_s {bs : Nat → Nat} {i : Nat} {M : RM} (h : rrun bs i = M) (h0 : M.ft = 0) (hl : isLt (bs i) = false) : rrun bs (i + 1) = sgn (endW bs M) (bs i) i := by
  rw [rrun, h, if_pos h0, rstep, if_neg (by rw [hl]; decide)]
theorem rrun_stop {bs : Nat → Nat} {i : Nat} {M : RM} (h : rrun bs i = M) (h0 : M.ft ≠ 0) : ∀ m, i ≤ m → rrun bs m = M
  | 0, hm => by have : i = 0 := by omega
                subst this; exact h
  | m + 1, hm => by
    by_cases e : i = m + 1
    · subst e; exact h
    · have := rrun_stop h h0 m (by omega)
      rw [rrun, this, if_neg h0]
theorem rfin_1 {bs : Nat → Nat} {m : Nat} {M : RM} (h : rrun bs m = M) (h1 : 0 < (endW bs M).wo) : rfin bs m = rfs (endW bs M) 1 m := by
  unfold rfin; rw [h, if_pos h1]
theorem rfin_0 {bs : Nat → Nat} {m : Nat} {M : RM} (h : rrun bs m = M) (h1 : ¬ 0 < (endW bs M).wo) : rfin bs m = endW bs M := by
  unfold rfin; rw [h, if_neg h1]
theorem rfs_b (M : RM) (f a : Nat) (hf : f < 4) : (rfs M f a).k = M.k ∧ (rfs M f a).st = M.st ∧ (M.ft < 4 → (rfs M f a).ft < 4) := by
  unfold rfs
  split
  · exact ⟨rfl, rfl, fun _ => hf⟩
  · exact ⟨rfl, rfl, id⟩
theorem addW_b (bs : Nat → Nat) (M : RM) : (addW bs M).st = M.st ∧ (M.ft < 4 → (addW bs M).ft < 4) := by
  unfold addW
  split
  · exact ⟨rfl, id⟩
  · split
    · exact ⟨(rfs_b M 3 _ (by decide)).2.1, (rfs_b M 3 _ (by decide)).2.2⟩
    · exact ⟨rfl, id⟩
theorem endW_b (bs : Nat → Nat) (M : RM) : (endW bs M).st = M.st ∧ (M.ft < 4 → (endW bs M).ft < 4) := by
  unfold endW
  split
  · exact ⟨rfl, id⟩
  · split
    · exact ⟨(rfs_b M 2 _ (by decide)).2.1, (rfs_b M 2 _ (by decide)).2.2⟩
    · split
      · exact ⟨(rfs_b M 3 _ (by decide)).2.1, (rfs_b M 3 _ (by decide)).2.2⟩
      · exact addW_b bs M
theorem sgn_b (M : RM) (c a : Nat) : (sgn M c a).k = M.k ∧ (sgn M c a).st = M.st ∧ (M.ft < 4 → (sgn M c a).ft < 4) := by
  unfold sgn
  split
  · exact ⟨rfl, rfl, id⟩
  · split
    · exact ⟨rfl, rfl, id⟩
    · exact rfs_b M 1 a (by decide)
theorem rrun_b (bs : Nat → Nat) : ∀ i, (rrun bs i).k ≤ i ∧ (rrun bs i).st ≤ i ∧ (rrun bs i).ft < 4
  | 0 => ⟨Nat.le_refl _, Nat.le_refl _, by show 0 < 4; omega⟩
  | i + 1 => by
    have ih := rrun_b bs i
    rw [rrun]
    split
    · unfold rstep
      split
      · refine ⟨by show (rrun bs i).k + 1 ≤ _; omega, ?_, ih.2.2⟩
        show (if (rrun bs i).k = 0 then i else (rrun bs i).st) ≤ _
        split <;> omega
      · have a := sgn_b (endW bs (rrun bs i)) (bs i) i
        have b := endW_b bs (rrun bs i)
        rw [a.1, a.2.1, b.1, endW_k]
        exact ⟨by omega, by omega, a.2.2 (b.2 ih.2.2)⟩
    · exact ⟨by omega, by omega, ih.2.2⟩
theorem isLt_t {c : Nat} (h1 : ¬ c < 97) (h2 : ¬ 122 < c) : isLt c = true := by unfold isLt; simp; omega
theorem isLt_f {c : Nat} (h1 : c < 97 ∨ 122 < c) : isLt c = false := by unfold isLt; simp; omega
theorem Rd_0 (bs : Nat → Nat) (μ : Mu) : Rd (si (si (si (si (sj (si (si (si μ (8 * 1) 0 (nI 0)) (8 * 1) 1 (nI 0)) (8 * 1) 3 (nI 0)) (8 * 1) 4 (lN 0)) 85 1 (nI 0)) 85 2 (-1)) 85 3 (nI 0)) 85 4 (nI 0)) bs M0 := by
  refine ⟨by simp [si, sj, upd]; rfl, by simp [si, sj, upd]; rfl, by simp [si, sj, upd]; rfl, by simp [si, sj, upd]; rfl, fun q => absurd q (by decide), ?_⟩
  refine ⟨by simp [si, sj, upd]; rfl, by simp [si, sj, upd]; rfl, fun s hs => absurd hs (by show ¬ s < 0; omega), fun s hs => absurd hs (by show ¬ s < 0; omega), fun s hs => absurd hs (by show ¬ s < 0; omega), fun s hs => absurd hs (by show ¬ s < 0; omega), fun s hs => absurd hs (by show ¬ s < 0; omega), fun s hs => absurd hs (by show ¬ s < 0; omega), by simp [si, sj, upd], by simp [si, sj, vp_updL]⟩
theorem Fr_0 (μ : Mu) : Fr μ (si (si (si (si (sj (si (si (si μ (8 * 1) 0 (nI 0)) (8 * 1) 1 (nI 0)) (8 * 1) 3 (nI 0)) (8 * 1) 4 (lN 0)) 85 1 (nI 0)) 85 2 (-1)) 85 3 (nI 0)) 85 4 (nI 0)) CR :=
  have b : CR (8 * 1) := Or.inr (by unfold Blk; omega)
  have r : CR 85 := Or.inl rfl
  ((((((((Fr.refl μ CR).si _ _ b).si _ _ b).si _ _ b).sj _ _ b).si _ _ r).si _ _ r).si _ _ r).si _ _ r
theorem ok_X4_read {G : Gx} {μ : Mu} (bs : Nat → Nat) (m : Nat) (hm : m ≤ 600) (hb : ∀ i, i < m → bs i < 256) (ht : ∀ i, i < m → μ.1 81 i = sbI (bs i)) : Runs 3 M_X4_read [.ref (G.2.2 85), .ref (G.2.2 81), .int (nI m)] G μ (fun r μ' => r = some (.int (nI (rfin bs m).ft)) ∧ Fr μ μ' CR ∧ Rd μ' bs (rfin bs m)) := by
  refine Runs.go RX4 rfl (by decide) [(0, .ref (G.2.2 85)), (1, .ref (G.2.2 81)), (2, .int (nI m))] (Nat.le_of_ble_eq_true rfl) rfl (fun X hF => ?_)
  refine V.aload_n (pc := 0) 0 dX4_read_0 rfl ?_
  refine gf_X4_12 (pc := 1) dX4_read_1 ?_
  refine cl_X4_38 (pc := 4) 1 (by decide) dX4_read_4 (ok_X6_clear 1 (by decide)) (by omega) (Nat.le_of_ble_eq_true rfl) (fun r_ μ_ h_ => ?_)
  obtain ⟨rfl, rfl⟩ := h_
  refine V.aload_n (pc := 7) 0 dX4_read_7 rfl ?_
  refine V.iconst (pc := 8) (v := nI 0) dX4_read_8 (by decide) ?_
  refine pf_X4_18 (pc := 9) dX4_read_9 ?_
  refine V.aload_n (pc := 12) 0 dX4_read_12 rfl ?_
  refine V.iconst (pc := 13) (v := (-1)) dX4_read_13 (by decide) ?_
  refine pf_X4_22 (pc := 14) dX4_read_14 ?_
  refine V.aload_n (pc := 17) 0 dX4_read_17 rfl ?_
  refine V.iconst (pc := 18) (v := nI 0) dX4_read_18 (by decide) ?_
  refine pf_X4_25 (pc := 19) dX4_read_19 ?_
  refine V.aload_n (pc := 22) 0 dX4_read_22 rfl ?_
  refine V.iconst (pc := 23) (v := nI 0) dX4_read_23 (by decide) ?_
  refine pf_X4_28 (pc := 24) dX4_read_24 ?_
  refine V.iconst (pc := 27) (v := nI 0) dX4_read_27 (by decide) ?_
  refine V.istore_n (pc := 28) (lv' := [(0, .ref (G.2.2 85)), (1, .ref (G.2.2 81)), (2, .int (nI m)), (3, .int (nI 0))]) dX4_read_28 (by decide) rfl ?_
  have L29 : ∀ (n_ : Nat) (i : Nat) ( μ1 : Mu) ( D : TS) ( wo k st ft pl : Nat), (i ≤ m) → (Fr μ μ1 CR) → (rrun bs i = (D, wo, k, st, ft, pl)) → (Rd μ1 bs (D, wo, k, st, ft, pl)) → (∀ j, j < m → μ1.1 81 j = sbI (bs j)) → m - i < n_ → V G RX4 cX4_read 4 3 X 29 [(0, .ref (G.2.2 85)), (1, .ref (G.2.2 81)), (2, .int (nI m)), (3, .int (nI i))] [] μ1 := by
    intro n_
    induction n_ with
    | zero => intro i μ1 D wo k st ft pl hi hfr hM hR ht1 hm_; exact absurd hm_ (Nat.not_lt_zero _)
    | succ n_ ih29 =>
      intro i μ1 D wo k st ft pl hi hfr hM hR ht1 hm_
      have hkst : k ≤ i ∧ st ≤ i ∧ ft < 4 := by have := rrun_b bs i; rw [hM] at this; exact this
      refine V.iload_n (pc := 29) 3 dX4_read_29 rfl ?_
      refine V.iload_n (pc := 30) 2 dX4_read_30 rfl ?_
      refine V.icmpN_ge (pc := 31) 92 dX4_read_31 (by decide) (by omega) (by omega) (fun h_31 => ?_) (fun h_31 => ?_)
      · have hE : rrun bs m = (D, wo, k, st, ft, pl) := by rw [show m = i by omega]; exact hM
        have hwoE : (endW bs (D, wo, k, st, ft, pl)).wo ≤ 30 := by have := (RV_run bs i).ew_.2.2.1; rw [hM] at this; exact this
        refine V.aload_n (pc := 92) 0 dX4_read_92 rfl ?_
        refine cl_X4_45 (pc := 93) dX4_read_93 (ok_X4_endWord bs D wo k st ft pl hR (by have := RV_run bs i; rw [hM] at this; exact this) (by omega) (by omega) (by omega)) (by omega) (Nat.le_of_ble_eq_true rfl) (fun r_ μ_ h_ => ?_)
        obtain ⟨rfl, hfrA, hRA⟩ := h_
        refine V.aload_n (pc := 96) 0 dX4_read_96 rfl ?_
        refine gf_X4_25 (pc := 97) (v := nI ((endW bs (D, wo, k, st, ft, pl)).wo)) dX4_read_97 hRA.2.2.1 ?_
        refine V.ifN_le (pc := 100) 109 dX4_read_100 (by decide) (by omega) (fun h_100 => ?_) (fun h_100 => ?_)
        · refine V.aload_n (pc := 109) 0 dX4_read_109 rfl ?_
          refine gf_X4_18 (pc := 110) (v := nI ((endW bs (D, wo, k, st, ft, pl)).ft)) dX4_read_110 hRA.1 ?_
          exact V.iret (pc := 113) hF dX4_read_113 ⟨by rw [rfin_0 hE (by omega)], CR_tr hfr hfrA, by rw [rfin_0 hE (by omega)]; exact hRA⟩
        · refine V.aload_n (pc := 103) 0 dX4_read_103 rfl ?_
          refine V.iconst (pc := 104) (v := nI 1) dX4_read_104 (by decide) ?_
          refine V.iload_n (pc := 105) 2 dX4_read_105 rfl ?_
          refine cl_X4_51 (pc := 106) dX4_read_106 (ok_X4_refuse bs (endW bs (D, wo, k, st, ft, pl)) hRA 1 m ((endW_b bs (D, wo, k, st, ft, pl)).2 (show ft < 4 by omega))) (by omega) (Nat.le_of_ble_eq_true rfl) (fun r_ μ_ h_ => ?_)
          obtain ⟨rfl, hfrB, hRB⟩ := h_
          refine V.aload_n (pc := 109) 0 dX4_read_109 rfl ?_
          refine gf_X4_18 (pc := 110) (v := nI ((rfs (endW bs (D, wo, k, st, ft, pl)) 1 m).ft)) dX4_read_110 hRB.1 ?_
          exact V.iret (pc := 113) hF dX4_read_113 ⟨by rw [rfin_1 hE h_100], CR_tr (CR_tr hfr hfrA) hfrB, by rw [rfin_1 hE h_100]; exact hRB⟩
      · refine V.iload_n (pc := 34) 3 dX4_read_34 rfl ?_
        refine V.aload_n (pc := 35) 1 dX4_read_35 rfl ?_
        refine V.alenB (pc := 36) (k := 81) (n := 600) (Nat.le_of_ble_eq_true rfl) (fun _ _ => rfl) dX4_read_36 ?_
        refine V.icmpN_ge (pc := 37) 92 dX4_read_37 (by decide) (by omega) (by omega) (fun h_37 => ?_) (fun h_37 => ?_)
        · have hE : rrun bs m = (D, wo, k, st, ft, pl) := by rw [show m = i by omega]; exact hM
          have hwoE : (endW bs (D, wo, k, st, ft, pl)).wo ≤ 30 := by have := (RV_run bs i).ew_.2.2.1; rw [hM] at this; exact this
          refine V.aload_n (pc := 92) 0 dX4_read_92 rfl ?_
          refine cl_X4_45 (pc := 93) dX4_read_93 (ok_X4_endWord bs D wo k st ft pl hR (by have := RV_run bs i; rw [hM] at this; exact this) (by omega) (by omega) (by omega)) (by omega) (Nat.le_of_ble_eq_true rfl) (fun r_ μ_ h_ => ?_)
          obtain ⟨rfl, hfrA, hRA⟩ := h_
          refine V.aload_n (pc := 96) 0 dX4_read_96 rfl ?_
          refine gf_X4_25 (pc := 97) (v := nI ((endW bs (D, wo, k, st, ft, pl)).wo)) dX4_read_97 hRA.2.2.1 ?_
          refine V.ifN_le (pc := 100) 109 dX4_read_100 (by decide) (by omega) (fun h_100 => ?_) (fun h_100 => ?_)
          · refine V.aload_n (pc := 109) 0 dX4_read_109 rfl ?_
            refine gf_X4_18 (pc := 110) (v := nI ((endW bs (D, wo, k, st, ft, pl)).ft)) dX4_read_110 hRA.1 ?_
            exact V.iret (pc := 113) hF dX4_read_113 ⟨by rw [rfin_0 hE (by omega)], CR_tr hfr hfrA, by rw [rfin_0 hE (by omega)]; exact hRA⟩
          · refine V.aload_n (pc := 103) 0 dX4_read_103 rfl ?_
            refine V.iconst (pc := 104) (v := nI 1) dX4_read_104 (by decide) ?_
            refine V.iload_n (pc := 105) 2 dX4_read_105 rfl ?_
            refine cl_X4_51 (pc := 106) dX4_read_106 (ok_X4_refuse bs (endW bs (D, wo, k, st, ft, pl)) hRA 1 m ((endW_b bs (D, wo, k, st, ft, pl)).2 (show ft < 4 by omega))) (by omega) (Nat.le_of_ble_eq_true rfl) (fun r_ μ_ h_ => ?_)
            obtain ⟨rfl, hfrB, hRB⟩ := h_
            refine V.aload_n (pc := 109) 0 dX4_read_109 rfl ?_
            refine gf_X4_18 (pc := 110) (v := nI ((rfs (endW bs (D, wo, k, st, ft, pl)) 1 m).ft)) dX4_read_110 hRB.1 ?_
            exact V.iret (pc := 113) hF dX4_read_113 ⟨by rw [rfin_1 hE h_100], CR_tr (CR_tr hfr hfrA) hfrB, by rw [rfin_1 hE h_100]; exact hRB⟩
        · refine V.aload_n (pc := 40) 0 dX4_read_40 rfl ?_
          refine gf_X4_18 (pc := 41) (v := nI ft) dX4_read_41 hR.1 ?_
          refine V.ifN_ne (pc := 44) 92 dX4_read_44 (by decide) (by omega) (fun h_44 => ?_) (fun h_44 => ?_)
          · have hE : rrun bs m = (D, wo, k, st, ft, pl) := rrun_stop hM (show ft ≠ 0 by omega) m hi
            have hwoE : (endW bs (D, wo, k, st, ft, pl)).wo ≤ 30 := by have := (RV_run bs i).ew_.2.2.1; rw [hM] at this; exact this
            refine V.aload_n (pc := 92) 0 dX4_read_92 rfl ?_
            refine cl_X4_45 (pc := 93) dX4_read_93 (ok_X4_endWord bs D wo k st ft pl hR (by have := RV_run bs i; rw [hM] at this; exact this) (by omega) (by omega) (by omega)) (by omega) (Nat.le_of_ble_eq_true rfl) (fun r_ μ_ h_ => ?_)
            obtain ⟨rfl, hfrA, hRA⟩ := h_
            refine V.aload_n (pc := 96) 0 dX4_read_96 rfl ?_
            refine gf_X4_25 (pc := 97) (v := nI ((endW bs (D, wo, k, st, ft, pl)).wo)) dX4_read_97 hRA.2.2.1 ?_
            refine V.ifN_le (pc := 100) 109 dX4_read_100 (by decide) (by omega) (fun h_100 => ?_) (fun h_100 => ?_)
            · refine V.aload_n (pc := 109) 0 dX4_read_109 rfl ?_
              refine gf_X4_18 (pc := 110) (v := nI ((endW bs (D, wo, k, st, ft, pl)).ft)) dX4_read_110 hRA.1 ?_
              exact V.iret (pc := 113) hF dX4_read_113 ⟨by rw [rfin_0 hE (by omega)], CR_tr hfr hfrA, by rw [rfin_0 hE (by omega)]; exact hRA⟩
            · refine V.aload_n (pc := 103) 0 dX4_read_103 rfl ?_
              refine V.iconst (pc := 104) (v := nI 1) dX4_read_104 (by decide) ?_
              refine V.iload_n (pc := 105) 2 dX4_read_105 rfl ?_
              refine cl_X4_51 (pc := 106) dX4_read_106 (ok_X4_refuse bs (endW bs (D, wo, k, st, ft, pl)) hRA 1 m ((endW_b bs (D, wo, k, st, ft, pl)).2 (show ft < 4 by omega))) (by omega) (Nat.le_of_ble_eq_true rfl) (fun r_ μ_ h_ => ?_)
              obtain ⟨rfl, hfrB, hRB⟩ := h_
              refine V.aload_n (pc := 109) 0 dX4_read_109 rfl ?_
              refine gf_X4_18 (pc := 110) (v := nI ((rfs (endW bs (D, wo, k, st, ft, pl)) 1 m).ft)) dX4_read_110 hRB.1 ?_
              exact V.iret (pc := 113) hF dX4_read_113 ⟨by rw [rfin_1 hE h_100], CR_tr (CR_tr hfr hfrA) hfrB, by rw [rfin_1 hE h_100]; exact hRB⟩
          · by_cases hlo : bs i < 128
            · refine V.aload_n (pc := 47) 1 dX4_read_47 rfl ?_
              refine V.iload_n (pc := 48) 3 dX4_read_48 rfl ?_
              refine V.bald (pc := 49) (k := 81) (n := 600) (v := nI (bs i)) (Nat.le_of_ble_eq_true rfl) (fun _ _ => rfl) i (by omega) (by decide) dX4_read_49 ((ht1 i h_31).trans (sb_lo hlo)) ?_
              refine V.bipush (pc := 50) (v := nI 97) dX4_read_50 (by decide) ?_
              refine V.icmpN_lt (pc := 52) 74 dX4_read_52 (by decide) (by omega) (by omega) (fun h_52 => ?_) (fun h_52 => ?_)
              · refine V.aload_n (pc := 74) 0 dX4_read_74 rfl ?_
                refine cl_X4_45 (pc := 75) dX4_read_75 (ok_X4_endWord bs D wo k st ft pl hR (by have := RV_run bs i; rw [hM] at this; exact this) (by omega) (by omega) (by omega)) (by omega) (Nat.le_of_ble_eq_true rfl) (fun r_ μ_ h_ => ?_)
                obtain ⟨rfl, hfrA, hRA⟩ := h_
                refine V.aload_n (pc := 78) 0 dX4_read_78 rfl ?_
                refine V.aload_n (pc := 79) 1 dX4_read_79 rfl ?_
                refine V.iload_n (pc := 80) 3 dX4_read_80 rfl ?_
                refine V.bald (pc := 81) (k := 81) (n := 600) (v := nI (bs i)) (Nat.le_of_ble_eq_true rfl) (fun _ _ => rfl) i (by omega) (by decide) dX4_read_81 (((congrFun (hfrA 81 (by unfold CR Blk; omega)).1 i).trans (ht1 i h_31)).trans (sb_lo hlo)) ?_
                refine V.iload_n (pc := 82) 3 dX4_read_82 rfl ?_
                refine cl_X4_48 (pc := 83) dX4_read_83 (ok_X4_readSign bs (endW bs (D, wo, k, st, ft, pl)).D (endW bs (D, wo, k, st, ft, pl)).wo (endW bs (D, wo, k, st, ft, pl)).k (endW bs (D, wo, k, st, ft, pl)).st (endW bs (D, wo, k, st, ft, pl)).ft (endW bs (D, wo, k, st, ft, pl)).pl hRA i (bs i) (nI (bs i)) (nn_eq32 (by omega) (by omega)) (nn_eq32 (by omega) (by omega)) ((endW_b bs (D, wo, k, st, ft, pl)).2 (show ft < 4 by omega)) (by have := (RV_run bs i).ew_; rw [hM] at this; exact this)) (by omega) (Nat.le_of_ble_eq_true rfl) (fun r_ μ_ h_ => ?_)
                obtain ⟨rfl, hfrB, hRB⟩ := h_
                refine V.iinc (pc := 86) (v := nI (i + 1)) (lv' := [(0, .ref (G.2.2 85)), (1, .ref (G.2.2 81)), (2, .int (nI m)), (3, .int (nI (i + 1)))]) 3 dX4_read_86 rfl (nn_inc _) (by decide) rfl ?_
                refine V.goto (pc := 89) 29 dX4_read_89 (by decide) ?_
                exact ih29 (i + 1) μ_ ((rrun bs (i + 1)).D) ((rrun bs (i + 1)).wo) ((rrun bs (i + 1)).k) ((rrun bs (i + 1)).st) ((rrun bs (i + 1)).ft) ((rrun bs (i + 1)).pl) (by omega) (CR_tr (CR_tr hfr hfrA) hfrB) rfl (by rw [show ((rrun bs (i + 1)).D, (rrun bs (i + 1)).wo, (rrun bs (i + 1)).k, (rrun bs (i + 1)).st, (rrun bs (i + 1)).ft, (rrun bs (i + 1)).pl) = sgn (endW bs (D, wo, k, st, ft, pl)) (bs i) i from rrun_s hM h_44 (isLt_f (Or.inl (by omega)))]; exact hRB) (fun j hj => (congrFun ((CR_tr hfrA hfrB) 81 (by unfold CR Blk; omega)).1 j).trans (ht1 j hj)) (by omega)
              · refine V.aload_n (pc := 55) 1 dX4_read_55 rfl ?_
                refine V.iload_n (pc := 56) 3 dX4_read_56 rfl ?_
                refine V.bald (pc := 57) (k := 81) (n := 600) (v := nI (bs i)) (Nat.le_of_ble_eq_true rfl) (fun _ _ => rfl) i (by omega) (by decide) dX4_read_57 ((ht1 i h_31).trans (sb_lo hlo)) ?_
                refine V.bipush (pc := 58) (v := nI 122) dX4_read_58 (by decide) ?_
                refine V.icmpN_gt (pc := 60) 74 dX4_read_60 (by decide) (by omega) (by omega) (fun h_60 => ?_) (fun h_60 => ?_)
                · refine V.aload_n (pc := 74) 0 dX4_read_74 rfl ?_
                  refine cl_X4_45 (pc := 75) dX4_read_75 (ok_X4_endWord bs D wo k st ft pl hR (by have := RV_run bs i; rw [hM] at this; exact this) (by omega) (by omega) (by omega)) (by omega) (Nat.le_of_ble_eq_true rfl) (fun r_ μ_ h_ => ?_)
                  obtain ⟨rfl, hfrA, hRA⟩ := h_
                  refine V.aload_n (pc := 78) 0 dX4_read_78 rfl ?_
                  refine V.aload_n (pc := 79) 1 dX4_read_79 rfl ?_
                  refine V.iload_n (pc := 80) 3 dX4_read_80 rfl ?_
                  refine V.bald (pc := 81) (k := 81) (n := 600) (v := nI (bs i)) (Nat.le_of_ble_eq_true rfl) (fun _ _ => rfl) i (by omega) (by decide) dX4_read_81 (((congrFun (hfrA 81 (by unfold CR Blk; omega)).1 i).trans (ht1 i h_31)).trans (sb_lo hlo)) ?_
                  refine V.iload_n (pc := 82) 3 dX4_read_82 rfl ?_
                  refine cl_X4_48 (pc := 83) dX4_read_83 (ok_X4_readSign bs (endW bs (D, wo, k, st, ft, pl)).D (endW bs (D, wo, k, st, ft, pl)).wo (endW bs (D, wo, k, st, ft, pl)).k (endW bs (D, wo, k, st, ft, pl)).st (endW bs (D, wo, k, st, ft, pl)).ft (endW bs (D, wo, k, st, ft, pl)).pl hRA i (bs i) (nI (bs i)) (nn_eq32 (by omega) (by omega)) (nn_eq32 (by omega) (by omega)) ((endW_b bs (D, wo, k, st, ft, pl)).2 (show ft < 4 by omega)) (by have := (RV_run bs i).ew_; rw [hM] at this; exact this)) (by omega) (Nat.le_of_ble_eq_true rfl) (fun r_ μ_ h_ => ?_)
                  obtain ⟨rfl, hfrB, hRB⟩ := h_
                  refine V.iinc (pc := 86) (v := nI (i + 1)) (lv' := [(0, .ref (G.2.2 85)), (1, .ref (G.2.2 81)), (2, .int (nI m)), (3, .int (nI (i + 1)))]) 3 dX4_read_86 rfl (nn_inc _) (by decide) rfl ?_
                  refine V.goto (pc := 89) 29 dX4_read_89 (by decide) ?_
                  exact ih29 (i + 1) μ_ ((rrun bs (i + 1)).D) ((rrun bs (i + 1)).wo) ((rrun bs (i + 1)).k) ((rrun bs (i + 1)).st) ((rrun bs (i + 1)).ft) ((rrun bs (i + 1)).pl) (by omega) (CR_tr (CR_tr hfr hfrA) hfrB) rfl (by rw [show ((rrun bs (i + 1)).D, (rrun bs (i + 1)).wo, (rrun bs (i + 1)).k, (rrun bs (i + 1)).st, (rrun bs (i + 1)).ft, (rrun bs (i + 1)).pl) = sgn (endW bs (D, wo, k, st, ft, pl)) (bs i) i from rrun_s hM h_44 (isLt_f (Or.inr (by omega)))]; exact hRB) (fun j hj => (congrFun ((CR_tr hfrA hfrB) 81 (by unfold CR Blk; omega)).1 j).trans (ht1 j hj)) (by omega)
                · refine V.aload_n (pc := 63) 0 dX4_read_63 rfl ?_
                  refine V.aload_n (pc := 64) 1 dX4_read_64 rfl ?_
                  refine V.iload_n (pc := 65) 3 dX4_read_65 rfl ?_
                  refine V.bald (pc := 66) (k := 81) (n := 600) (v := nI (bs i)) (Nat.le_of_ble_eq_true rfl) (fun _ _ => rfl) i (by omega) (by decide) dX4_read_66 ((ht1 i h_31).trans (sb_lo hlo)) ?_
                  refine V.iload_n (pc := 67) 3 dX4_read_67 rfl ?_
                  refine cl_X4_41 (pc := 68) dX4_read_68 (ok_X4_readLetter bs D wo k st ft pl hR i (bs i) (by omega) rfl ⟨by omega, by omega⟩ (by have := rrun_k bs i (by rw [hM]; exact h_44); rw [hM] at this; exact this)) (by omega) (Nat.le_of_ble_eq_true rfl) (fun r_ μ_ h_ => ?_)
                  obtain ⟨rfl, hfrA, hRA⟩ := h_
                  refine V.goto (pc := 71) 86 dX4_read_71 (by decide) ?_
                  refine V.iinc (pc := 86) (v := nI (i + 1)) (lv' := [(0, .ref (G.2.2 85)), (1, .ref (G.2.2 81)), (2, .int (nI m)), (3, .int (nI (i + 1)))]) 3 dX4_read_86 rfl (nn_inc _) (by decide) rfl ?_
                  refine V.goto (pc := 89) 29 dX4_read_89 (by decide) ?_
                  exact ih29 (i + 1) μ_ ((rrun bs (i + 1)).D) ((rrun bs (i + 1)).wo) ((rrun bs (i + 1)).k) ((rrun bs (i + 1)).st) ((rrun bs (i + 1)).ft) ((rrun bs (i + 1)).pl) (by omega) (CR_tr hfr hfrA) rfl (by rw [show ((rrun bs (i + 1)).D, (rrun bs (i + 1)).wo, (rrun bs (i + 1)).k, (rrun bs (i + 1)).st, (rrun bs (i + 1)).ft, (rrun bs (i + 1)).pl) = ltr (D, wo, k, st, ft, pl) i from rrun_l hM h_44 (isLt_t (by omega) (by omega))]; exact hRA) (fun j hj => (congrFun (hfrA 81 (by unfold CR Blk; omega)).1 j).trans (ht1 j hj)) (by omega)
            · refine V.aload_n (pc := 47) 1 dX4_read_47 rfl ?_
              refine V.iload_n (pc := 48) 3 dX4_read_48 rfl ?_
              refine V.bald (pc := 49) (k := 81) (n := 600) (v := sbI (bs i)) (Nat.le_of_ble_eq_true rfl) (fun _ _ => rfl) i (by omega) (by decide) dX4_read_49 (ht1 i h_31) ?_
              refine V.bipush (pc := 50) (v := nI 97) dX4_read_50 (by decide) ?_
              refine V.icmp_lt (pc := 52) 74 dX4_read_52 (by decide) (fun h_52 => ?_) (fun h_52 => ?_)
              · refine V.aload_n (pc := 74) 0 dX4_read_74 rfl ?_
                refine cl_X4_45 (pc := 75) dX4_read_75 (ok_X4_endWord bs D wo k st ft pl hR (by have := RV_run bs i; rw [hM] at this; exact this) (by omega) (by omega) (by omega)) (by omega) (Nat.le_of_ble_eq_true rfl) (fun r_ μ_ h_ => ?_)
                obtain ⟨rfl, hfrA, hRA⟩ := h_
                refine V.aload_n (pc := 78) 0 dX4_read_78 rfl ?_
                refine V.aload_n (pc := 79) 1 dX4_read_79 rfl ?_
                refine V.iload_n (pc := 80) 3 dX4_read_80 rfl ?_
                refine V.bald (pc := 81) (k := 81) (n := 600) (v := sbI (bs i)) (Nat.le_of_ble_eq_true rfl) (fun _ _ => rfl) i (by omega) (by decide) dX4_read_81 ((congrFun (hfrA 81 (by unfold CR Blk; omega)).1 i).trans (ht1 i h_31)) ?_
                refine V.iload_n (pc := 82) 3 dX4_read_82 rfl ?_
                refine cl_X4_48 (pc := 83) dX4_read_83 (ok_X4_readSign bs (endW bs (D, wo, k, st, ft, pl)).D (endW bs (D, wo, k, st, ft, pl)).wo (endW bs (D, wo, k, st, ft, pl)).k (endW bs (D, wo, k, st, ft, pl)).st (endW bs (D, wo, k, st, ft, pl)).ft (endW bs (D, wo, k, st, ft, pl)).pl hRA i (bs i) (sbI (bs i)) ⟨fun q => absurd q (sb_hi (hb i h_31) hlo).2.1, fun q => absurd q (by omega)⟩ ⟨fun q => absurd q (sb_hi (hb i h_31) hlo).2.2, fun q => absurd q (by omega)⟩ ((endW_b bs (D, wo, k, st, ft, pl)).2 (show ft < 4 by omega)) (by have := (RV_run bs i).ew_; rw [hM] at this; exact this)) (by omega) (Nat.le_of_ble_eq_true rfl) (fun r_ μ_ h_ => ?_)
                obtain ⟨rfl, hfrB, hRB⟩ := h_
                refine V.iinc (pc := 86) (v := nI (i + 1)) (lv' := [(0, .ref (G.2.2 85)), (1, .ref (G.2.2 81)), (2, .int (nI m)), (3, .int (nI (i + 1)))]) 3 dX4_read_86 rfl (nn_inc _) (by decide) rfl ?_
                refine V.goto (pc := 89) 29 dX4_read_89 (by decide) ?_
                exact ih29 (i + 1) μ_ ((rrun bs (i + 1)).D) ((rrun bs (i + 1)).wo) ((rrun bs (i + 1)).k) ((rrun bs (i + 1)).st) ((rrun bs (i + 1)).ft) ((rrun bs (i + 1)).pl) (by omega) (CR_tr (CR_tr hfr hfrA) hfrB) rfl (by rw [show ((rrun bs (i + 1)).D, (rrun bs (i + 1)).wo, (rrun bs (i + 1)).k, (rrun bs (i + 1)).st, (rrun bs (i + 1)).ft, (rrun bs (i + 1)).pl) = sgn (endW bs (D, wo, k, st, ft, pl)) (bs i) i from rrun_s hM h_44 (isLt_f (Or.inr (by omega)))]; exact hRB) (fun j hj => (congrFun ((CR_tr hfrA hfrB) 81 (by unfold CR Blk; omega)).1 j).trans (ht1 j hj)) (by omega)
              · exact absurd (sb_hi (hb i h_31) hlo).1 h_52
  exact L29 _ 0 (si (si (si (si (sj (si (si (si μ (8 * 1) 0 (nI 0)) (8 * 1) 1 (nI 0)) (8 * 1) 3 (nI 0)) (8 * 1) 4 (lN 0)) 85 1 (nI 0)) 85 2 (-1)) 85 3 (nI 0)) 85 4 (nI 0)) T0 0 0 0 0 0 (by omega) (Fr_0 μ) rfl (Rd_0 bs μ) (fun j hj => (congrFun (Fr_0 μ 81 (by unfold CR Blk; omega)).1 j).trans (ht j hj)) (Nat.lt_succ_self _)
