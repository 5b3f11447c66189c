def Sx (μ : Mu) (S : TS) (o br mL lC : Nat) : Prop := μ.1 92 0 = nI o ∧ μ.1 92 1 = pv br ∧ μ.1 92 2 = nI mL ∧ μ.1 92 3 = nI lC ∧ (∀ s, s ≤ S.n → μ.2 93 s = lN (bfr S br s)) ∧ o < 3 ∧ br ≤ S.n ∧ mL < 2 ^ 31 ∧ lC ≤ 48001
def Sb (μ : Mu) (S : TS) (f : Bool) (b : Nat) : Prop := μ.1 92 5 = nI f.toNat ∧ μ.1 92 6 = nI b ∧ μ.1 92 7 = nI (cov S b) ∧ μ.1 92 8 = nI (lenOf S b) ∧ b < 65536
def C92 (a : Nat) : Prop := a = 92 ∨ a = 93
theorem C92_no {t : Nat} (ht : t < 10) : ∀ j, j < 8 → ¬ C92 (8 * t + j) := fun j hj h => by unfold C92 at h; omega
theorem ok_cmpI {G : Gx} {μ : Mu} (a b : Nat) (ha : a < 2 ^ 31) (hb : b < 2 ^ 31) : RunsP 0 M_J6_compare_7cf53 [.int (nI a), .int (nI b)] G μ (.int (cmpI a b)) := ok_cmp a b ha hb
def enB (o lC c r : Nat) : Bool := decide (c = r) || (decide (o ≠ 0) && decide (lC ≤ c))
def mayB (S : TS) (br a w : Nat) : Bool := !decide (br = a + 1) && adn (chain S a) (w ||| 2 ^ a) == 0
theorem cov_le {S : TS} (h : VS S) (x : Nat) : cov S x ≤ 48000 := wOf_le h _
theorem ok_X5_ranked {G : Gx} {μ : Mu} (S : TS) (hv : VS S) (o br mL lC : Nat) (hx : Sx μ S o br mL lC) (f : Bool) (b : Nat) (hb : Sb μ S f b) (w c l : Nat) (hw : w < 65536) (hc : c ≤ 48000) (hl : l ≤ 5280) : RunsP 1 M_X5_ranked [.ref (G.2.2 92), .int (nI w), .int (nI c), .int (nI l)] G μ (.int (rkI S o w c l b)) := by
  have hcb := cov_le hv b
  have hlb := lenOf_le hv b
  have ho := hx.2.2.2.2.2.1
  have hb16 := hb.2.2.2.2
  have hc1 := cntB_le w 16
  have hc2 := cntB_le b 16
  refine Runs.go RX5 rfl (by decide) [(0, .ref (G.2.2 92)), (1, .int (nI w)), (2, .int (nI c)), (3, .int (nI l))] (Nat.le_of_ble_eq_true rfl) rfl (fun X hF => ?_)
  refine V.aload_n (pc := 0) 0 dX5_ranked_0 rfl ?_
  refine gf_X5_35 (pc := 1) (v := nI (cov S b)) dX5_ranked_1 hb.2.2.1 ?_
  refine V.iload_n (pc := 4) 2 dX5_ranked_4 rfl ?_
  refine cp_X5_94 (pc := 5) dX5_ranked_5 (ok_cmpI (cov S b) c (by omega) (by omega)) (by omega) (Nat.le_of_ble_eq_true rfl) ?_
  refine V.istore (pc := 8) (lv' := [(0, .ref (G.2.2 92)), (1, .int (nI w)), (2, .int (nI c)), (3, .int (nI l)), (4, .int (cmpI (cov S b) c))]) dX5_ranked_8 (by decide) rfl ?_
  refine V.iload_n (pc := 10) 3 dX5_ranked_10 rfl ?_
  refine V.aload_n (pc := 11) 0 dX5_ranked_11 rfl ?_
  refine gf_X5_38 (pc := 12) (v := nI (lenOf S b)) dX5_ranked_12 hb.2.2.2.1 ?_
  refine cp_X5_94 (pc := 15) dX5_ranked_15 (ok_cmpI l (lenOf S b) (by omega) (by omega)) (by omega) (Nat.le_of_ble_eq_true rfl) ?_
  refine V.istore (pc := 18) (lv' := [(0, .ref (G.2.2 92)), (1, .int (nI w)), (2, .int (nI c)), (3, .int (nI l)), (4, .int (cmpI (cov S b) c)), (5, .int (cmpI l (lenOf S b)))]) dX5_ranked_18 (by decide) rfl ?_
  refine V.aload_n (pc := 20) 0 dX5_ranked_20 rfl ?_
  refine gf_X5_11 (pc := 21) (v := nI o) dX5_ranked_21 hx.1 ?_
  refine V.ifN_ne (pc := 24) 40 dX5_ranked_24 (by decide) (by omega) (fun h_24 => ?_) (fun h_24 => ?_)
  · refine V.aload_n (pc := 40) 0 dX5_ranked_40 rfl ?_
    refine gf_X5_11 (pc := 41) (v := nI o) dX5_ranked_41 hx.1 ?_
    refine V.iconst (pc := 44) (v := nI 2) dX5_ranked_44 (by decide) ?_
    refine V.icmpN_ne (pc := 45) 61 dX5_ranked_45 (by decide) (by omega) (by omega) (fun h_45 => ?_) (fun h_45 => ?_)
    · refine V.iload_n (pc := 61) 1 dX5_ranked_61 rfl ?_
      refine cp_X5_100 (pc := 62) dX5_ranked_62 (ok_bitCount w (by omega)) (by omega) (Nat.le_of_ble_eq_true rfl) ?_
      refine V.aload_n (pc := 65) 0 dX5_ranked_65 rfl ?_
      refine gf_X5_32 (pc := 66) (v := nI b) dX5_ranked_66 hb.2.1 ?_
      refine cp_X5_100 (pc := 69) dX5_ranked_69 (ok_bitCount b (by omega)) (by omega) (Nat.le_of_ble_eq_true rfl) ?_
      refine cp_X5_94 (pc := 72) dX5_ranked_72 (ok_cmpI (cntB w 16) (cntB b 16) (by omega) (by omega)) (by omega) (Nat.le_of_ble_eq_true rfl) ?_
      refine V.istore (pc := 75) (lv' := [(0, .ref (G.2.2 92)), (1, .int (nI w)), (2, .int (nI c)), (3, .int (nI l)), (4, .int (cmpI (cov S b) c)), (5, .int (cmpI l (lenOf S b))), (6, .int (cmpI (cntB w 16) (cntB b 16)))]) dX5_ranked_75 (by decide) rfl ?_
      refine V.iload (pc := 77) 6 dX5_ranked_77 rfl ?_
      refine V.if_eq (pc := 79) 87 dX5_ranked_79 (by decide) (fun h_79 => ?_) (fun h_79 => ?_)
      · refine V.iload (pc := 87) 5 dX5_ranked_87 rfl ?_
        exact V.iret (pc := 89) hF dX5_ranked_89 ⟨by rw [rkI, if_neg (by omega), if_neg h_45, lexI, if_pos h_79], rfl⟩
      · refine V.iload (pc := 82) 6 dX5_ranked_82 rfl ?_
        refine V.goto (pc := 84) 89 dX5_ranked_84 (by decide) ?_
        exact V.iret (pc := 89) hF dX5_ranked_89 ⟨by rw [rkI, if_neg (by omega), if_neg h_45, lexI, if_neg h_79], rfl⟩
    · refine V.iload (pc := 48) 5 dX5_ranked_48 rfl ?_
      refine V.if_eq (pc := 50) 58 dX5_ranked_50 (by decide) (fun h_50 => ?_) (fun h_50 => ?_)
      · refine V.iload (pc := 58) 4 dX5_ranked_58 rfl ?_
        exact V.iret (pc := 60) hF dX5_ranked_60 ⟨by rw [rkI, if_neg (by omega), if_pos h_45, lexI, if_pos h_50], rfl⟩
      · refine V.iload (pc := 53) 5 dX5_ranked_53 rfl ?_
        refine V.goto (pc := 55) 60 dX5_ranked_55 (by decide) ?_
        exact V.iret (pc := 60) hF dX5_ranked_60 ⟨by rw [rkI, if_neg (by omega), if_pos h_45, lexI, if_neg h_50], rfl⟩
  · refine V.iload (pc := 27) 4 dX5_ranked_27 rfl ?_
    refine V.if_eq (pc := 29) 37 dX5_ranked_29 (by decide) (fun h_29 => ?_) (fun h_29 => ?_)
    · refine V.iload (pc := 37) 5 dX5_ranked_37 rfl ?_
      exact V.iret (pc := 39) hF dX5_ranked_39 ⟨by rw [rkI, if_pos h_24, lexI, if_pos h_29], rfl⟩
    · refine V.iload (pc := 32) 4 dX5_ranked_32 rfl ?_
      refine V.goto (pc := 34) 39 dX5_ranked_34 (by decide) ?_
      exact V.iret (pc := 39) hF dX5_ranked_39 ⟨by rw [rkI, if_pos h_24, lexI, if_neg h_29], rfl⟩
theorem ok_X5_isEnough {G : Gx} {μ : Mu} (S : TS) (hv : VS S) (o br mL lC : Nat) (hx : Sx μ S o br mL lC) (c r : Nat) (hc : c ≤ 48000) (hr : r ≤ 48000) : RunsP 0 M_X5_isEnough [.ref (G.2.2 92), .int (nI c), .int (nI r)] G μ (.int (nI (enB o lC c r).toNat)) := by
  have ho := hx.2.2.2.2.2.1
  have hlc := hx.2.2.2.2.2.2.2.2
  refine Runs.go RX5 rfl (by decide) [(0, .ref (G.2.2 92)), (1, .int (nI c)), (2, .int (nI r))] (Nat.le_of_ble_eq_true rfl) rfl (fun X hF => ?_)
  refine V.iload_n (pc := 0) 1 dX5_isEnough_0 rfl ?_
  refine V.iload_n (pc := 1) 2 dX5_isEnough_1 rfl ?_
  refine V.icmpN_eq (pc := 2) 20 dX5_isEnough_2 (by decide) (by omega) (by omega) (fun h_2 => ?_) (fun h_2 => ?_)
  · refine V.iconst (pc := 20) (v := nI 1) dX5_isEnough_20 (by decide) ?_
    refine V.goto (pc := 21) 25 dX5_isEnough_21 (by decide) ?_
    exact V.zret (pc := 25) hF dX5_isEnough_25 (by decide) ⟨by rw [enB, decide_eq_true h_2]; rfl, rfl⟩
  · refine V.aload_n (pc := 5) 0 dX5_isEnough_5 rfl ?_
    refine gf_X5_11 (pc := 6) (v := nI o) dX5_isEnough_6 hx.1 ?_
    refine V.ifN_eq (pc := 9) 24 dX5_isEnough_9 (by decide) (by omega) (fun h_9 => ?_) (fun h_9 => ?_)
    · refine V.iconst (pc := 24) (v := nI 0) dX5_isEnough_24 (by decide) ?_
      exact V.zret (pc := 25) hF dX5_isEnough_25 (by decide) ⟨by rw [enB, decide_eq_false h_2, h_9]; rfl, rfl⟩
    · refine V.iload_n (pc := 12) 1 dX5_isEnough_12 rfl ?_
      refine V.aload_n (pc := 13) 0 dX5_isEnough_13 rfl ?_
      refine gf_X5_21 (pc := 14) (v := nI lC) dX5_isEnough_14 hx.2.2.2.1 ?_
      refine V.icmpN_lt (pc := 17) 24 dX5_isEnough_17 (by decide) (by omega) (by omega) (fun h_17 => ?_) (fun h_17 => ?_)
      · refine V.iconst (pc := 24) (v := nI 0) dX5_isEnough_24 (by decide) ?_
        exact V.zret (pc := 25) hF dX5_isEnough_25 (by decide) ⟨by rw [enB, decide_eq_false h_2, decide_eq_false (p := lC ≤ c) (by omega), Bool.and_false]; rfl, rfl⟩
      · refine V.iconst (pc := 20) (v := nI 1) dX5_isEnough_20 (by decide) ?_
        refine V.goto (pc := 21) 25 dX5_isEnough_21 (by decide) ?_
        exact V.zret (pc := 25) hF dX5_isEnough_25 (by decide) ⟨by rw [enB, decide_eq_false h_2, decide_eq_true (p := o ≠ 0) (by omega), decide_eq_true (p := lC ≤ c) (by omega)]; rfl, rfl⟩
theorem ok_X5_mayHave {G : Gx} {μ : Mu} (t : Nat) (ht : t < 10) (S : TS) (hS : St μ t S) (o br mL lC : Nat) (hx : Sx μ S o br mL lC) (a w : Nat) (ha : a < S.n) (hw : w < 65536) : RunsP 0 M_X5_mayHave [.ref (G.2.2 92), .ref (G.2.2 (8 * t)), .int (nI a), .int (nI w)] G μ (.int (nI (mayB S br a w).toNat)) := by
  have hn := hS.vs.n16
  have h16 := pow16 hS.vs
  have hc := chain_ltn ha
  have had := adn_le (chain S a) (w ||| 2 ^ a)
  have hbr := hx.2.2.2.2.2.2.1
  refine Runs.go RX5 rfl (by decide) [(0, .ref (G.2.2 92)), (1, .ref (G.2.2 (8 * t))), (2, .int (nI a)), (3, .int (nI w))] (Nat.le_of_ble_eq_true rfl) rfl (fun X hF => ?_)
  refine V.iload_n (pc := 0) 2 dX5_mayHave_0 rfl ?_
  refine V.aload_n (pc := 1) 0 dX5_mayHave_1 rfl ?_
  refine gf_X5_15 (pc := 2) (v := pv br) dX5_mayHave_2 hx.2.1 ?_
  refine V.icmp_eq (pc := 5) 29 dX5_mayHave_5 (by decide) (fun h_5 => ?_) (fun h_5 => ?_)
  · refine V.iconst (pc := 29) (v := nI 0) dX5_mayHave_29 (by decide) ?_
    exact V.zret (pc := 30) hF dX5_mayHave_30 (by decide) ⟨by rw [mayB, decide_eq_true ((pv_eq (by omega) (by omega)).mp h_5.symm)]; rfl, rfl⟩
  · refine V.aload_n (pc := 8) 1 dX5_mayHave_8 rfl ?_
    refine gf_X5_91 (pc := 9) t ht dX5_mayHave_9 ?_
    refine V.iload_n (pc := 12) 2 dX5_mayHave_12 rfl ?_
    refine V.iald (pc := 13) (k := 8 * t + 4) (n := 16) (v := nI (chain S a)) (by omega) (cell_Si ht ⟨by decide, by decide⟩) a (by omega) (by decide) dX5_mayHave_13 (hS.chain a (by omega)) ?_
    refine V.iload_n (pc := 14) 3 dX5_mayHave_14 rfl ?_
    refine V.iconst (pc := 15) (v := nI 1) dX5_mayHave_15 (by decide) ?_
    refine V.iload_n (pc := 16) 2 dX5_mayHave_16 rfl ?_
    refine V.ishl (pc := 17) (v := nI (2 ^ a)) dX5_mayHave_17 (nn_shl1 (by omega)) ?_
    refine V.ior (pc := 18) (v := nI (w ||| (2 ^ a))) dX5_mayHave_18 (nn_or _ _) ?_
    refine V.iconst (pc := 19) (v := (-1)) dX5_mayHave_19 (by decide) ?_
    refine V.ixor (pc := 20) (v := nI (w ||| (2 ^ a)) ^^^ (-1)) dX5_mayHave_20 rfl ?_
    refine V.iand (pc := 21) (v := nI (adn (chain S a) (w ||| (2 ^ a)))) dX5_mayHave_21 (nn_adn _ _) ?_
    refine V.ifN_ne (pc := 22) 29 dX5_mayHave_22 (by decide) (by omega) (fun h_22 => ?_) (fun h_22 => ?_)
    · refine V.iconst (pc := 29) (v := nI 0) dX5_mayHave_29 (by decide) ?_
      exact V.zret (pc := 30) hF dX5_mayHave_30 (by decide) ⟨by rw [mayB, show (adn (chain S a) (w ||| 2 ^ a) == 0) = false from by simp; omega, Bool.and_false]; rfl, rfl⟩
    · refine V.iconst (pc := 25) (v := nI 1) dX5_mayHave_25 (by decide) ?_
      refine V.goto (pc := 26) 30 dX5_mayHave_26 (by decide) ?_
      exact V.zret (pc := 30) hF dX5_mayHave_30 (by decide) ⟨by rw [mayB, decide_eq_false (fun e => h_5 ((pv_eq (by omega) (by omega)).mpr e).symm), h_22]; rfl, rfl⟩
theorem Sx.keep {μ : Mu} {S : TS} {o br mL lC : Nat} (h : Sx μ S o br mL lC) (w : Nat) : Sx (si (si (si (si μ 92 5 (nI 1)) 92 6 (nI w)) 92 7 (nI (cov S w))) 92 8 (nI (lenOf S w))) S o br mL lC := by
  refine ⟨?_, ?_, ?_, ?_, fun s hs => ?_, h.2.2.2.2.2⟩
  · simp [si, upd, h.1]
  · simp [si, upd, h.2.1]
  · simp [si, upd, h.2.2.1]
  · simp [si, upd, h.2.2.2.1]
  · exact h.2.2.2.2.1 s hs
theorem Sb.put (μ : Mu) (S : TS) {w : Nat} (hw : w < 65536) : Sb (si (si (si (si μ 92 5 (nI 1)) 92 6 (nI w)) 92 7 (nI (cov S w))) 92 8 (nI (lenOf S w))) S true w := ⟨by simp [si, upd], by simp [si, upd], by simp [si, upd], by simp [si, upd], hw⟩
def OPost (μ : Mu) (S : TS) (o br mL lC : Nat) (f : Bool) (b w : Nat) (r : Option Value) (μ' : Mu) : Prop := r = none ∧ Fr μ μ' C92 ∧ Sx μ' S o br mL lC ∧ ((Sb μ' S true w ∧ (f = true → Bt S o w b)) ∨ (Sb μ' S f b ∧ f = true ∧ (w = b ∨ Bt S o b w)))
theorem bt_of_neg {S : TS} {o w b : Nat} (h : k1 o w (cov S w) (lenOf S w) < q1 S o b ∨ (k1 o w (cov S w) (lenOf S w) = q1 S o b ∧ k2 o w (cov S w) (lenOf S w) < q2 S o b)) : Bt S o w b := by
  rcases h with h | ⟨h, h2⟩
  · exact Or.inl h
  · exact Or.inr ⟨h, Or.inl h2⟩
theorem bt_of_pos {S : TS} {o w b : Nat} (h : q1 S o b < k1 o w (cov S w) (lenOf S w) ∨ (q1 S o b = k1 o w (cov S w) (lenOf S w) ∧ q2 S o b < k2 o w (cov S w) (lenOf S w))) : Bt S o b w := by
  rcases h with h | ⟨h, h2⟩
  · exact Or.inl h
  · exact Or.inr ⟨h, Or.inl h2⟩
theorem ok_X5_offer {G : Gx} {μ : Mu} (S : TS) (hv : VS S) (o br mL lC : Nat) (hx : Sx μ S o br mL lC) (f : Bool) (b : Nat) (hb : Sb μ S f b) (w : Nat) (hw : w < 65536) : Runs 2 M_X5_offer [.ref (G.2.2 92), .int (nI w), .int (nI (cov S w)), .int (nI (lenOf S w))] G μ (OPost μ S o br mL lC f b w) := by
  have hcw := cov_le hv w
  have hlw := lenOf_le hv w
  have ho := hx.2.2.2.2.2.1
  have hb16 := hb.2.2.2.2
  refine Runs.go RX5 rfl (by decide) [(0, .ref (G.2.2 92)), (1, .int (nI w)), (2, .int (nI (cov S w))), (3, .int (nI (lenOf S w)))] (Nat.le_of_ble_eq_true rfl) rfl (fun X hF => ?_)
  refine V.aload_n (pc := 0) 0 dX5_offer_0 rfl ?_
  refine gf_X5_28 (pc := 1) (v := nI f.toNat) dX5_offer_1 hb.1 ?_
  refine V.ifB_eq (pc := 4) 17 dX5_offer_4 (by decide) (fun h_4 => ?_) (fun h_4 => ?_)
  · refine V.iconst (pc := 17) (v := (-1)) dX5_offer_17 (by decide) ?_
    refine V.istore (pc := 18) (lv' := [(0, .ref (G.2.2 92)), (1, .int (nI w)), (2, .int (nI (cov S w))), (3, .int (nI (lenOf S w))), (4, .int (-1))]) dX5_offer_18 (by decide) rfl ?_
    skip
    · refine V.iload (pc := 20) 4 dX5_offer_20 rfl ?_
      refine V.if_lt (pc := 22) 38 dX5_offer_22 (by decide) (fun h_22 => ?_) (fun h_22 => ?_)
      · refine V.aload_n (pc := 38) 0 dX5_offer_38 rfl ?_
        refine V.iconst (pc := 39) (v := nI 1) dX5_offer_39 (by decide) ?_
        refine pf_X5_28 (pc := 40) (by decide) (by decide) dX5_offer_40 ?_
        refine V.aload_n (pc := 43) 0 dX5_offer_43 rfl ?_
        refine V.iload_n (pc := 44) 1 dX5_offer_44 rfl ?_
        refine pf_X5_32 (pc := 45) dX5_offer_45 ?_
        refine V.aload_n (pc := 48) 0 dX5_offer_48 rfl ?_
        refine V.iload_n (pc := 49) 2 dX5_offer_49 rfl ?_
        refine pf_X5_35 (pc := 50) dX5_offer_50 ?_
        refine V.aload_n (pc := 53) 0 dX5_offer_53 rfl ?_
        refine V.iload_n (pc := 54) 3 dX5_offer_54 rfl ?_
        refine pf_X5_38 (pc := 55) dX5_offer_55 ?_
        exact V.vret (pc := 58) hF dX5_offer_58 ⟨rfl, (((Fr.refl μ C92).si _ _ (Or.inl rfl)).si _ _ (Or.inl rfl) |>.si _ _ (Or.inl rfl)).si _ _ (Or.inl rfl), hx.keep w, Or.inl ⟨Sb.put μ S hw, fun e => absurd (h_4.symm.trans e) (by decide)⟩⟩
      · exact absurd (by decide) h_22
  · refine V.aload_n (pc := 7) 0 dX5_offer_7 rfl ?_
    refine V.iload_n (pc := 8) 1 dX5_offer_8 rfl ?_
    refine V.iload_n (pc := 9) 2 dX5_offer_9 rfl ?_
    refine V.iload_n (pc := 10) 3 dX5_offer_10 rfl ?_
    refine cp_X5_69 (pc := 11) dX5_offer_11 (ok_X5_ranked S hv o br mL lC hx f b hb w (cov S w) (lenOf S w) hw hcw hlw) (by omega) (Nat.le_of_ble_eq_true rfl) ?_
    refine V.goto (pc := 14) 18 dX5_offer_14 (by decide) ?_
    refine V.istore (pc := 18) (lv' := [(0, .ref (G.2.2 92)), (1, .int (nI w)), (2, .int (nI (cov S w))), (3, .int (nI (lenOf S w))), (4, .int (rkI S o w (cov S w) (lenOf S w) b))]) dX5_offer_18 (by decide) rfl ?_
    rcases rkI_cases hv (w := w) (c := cov S w) (l := lenOf S w) (b := b) ho hcw with ⟨hr, hrk⟩ | ⟨hr, hrk⟩ | ⟨hr, hrk⟩
    · refine V.iload (pc := 20) 4 dX5_offer_20 rfl ?_
      refine V.if_lt (pc := 22) 38 dX5_offer_22 (by decide) (fun h_22 => ?_) (fun h_22 => ?_)
      · refine V.aload_n (pc := 38) 0 dX5_offer_38 rfl ?_
        refine V.iconst (pc := 39) (v := nI 1) dX5_offer_39 (by decide) ?_
        refine pf_X5_28 (pc := 40) (by decide) (by decide) dX5_offer_40 ?_
        refine V.aload_n (pc := 43) 0 dX5_offer_43 rfl ?_
        refine V.iload_n (pc := 44) 1 dX5_offer_44 rfl ?_
        refine pf_X5_32 (pc := 45) dX5_offer_45 ?_
        refine V.aload_n (pc := 48) 0 dX5_offer_48 rfl ?_
        refine V.iload_n (pc := 49) 2 dX5_offer_49 rfl ?_
        refine pf_X5_35 (pc := 50) dX5_offer_50 ?_
        refine V.aload_n (pc := 53) 0 dX5_offer_53 rfl ?_
        refine V.iload_n (pc := 54) 3 dX5_offer_54 rfl ?_
        refine pf_X5_38 (pc := 55) dX5_offer_55 ?_
        exact V.vret (pc := 58) hF dX5_offer_58 ⟨rfl, (((Fr.refl μ C92).si _ _ (Or.inl rfl)).si _ _ (Or.inl rfl) |>.si _ _ (Or.inl rfl)).si _ _ (Or.inl rfl), hx.keep w, Or.inl ⟨Sb.put μ S hw, fun _ => bt_of_neg hrk⟩⟩
      · exact absurd (by rw [hr]; decide) h_22
    · refine V.iload (pc := 20) 4 dX5_offer_20 rfl ?_
      refine V.if_lt (pc := 22) 38 dX5_offer_22 (by decide) (fun h_22 => ?_) (fun h_22 => ?_)
      · rw [hr] at h_22; exact absurd h_22 (by decide)
      · refine V.iload (pc := 25) 4 dX5_offer_25 rfl ?_
        refine V.if_ne (pc := 27) 58 dX5_offer_27 (by decide) (fun h_27 => ?_) (fun h_27 => ?_)
        · exact absurd hr h_27
        · refine V.iload_n (pc := 30) 1 dX5_offer_30 rfl ?_
          refine V.aload_n (pc := 31) 0 dX5_offer_31 rfl ?_
          refine gf_X5_32 (pc := 32) (v := nI b) dX5_offer_32 hb.2.1 ?_
          refine V.icmpN_ge (pc := 35) 58 dX5_offer_35 (by decide) (by omega) (by omega) (fun h_35 => ?_) (fun h_35 => ?_)
          · exact V.vret (pc := 58) hF dX5_offer_58 ⟨rfl, Fr.refl μ C92, hx, Or.inr ⟨hb, h_4, (Nat.lt_or_ge b w).elim (fun e => Or.inr (Or.inr ⟨hrk.1.symm, Or.inr ⟨hrk.2.symm, e⟩⟩)) (fun e => Or.inl (by omega))⟩⟩
          · refine V.aload_n (pc := 38) 0 dX5_offer_38 rfl ?_
            refine V.iconst (pc := 39) (v := nI 1) dX5_offer_39 (by decide) ?_
            refine pf_X5_28 (pc := 40) (by decide) (by decide) dX5_offer_40 ?_
            refine V.aload_n (pc := 43) 0 dX5_offer_43 rfl ?_
            refine V.iload_n (pc := 44) 1 dX5_offer_44 rfl ?_
            refine pf_X5_32 (pc := 45) dX5_offer_45 ?_
            refine V.aload_n (pc := 48) 0 dX5_offer_48 rfl ?_
            refine V.iload_n (pc := 49) 2 dX5_offer_49 rfl ?_
            refine pf_X5_35 (pc := 50) dX5_offer_50 ?_
            refine V.aload_n (pc := 53) 0 dX5_offer_53 rfl ?_
            refine V.iload_n (pc := 54) 3 dX5_offer_54 rfl ?_
            refine pf_X5_38 (pc := 55) dX5_offer_55 ?_
            exact V.vret (pc := 58) hF dX5_offer_58 ⟨rfl, (((Fr.refl μ C92).si _ _ (Or.inl rfl)).si _ _ (Or.inl rfl) |>.si _ _ (Or.inl rfl)).si _ _ (Or.inl rfl), hx.keep w, Or.inl ⟨Sb.put μ S hw, fun _ => Or.inr ⟨hrk.1, Or.inr ⟨hrk.2, h_35⟩⟩⟩⟩
    · refine V.iload (pc := 20) 4 dX5_offer_20 rfl ?_
      refine V.if_lt (pc := 22) 38 dX5_offer_22 (by decide) (fun h_22 => ?_) (fun h_22 => ?_)
      · rw [hr] at h_22; exact absurd h_22 (by decide)
      · refine V.iload (pc := 25) 4 dX5_offer_25 rfl ?_
        refine V.if_ne (pc := 27) 58 dX5_offer_27 (by decide) (fun h_27 => ?_) (fun h_27 => ?_)
        · exact V.vret (pc := 58) hF dX5_offer_58 ⟨rfl, Fr.refl μ C92, hx, Or.inr ⟨hb, h_4, Or.inr (bt_of_pos hrk)⟩⟩
        · rw [hr] at h_27; exact absurd h_27 (by decide)
/-! the tree of sets -/
def Vw (S : TS) (br a w : Nat) : Prop := a ≤ S.n ∧ w < 2 ^ a ∧ (∀ s, s < a → w.testBit s = true → adn (chain S s) w = 0) ∧ ∀ s, br = s + 1 → w.testBit s = false
def rch (S : TS) (br a w : Nat) : Nat := wOf S (bagOf S w ||| bfr S br a)
theorem sub_in {S : TS} {br a w x : Nat} (h : Vw S br a w) (hs : Sub S a w x) : ∀ i, w.testBit i = true → x.testBit i = true := fun i hi => by
  rw [hs.2 i (bit_lt hi h.2.1)]; exact hi
theorem Vw.lt {S : TS} {br a w : Nat} (h : Vw S br a w) : w < 2 ^ S.n := Nat.lt_of_lt_of_le h.2.1 (two_le h.1)
theorem sub_len {S : TS} {br a w x : Nat} (h : Vw S br a w) (hs : Sub S a w x) : lenOf S w ≤ lenOf S x := lenOf_mono (sub_in h hs)
theorem sub_cov {S : TS} {br mL lC a w x : Nat} (h : Vw S br a w) (hs : Sub S a w x) (hc : Cand S br mL lC x) : cov S x ≤ rch S br a w := by
  refine wOf_mono (fun wd hw => ?_)
  obtain ⟨s, h1, h2, h3⟩ := (bagOf_bit x wd).mp hw
  rcases Nat.lt_or_ge s a with e | e
  · exact bit_or_l ((bagOf_bit w wd).mpr ⟨s, h1, by rw [← hs.2 s e]; exact h2, h3⟩)
  · refine bit_or_r (bfr_bit h1 e (fun q => ?_) h3)
    have := hc.2.2.1 s q
    rw [h2] at this
    exact absurd this (by decide)
theorem sub_cnt {S : TS} {br a w x : Nat} (h : Vw S br a w) (hs : Sub S a w x) : cntB w 16 ≤ cntB x 16 := cntB_mono (sub_in h hs) 16
theorem sub_keys {S : TS} {o br mL lC a w x : Nat} (ho : o < 3) (h : Vw S br a w) (hs : Sub S a w x) (hc : Cand S br mL lC x) : k1 o w (rch S br a w) (lenOf S w) ≤ q1 S o x ∧ k2 o w (rch S br a w) (lenOf S w) ≤ q2 S o x := by
  have h1 := sub_len h hs
  have h2 := sub_cov h hs hc
  have h3 := sub_cnt h hs
  unfold q1 q2 k1 k2
  rcases (show o = 0 ∨ o = 1 ∨ o = 2 by omega) with e | e | e <;> subst e <;> simp <;> omega
theorem sub_behind {S : TS} {o br mL lC a w x b : Nat} (ho : o < 3) (h : Vw S br a w) (hs : Sub S a w x) (hc : Cand S br mL lC x) (hr : q1 S o b < k1 o w (rch S br a w) (lenOf S w) ∨ (q1 S o b = k1 o w (rch S br a w) (lenOf S w) ∧ q2 S o b < k2 o w (rch S br a w) (lenOf S w))) : Bt S o b x := by
  have hk := sub_keys ho h hs hc
  unfold Bt
  omega
theorem sub_self {S : TS} {br a w : Nat} (h : Vw S br a w) : Sub S a w w := ⟨h.lt, fun _ _ => rfl⟩
theorem Vw.cand {S : TS} {br mL lC a w : Nat} (h : Vw S br a w) (hl : lenOf S w ≤ mL) (hc : lC ≤ cov S w) : Cand S br mL lC w := by
  refine ⟨h.lt, whole_iff.mpr (fun s _ hb => h.2.2.1 s (bit_lt hb h.2.1) hb), h.2.2.2, hl, hc⟩
theorem sub_end {S : TS} {br w x : Nat} (h : Vw S br S.n w) (hs : Sub S S.n w x) : x = w := bits_eq hs.1 h.lt (fun i hi => hs.2 i hi)
theorem rch_end {S : TS} (br w : Nat) : rch S br S.n w = cov S w := by unfold rch; rw [bfr_n, Nat.or_zero]; rfl
theorem sub_enough {S : TS} (hv : VS S) {o br mL lC a w x : Nat} (ho : o < 3) (h : Vw S br a w) (hs : Sub S a w x) (hc : Cand S br mL lC x) (he : o = 0 → cov S w = rch S br a w) : x = w ∨ Bt S o w x := by
  by_cases e : x = w
  · exact Or.inl e
  · right
    obtain ⟨s, h1, h2, h3⟩ := bits_new h.lt hs.1 (sub_in h hs) e
    have hl : lenOf S w + 1 ≤ lenOf S x := lenUp_new hv (sub_in h hs) h2 h3 S.n (Nat.le_refl _) h1
    have hn := hv.n16
    have hcn := cntB_new (sub_in h hs) h2 h3 16 (by omega)
    have hcv := sub_cov h hs hc
    unfold Bt q1 q2 k1 k2
    rcases (show o = 0 ∨ o = 1 ∨ o = 2 by omega) with e | e | e
    · subst e
      have := he rfl
      simp; omega
    · subst e; simp; omega
    · subst e; simp; omega
theorem bagOf_add {S : TS} {a w : Nat} (ha : a < S.n) : bagOf S w ||| S.bag a = bagOf S (w ||| 2 ^ a) := by
  apply Nat.eq_of_testBit_eq
  intro wd
  rw [Bool.eq_iff_iff, Nat.testBit_or, Bool.or_eq_true, bagOf_bit, bagOf_bit]
  constructor
  · rintro (⟨s, h1, h2, h3⟩ | h)
    · exact ⟨s, h1, bit_or_l h2, h3⟩
    · exact ⟨a, ha, bit_or_r (by rw [two_bit]; simp), h⟩
  · rintro ⟨s, h1, h2, h3⟩
    rw [Nat.testBit_or, two_bit, Bool.or_eq_true, decide_eq_true_eq] at h2
    rcases h2 with h2 | h2
    · exact Or.inl ⟨s, h1, h2, h3⟩
    · subst h2; exact Or.inr h3
theorem cov_add {S : TS} {a w : Nat} (ha : a < S.n) : cov S w + wOf S (adn (S.bag a) (bagOf S w)) = cov S (w ||| 2 ^ a) := by
  unfold cov
  rw [← bagOf_add ha, wOf_or]
theorem bit_top {a w : Nat} (hw : w < 2 ^ a) {i : Nat} (hi : a ≤ i) : w.testBit i = false := Nat.testBit_lt_two_pow (Nat.lt_of_lt_of_le hw (two_le hi))
theorem lenUp_add {S : TS} {a w : Nat} (hw : w < 2 ^ a) : ∀ m, lenUp S (w ||| 2 ^ a) m = lenUp S w m + (if a < m then S.len a else 0)
  | 0 => by simp [lenUp]
  | m + 1 => by
    have ih := lenUp_add (S := S) hw m
    rw [lenUp, lenUp, Nat.testBit_or, two_bit, ih]
    by_cases e : a = m
    · subst e
      rw [bit_top hw (Nat.le_refl a)]
      simp
    · rw [decide_eq_false e, Bool.or_false]
      by_cases h : a < m
      · rw [if_pos h, if_pos (by omega : a < m + 1)]
        split <;> omega
      · rw [if_neg h, if_neg (by omega : ¬ a < m + 1)]
        split <;> omega
theorem lenOf_add {S : TS} {a w : Nat} (ha : a < S.n) (hw : w < 2 ^ a) : lenOf S w + S.len a = lenOf S (w ||| 2 ^ a) := by
  unfold lenOf
  rw [lenUp_add hw, if_pos ha]
theorem rch_in {S : TS} {br a w : Nat} (ha : a < S.n) (hb : ¬ br = a + 1) : rch S br a w = rch S br (a + 1) (w ||| 2 ^ a) := by
  unfold rch
  rw [bfr_s ha, if_neg hb, ← bagOf_add ha]
  congr 1
  rw [Nat.or_assoc, Nat.or_comm (S.bag a)]
theorem rch_out {S : TS} {br a w : Nat} (ha : a < S.n) : rch S br a w = rch S br (a + 1) w + wOf S (adn (adn (bfr S br a) (bfr S br (a + 1))) (bagOf S w)) := by
  have hsub : ∀ i, (bfr S br (a + 1)).testBit i = true → (bfr S br a).testBit i = true := fun i hi => by rw [bfr_s ha]; exact bit_or_l hi
  have h := wOf_or (S := S) (bagOf S w ||| bfr S br (a + 1)) (bfr S br a)
  have e1 : (bagOf S w ||| bfr S br (a + 1)) ||| bfr S br a = bagOf S w ||| bfr S br a := by
    apply Nat.eq_of_testBit_eq
    intro i
    rw [Nat.testBit_or, Nat.testBit_or, Nat.testBit_or]
    cases h1 : (bfr S br (a + 1)).testBit i with
    | false => simp
    | true => rw [hsub i h1]; simp
  have e2 : adn (bfr S br a) (bagOf S w ||| bfr S br (a + 1)) = adn (adn (bfr S br a) (bfr S br (a + 1))) (bagOf S w) := by
    apply Nat.eq_of_testBit_eq
    intro i
    rw [adn_bit, adn_bit, adn_bit, Nat.testBit_or]
    cases (bfr S br a).testBit i <;> cases (bfr S br (a + 1)).testBit i <;> cases (bagOf S w).testBit i <;> rfl
  rw [e1, e2] at h
  exact h
theorem Vw.out {S : TS} {br a w : Nat} (h : Vw S br a w) (ha : a < S.n) : Vw S br (a + 1) w := by
  refine ⟨ha, Nat.lt_of_lt_of_le h.2.1 (two_le (by omega)), fun s hs hb => h.2.2.1 s (bit_lt hb h.2.1) hb, h.2.2.2⟩
theorem chain_in {S : TS} {a w : Nat} : adn (chain S a) (w ||| 2 ^ a) = 0 ↔ ∀ i, (chain S a).testBit i = true → (w ||| 2 ^ a).testBit i = true := adn_zero
theorem mayB_t {S : TS} {br a w : Nat} (h : mayB S br a w = true) : ¬ br = a + 1 ∧ adn (chain S a) (w ||| 2 ^ a) = 0 := by
  unfold mayB at h
  rw [Bool.and_eq_true] at h
  exact ⟨by simpa using h.1, by simpa using h.2⟩
theorem mayB_f {S : TS} {br a w : Nat} (h : mayB S br a w = false) : br = a + 1 ∨ ¬ adn (chain S a) (w ||| 2 ^ a) = 0 := by
  apply Classical.byContradiction
  intro hc
  have h1 : ¬ br = a + 1 := fun e => hc (Or.inl e)
  have h2 : adn (chain S a) (w ||| 2 ^ a) = 0 := Classical.byContradiction (fun e => hc (Or.inr e))
  unfold mayB at h
  rw [decide_eq_false h1, h2] at h
  exact absurd h (by decide)
theorem Vw.in' {S : TS} {br a w : Nat} (h : Vw S br a w) (ha : a < S.n) (hm : mayB S br a w = true) : Vw S br (a + 1) (w ||| 2 ^ a) := by
  obtain ⟨h1, h2⟩ := mayB_t hm
  have hp : (2 : Nat) ^ a < 2 ^ (a + 1) := Nat.pow_lt_pow_right (by decide) (by omega)
  refine ⟨ha, or_lt (Nat.lt_trans h.2.1 hp) hp, fun s hs hb => ?_, fun s e => ?_⟩
  · rw [Nat.testBit_or, two_bit, Bool.or_eq_true, decide_eq_true_eq] at hb
    rcases hb with hb | hb
    · have := adn_zero.mp (h.2.2.1 s (bit_lt hb h.2.1) hb)
      exact adn_zero.mpr (fun i hi => bit_or_l (this i hi))
    · subst hb; exact h2
  · rw [Nat.testBit_or, h.2.2.2 s e, two_bit]
    simp; omega
theorem sub_no {S : TS} {br mL lC a w x : Nat} (h : Vw S br a w) (ha : a < S.n) (hm : mayB S br a w = false) (hs : Sub S (a + 1) (w ||| 2 ^ a) x) : ¬ Cand S br mL lC x := by
  intro hc
  have hxa : x.testBit a = true := by rw [hs.2 a (by omega), Nat.testBit_or, two_bit]; simp
  rcases mayB_f hm with e | e
  · have := hc.2.2.1 a e
    rw [hxa] at this
    exact absurd this (by decide)
  · apply e
    refine adn_zero.mpr (fun i hi => ?_)
    have h1 := adn_zero.mp (whole_iff.mp hc.2.1 a ha hxa) i hi
    have hi2 := bit_lt hi (chain_lt (S := S) a)
    rw [← hs.2 i hi2]; exact h1
theorem sub_split {S : TS} {br a w x : Nat} (h : Vw S br a w) (hx : x < 2 ^ S.n) : Sub S a w x ↔ (Sub S (a + 1) (w ||| 2 ^ a) x ∨ Sub S (a + 1) w x) := by
  constructor
  · intro hs
    cases hb : x.testBit a with
    | true =>
      refine Or.inl ⟨hx, fun i hi => ?_⟩
      rw [Nat.testBit_or, two_bit]
      by_cases e : a = i
      · subst e; rw [hb]; simp
      · rw [hs.2 i (by omega), decide_eq_false e, Bool.or_false]
    | false =>
      refine Or.inr ⟨hx, fun i hi => ?_⟩
      by_cases e : i = a
      · subst e; rw [hb, bit_top h.2.1 (Nat.le_refl _)]
      · exact hs.2 i (by omega)
  · rintro (hs | hs)
    · refine ⟨hx, fun i hi => ?_⟩
      rw [hs.2 i (by omega), Nat.testBit_or, two_bit, decide_eq_false (by omega), Bool.or_false]
    · exact ⟨hx, fun i hi => hs.2 i (by omega)⟩
def VPost (μ : Mu) (S : TS) (o br mL lC : Nat) (C : Nat → Prop) (a w : Nat) (r : Option Value) (μ' : Mu) : Prop := r = none ∧ Fr μ μ' C92 ∧ Sx μ' S o br mL lC ∧ ∃ (f : Bool) (b : Nat), Sb μ' S f b ∧ Best S o br mL lC (fun x => C x ∨ Sub S a w x) f b
theorem VPost.offer {μ μ' : Mu} {S : TS} {o br mL lC : Nat} {C : Nat → Prop} {f : Bool} {b a w : Nat} {r : Option Value} (hB : Best S o br mL lC C f b) (hV : Vw S br a w) (hc : Cand S br mL lC w) (hd : ∀ x, Sub S a w x → Cand S br mL lC x → x = w ∨ Bt S o w x) (h : OPost μ S o br mL lC f b w r μ') : VPost μ S o br mL lC C a w r μ' := by
  obtain ⟨h1, h2, h3, h4⟩ := h
  refine ⟨h1, h2, h3, ?_⟩
  rcases h4 with ⟨h4, h5⟩ | ⟨h4, h5, h6⟩
  · exact ⟨true, w, h4, hB.take (sub_self hV) hc hd h5⟩
  · exact ⟨f, b, h4, hB.stay (sub_self hV) hd h5 h6⟩
theorem rk_pos {S : TS} (hv : VS S) {o w c l b : Nat} (ho : o < 3) (hc : c ≤ 48000) (h : ¬ rkI S o w c l b ≤ 0) : q1 S o b < k1 o w c l ∨ (q1 S o b = k1 o w c l ∧ q2 S o b < k2 o w c l) := by
  rcases rkI_cases hv (w := w) (c := c) (l := l) (b := b) ho hc with ⟨hr, -⟩ | ⟨hr, -⟩ | ⟨-, hr⟩
  · exact absurd (by rw [hr]; decide) h
  · exact absurd (by rw [hr]; decide) h
  · exact hr
theorem en_cov {o lC c r : Nat} (h : enB o lC c r = true) (hr : lC ≤ r) : lC ≤ c := by
  unfold enB at h
  rw [Bool.or_eq_true] at h
  rcases h with h | h
  · have : c = r := by simpa using h
    omega
  · rw [Bool.and_eq_true] at h
    simpa using h.2
theorem en_eq {o lC c r : Nat} (h : enB o lC c r = true) (ho : o = 0) : c = r := by
  unfold enB at h
  rw [Bool.or_eq_true] at h
  rcases h with h | h
  · simpa using h
  · rw [ho] at h
    exact absurd h (by simp)
theorem ok_visit_step {G : Gx} {μ : Mu} (t : Nat) (ht : t < 10) (S : TS) (hS : St μ t S) (o br mL lC : Nat) (hx : Sx μ S o br mL lC) (f : Bool) (b : Nat) (hb : Sb μ S f b) (C : Nat → Prop) (hB : Best S o br mL lC C f b) (a w k : Nat) (hak : a + k = S.n) (hV : Vw S br a w) (ih : a < S.n → ∀ (μ1 : Mu) (C1 : Nat → Prop) (f1 : Bool) (b1 w1 : Nat), St μ1 t S → Sx μ1 S o br mL lC → Sb μ1 S f1 b1 → Best S o br mL lC C1 f1 b1 → Vw S br (a + 1) w1 → Runs (3 + (k - 1)) M_X5_visit [.ref (G.2.2 92), .ref (G.2.2 (8 * t)), .int (nI (a + 1)), .int (nI w1), .long (lN (bagOf S w1)), .int (nI (cov S w1)), .int (nI (lenOf S w1)), .int (nI (rch S br (a + 1) w1))] G μ1 (VPost μ1 S o br mL lC C1 (a + 1) w1)) : Runs (3 + k) M_X5_visit [.ref (G.2.2 92), .ref (G.2.2 (8 * t)), .int (nI a), .int (nI w), .long (lN (bagOf S w)), .int (nI (cov S w)), .int (nI (lenOf S w)), .int (nI (rch S br a w))] G μ (VPost μ S o br mL lC C a w) := by
  have hn := hS.vs.n16
  have h16 := pow16 hS.vs
  have hu := pow48 hS.vs
  have hwl := hV.lt
  have hcw := cov_le hS.vs w
  have hlw := lenOf_le hS.vs w
  have hrl : rch S br a w ≤ 48000 := wOf_le hS.vs _
  have ho := hx.2.2.2.2.2.1
  have hmL := hx.2.2.2.2.2.2.2.1
  have hlC := hx.2.2.2.2.2.2.2.2
  have hbw := bagOf_lt hS.vs w
  have han := hV.1
  refine Runs.go RX5 rfl (by decide) [(0, .ref (G.2.2 92)), (1, .ref (G.2.2 (8 * t))), (2, .int (nI a)), (3, .int (nI w)), (4, .long (lN (bagOf S w))), (6, .int (nI (cov S w))), (7, .int (nI (lenOf S w))), (8, .int (nI (rch S br a w)))] (Nat.le_of_ble_eq_true rfl) rfl (fun X hF => ?_)
  refine V.iload (pc := 0) 6 dX5_visit_0 rfl ?_
  refine V.aload_n (pc := 2) 0 dX5_visit_2 rfl ?_
  refine gf_X5_18 (pc := 3) (v := nI mL) dX5_visit_3 hx.2.2.1 ?_
  refine V.icmpN_gt (pc := 6) 37 dX5_visit_6 (by decide) (by omega) (by omega) (fun h_6 => ?_) (fun h_6 => ?_)
  · exact V.vret (pc := 37) hF dX5_visit_37 ⟨rfl, Fr.refl μ C92, hx, f, b, hb, hB.skip (fun x hs hc => absurd hc.2.2.2.1 (by have := sub_len hV hs; omega))⟩
  · refine V.iload (pc := 9) 7 dX5_visit_9 rfl ?_
    refine V.aload_n (pc := 11) 0 dX5_visit_11 rfl ?_
    refine gf_X5_21 (pc := 12) (v := nI lC) dX5_visit_12 hx.2.2.2.1 ?_
    refine V.icmpN_lt (pc := 15) 37 dX5_visit_15 (by decide) (by omega) (by omega) (fun h_15 => ?_) (fun h_15 => ?_)
    · exact V.vret (pc := 37) hF dX5_visit_37 ⟨rfl, Fr.refl μ C92, hx, f, b, hb, hB.skip (fun x hs hc => absurd hc.2.2.2.2 (by have := sub_cov hV hs hc; omega))⟩
    · refine V.aload_n (pc := 18) 0 dX5_visit_18 rfl ?_
      refine gf_X5_28 (pc := 19) (v := nI f.toNat) dX5_visit_19 hb.1 ?_
      refine V.ifB_eq (pc := 22) 38 dX5_visit_22 (by decide) (fun h_22 => ?_) (fun h_22 => ?_)
      · refine V.iload_n (pc := 38) 2 dX5_visit_38 rfl ?_
        refine V.aload_n (pc := 39) 1 dX5_visit_39 rfl ?_
        refine gf_X5_55 (pc := 40) t ht (v := nI S.n) dX5_visit_40 hS.n ?_
        refine V.icmpN_ge (pc := 43) 57 dX5_visit_43 (by decide) (by omega) (by omega) (fun h_43 => ?_) (fun h_43 => ?_)
        · refine V.aload_n (pc := 57) 0 dX5_visit_57 rfl ?_
          refine V.iload_n (pc := 58) 3 dX5_visit_58 rfl ?_
          refine V.iload (pc := 59) 5 dX5_visit_59 rfl ?_
          refine V.iload (pc := 61) 6 dX5_visit_61 rfl ?_
          refine cl_X5_77 (pc := 63) dX5_visit_63 (ok_X5_offer S hS.vs o br mL lC hx f b hb w (by omega)) (by omega) (Nat.le_of_ble_eq_true rfl) (fun r_ μ_ h_ => ?_)
          have hof := h_
          obtain ⟨rfl, -⟩ := h_
          exact V.vret (pc := 66) hF dX5_visit_66 (VPost.offer hB hV (hV.cand (by omega) (by rw [← rch_end (S := S) br w, ← show a = S.n from by omega]; omega)) (fun x hs hc => Or.inl (by rw [show a = S.n from by omega] at hV hs; exact sub_end hV hs)) hof)
        · refine V.aload_n (pc := 46) 0 dX5_visit_46 rfl ?_
          refine V.iload (pc := 47) 5 dX5_visit_47 rfl ?_
          refine V.iload (pc := 49) 7 dX5_visit_49 rfl ?_
          refine cp_X5_73 (pc := 51) dX5_visit_51 (ok_X5_isEnough S hS.vs o br mL lC hx (cov S w) (rch S br a w) (by omega) (by omega)) (by omega) (Nat.le_of_ble_eq_true rfl) ?_
          refine V.ifB_eq (pc := 54) 67 dX5_visit_54 (by decide) (fun h_54 => ?_) (fun h_54 => ?_)
          · have hat : a < S.n := by omega
            have hba := (hS.vs.sen (i := a) hat).2.2.2.2.2
            have hla := (hS.vs.sen (i := a) hat).2.1
            have had := adn_le (S.bag a) (bagOf S w)
            have hol := wOf_le hS.vs (adn (S.bag a) (bagOf S w))
            have hb1 := bfr_lt hS.vs br a
            have hb2' := adn_le (bfr S br a) (bfr S br (a + 1))
            have hb3' := adn_le (adn (bfr S br a) (bfr S br (a + 1))) (bagOf S w)
            have hro := rch_out (br := br) (w := w) hat
            refine V.aload_n (pc := 67) 0 dX5_visit_67 rfl ?_
            refine V.aload_n (pc := 68) 1 dX5_visit_68 rfl ?_
            refine V.iload_n (pc := 69) 2 dX5_visit_69 rfl ?_
            refine V.iload_n (pc := 70) 3 dX5_visit_70 rfl ?_
            refine cp_X5_81 (pc := 71) dX5_visit_71 (ok_X5_mayHave t ht S hS o br mL lC hx a w (by omega) (by omega)) (by omega) (Nat.le_of_ble_eq_true rfl) ?_
            refine V.ifB_eq (pc := 74) 134 dX5_visit_74 (by decide) (fun h_74 => ?_) (fun h_74 => ?_)
            · refine V.aload_n (pc := 134) 1 dX5_visit_134 rfl ?_
              refine V.aload_n (pc := 135) 0 dX5_visit_135 rfl ?_
              refine gf_X5_24 (pc := 136) dX5_visit_136 ?_
              refine V.iload_n (pc := 139) 2 dX5_visit_139 rfl ?_
              refine V.lald (pc := 140) (k := 93) (n := 17) (v := lN (bfr S br a)) (Nat.le_of_ble_eq_true rfl) (fun _ _ => rfl) a (by omega) (by decide) dX5_visit_140 (hx.2.2.2.2.1 a (by omega)) ?_
              refine V.aload_n (pc := 141) 0 dX5_visit_141 rfl ?_
              refine gf_X5_24 (pc := 142) dX5_visit_142 ?_
              refine V.iload_n (pc := 145) 2 dX5_visit_145 rfl ?_
              refine V.iconst (pc := 146) (v := nI 1) dX5_visit_146 (by decide) ?_
              refine V.iadd (pc := 147) (v := nI (a + 1)) dX5_visit_147 (nI_add _ _) ?_
              refine V.lald (pc := 148) (k := 93) (n := 17) (v := lN (bfr S br (a + 1))) (Nat.le_of_ble_eq_true rfl) (fun _ _ => rfl) (a + 1) (by omega) (by decide) dX5_visit_148 (hx.2.2.2.2.1 (a + 1) (by omega)) ?_
              refine V.ldc2_w (pc := 149) (v := (-1)) mw_4_93 dX5_visit_149 ?_
              refine V.lxor (pc := 152) (v := lN (bfr S br (a + 1)) ^^^ (-1)) dX5_visit_152 rfl ?_
              refine V.land (pc := 153) (v := lN (adn (bfr S br a) (bfr S br (a + 1)))) dX5_visit_153 (ll_adn _ _) ?_
              refine V.lload (pc := 154) 4 dX5_visit_154 rfl ?_
              refine V.ldc2_w (pc := 156) (v := (-1)) mw_4_93 dX5_visit_156 ?_
              refine V.lxor (pc := 159) (v := lN (bagOf S w) ^^^ (-1)) dX5_visit_159 rfl ?_
              refine V.land (pc := 160) (v := lN (adn (adn (bfr S br a) (bfr S br (a + 1))) (bagOf S w))) dX5_visit_160 (ll_adn _ _) ?_
              refine cp_X5_61 (pc := 161) t ht dX5_visit_161 (ok_X6_weightOf t ht S hS (adn (adn (bfr S br a) (bfr S br (a + 1))) (bagOf S w)) (by omega)) (by omega) (Nat.le_of_ble_eq_true rfl) ?_
              refine V.istore (pc := 164) (lv' := [(0, .ref (G.2.2 92)), (1, .ref (G.2.2 (8 * t))), (2, .int (nI a)), (3, .int (nI w)), (4, .long (lN (bagOf S w))), (6, .int (nI (cov S w))), (7, .int (nI (lenOf S w))), (8, .int (nI (rch S br a w))), (9, .int (nI (wOf S (adn (adn (bfr S br a) (bfr S br (a + 1))) (bagOf S w)))))]) dX5_visit_164 (by decide) rfl ?_
              refine V.aload_n (pc := 166) 0 dX5_visit_166 rfl ?_
              refine V.aload_n (pc := 167) 1 dX5_visit_167 rfl ?_
              refine V.iload_n (pc := 168) 2 dX5_visit_168 rfl ?_
              refine V.iconst (pc := 169) (v := nI 1) dX5_visit_169 (by decide) ?_
              refine V.iadd (pc := 170) (v := nI (a + 1)) dX5_visit_170 (nI_add _ _) ?_
              refine V.iload_n (pc := 171) 3 dX5_visit_171 rfl ?_
              refine V.lload (pc := 172) 4 dX5_visit_172 rfl ?_
              refine V.iload (pc := 174) 5 dX5_visit_174 rfl ?_
              refine V.iload (pc := 176) 6 dX5_visit_176 rfl ?_
              refine V.iload (pc := 178) 7 dX5_visit_178 rfl ?_
              refine V.iload (pc := 180) 8 dX5_visit_180 rfl ?_
              refine V.isub (pc := 182) (v := nI (rch S br (a + 1) w)) dX5_visit_182 ((pk_sub (by omega)).trans (congrArg nI (by omega))) ?_
              refine cl_X5_65 (pc := 183) dX5_visit_183 (ih hat μ _ f b w hS hx hb (hB.skip (D := Sub S (a + 1) (w ||| 2 ^ a)) (fun x hs hc => absurd hc (sub_no hV hat h_74 hs))) (hV.out hat)) (by omega) (Nat.le_of_ble_eq_true rfl) (fun r_ μ_ h_ => ?_)
              have hfrA := Fr.refl μ C92
              obtain ⟨rfl, hfrB, hx3, f3, b3, hb3, hB3⟩ := h_
              exact V.vret (pc := 186) hF dX5_visit_186 ⟨rfl, hfrA.trans hfrB (fun _ h => h) (fun _ h => h), hx3, f3, b3, hb3, hB3.cong (fun x hx => by rw [sub_split hV hx]; exact or_assoc)⟩
            · refine V.aload_n (pc := 77) 1 dX5_visit_77 rfl ?_
              refine V.aload_n (pc := 78) 1 dX5_visit_78 rfl ?_
              refine gf_X5_58 (pc := 79) t ht dX5_visit_79 ?_
              refine V.iload_n (pc := 82) 2 dX5_visit_82 rfl ?_
              refine V.lald (pc := 83) (k := 8 * t + 5) (n := 16) (v := lN (S.bag a)) (by omega) (cell_Sj ht rfl) a (by omega) (by decide) dX5_visit_83 (hS.bag a (by omega)) ?_
              refine V.lload (pc := 84) 4 dX5_visit_84 rfl ?_
              refine V.ldc2_w (pc := 86) (v := (-1)) mw_4_93 dX5_visit_86 ?_
              refine V.lxor (pc := 89) (v := lN (bagOf S w) ^^^ (-1)) dX5_visit_89 rfl ?_
              refine V.land (pc := 90) (v := lN (adn (S.bag a) (bagOf S w))) dX5_visit_90 (ll_adn _ _) ?_
              refine cp_X5_61 (pc := 91) t ht dX5_visit_91 (ok_X6_weightOf t ht S hS (adn (S.bag a) (bagOf S w)) (by omega)) (by omega) (Nat.le_of_ble_eq_true rfl) ?_
              refine V.istore (pc := 94) (lv' := [(0, .ref (G.2.2 92)), (1, .ref (G.2.2 (8 * t))), (2, .int (nI a)), (3, .int (nI w)), (4, .long (lN (bagOf S w))), (6, .int (nI (cov S w))), (7, .int (nI (lenOf S w))), (8, .int (nI (rch S br a w))), (9, .int (nI (wOf S (adn (S.bag a) (bagOf S w)))))]) dX5_visit_94 (by decide) rfl ?_
              refine V.aload_n (pc := 96) 0 dX5_visit_96 rfl ?_
              refine V.aload_n (pc := 97) 1 dX5_visit_97 rfl ?_
              refine V.iload_n (pc := 98) 2 dX5_visit_98 rfl ?_
              refine V.iconst (pc := 99) (v := nI 1) dX5_visit_99 (by decide) ?_
              refine V.iadd (pc := 100) (v := nI (a + 1)) dX5_visit_100 (nI_add _ _) ?_
              refine V.iload_n (pc := 101) 3 dX5_visit_101 rfl ?_
              refine V.iconst (pc := 102) (v := nI 1) dX5_visit_102 (by decide) ?_
              refine V.iload_n (pc := 103) 2 dX5_visit_103 rfl ?_
              refine V.ishl (pc := 104) (v := nI (2 ^ a)) dX5_visit_104 (nn_shl1 (by omega)) ?_
              refine V.ior (pc := 105) (v := nI (w ||| (2 ^ a))) dX5_visit_105 (nn_or _ _) ?_
              refine V.lload (pc := 106) 4 dX5_visit_106 rfl ?_
              refine V.aload_n (pc := 108) 1 dX5_visit_108 rfl ?_
              refine gf_X5_58 (pc := 109) t ht dX5_visit_109 ?_
              refine V.iload_n (pc := 112) 2 dX5_visit_112 rfl ?_
              refine V.lald (pc := 113) (k := 8 * t + 5) (n := 16) (v := lN (S.bag a)) (by omega) (cell_Sj ht rfl) a (by omega) (by decide) dX5_visit_113 (hS.bag a (by omega)) ?_
              refine V.lor (pc := 114) (v := lN (bagOf S (w ||| 2 ^ a))) dX5_visit_114 ((ll_or _ _).trans (congrArg lN (bagOf_add hat))) ?_
              refine V.iload (pc := 115) 5 dX5_visit_115 rfl ?_
              refine V.iload (pc := 117) 8 dX5_visit_117 rfl ?_
              refine V.iadd (pc := 119) (v := nI (cov S (w ||| 2 ^ a))) dX5_visit_119 ((nI_add _ _).trans (congrArg nI (cov_add hat))) ?_
              refine V.iload (pc := 120) 6 dX5_visit_120 rfl ?_
              refine V.aload_n (pc := 122) 1 dX5_visit_122 rfl ?_
              refine gf_X5_87 (pc := 123) t ht dX5_visit_123 ?_
              refine V.iload_n (pc := 126) 2 dX5_visit_126 rfl ?_
              refine V.iald (pc := 127) (k := 8 * t + 1) (n := 16) (v := nI (S.len a)) (by omega) (cell_Si ht ⟨by decide, by decide⟩) a (by omega) (by decide) dX5_visit_127 (hS.len a (by omega)) ?_
              refine V.iadd (pc := 128) (v := nI (lenOf S (w ||| 2 ^ a))) dX5_visit_128 ((nI_add _ _).trans (congrArg nI (lenOf_add hat hV.2.1))) ?_
              refine V.iload (pc := 129) 7 dX5_visit_129 rfl ?_
              refine V.st (st' := [.int (nI (rch S br (a + 1) (w ||| 2 ^ a))), .int (nI (lenOf S (w ||| 2 ^ a))), .int (nI (cov S (w ||| 2 ^ a))), .long (lN (bagOf S (w ||| 2 ^ a))), .int (nI (w ||| (2 ^ a))), .int (nI (a + 1)), .ref (G.2.2 (8 * t)), .ref (G.2.2 92)]) (by rw [rch_in hat (mayB_t h_74).1]) ?_
              refine cl_X5_65 (pc := 131) dX5_visit_131 (ih hat μ C f b (w ||| 2 ^ a) hS hx hb hB (hV.in' hat h_74)) (by omega) (Nat.le_of_ble_eq_true rfl) (fun r_ μ_ h_ => ?_)
              obtain ⟨rfl, hfrA, hx2, f2, b2, hb2, hB2⟩ := h_
              have hS2 := hS.fr hfrA (C92_no ht)
              refine V.aload_n (pc := 134) 1 dX5_visit_134 rfl ?_
              refine V.aload_n (pc := 135) 0 dX5_visit_135 rfl ?_
              refine gf_X5_24 (pc := 136) dX5_visit_136 ?_
              refine V.iload_n (pc := 139) 2 dX5_visit_139 rfl ?_
              refine V.lald (pc := 140) (k := 93) (n := 17) (v := lN (bfr S br a)) (Nat.le_of_ble_eq_true rfl) (fun _ _ => rfl) a (by omega) (by decide) dX5_visit_140 (hx2.2.2.2.2.1 a (by omega)) ?_
              refine V.aload_n (pc := 141) 0 dX5_visit_141 rfl ?_
              refine gf_X5_24 (pc := 142) dX5_visit_142 ?_
              refine V.iload_n (pc := 145) 2 dX5_visit_145 rfl ?_
              refine V.iconst (pc := 146) (v := nI 1) dX5_visit_146 (by decide) ?_
              refine V.iadd (pc := 147) (v := nI (a + 1)) dX5_visit_147 (nI_add _ _) ?_
              refine V.lald (pc := 148) (k := 93) (n := 17) (v := lN (bfr S br (a + 1))) (Nat.le_of_ble_eq_true rfl) (fun _ _ => rfl) (a + 1) (by omega) (by decide) dX5_visit_148 (hx2.2.2.2.2.1 (a + 1) (by omega)) ?_
              refine V.ldc2_w (pc := 149) (v := (-1)) mw_4_93 dX5_visit_149 ?_
              refine V.lxor (pc := 152) (v := lN (bfr S br (a + 1)) ^^^ (-1)) dX5_visit_152 rfl ?_
              refine V.land (pc := 153) (v := lN (adn (bfr S br a) (bfr S br (a + 1)))) dX5_visit_153 (ll_adn _ _) ?_
              refine V.lload (pc := 154) 4 dX5_visit_154 rfl ?_
              refine V.ldc2_w (pc := 156) (v := (-1)) mw_4_93 dX5_visit_156 ?_
              refine V.lxor (pc := 159) (v := lN (bagOf S w) ^^^ (-1)) dX5_visit_159 rfl ?_
              refine V.land (pc := 160) (v := lN (adn (adn (bfr S br a) (bfr S br (a + 1))) (bagOf S w))) dX5_visit_160 (ll_adn _ _) ?_
              refine cp_X5_61 (pc := 161) t ht dX5_visit_161 (ok_X6_weightOf t ht S hS2 (adn (adn (bfr S br a) (bfr S br (a + 1))) (bagOf S w)) (by omega)) (by omega) (Nat.le_of_ble_eq_true rfl) ?_
              refine V.istore (pc := 164) (lv' := [(0, .ref (G.2.2 92)), (1, .ref (G.2.2 (8 * t))), (2, .int (nI a)), (3, .int (nI w)), (4, .long (lN (bagOf S w))), (6, .int (nI (cov S w))), (7, .int (nI (lenOf S w))), (8, .int (nI (rch S br a w))), (9, .int (nI (wOf S (adn (adn (bfr S br a) (bfr S br (a + 1))) (bagOf S w)))))]) dX5_visit_164 (by decide) rfl ?_
              refine V.aload_n (pc := 166) 0 dX5_visit_166 rfl ?_
              refine V.aload_n (pc := 167) 1 dX5_visit_167 rfl ?_
              refine V.iload_n (pc := 168) 2 dX5_visit_168 rfl ?_
              refine V.iconst (pc := 169) (v := nI 1) dX5_visit_169 (by decide) ?_
              refine V.iadd (pc := 170) (v := nI (a + 1)) dX5_visit_170 (nI_add _ _) ?_
              refine V.iload_n (pc := 171) 3 dX5_visit_171 rfl ?_
              refine V.lload (pc := 172) 4 dX5_visit_172 rfl ?_
              refine V.iload (pc := 174) 5 dX5_visit_174 rfl ?_
              refine V.iload (pc := 176) 6 dX5_visit_176 rfl ?_
              refine V.iload (pc := 178) 7 dX5_visit_178 rfl ?_
              refine V.iload (pc := 180) 8 dX5_visit_180 rfl ?_
              refine V.isub (pc := 182) (v := nI (rch S br (a + 1) w)) dX5_visit_182 ((pk_sub (by omega)).trans (congrArg nI (by omega))) ?_
              refine cl_X5_65 (pc := 183) dX5_visit_183 (ih hat _ _ f2 b2 w hS2 hx2 hb2 hB2 (hV.out hat)) (by omega) (Nat.le_of_ble_eq_true rfl) (fun r_ μ_ h_ => ?_)
              obtain ⟨rfl, hfrB, hx3, f3, b3, hb3, hB3⟩ := h_
              exact V.vret (pc := 186) hF dX5_visit_186 ⟨rfl, hfrA.trans hfrB (fun _ h => h) (fun _ h => h), hx3, f3, b3, hb3, hB3.cong (fun x hx => by rw [sub_split hV hx]; exact or_assoc)⟩
          · refine V.aload_n (pc := 57) 0 dX5_visit_57 rfl ?_
            refine V.iload_n (pc := 58) 3 dX5_visit_58 rfl ?_
            refine V.iload (pc := 59) 5 dX5_visit_59 rfl ?_
            refine V.iload (pc := 61) 6 dX5_visit_61 rfl ?_
            refine cl_X5_77 (pc := 63) dX5_visit_63 (ok_X5_offer S hS.vs o br mL lC hx f b hb w (by omega)) (by omega) (Nat.le_of_ble_eq_true rfl) (fun r_ μ_ h_ => ?_)
            have hof := h_
            obtain ⟨rfl, -⟩ := h_
            exact V.vret (pc := 66) hF dX5_visit_66 (VPost.offer hB hV (hV.cand (by omega) (en_cov h_54 (by omega))) (fun x hs hc => sub_enough hS.vs ho hV hs hc (fun e => en_eq h_54 e)) hof)
      · refine V.aload_n (pc := 25) 0 dX5_visit_25 rfl ?_
        refine V.iload_n (pc := 26) 3 dX5_visit_26 rfl ?_
        refine V.iload (pc := 27) 7 dX5_visit_27 rfl ?_
        refine V.iload (pc := 29) 6 dX5_visit_29 rfl ?_
        refine cp_X5_69 (pc := 31) dX5_visit_31 (ok_X5_ranked S hS.vs o br mL lC hx f b hb w (rch S br a w) (lenOf S w) (by omega) (by omega) (by omega)) (by omega) (Nat.le_of_ble_eq_true rfl) ?_
        refine V.if_le (pc := 34) 38 dX5_visit_34 (by decide) (fun h_34 => ?_) (fun h_34 => ?_)
        · refine V.iload_n (pc := 38) 2 dX5_visit_38 rfl ?_
          refine V.aload_n (pc := 39) 1 dX5_visit_39 rfl ?_
          refine gf_X5_55 (pc := 40) t ht (v := nI S.n) dX5_visit_40 hS.n ?_
          refine V.icmpN_ge (pc := 43) 57 dX5_visit_43 (by decide) (by omega) (by omega) (fun h_43 => ?_) (fun h_43 => ?_)
          · refine V.aload_n (pc := 57) 0 dX5_visit_57 rfl ?_
            refine V.iload_n (pc := 58) 3 dX5_visit_58 rfl ?_
            refine V.iload (pc := 59) 5 dX5_visit_59 rfl ?_
            refine V.iload (pc := 61) 6 dX5_visit_61 rfl ?_
            refine cl_X5_77 (pc := 63) dX5_visit_63 (ok_X5_offer S hS.vs o br mL lC hx f b hb w (by omega)) (by omega) (Nat.le_of_ble_eq_true rfl) (fun r_ μ_ h_ => ?_)
            have hof := h_
            obtain ⟨rfl, -⟩ := h_
            exact V.vret (pc := 66) hF dX5_visit_66 (VPost.offer hB hV (hV.cand (by omega) (by rw [← rch_end (S := S) br w, ← show a = S.n from by omega]; omega)) (fun x hs hc => Or.inl (by rw [show a = S.n from by omega] at hV hs; exact sub_end hV hs)) hof)
          · refine V.aload_n (pc := 46) 0 dX5_visit_46 rfl ?_
            refine V.iload (pc := 47) 5 dX5_visit_47 rfl ?_
            refine V.iload (pc := 49) 7 dX5_visit_49 rfl ?_
            refine cp_X5_73 (pc := 51) dX5_visit_51 (ok_X5_isEnough S hS.vs o br mL lC hx (cov S w) (rch S br a w) (by omega) (by omega)) (by omega) (Nat.le_of_ble_eq_true rfl) ?_
            refine V.ifB_eq (pc := 54) 67 dX5_visit_54 (by decide) (fun h_54 => ?_) (fun h_54 => ?_)
            · have hat : a < S.n := by omega
              have hba := (hS.vs.sen (i := a) hat).2.2.2.2.2
              have hla := (hS.vs.sen (i := a) hat).2.1
              have had := adn_le (S.bag a) (bagOf S w)
              have hol := wOf_le hS.vs (adn (S.bag a) (bagOf S w))
              have hb1 := bfr_lt hS.vs br a
              have hb2' := adn_le (bfr S br a) (bfr S br (a + 1))
              have hb3' := adn_le (adn (bfr S br a) (bfr S br (a + 1))) (bagOf S w)
              have hro := rch_out (br := br) (w := w) hat
              refine V.aload_n (pc := 67) 0 dX5_visit_67 rfl ?_
              refine V.aload_n (pc := 68) 1 dX5_visit_68 rfl ?_
              refine V.iload_n (pc := 69) 2 dX5_visit_69 rfl ?_
              refine V.iload_n (pc := 70) 3 dX5_visit_70 rfl ?_
              refine cp_X5_81 (pc := 71) dX5_visit_71 (ok_X5_mayHave t ht S hS o br mL lC hx a w (by omega) (by omega)) (by omega) (Nat.le_of_ble_eq_true rfl) ?_
              refine V.ifB_eq (pc := 74) 134 dX5_visit_74 (by decide) (fun h_74 => ?_) (fun h_74 => ?_)
              · refine V.aload_n (pc := 134) 1 dX5_visit_134 rfl ?_
                refine V.aload_n (pc := 135) 0 dX5_visit_135 rfl ?_
                refine gf_X5_24 (pc := 136) dX5_visit_136 ?_
                refine V.iload_n (pc := 139) 2 dX5_visit_139 rfl ?_
                refine V.lald (pc := 140) (k := 93) (n := 17) (v := lN (bfr S br a)) (Nat.le_of_ble_eq_true rfl) (fun _ _ => rfl) a (by omega) (by decide) dX5_visit_140 (hx.2.2.2.2.1 a (by omega)) ?_
                refine V.aload_n (pc := 141) 0 dX5_visit_141 rfl ?_
                refine gf_X5_24 (pc := 142) dX5_visit_142 ?_
                refine V.iload_n (pc := 145) 2 dX5_visit_145 rfl ?_
                refine V.iconst (pc := 146) (v := nI 1) dX5_visit_146 (by decide) ?_
                refine V.iadd (pc := 147) (v := nI (a + 1)) dX5_visit_147 (nI_add _ _) ?_
                refine V.lald (pc := 148) (k := 93) (n := 17) (v := lN (bfr S br (a + 1))) (Nat.le_of_ble_eq_true rfl) (fun _ _ => rfl) (a + 1) (by omega) (by decide) dX5_visit_148 (hx.2.2.2.2.1 (a + 1) (by omega)) ?_
                refine V.ldc2_w (pc := 149) (v := (-1)) mw_4_93 dX5_visit_149 ?_
                refine V.lxor (pc := 152) (v := lN (bfr S br (a + 1)) ^^^ (-1)) dX5_visit_152 rfl ?_
                refine V.land (pc := 153) (v := lN (adn (bfr S br a) (bfr S br (a + 1)))) dX5_visit_153 (ll_adn _ _) ?_
                refine V.lload (pc := 154) 4 dX5_visit_154 rfl ?_
                refine V.ldc2_w (pc := 156) (v := (-1)) mw_4_93 dX5_visit_156 ?_
                refine V.lxor (pc := 159) (v := lN (bagOf S w) ^^^ (-1)) dX5_visit_159 rfl ?_
                refine V.land (pc := 160) (v := lN (adn (adn (bfr S br a) (bfr S br (a + 1))) (bagOf S w))) dX5_visit_160 (ll_adn _ _) ?_
                refine cp_X5_61 (pc := 161) t ht dX5_visit_161 (ok_X6_weightOf t ht S hS (adn (adn (bfr S br a) (bfr S br (a + 1))) (bagOf S w)) (by omega)) (by omega) (Nat.le_of_ble_eq_true rfl) ?_
                refine V.istore (pc := 164) (lv' := [(0, .ref (G.2.2 92)), (1, .ref (G.2.2 (8 * t))), (2, .int (nI a)), (3, .int (nI w)), (4, .long (lN (bagOf S w))), (6, .int (nI (cov S w))), (7, .int (nI (lenOf S w))), (8, .int (nI (rch S br a w))), (9, .int (nI (wOf S (adn (adn (bfr S br a) (bfr S br (a + 1))) (bagOf S w)))))]) dX5_visit_164 (by decide) rfl ?_
                refine V.aload_n (pc := 166) 0 dX5_visit_166 rfl ?_
                refine V.aload_n (pc := 167) 1 dX5_visit_167 rfl ?_
                refine V.iload_n (pc := 168) 2 dX5_visit_168 rfl ?_
                refine V.iconst (pc := 169) (v := nI 1) dX5_visit_169 (by decide) ?_
                refine V.iadd (pc := 170) (v := nI (a + 1)) dX5_visit_170 (nI_add _ _) ?_
                refine V.iload_n (pc := 171) 3 dX5_visit_171 rfl ?_
                refine V.lload (pc := 172) 4 dX5_visit_172 rfl ?_
                refine V.iload (pc := 174) 5 dX5_visit_174 rfl ?_
                refine V.iload (pc := 176) 6 dX5_visit_176 rfl ?_
                refine V.iload (pc := 178) 7 dX5_visit_178 rfl ?_
                refine V.iload (pc := 180) 8 dX5_visit_180 rfl ?_
                refine V.isub (pc := 182) (v := nI (rch S br (a + 1) w)) dX5_visit_182 ((pk_sub (by omega)).trans (congrArg nI (by omega))) ?_
                refine cl_X5_65 (pc := 183) dX5_visit_183 (ih hat μ _ f b w hS hx hb (hB.skip (D := Sub S (a + 1) (w ||| 2 ^ a)) (fun x hs hc => absurd hc (sub_no hV hat h_74 hs))) (hV.out hat)) (by omega) (Nat.le_of_ble_eq_true rfl) (fun r_ μ_ h_ => ?_)
                have hfrA := Fr.refl μ C92
                obtain ⟨rfl, hfrB, hx3, f3, b3, hb3, hB3⟩ := h_
                exact V.vret (pc := 186) hF dX5_visit_186 ⟨rfl, hfrA.trans hfrB (fun _ h => h) (fun _ h => h), hx3, f3, b3, hb3, hB3.cong (fun x hx => by rw [sub_split hV hx]; exact or_assoc)⟩
              · refine V.aload_n (pc := 77) 1 dX5_visit_77 rfl ?_
                refine V.aload_n (pc := 78) 1 dX5_visit_78 rfl ?_
                refine gf_X5_58 (pc := 79) t ht dX5_visit_79 ?_
                refine V.iload_n (pc := 82) 2 dX5_visit_82 rfl ?_
                refine V.lald (pc := 83) (k := 8 * t + 5) (n := 16) (v := lN (S.bag a)) (by omega) (cell_Sj ht rfl) a (by omega) (by decide) dX5_visit_83 (hS.bag a (by omega)) ?_
                refine V.lload (pc := 84) 4 dX5_visit_84 rfl ?_
                refine V.ldc2_w (pc := 86) (v := (-1)) mw_4_93 dX5_visit_86 ?_
                refine V.lxor (pc := 89) (v := lN (bagOf S w) ^^^ (-1)) dX5_visit_89 rfl ?_
                refine V.land (pc := 90) (v := lN (adn (S.bag a) (bagOf S w))) dX5_visit_90 (ll_adn _ _) ?_
                refine cp_X5_61 (pc := 91) t ht dX5_visit_91 (ok_X6_weightOf t ht S hS (adn (S.bag a) (bagOf S w)) (by omega)) (by omega) (Nat.le_of_ble_eq_true rfl) ?_
                refine V.istore (pc := 94) (lv' := [(0, .ref (G.2.2 92)), (1, .ref (G.2.2 (8 * t))), (2, .int (nI a)), (3, .int (nI w)), (4, .long (lN (bagOf S w))), (6, .int (nI (cov S w))), (7, .int (nI (lenOf S w))), (8, .int (nI (rch S br a w))), (9, .int (nI (wOf S (adn (S.bag a) (bagOf S w)))))]) dX5_visit_94 (by decide) rfl ?_
                refine V.aload_n (pc := 96) 0 dX5_visit_96 rfl ?_
                refine V.aload_n (pc := 97) 1 dX5_visit_97 rfl ?_
                refine V.iload_n (pc := 98) 2 dX5_visit_98 rfl ?_
                refine V.iconst (pc := 99) (v := nI 1) dX5_visit_99 (by decide) ?_
                refine V.iadd (pc := 100) (v := nI (a + 1)) dX5_visit_100 (nI_add _ _) ?_
                refine V.iload_n (pc := 101) 3 dX5_visit_101 rfl ?_
                refine V.iconst (pc := 102) (v := nI 1) dX5_visit_102 (by decide) ?_
                refine V.iload_n (pc := 103) 2 dX5_visit_103 rfl ?_
                refine V.ishl (pc := 104) (v := nI (2 ^ a)) dX5_visit_104 (nn_shl1 (by omega)) ?_
                refine V.ior (pc := 105) (v := nI (w ||| (2 ^ a))) dX5_visit_105 (nn_or _ _) ?_
                refine V.lload (pc := 106) 4 dX5_visit_106 rfl ?_
                refine V.aload_n (pc := 108) 1 dX5_visit_108 rfl ?_
                refine gf_X5_58 (pc := 109) t ht dX5_visit_109 ?_
                refine V.iload_n (pc := 112) 2 dX5_visit_112 rfl ?_
                refine V.lald (pc := 113) (k := 8 * t + 5) (n := 16) (v := lN (S.bag a)) (by omega) (cell_Sj ht rfl) a (by omega) (by decide) dX5_visit_113 (hS.bag a (by omega)) ?_
                refine V.lor (pc := 114) (v := lN (bagOf S (w ||| 2 ^ a))) dX5_visit_114 ((ll_or _ _).trans (congrArg lN (bagOf_add hat))) ?_
                refine V.iload (pc := 115) 5 dX5_visit_115 rfl ?_
                refine V.iload (pc := 117) 8 dX5_visit_117 rfl ?_
                refine V.iadd (pc := 119) (v := nI (cov S (w ||| 2 ^ a))) dX5_visit_119 ((nI_add _ _).trans (congrArg nI (cov_add hat))) ?_
                refine V.iload (pc := 120) 6 dX5_visit_120 rfl ?_
                refine V.aload_n (pc := 122) 1 dX5_visit_122 rfl ?_
                refine gf_X5_87 (pc := 123) t ht dX5_visit_123 ?_
                refine V.iload_n (pc := 126) 2 dX5_visit_126 rfl ?_
                refine V.iald (pc := 127) (k := 8 * t + 1) (n := 16) (v := nI (S.len a)) (by omega) (cell_Si ht ⟨by decide, by decide⟩) a (by omega) (by decide) dX5_visit_127 (hS.len a (by omega)) ?_
                refine V.iadd (pc := 128) (v := nI (lenOf S (w ||| 2 ^ a))) dX5_visit_128 ((nI_add _ _).trans (congrArg nI (lenOf_add hat hV.2.1))) ?_
                refine V.iload (pc := 129) 7 dX5_visit_129 rfl ?_
                refine V.st (st' := [.int (nI (rch S br (a + 1) (w ||| 2 ^ a))), .int (nI (lenOf S (w ||| 2 ^ a))), .int (nI (cov S (w ||| 2 ^ a))), .long (lN (bagOf S (w ||| 2 ^ a))), .int (nI (w ||| (2 ^ a))), .int (nI (a + 1)), .ref (G.2.2 (8 * t)), .ref (G.2.2 92)]) (by rw [rch_in hat (mayB_t h_74).1]) ?_
                refine cl_X5_65 (pc := 131) dX5_visit_131 (ih hat μ C f b (w ||| 2 ^ a) hS hx hb hB (hV.in' hat h_74)) (by omega) (Nat.le_of_ble_eq_true rfl) (fun r_ μ_ h_ => ?_)
                obtain ⟨rfl, hfrA, hx2, f2, b2, hb2, hB2⟩ := h_
                have hS2 := hS.fr hfrA (C92_no ht)
                refine V.aload_n (pc := 134) 1 dX5_visit_134 rfl ?_
                refine V.aload_n (pc := 135) 0 dX5_visit_135 rfl ?_
                refine gf_X5_24 (pc := 136) dX5_visit_136 ?_
                refine V.iload_n (pc := 139) 2 dX5_visit_139 rfl ?_
                refine V.lald (pc := 140) (k := 93) (n := 17) (v := lN (bfr S br a)) (Nat.le_of_ble_eq_true rfl) (fun _ _ => rfl) a (by omega) (by decide) dX5_visit_140 (hx2.2.2.2.2.1 a (by omega)) ?_
                refine V.aload_n (pc := 141) 0 dX5_visit_141 rfl ?_
                refine gf_X5_24 (pc := 142) dX5_visit_142 ?_
                refine V.iload_n (pc := 145) 2 dX5_visit_145 rfl ?_
                refine V.iconst (pc := 146) (v := nI 1) dX5_visit_146 (by decide) ?_
                refine V.iadd (pc := 147) (v := nI (a + 1)) dX5_visit_147 (nI_add _ _) ?_
                refine V.lald (pc := 148) (k := 93) (n := 17) (v := lN (bfr S br (a + 1))) (Nat.le_of_ble_eq_true rfl) (fun _ _ => rfl) (a + 1) (by omega) (by decide) dX5_visit_148 (hx2.2.2.2.2.1 (a + 1) (by omega)) ?_
                refine V.ldc2_w (pc := 149) (v := (-1)) mw_4_93 dX5_visit_149 ?_
                refine V.lxor (pc := 152) (v := lN (bfr S br (a + 1)) ^^^ (-1)) dX5_visit_152 rfl ?_
                refine V.land (pc := 153) (v := lN (adn (bfr S br a) (bfr S br (a + 1)))) dX5_visit_153 (ll_adn _ _) ?_
                refine V.lload (pc := 154) 4 dX5_visit_154 rfl ?_
                refine V.ldc2_w (pc := 156) (v := (-1)) mw_4_93 dX5_visit_156 ?_
                refine V.lxor (pc := 159) (v := lN (bagOf S w) ^^^ (-1)) dX5_visit_159 rfl ?_
                refine V.land (pc := 160) (v := lN (adn (adn (bfr S br a) (bfr S br (a + 1))) (bagOf S w))) dX5_visit_160 (ll_adn _ _) ?_
                refine cp_X5_61 (pc := 161) t ht dX5_visit_161 (ok_X6_weightOf t ht S hS2 (adn (adn (bfr S br a) (bfr S br (a + 1))) (bagOf S w)) (by omega)) (by omega) (Nat.le_of_ble_eq_true rfl) ?_
                refine V.istore (pc := 164) (lv' := [(0, .ref (G.2.2 92)), (1, .ref (G.2.2 (8 * t))), (2, .int (nI a)), (3, .int (nI w)), (4, .long (lN (bagOf S w))), (6, .int (nI (cov S w))), (7, .int (nI (lenOf S w))), (8, .int (nI (rch S br a w))), (9, .int (nI (wOf S (adn (adn (bfr S br a) (bfr S br (a + 1))) (bagOf S w)))))]) dX5_visit_164 (by decide) rfl ?_
                refine V.aload_n (pc := 166) 0 dX5_visit_166 rfl ?_
                refine V.aload_n (pc := 167) 1 dX5_visit_167 rfl ?_
                refine V.iload_n (pc := 168) 2 dX5_visit_168 rfl ?_
                refine V.iconst (pc := 169) (v := nI 1) dX5_visit_169 (by decide) ?_
                refine V.iadd (pc := 170) (v := nI (a + 1)) dX5_visit_170 (nI_add _ _) ?_
                refine V.iload_n (pc := 171) 3 dX5_visit_171 rfl ?_
                refine V.lload (pc := 172) 4 dX5_visit_172 rfl ?_
                refine V.iload (pc := 174) 5 dX5_visit_174 rfl ?_
                refine V.iload (pc := 176) 6 dX5_visit_176 rfl ?_
                refine V.iload (pc := 178) 7 dX5_visit_178 rfl ?_
                refine V.iload (pc := 180) 8 dX5_visit_180 rfl ?_
                refine V.isub (pc := 182) (v := nI (rch S br (a + 1) w)) dX5_visit_182 ((pk_sub (by omega)).trans (congrArg nI (by omega))) ?_
                refine cl_X5_65 (pc := 183) dX5_visit_183 (ih hat _ _ f2 b2 w hS2 hx2 hb2 hB2 (hV.out hat)) (by omega) (Nat.le_of_ble_eq_true rfl) (fun r_ μ_ h_ => ?_)
                obtain ⟨rfl, hfrB, hx3, f3, b3, hb3, hB3⟩ := h_
                exact V.vret (pc := 186) hF dX5_visit_186 ⟨rfl, hfrA.trans hfrB (fun _ h => h) (fun _ h => h), hx3, f3, b3, hb3, hB3.cong (fun x hx => by rw [sub_split hV hx]; exact or_assoc)⟩
            · refine V.aload_n (pc := 57) 0 dX5_visit_57 rfl ?_
              refine V.iload_n (pc := 58) 3 dX5_visit_58 rfl ?_
              refine V.iload (pc := 59) 5 dX5_visit_59 rfl ?_
              refine V.iload (pc := 61) 6 dX5_visit_61 rfl ?_
              refine cl_X5_77 (pc := 63) dX5_visit_63 (ok_X5_offer S hS.vs o br mL lC hx f b hb w (by omega)) (by omega) (Nat.le_of_ble_eq_true rfl) (fun r_ μ_ h_ => ?_)
              have hof := h_
              obtain ⟨rfl, -⟩ := h_
              exact V.vret (pc := 66) hF dX5_visit_66 (VPost.offer hB hV (hV.cand (by omega) (en_cov h_54 (by omega))) (fun x hs hc => sub_enough hS.vs ho hV hs hc (fun e => en_eq h_54 e)) hof)
        · exact V.vret (pc := 37) hF dX5_visit_37 ⟨rfl, Fr.refl μ C92, hx, f, b, hb, hB.skip (fun x hs hc => ⟨h_22, sub_behind ho hV hs hc (rk_pos hS.vs ho hrl h_34)⟩)⟩
theorem ok_visit {G : Gx} (t : Nat) (ht : t < 10) (S : TS) (o br mL lC : Nat) : ∀ (k a : Nat), a + k = S.n → ∀ (μ : Mu) (C : Nat → Prop) (f : Bool) (b w : Nat), St μ t S → Sx μ S o br mL lC → Sb μ S f b → Best S o br mL lC C f b → Vw S br a w → Runs (3 + k) M_X5_visit [.ref (G.2.2 92), .ref (G.2.2 (8 * t)), .int (nI a), .int (nI w), .long (lN (bagOf S w)), .int (nI (cov S w)), .int (nI (lenOf S w)), .int (nI (rch S br a w))] G μ (VPost μ S o br mL lC C a w) := by
  intro k
  induction k with
  | zero =>
    intro a ha μ C f b w hS hx hb hB hV
    exact ok_visit_step t ht S hS o br mL lC hx f b hb C hB a w 0 ha hV (fun h => absurd h (by omega))
  | succ k ih =>
    intro a ha μ C f b w hS hx hb hB hV
    exact ok_visit_step t ht S hS o br mL lC hx f b hb C hB a w (k + 1) ha hV (fun _ μ1 C1 f1 b1 w1 h1 h2 h3 h4 h5 => ih (a + 1) (by omega) μ1 C1 f1 b1 w1 h1 h2 h3 h4 h5)
