theorem spl_eq {D : TS} {bs : Nat → Nat} {st k w : Nat} (h1 : ∀ j, j < D.nl w → 97 ≤ D.lt w j ∧ D.lt w j ≤ 122) (h2 : ∀ j, j < k → 97 ≤ bs (st + j) ∧ bs (st + j) ≤ 122) : spl D w = packB bs st k ↔ mtB D bs st k w = true := by
  rw [mtB_iff]
  have e1 : ∀ m, m ≤ D.nl w → spUp D w m = spUp (mkTS 0 0 0 0 0 (fun _ => 0) (fun _ => 0) (fun _ => 0) (fun _ => 0) (fun _ => 0) (fun _ => 0) (fun x j => if j < D.nl w then D.lt x j else 96)) w m := by
    intro m
    induction m with
    | zero => intro _; rfl
    | succ m ih =>
      intro hm
      rw [spUp, spUp, ih (by omega)]
      show _ ||| _ = _ ||| ((if m < D.nl w then D.lt w m else 96) - 96) <<< (5 * m)
      rw [if_pos (by omega)]
  have e2 : ∀ m, m ≤ k → packB bs st m = packB (fun x => if x < st + k then bs x else 96) st m := by
    intro m
    induction m with
    | zero => intro _; rfl
    | succ m ih =>
      intro hm
      rw [packB, packB, ih (by omega), if_pos (by omega)]
  constructor
  · intro e
    unfold spl at e
    rw [e1 _ (Nat.le_refl _), e2 _ (Nat.le_refl _)] at e
    have := pack_inj (f1 := spUp (mkTS 0 0 0 0 0 (fun _ => 0) (fun _ => 0) (fun _ => 0) (fun _ => 0) (fun _ => 0) (fun _ => 0) (fun x j => if j < D.nl w then D.lt x j else 96)) w) (f2 := packB (fun x => if x < st + k then bs x else 96) st)
      (g1 := fun j => (if j < D.nl w then D.lt w j else 96) - 96) (g2 := fun j => (if st + j < st + k then bs (st + j) else 96) - 96) rfl rfl (fun j => rfl) (fun j => rfl)
      (fun j => by by_cases q : j < D.nl w
                   · have := h1 j q; show (if j < D.nl w then _ else _) - 96 < 32; rw [if_pos q]; omega
                   · show (if j < D.nl w then _ else _) - 96 < 32; rw [if_neg q]; omega)
      (fun j => by by_cases q : st + j < st + k
                   · have := h2 j (by omega); show (if st + j < st + k then _ else _) - 96 < 32; rw [if_pos q]; omega
                   · show (if st + j < st + k then _ else _) - 96 < 32; rw [if_neg q]; omega)
      (fun j q => by have := h1 j q; show 0 < (if j < D.nl w then _ else _) - 96; rw [if_pos q]; omega)
      (fun j q => by have := h2 j q; show 0 < (if st + j < st + k then _ else _) - 96; rw [if_pos (by omega)]; omega) e
    refine ⟨this.1, fun j hj => ?_⟩
    have q := this.2 j (by omega)
    have q : (if j < D.nl w then D.lt w j else 96) - 96 = (if st + j < st + k then bs (st + j) else 96) - 96 := q
    rw [if_pos (by omega), if_pos (by omega)] at q
    have a1 := h1 j (by omega)
    have a2 := h2 j hj
    omega
  · rintro ⟨e, h⟩
    unfold spl
    rw [e]
    have key : ∀ m, m ≤ k → spUp D w m = packB bs st m := by
      intro m
      induction m with
      | zero => intro _; rfl
      | succ m ih => intro hm; rw [spUp, packB, ih (by omega), h m (by omega)]
    exact key k (Nat.le_refl _)
theorem packB_lt {bs : Nat → Nat} {st k : Nat} (h : ∀ j, j < k → 97 ≤ bs (st + j) ∧ bs (st + j) ≤ 122) (hk : k ≤ 10) : packB bs st k < 2 ^ 50 := by
  have key : ∀ m, m ≤ k → packB bs st m < 2 ^ (5 * m) := by
    intro m
    induction m with
    | zero => intro _; rw [packB]; decide
    | succ m ih =>
      intro hm
      have a := h m (by omega)
      rw [packB]
      refine or_lt (Nat.lt_of_lt_of_le (ih (by omega)) (two_le (by omega))) ?_
      rw [Nat.shiftLeft_eq, show 5 * (m + 1) = 5 + 5 * m by omega, Nat.pow_add]
      exact Nat.mul_lt_mul_of_pos_right (by omega) (Nat.two_pow_pos _)
  exact Nat.lt_of_lt_of_le (key k (Nat.le_refl _)) (two_le (by omega))
theorem spl_lt {D : TS} {w : Nat} (h : ∀ j, j < D.nl w → 97 ≤ D.lt w j ∧ D.lt w j ≤ 122) (hk : D.nl w ≤ 10) : spl D w < 2 ^ 50 := by
  have key : ∀ m, m ≤ D.nl w → spUp D w m < 2 ^ (5 * m) := by
    intro m
    induction m with
    | zero => intro _; rw [spUp]; decide
    | succ m ih =>
      intro hm
      have a := h m (by omega)
      rw [spUp]
      refine or_lt (Nat.lt_of_lt_of_le (ih (by omega)) (two_le (by omega))) ?_
      rw [Nat.shiftLeft_eq, show 5 * (m + 1) = 5 + 5 * m by omega, Nat.pow_add]
      exact Nat.mul_lt_mul_of_pos_right (by omega) (Nat.two_pow_pos _)
  exact Nat.lt_of_lt_of_le (key _ (Nat.le_refl _)) (two_le (by omega))
/-- the word's number as the class tells it: 0 none, w + 1 -/
def fndC (D : TS) (bs : Nat → Nat) (st k : Nat) : Nat := if fndW D bs st k < D.u then fndW D bs st k + 1 else 0
theorem ok_X6_wordSpelled {G : Gx} {μ : Mu} (D : TS) (sp : Nat) (p : Nat → Bool) (hu : μ.1 (8 * 1) 1 = nI D.u) (hu48 : D.u ≤ 48) (hsp : ∀ w, w < D.u → μ.2 (8 * 1 + 6) w = lN (spl D w)) (hb : ∀ w, w < D.u → spl D w < 2 ^ 50) (hspb : sp < 2 ^ 50) (hp : ∀ w, w < D.u → (spl D w = sp ↔ p w = true)) : RunsP 0 M_X6_wordSpelled [.ref (G.2.2 (8 * 1)), .long (lN sp)] G μ (.int (pv (if fdW p D.u < D.u then fdW p D.u + 1 else 0))) := by
  refine Runs.go RX6 rfl (by decide) [(0, .ref (G.2.2 (8 * 1))), (1, .long (lN sp))] (Nat.le_of_ble_eq_true rfl) rfl (fun X hF => ?_)
  refine V.iconst (pc := 0) (v := nI 0) dX6_wordSpelled_0 (by decide) ?_
  refine V.istore_n (pc := 1) (lv' := [(0, .ref (G.2.2 (8 * 1))), (1, .long (lN sp)), (3, .int (nI 0))]) dX6_wordSpelled_1 (by decide) rfl ?_
  have L2 : ∀ (n_ : Nat) (i : Nat), (i ≤ D.u) → (∀ j, j < i → p j = false) → D.u - i < n_ → V G RX6 cX6_wordSpelled 4 0 X 2 [(0, .ref (G.2.2 (8 * 1))), (1, .long (lN sp)), (3, .int (nI i))] [] μ := by
    intro n_
    induction n_ with
    | zero => intro i hi hno hm_; exact absurd hm_ (Nat.not_lt_zero _)
    | succ n_ ih2 =>
      intro i hi hno hm_
      refine V.iload_n (pc := 2) 2 dX6_wordSpelled_2 rfl ?_
      refine V.aload_n (pc := 3) 0 dX6_wordSpelled_3 rfl ?_
      refine gf_X6_15 (pc := 4) 1 (by decide) (v := nI D.u) dX6_wordSpelled_4 hu ?_
      refine V.icmpN_ge (pc := 7) 29 dX6_wordSpelled_7 (by decide) (by omega) (by omega) (fun h_7 => ?_) (fun h_7 => ?_)
      · refine V.iconst (pc := 29) (v := (-1)) dX6_wordSpelled_29 (by decide) ?_
        exact V.iret (pc := 30) hF dX6_wordSpelled_30 ⟨by rw [fdW_eq (F := i) (by omega) hno (fun q => absurd q (by omega)), if_neg (by omega)]; rfl, rfl⟩
      · have hbi := hb i h_7
        refine V.aload_n (pc := 10) 0 dX6_wordSpelled_10 rfl ?_
        refine gf_X6_45 (pc := 11) 1 (by decide) dX6_wordSpelled_11 ?_
        refine V.iload_n (pc := 14) 2 dX6_wordSpelled_14 rfl ?_
        refine V.lald (pc := 15) (k := 8 * 1 + 6) (n := 48) (v := lN (spl D i)) (by omega) (cell_Sp (by decide) rfl) i (by omega) (by decide) dX6_wordSpelled_15 (hsp i (by omega)) ?_
        refine V.lload_n (pc := 16) 1 dX6_wordSpelled_16 rfl ?_
        refine V.lcmpN_ne (pc := 17) 23 dX6_wordSpelled_17 dX6_wordSpelled_18 (by decide) (by omega) (by omega) (fun h_17 => ?_) (fun h_17 => ?_)
        · refine V.iinc (pc := 23) (v := nI (i + 1)) (lv' := [(0, .ref (G.2.2 (8 * 1))), (1, .long (lN sp)), (3, .int (nI (i + 1)))]) 2 dX6_wordSpelled_23 rfl (nn_inc _) (by decide) rfl ?_
          refine V.goto (pc := 26) 2 dX6_wordSpelled_26 (by decide) ?_
          exact ih2 (i + 1) (by omega) (lt_s hno (by cases hq : p i with | false => rfl | true => exact absurd ((hp i (by omega)).mpr hq) h_17)) (by omega)
        · refine V.iload_n (pc := 21) 2 dX6_wordSpelled_21 rfl ?_
          exact V.iret (pc := 22) hF dX6_wordSpelled_22 ⟨by rw [fdW_eq (F := i) (by omega) hno (fun _ => (hp i (by omega)).mp h_17), if_pos (by omega)]; rfl, rfl⟩
  exact L2 _ 0 (by omega) (fun j hj => absurd hj (by omega)) (Nat.lt_succ_self _)
theorem spUp_cong {D D' : TS} {w : Nat} (h : ∀ j, D'.lt w j = D.lt w j) : ∀ k, spUp D' w k = spUp D w k
  | 0 => rfl
  | k + 1 => by rw [spUp, spUp, spUp_cong h k, h k]
theorem spl_cong {D D' : TS} {w : Nat} (h : ∀ j, D'.lt w j = D.lt w j) (h2 : D'.nl w = D.nl w) : spl D' w = spl D w := by
  unfold spl
  rw [h2]
  exact spUp_cong h _
theorem Rd.put {μ μ' : Mu} {bs : Nat → Nat} {D : TS} {wo k st ft pl w : Nat} (h : Rd μ bs (D, wo, k, st, ft, pl))
    (a1 : ∀ s, s ≠ D.n → μ'.1 (8 * 1 + 1) s = μ.1 (8 * 1 + 1) s) (a2 : μ'.1 (8 * 1 + 1) D.n = nI (len0 D wo + (k + 1)))
    (b1 : ∀ s, s ≠ D.n → μ'.1 (8 * 1 + 2) s = μ.1 (8 * 1 + 2) s) (b2 : μ'.1 (8 * 1 + 2) D.n = nI (wo + 1))
    (c1 : ∀ s, s ≠ D.n → μ'.1 (8 * 1 + 3) s = μ.1 (8 * 1 + 3) s) (c2 : μ'.1 (8 * 1 + 3) D.n = nI ((if wo = 0 then updN D.fst D.n w else D.fst) D.n))
    (d1 : ∀ s, s ≠ D.n → μ'.2 (8 * 1 + 5) s = μ.2 (8 * 1 + 5) s) (d2 : μ'.2 (8 * 1 + 5) D.n = lN (bag0 D wo ||| 2 ^ w))
    (e1 : ∀ x, x < D.u → μ'.1 (8 * 1 + 7) x = nI ((if (bag0 D wo).testBit w then D.wt else updN D.wt w (D.wt w + 1)) x)) (f1 : μ'.2 (8 * 1 + 6) = μ.2 (8 * 1 + 6))
    (g1 : μ'.1 (8 * 1) = μ.1 (8 * 1)) (g2 : μ'.2 (8 * 1) = μ.2 (8 * 1)) (i1 : μ'.1 85 1 = μ.1 85 1) (i2 : μ'.1 85 2 = μ.1 85 2) (i3 : μ'.1 85 3 = nI (wo + 1)) (i4 : μ'.1 85 4 = μ.1 85 4) (i5 : μ'.1 85 5 = μ.1 85 5) (i6 : μ'.2 85 6 = μ.2 85 6) : Rd μ' bs (putW D wo k w, wo + 1, k, st, ft, pl) := by
  obtain ⟨h1, h2, h3, h4, h5, ⟨r1, r2, r3, r4, r5, r6, r7, r8, r9, r10⟩⟩ := h
  have eo : opn (putW D wo k w, wo + 1, k, st, ft, pl) = D.n + 1 := by
    show D.n + (if 0 < wo + 1 then 1 else 0) = _
    rw [if_pos (by omega)]
  have ho : ∀ s, s < D.n → s < opn (D, wo, k, st, ft, pl) := fun s hs => by show s < D.n + _; omega
  refine ⟨i1.trans h1, i2.trans h2, i3, i4.trans h4, fun q => ⟨i5.trans (h5 q).1, i6.trans (h5 q).2⟩, ?_⟩
  rw [eo]
  refine ⟨by rw [g1]; exact r1, by rw [g1]; exact r2, fun s hs => ?_, fun s hs => ?_, fun s hs => ?_, fun s hs => ?_, fun x hx => by rw [f1]; exact (r7 x hx).trans (congrArg lN (spl_cong (D := D) (D' := putW D wo k w) (fun _ => rfl) rfl).symm), fun x hx => e1 x hx, by rw [g1]; exact r9, by rw [g2]; exact r10⟩
  · show _ = nI (updN D.len D.n (len0 D wo + (k + 1)) s)
    by_cases e : s = D.n
    · subst e; rw [updN_s]; exact a2
    · rw [updN_n e, a1 s e]; exact r3 s (ho s (by omega))
  · show _ = nI (updN D.cnt D.n (wo + 1) s)
    by_cases e : s = D.n
    · subst e; rw [updN_s]; exact b2
    · rw [updN_n e, b1 s e]; exact r4 s (ho s (by omega))
  · show _ = nI ((if wo = 0 then updN D.fst D.n w else D.fst) s)
    by_cases e : s = D.n
    · subst e; exact c2
    · rw [c1 s e, r5 s (ho s (by omega))]
      show nI (D.fst s) = _
      split
      · rw [updN_n e]
      · rfl
  · show _ = lN (updN D.bag D.n (bag0 D wo ||| 2 ^ w) s)
    by_cases e : s = D.n
    · subst e; rw [updN_s]; exact d2
    · rw [updN_n e, d1 s e]; exact r6 s (ho s (by omega))
theorem ad_w1 {D : TS} {μ μ' : Mu} {bg w : Nat} (hb : bg.testBit w = false) (h : ∀ x, x < D.u → μ.1 (8 * 1 + 7) x = nI (D.wt x)) (h1 : μ'.1 (8 * 1 + 7) w = nI (D.wt w + 1)) (h2 : ∀ x, x ≠ w → μ'.1 (8 * 1 + 7) x = μ.1 (8 * 1 + 7) x) : ∀ x, x < D.u → μ'.1 (8 * 1 + 7) x = nI ((if bg.testBit w then D.wt else updN D.wt w (D.wt w + 1)) x) := by
  intro x hx
  rw [hb, if_neg (by decide)]
  by_cases e : x = w
  · subst e; rw [updN_s]; exact h1
  · rw [updN_n e, h2 x e]; exact h x hx
theorem ok_X4_addToOpen {G : Gx} {μ : Mu} (bs : Nat → Nat) (D : TS) (wo k st ft pl : Nat) (hR : Rd μ bs (D, wo, k, st, ft, pl)) (hV : RV bs (D, wo, k, st, ft, pl)) (hk0 : 0 < k) (hk10 : k ≤ 10) (hn : D.n < 16) (hwo : wo < 30) (w : Nat) (hw : w < D.u) : Runs 0 M_X4_addToOpen [.ref (G.2.2 85), .int (nI w)] G μ (fun r μ' => r = none ∧ Fr μ μ' CR ∧ Rd μ' bs (putW D wo k w, wo + 1, k, st, ft, pl)) := by
  have hu : D.u ≤ 48 := hV.2.1
  have hu2 : (2 : Nat) ^ D.u ≤ 2 ^ 48 := two_le hu
  refine Runs.go RX4 rfl (by decide) [(0, .ref (G.2.2 85)), (1, .int (nI w))] (Nat.le_of_ble_eq_true rfl) rfl (fun X hF => ?_)
  refine V.aload_n (pc := 0) 0 dX4_addToOpen_0 rfl ?_
  refine gf_X4_12 (pc := 1) dX4_addToOpen_1 ?_
  refine gf_X4_58 (pc := 4) 1 (by decide) (v := nI D.n) dX4_addToOpen_4 hR.2.2.2.2.2.1 ?_
  refine V.istore_n (pc := 7) (lv' := [(0, .ref (G.2.2 85)), (1, .int (nI w)), (2, .int (nI D.n))]) dX4_addToOpen_7 (by decide) rfl ?_
  refine V.aload_n (pc := 8) 0 dX4_addToOpen_8 rfl ?_
  refine gf_X4_25 (pc := 9) (v := nI wo) dX4_addToOpen_9 hR.2.2.1 ?_
  refine V.ifN_ne (pc := 12) 45 dX4_addToOpen_12 (by decide) (by omega) (fun h_12 => ?_) (fun h_12 => ?_)
  · have hbz : bag0 D wo = D.bag D.n := if_neg (by omega)
    have hlz : len0 D wo = D.len D.n := if_neg (by omega)
    have hopn : D.n < opn (D, wo, k, st, ft, pl) := by show D.n < D.n + (if 0 < wo then 1 else 0); rw [if_pos h_12]; omega
    have hs7 := hV.2.2.2.2.2.2.1 D.n hopn
    have hbn : D.bag D.n < 2 ^ D.u := hs7.2.2.2.2.2
    have hsr := shr_le (D.bag D.n) w
    have ha1 : D.bag D.n >>> w &&& 1 ≤ 1 := Nat.and_le_right
    refine V.aload_n (pc := 45) 0 dX4_addToOpen_45 rfl ?_
    refine gf_X4_12 (pc := 46) dX4_addToOpen_46 ?_
    refine gf_X4_86 (pc := 49) 1 (by decide) dX4_addToOpen_49 ?_
    refine V.iload_n (pc := 52) 2 dX4_addToOpen_52 rfl ?_
    refine V.lald (pc := 53) (k := 8 * 1 + 5) (n := 16) (v := lN (D.bag D.n)) (by omega) (cell_Sj (by decide) rfl) D.n (by omega) (by decide) dX4_addToOpen_53 (hR.2.2.2.2.2.2.2.2.2.2.1 D.n hopn) ?_
    refine V.iload_n (pc := 54) 1 dX4_addToOpen_54 rfl ?_
    refine V.lushr (pc := 55) (v := lN ((D.bag D.n) >>> w)) dX4_addToOpen_55 (ll_ushr (by omega) (by omega)) ?_
    refine V.lconst (pc := 56) (v := lN 1) dX4_addToOpen_56 (by decide) ?_
    refine V.land (pc := 57) (v := lN (((D.bag D.n) >>> w) &&& 1)) dX4_addToOpen_57 (ll_and _ _) ?_
    refine V.lconst (pc := 58) (v := lN 0) dX4_addToOpen_58 (by decide) ?_
    refine V.lcmpN_ne (pc := 59) 76 dX4_addToOpen_59 dX4_addToOpen_60 (by decide) (by omega) (by omega) (fun h_59 => ?_) (fun h_59 => ?_)
    · refine V.aload_n (pc := 76) 0 dX4_addToOpen_76 rfl ?_
      refine gf_X4_12 (pc := 77) dX4_addToOpen_77 ?_
      refine gf_X4_86 (pc := 80) 1 (by decide) dX4_addToOpen_80 ?_
      refine V.iload_n (pc := 83) 2 dX4_addToOpen_83 rfl ?_
      refine V.dup2 (pc := 84) dX4_addToOpen_84 rfl rfl ?_
      refine V.lald (pc := 85) (k := 8 * 1 + 5) (n := 16) (v := lN (D.bag D.n)) (by omega) (cell_Sj (by decide) rfl) D.n (by omega) (by decide) dX4_addToOpen_85 (hR.2.2.2.2.2.2.2.2.2.2.1 D.n hopn) ?_
      refine V.lconst (pc := 86) (v := lN 1) dX4_addToOpen_86 (by decide) ?_
      refine V.iload_n (pc := 87) 1 dX4_addToOpen_87 rfl ?_
      refine V.lshl (pc := 88) (v := lN (2 ^ w)) dX4_addToOpen_88 (ll_shl1 (by omega)) ?_
      refine V.lor (pc := 89) (v := lN ((D.bag D.n) ||| (2 ^ w))) dX4_addToOpen_89 (ll_or _ _) ?_
      refine V.last (pc := 90) (k := 8 * 1 + 5) (n := 16) (v := lN ((D.bag D.n) ||| (2 ^ w))) (by omega) (cell_Sj (by decide) rfl) D.n (by omega) (by decide) dX4_addToOpen_90 rfl ?_
      refine V.aload_n (pc := 91) 0 dX4_addToOpen_91 rfl ?_
      refine gf_X4_12 (pc := 92) dX4_addToOpen_92 ?_
      refine gf_X4_83 (pc := 95) 1 (by decide) dX4_addToOpen_95 ?_
      refine V.iload_n (pc := 98) 2 dX4_addToOpen_98 rfl ?_
      refine V.dup2 (pc := 99) dX4_addToOpen_99 rfl rfl ?_
      refine V.iald (pc := 100) (k := 8 * 1 + 1) (n := 16) (v := nI (D.len D.n)) (by omega) (cell_Si (by decide) ⟨by decide, by decide⟩) D.n (by omega) (by decide) dX4_addToOpen_100 (Eq.trans (sj_f1 _ _ _ _ _ _) (hR.2.2.2.2.2.2.2.1 D.n hopn)) ?_
      refine V.aload_n (pc := 101) 0 dX4_addToOpen_101 rfl ?_
      refine gf_X4_28 (pc := 102) (v := nI k) dX4_addToOpen_102 (Eq.trans (sj_f1 _ _ _ _ _ _) hR.2.2.2.1) ?_
      refine V.iconst (pc := 105) (v := nI 1) dX4_addToOpen_105 (by decide) ?_
      refine V.iadd (pc := 106) (v := nI (k + 1)) dX4_addToOpen_106 (nI_add _ _) ?_
      refine V.iadd (pc := 107) (v := nI (D.len D.n + (k + 1))) dX4_addToOpen_107 (nI_add _ _) ?_
      refine V.iast (pc := 108) (k := 8 * 1 + 1) (n := 16) (v := nI (D.len D.n + (k + 1))) (by omega) (cell_Si (by decide) ⟨by decide, by decide⟩) D.n (by omega) (by decide) dX4_addToOpen_108 rfl ?_
      refine V.aload_n (pc := 109) 0 dX4_addToOpen_109 rfl ?_
      refine V.dup (pc := 110) dX4_addToOpen_110 rfl ?_
      refine gf_X4_25 (pc := 111) (v := nI wo) dX4_addToOpen_111 (Eq.trans (congrFun (si_c _ _ _ (by omega)) _) (Eq.trans (sj_f1 _ _ _ _ _ _) hR.2.2.1)) ?_
      refine V.iconst (pc := 114) (v := nI 1) dX4_addToOpen_114 (by decide) ?_
      refine V.iadd (pc := 115) (v := nI (wo + 1)) dX4_addToOpen_115 (nI_add _ _) ?_
      refine pf_X4_25 (pc := 116) dX4_addToOpen_116 ?_
      refine V.aload_n (pc := 119) 0 dX4_addToOpen_119 rfl ?_
      refine gf_X4_12 (pc := 120) dX4_addToOpen_120 ?_
      refine gf_X4_92 (pc := 123) 1 (by decide) dX4_addToOpen_123 ?_
      refine V.iload_n (pc := 126) 2 dX4_addToOpen_126 rfl ?_
      refine V.aload_n (pc := 127) 0 dX4_addToOpen_127 rfl ?_
      refine gf_X4_25 (pc := 128) (v := nI (wo + 1)) dX4_addToOpen_128 (si_s _ _ _ _) ?_
      refine V.iast (pc := 131) (k := 8 * 1 + 2) (n := 16) (v := nI (wo + 1)) (by omega) (cell_Si (by decide) ⟨by decide, by decide⟩) D.n (by omega) (by decide) dX4_addToOpen_131 rfl ?_
      exact V.vret (pc := 132) hF dX4_addToOpen_132 ⟨rfl, (((((Fr.refl μ CR).sj _ _ (Or.inr (by unfold Blk; omega))).si _ _ (Or.inr (by unfold Blk; omega))).si _ _ (Or.inl rfl)).si _ _ (Or.inr (by unfold Blk; omega))), hR.put (fun s hs => by simp [si, sj, upd, vp_updL, hs]) (by rw [hlz]; simp [si, sj, upd, vp_updL]) (fun s hs => by simp [si, sj, upd, vp_updL, hs]) (by simp [si, sj, upd, vp_updL]) (fun s hs => by simp [si, sj, upd, vp_updL, hs]) (by rw [if_neg (by omega)]; simp [si, sj, upd, vp_updL]; exact hR.2.2.2.2.2.2.2.2.2.1 D.n hopn) (fun s hs => by simp [si, sj, upd, vp_updL, hs]) (by rw [hbz]; simp [si, sj, upd, vp_updL]) (fun x hx => by rw [hbz, tb1_1 h_59, if_pos rfl]; simp [si, sj, upd, vp_updL]; exact hR.2.2.2.2.2.2.2.2.2.2.2.2.1 x hx) (by simp [si, sj, upd, vp_updL]) (by simp [si, sj, upd, vp_updL]) (by simp [si, sj, upd, vp_updL]) (by simp [si, sj, upd, vp_updL]) (by simp [si, sj, upd, vp_updL]) (by simp [si, sj, upd, vp_updL]) (by simp [si, sj, upd, vp_updL]) (by simp [si, sj, upd, vp_updL]) (by simp [si, sj, upd, vp_updL])⟩
    · refine V.aload_n (pc := 63) 0 dX4_addToOpen_63 rfl ?_
      refine gf_X4_12 (pc := 64) dX4_addToOpen_64 ?_
      refine gf_X4_75 (pc := 67) 1 (by decide) dX4_addToOpen_67 ?_
      refine V.iload_n (pc := 70) 1 dX4_addToOpen_70 rfl ?_
      refine V.dup2 (pc := 71) dX4_addToOpen_71 rfl rfl ?_
      refine V.iald (pc := 72) (k := 8 * 1 + 7) (n := 48) (v := nI (D.wt w)) (by omega) (cell_Sw (by decide) rfl) w (by omega) (by decide) dX4_addToOpen_72 (hR.2.2.2.2.2.2.2.2.2.2.2.2.1 w hw) ?_
      refine V.iconst (pc := 73) (v := nI 1) dX4_addToOpen_73 (by decide) ?_
      refine V.iadd (pc := 74) (v := nI (D.wt w + 1)) dX4_addToOpen_74 (nI_add _ _) ?_
      refine V.iast (pc := 75) (k := 8 * 1 + 7) (n := 48) (v := nI (D.wt w + 1)) (by omega) (cell_Sw (by decide) rfl) w (by omega) (by decide) dX4_addToOpen_75 rfl ?_
      refine V.aload_n (pc := 76) 0 dX4_addToOpen_76 rfl ?_
      refine gf_X4_12 (pc := 77) dX4_addToOpen_77 ?_
      refine gf_X4_86 (pc := 80) 1 (by decide) dX4_addToOpen_80 ?_
      refine V.iload_n (pc := 83) 2 dX4_addToOpen_83 rfl ?_
      refine V.dup2 (pc := 84) dX4_addToOpen_84 rfl rfl ?_
      refine V.lald (pc := 85) (k := 8 * 1 + 5) (n := 16) (v := lN (D.bag D.n)) (by omega) (cell_Sj (by decide) rfl) D.n (by omega) (by decide) dX4_addToOpen_85 (Eq.trans (si_f2 _ _ _ _ _ _) (hR.2.2.2.2.2.2.2.2.2.2.1 D.n hopn)) ?_
      refine V.lconst (pc := 86) (v := lN 1) dX4_addToOpen_86 (by decide) ?_
      refine V.iload_n (pc := 87) 1 dX4_addToOpen_87 rfl ?_
      refine V.lshl (pc := 88) (v := lN (2 ^ w)) dX4_addToOpen_88 (ll_shl1 (by omega)) ?_
      refine V.lor (pc := 89) (v := lN ((D.bag D.n) ||| (2 ^ w))) dX4_addToOpen_89 (ll_or _ _) ?_
      refine V.last (pc := 90) (k := 8 * 1 + 5) (n := 16) (v := lN ((D.bag D.n) ||| (2 ^ w))) (by omega) (cell_Sj (by decide) rfl) D.n (by omega) (by decide) dX4_addToOpen_90 rfl ?_
      refine V.aload_n (pc := 91) 0 dX4_addToOpen_91 rfl ?_
      refine gf_X4_12 (pc := 92) dX4_addToOpen_92 ?_
      refine gf_X4_83 (pc := 95) 1 (by decide) dX4_addToOpen_95 ?_
      refine V.iload_n (pc := 98) 2 dX4_addToOpen_98 rfl ?_
      refine V.dup2 (pc := 99) dX4_addToOpen_99 rfl rfl ?_
      refine V.iald (pc := 100) (k := 8 * 1 + 1) (n := 16) (v := nI (D.len D.n)) (by omega) (cell_Si (by decide) ⟨by decide, by decide⟩) D.n (by omega) (by decide) dX4_addToOpen_100 (Eq.trans (sj_f1 _ _ _ _ _ _) (Eq.trans (congrFun (si_c _ _ _ (by omega)) _) (hR.2.2.2.2.2.2.2.1 D.n hopn))) ?_
      refine V.aload_n (pc := 101) 0 dX4_addToOpen_101 rfl ?_
      refine gf_X4_28 (pc := 102) (v := nI k) dX4_addToOpen_102 (Eq.trans (sj_f1 _ _ _ _ _ _) (Eq.trans (congrFun (si_c _ _ _ (by omega)) _) hR.2.2.2.1)) ?_
      refine V.iconst (pc := 105) (v := nI 1) dX4_addToOpen_105 (by decide) ?_
      refine V.iadd (pc := 106) (v := nI (k + 1)) dX4_addToOpen_106 (nI_add _ _) ?_
      refine V.iadd (pc := 107) (v := nI (D.len D.n + (k + 1))) dX4_addToOpen_107 (nI_add _ _) ?_
      refine V.iast (pc := 108) (k := 8 * 1 + 1) (n := 16) (v := nI (D.len D.n + (k + 1))) (by omega) (cell_Si (by decide) ⟨by decide, by decide⟩) D.n (by omega) (by decide) dX4_addToOpen_108 rfl ?_
      refine V.aload_n (pc := 109) 0 dX4_addToOpen_109 rfl ?_
      refine V.dup (pc := 110) dX4_addToOpen_110 rfl ?_
      refine gf_X4_25 (pc := 111) (v := nI wo) dX4_addToOpen_111 (Eq.trans (congrFun (si_c _ _ _ (by omega)) _) (Eq.trans (sj_f1 _ _ _ _ _ _) (Eq.trans (congrFun (si_c _ _ _ (by omega)) _) hR.2.2.1))) ?_
      refine V.iconst (pc := 114) (v := nI 1) dX4_addToOpen_114 (by decide) ?_
      refine V.iadd (pc := 115) (v := nI (wo + 1)) dX4_addToOpen_115 (nI_add _ _) ?_
      refine pf_X4_25 (pc := 116) dX4_addToOpen_116 ?_
      refine V.aload_n (pc := 119) 0 dX4_addToOpen_119 rfl ?_
      refine gf_X4_12 (pc := 120) dX4_addToOpen_120 ?_
      refine gf_X4_92 (pc := 123) 1 (by decide) dX4_addToOpen_123 ?_
      refine V.iload_n (pc := 126) 2 dX4_addToOpen_126 rfl ?_
      refine V.aload_n (pc := 127) 0 dX4_addToOpen_127 rfl ?_
      refine gf_X4_25 (pc := 128) (v := nI (wo + 1)) dX4_addToOpen_128 (si_s _ _ _ _) ?_
      refine V.iast (pc := 131) (k := 8 * 1 + 2) (n := 16) (v := nI (wo + 1)) (by omega) (cell_Si (by decide) ⟨by decide, by decide⟩) D.n (by omega) (by decide) dX4_addToOpen_131 rfl ?_
      exact V.vret (pc := 132) hF dX4_addToOpen_132 ⟨rfl, ((((((Fr.refl μ CR).si _ _ (Or.inr (by unfold Blk; omega))).sj _ _ (Or.inr (by unfold Blk; omega))).si _ _ (Or.inr (by unfold Blk; omega))).si _ _ (Or.inl rfl)).si _ _ (Or.inr (by unfold Blk; omega))), hR.put (fun s hs => by simp [si, sj, upd, vp_updL, hs]) (by rw [hlz]; simp [si, sj, upd, vp_updL]) (fun s hs => by simp [si, sj, upd, vp_updL, hs]) (by simp [si, sj, upd, vp_updL]) (fun s hs => by simp [si, sj, upd, vp_updL, hs]) (by rw [if_neg (by omega)]; simp [si, sj, upd, vp_updL]; exact hR.2.2.2.2.2.2.2.2.2.1 D.n hopn) (fun s hs => by simp [si, sj, upd, vp_updL, hs]) (by rw [hbz]; simp [si, sj, upd, vp_updL]) (fun x hx => ad_w1 (D := D) (by rw [hbz, tb1_0 h_59]) (hR.2.2.2.2.2.2.2.2.2.2.2.2.1) (by simp [si, sj, upd, vp_updL]) (fun x hx => by simp [si, sj, upd, vp_updL, hx]) x hx) (by simp [si, sj, upd, vp_updL]) (by simp [si, sj, upd, vp_updL]) (by simp [si, sj, upd, vp_updL]) (by simp [si, sj, upd, vp_updL]) (by simp [si, sj, upd, vp_updL]) (by simp [si, sj, upd, vp_updL]) (by simp [si, sj, upd, vp_updL]) (by simp [si, sj, upd, vp_updL]) (by simp [si, sj, upd, vp_updL])⟩
  · have hbz : bag0 D wo = 0 := if_pos h_12
    have hlz : len0 D wo = 0 := if_pos h_12
    have hsr := shr_le 0 w
    have ha1 : 0 >>> w &&& 1 ≤ 1 := Nat.and_le_right
    refine V.aload_n (pc := 15) 0 dX4_addToOpen_15 rfl ?_
    refine gf_X4_12 (pc := 16) dX4_addToOpen_16 ?_
    refine gf_X4_83 (pc := 19) 1 (by decide) dX4_addToOpen_19 ?_
    refine V.iload_n (pc := 22) 2 dX4_addToOpen_22 rfl ?_
    refine V.iconst (pc := 23) (v := nI 0) dX4_addToOpen_23 (by decide) ?_
    refine V.iast (pc := 24) (k := 8 * 1 + 1) (n := 16) (v := nI 0) (by omega) (cell_Si (by decide) ⟨by decide, by decide⟩) D.n (by omega) (by decide) dX4_addToOpen_24 rfl ?_
    refine V.aload_n (pc := 25) 0 dX4_addToOpen_25 rfl ?_
    refine gf_X4_12 (pc := 26) dX4_addToOpen_26 ?_
    refine gf_X4_86 (pc := 29) 1 (by decide) dX4_addToOpen_29 ?_
    refine V.iload_n (pc := 32) 2 dX4_addToOpen_32 rfl ?_
    refine V.lconst (pc := 33) (v := lN 0) dX4_addToOpen_33 (by decide) ?_
    refine V.last (pc := 34) (k := 8 * 1 + 5) (n := 16) (v := lN 0) (by omega) (cell_Sj (by decide) rfl) D.n (by omega) (by decide) dX4_addToOpen_34 rfl ?_
    refine V.aload_n (pc := 35) 0 dX4_addToOpen_35 rfl ?_
    refine gf_X4_12 (pc := 36) dX4_addToOpen_36 ?_
    refine gf_X4_89 (pc := 39) 1 (by decide) dX4_addToOpen_39 ?_
    refine V.iload_n (pc := 42) 2 dX4_addToOpen_42 rfl ?_
    refine V.iload_n (pc := 43) 1 dX4_addToOpen_43 rfl ?_
    refine V.iast (pc := 44) (k := 8 * 1 + 3) (n := 16) (v := nI w) (by omega) (cell_Si (by decide) ⟨by decide, by decide⟩) D.n (by omega) (by decide) dX4_addToOpen_44 rfl ?_
    refine V.aload_n (pc := 45) 0 dX4_addToOpen_45 rfl ?_
    refine gf_X4_12 (pc := 46) dX4_addToOpen_46 ?_
    refine gf_X4_86 (pc := 49) 1 (by decide) dX4_addToOpen_49 ?_
    refine V.iload_n (pc := 52) 2 dX4_addToOpen_52 rfl ?_
    refine V.lald (pc := 53) (k := 8 * 1 + 5) (n := 16) (v := lN 0) (by omega) (cell_Sj (by decide) rfl) D.n (by omega) (by decide) dX4_addToOpen_53 ((Eq.trans (si_f2 _ _ _ _ _ _) (sj_s _ _ _ _))) ?_
    refine V.iload_n (pc := 54) 1 dX4_addToOpen_54 rfl ?_
    refine V.lushr (pc := 55) (v := lN (0 >>> w)) dX4_addToOpen_55 (ll_ushr (by omega) (by omega)) ?_
    refine V.lconst (pc := 56) (v := lN 1) dX4_addToOpen_56 (by decide) ?_
    refine V.land (pc := 57) (v := lN ((0 >>> w) &&& 1)) dX4_addToOpen_57 (ll_and _ _) ?_
    refine V.lconst (pc := 58) (v := lN 0) dX4_addToOpen_58 (by decide) ?_
    refine V.lcmpN_ne (pc := 59) 76 dX4_addToOpen_59 dX4_addToOpen_60 (by decide) (by omega) (by omega) (fun h_59 => ?_) (fun h_59 => ?_)
    · exact absurd (by simp) h_59
    · refine V.aload_n (pc := 63) 0 dX4_addToOpen_63 rfl ?_
      refine gf_X4_12 (pc := 64) dX4_addToOpen_64 ?_
      refine gf_X4_75 (pc := 67) 1 (by decide) dX4_addToOpen_67 ?_
      refine V.iload_n (pc := 70) 1 dX4_addToOpen_70 rfl ?_
      refine V.dup2 (pc := 71) dX4_addToOpen_71 rfl rfl ?_
      refine V.iald (pc := 72) (k := 8 * 1 + 7) (n := 48) (v := nI (D.wt w)) (by omega) (cell_Sw (by decide) rfl) w (by omega) (by decide) dX4_addToOpen_72 (Eq.trans (congrFun (si_c _ _ _ (by omega)) _) (Eq.trans (sj_f1 _ _ _ _ _ _) (Eq.trans (congrFun (si_c _ _ _ (by omega)) _) (hR.2.2.2.2.2.2.2.2.2.2.2.2.1 w hw)))) ?_
      refine V.iconst (pc := 73) (v := nI 1) dX4_addToOpen_73 (by decide) ?_
      refine V.iadd (pc := 74) (v := nI (D.wt w + 1)) dX4_addToOpen_74 (nI_add _ _) ?_
      refine V.iast (pc := 75) (k := 8 * 1 + 7) (n := 48) (v := nI (D.wt w + 1)) (by omega) (cell_Sw (by decide) rfl) w (by omega) (by decide) dX4_addToOpen_75 rfl ?_
      refine V.aload_n (pc := 76) 0 dX4_addToOpen_76 rfl ?_
      refine gf_X4_12 (pc := 77) dX4_addToOpen_77 ?_
      refine gf_X4_86 (pc := 80) 1 (by decide) dX4_addToOpen_80 ?_
      refine V.iload_n (pc := 83) 2 dX4_addToOpen_83 rfl ?_
      refine V.dup2 (pc := 84) dX4_addToOpen_84 rfl rfl ?_
      refine V.lald (pc := 85) (k := 8 * 1 + 5) (n := 16) (v := lN 0) (by omega) (cell_Sj (by decide) rfl) D.n (by omega) (by decide) dX4_addToOpen_85 ((Eq.trans (si_f2 _ _ _ _ _ _) (Eq.trans (si_f2 _ _ _ _ _ _) (sj_s _ _ _ _)))) ?_
      refine V.lconst (pc := 86) (v := lN 1) dX4_addToOpen_86 (by decide) ?_
      refine V.iload_n (pc := 87) 1 dX4_addToOpen_87 rfl ?_
      refine V.lshl (pc := 88) (v := lN (2 ^ w)) dX4_addToOpen_88 (ll_shl1 (by omega)) ?_
      refine V.lor (pc := 89) (v := lN (0 ||| (2 ^ w))) dX4_addToOpen_89 (ll_or _ _) ?_
      refine V.last (pc := 90) (k := 8 * 1 + 5) (n := 16) (v := lN (0 ||| (2 ^ w))) (by omega) (cell_Sj (by decide) rfl) D.n (by omega) (by decide) dX4_addToOpen_90 rfl ?_
      refine V.aload_n (pc := 91) 0 dX4_addToOpen_91 rfl ?_
      refine gf_X4_12 (pc := 92) dX4_addToOpen_92 ?_
      refine gf_X4_83 (pc := 95) 1 (by decide) dX4_addToOpen_95 ?_
      refine V.iload_n (pc := 98) 2 dX4_addToOpen_98 rfl ?_
      refine V.dup2 (pc := 99) dX4_addToOpen_99 rfl rfl ?_
      refine V.iald (pc := 100) (k := 8 * 1 + 1) (n := 16) (v := nI 0) (by omega) (cell_Si (by decide) ⟨by decide, by decide⟩) D.n (by omega) (by decide) dX4_addToOpen_100 ((Eq.trans (sj_f1 _ _ _ _ _ _) (Eq.trans (congrFun (si_c _ _ _ (by omega)) _) (Eq.trans (congrFun (si_c _ _ _ (by omega)) _) (Eq.trans (sj_f1 _ _ _ _ _ _) (si_s _ _ _ _)))))) ?_
      refine V.aload_n (pc := 101) 0 dX4_addToOpen_101 rfl ?_
      refine gf_X4_28 (pc := 102) (v := nI k) dX4_addToOpen_102 (Eq.trans (sj_f1 _ _ _ _ _ _) (Eq.trans (congrFun (si_c _ _ _ (by omega)) _) (Eq.trans (congrFun (si_c _ _ _ (by omega)) _) (Eq.trans (sj_f1 _ _ _ _ _ _) (Eq.trans (congrFun (si_c _ _ _ (by omega)) _) hR.2.2.2.1))))) ?_
      refine V.iconst (pc := 105) (v := nI 1) dX4_addToOpen_105 (by decide) ?_
      refine V.iadd (pc := 106) (v := nI (k + 1)) dX4_addToOpen_106 (nI_add _ _) ?_
      refine V.iadd (pc := 107) (v := nI (0 + (k + 1))) dX4_addToOpen_107 (nI_add _ _) ?_
      refine V.iast (pc := 108) (k := 8 * 1 + 1) (n := 16) (v := nI (0 + (k + 1))) (by omega) (cell_Si (by decide) ⟨by decide, by decide⟩) D.n (by omega) (by decide) dX4_addToOpen_108 rfl ?_
      refine V.aload_n (pc := 109) 0 dX4_addToOpen_109 rfl ?_
      refine V.dup (pc := 110) dX4_addToOpen_110 rfl ?_
      refine gf_X4_25 (pc := 111) (v := nI wo) dX4_addToOpen_111 (Eq.trans (congrFun (si_c _ _ _ (by omega)) _) (Eq.trans (sj_f1 _ _ _ _ _ _) (Eq.trans (congrFun (si_c _ _ _ (by omega)) _) (Eq.trans (congrFun (si_c _ _ _ (by omega)) _) (Eq.trans (sj_f1 _ _ _ _ _ _) (Eq.trans (congrFun (si_c _ _ _ (by omega)) _) hR.2.2.1)))))) ?_
      refine V.iconst (pc := 114) (v := nI 1) dX4_addToOpen_114 (by decide) ?_
      refine V.iadd (pc := 115) (v := nI (wo + 1)) dX4_addToOpen_115 (nI_add _ _) ?_
      refine pf_X4_25 (pc := 116) dX4_addToOpen_116 ?_
      refine V.aload_n (pc := 119) 0 dX4_addToOpen_119 rfl ?_
      refine gf_X4_12 (pc := 120) dX4_addToOpen_120 ?_
      refine gf_X4_92 (pc := 123) 1 (by decide) dX4_addToOpen_123 ?_
      refine V.iload_n (pc := 126) 2 dX4_addToOpen_126 rfl ?_
      refine V.aload_n (pc := 127) 0 dX4_addToOpen_127 rfl ?_
      refine gf_X4_25 (pc := 128) (v := nI (wo + 1)) dX4_addToOpen_128 (si_s _ _ _ _) ?_
      refine V.iast (pc := 131) (k := 8 * 1 + 2) (n := 16) (v := nI (wo + 1)) (by omega) (cell_Si (by decide) ⟨by decide, by decide⟩) D.n (by omega) (by decide) dX4_addToOpen_131 rfl ?_
      exact V.vret (pc := 132) hF dX4_addToOpen_132 ⟨rfl, (((((((((Fr.refl μ CR).si _ _ (Or.inr (by unfold Blk; omega))).sj _ _ (Or.inr (by unfold Blk; omega))).si _ _ (Or.inr (by unfold Blk; omega))).si _ _ (Or.inr (by unfold Blk; omega))).sj _ _ (Or.inr (by unfold Blk; omega))).si _ _ (Or.inr (by unfold Blk; omega))).si _ _ (Or.inl rfl)).si _ _ (Or.inr (by unfold Blk; omega))), hR.put (fun s hs => by simp [si, sj, upd, vp_updL, hs]) (by rw [hlz]; simp [si, sj, upd, vp_updL]) (fun s hs => by simp [si, sj, upd, vp_updL, hs]) (by simp [si, sj, upd, vp_updL]) (fun s hs => by simp [si, sj, upd, vp_updL, hs]) (by rw [if_pos h_12, updN_s]; simp [si, sj, upd, vp_updL]) (fun s hs => by simp [si, sj, upd, vp_updL, hs]) (by rw [hbz]; simp [si, sj, upd, vp_updL]) (fun x hx => ad_w1 (D := D) (by rw [hbz, Nat.zero_testBit]) (hR.2.2.2.2.2.2.2.2.2.2.2.2.1) (by simp [si, sj, upd, vp_updL]) (fun x hx => by simp [si, sj, upd, vp_updL, hx]) x hx) (by simp [si, sj, upd, vp_updL]) (by simp [si, sj, upd, vp_updL]) (by simp [si, sj, upd, vp_updL]) (by simp [si, sj, upd, vp_updL]) (by simp [si, sj, upd, vp_updL]) (by simp [si, sj, upd, vp_updL]) (by simp [si, sj, upd, vp_updL]) (by simp [si, sj, upd, vp_updL]) (by simp [si, sj, upd, vp_updL])⟩
theorem Rd.new {μ : Mu} {bs : Nat → Nat} {D : TS} {wo k st ft pl : Nat} (h : Rd μ bs (D, wo, k, st, ft, pl)) (hk : 0 < k) (hk10 : k ≤ 10) : Rd (si (sj (si μ (8 * 1) 1 (nI (D.u + 1))) (8 * 1 + 6) D.u (lN (packB bs st (min k 10)))) (8 * 1 + 7) D.u (nI 0)) bs (newW D bs st k, wo, k, st, ft, pl) := by
  obtain ⟨h1, h2, h3, h4, h5, ⟨r1, r2, r3, r4, r5, r6, r7, r8, r9, r10⟩⟩ := h
  refine ⟨by simp [si, sj, upd]; exact h1, by simp [si, sj, upd]; exact h2, by simp [si, sj, upd]; exact h3, by simp [si, sj, upd]; exact h4, fun q => ⟨by simp [si, sj, upd]; exact (h5 q).1, by simp [si, sj, vp_updL]; exact (h5 q).2⟩, ?_⟩
  refine ⟨by simp [si, sj, upd]; exact r1, by simp [si, sj, upd]; rfl, fun s hs => by simp [si, sj, upd]; exact r3 s hs, fun s hs => by simp [si, sj, upd]; exact r4 s hs, fun s hs => by simp [si, sj, upd]; exact r5 s hs, fun s hs => by simp [si, sj, vp_updL]; exact r6 s hs, fun x hx => ?_, fun x hx => ?_, by simp [si, sj, upd]; exact r9, by simp [si, sj, vp_updL]; exact r10⟩
  · have hx2 : x < D.u + 1 := hx
    by_cases e : x = D.u
    · subst e
      have e2 : spl (newW D bs st k) D.u = packB bs st k := by
        unfold spl
        have : (newW D bs st k).nl D.u = k := updN_s _ _ _
        rw [this]
        have key : ∀ m, spUp (newW D bs st k) D.u m = packB bs st m := by
          intro m
          induction m with
          | zero => rfl
          | succ m ih =>
            rw [spUp, packB, ih]
            show _ ||| ((if D.u = D.u then bs (st + m) else D.lt D.u m) - 96) <<< _ = _
            rw [if_pos rfl]
        exact key k
      show _ = lN (spl (newW D bs st k) D.u)
      rw [e2]
      simp [si, sj, vp_updL]
      rw [Nat.min_eq_left hk10]
    · show _ = lN (spl (newW D bs st k) x)
      rw [spl_cong (D := D) (D' := newW D bs st k) (fun j => if_neg e) (updN_n e)]
      simp [si, sj, vp_updL, e]
      exact r7 x (show x < D.u by omega)
  · have hx2 : x < D.u + 1 := hx
    show _ = nI (updN D.wt D.u 0 x)
    by_cases e : x = D.u
    · subst e; rw [updN_s]; simp [si, sj, upd]
    · rw [updN_n e]
      simp [si, sj, upd, e]
      exact r8 x (show x < D.u by omega)
theorem CR_tr {μ μ1 μ2 : Mu} (h : Fr μ μ1 CR) (h2 : Fr μ1 μ2 CR) : Fr μ μ2 CR := h.trans h2 (fun _ h => h) (fun _ h => h)
theorem addW_1 {bs : Nat → Nat} {D : TS} {wo k st ft pl w : Nat} (e : fndW D bs st k = w) (h : w < D.u) : addW bs (D, wo, k, st, ft, pl) = (putW D wo k w, wo + 1, k, st, ft, pl) := by
  subst e
  exact if_pos h
theorem addW_2 {bs : Nat → Nat} {D : TS} {wo k st ft pl : Nat} (e : ¬ fndW D bs st k < D.u) (h : 48 ≤ D.u) : addW bs (D, wo, k, st, ft, pl) = rfs (D, wo, k, st, ft, pl) 3 st := by
  exact (if_neg e).trans (if_pos h)
theorem addW_3 {bs : Nat → Nat} {D : TS} {wo k st ft pl : Nat} (e : ¬ fndW D bs st k < D.u) (h : ¬ 48 ≤ D.u) : addW bs (D, wo, k, st, ft, pl) = (putW (newW D bs st k) wo k D.u, wo + 1, k, st, ft, pl) := by
  exact (if_neg e).trans (if_neg h)
theorem ok_X4_addWord {G : Gx} {μ : Mu} (bs : Nat → Nat) (D : TS) (wo k st ft pl : Nat) (hR : Rd μ bs (D, wo, k, st, ft, pl)) (hV : RV bs (D, wo, k, st, ft, pl)) (hk0 : 0 < k) (hk10 : k ≤ 10) (hn : D.n < 16) (hwo : wo < 30) (hsb : st ≤ 600) (hf3 : ft < 4) : Runs 1 M_X4_addWord [.ref (G.2.2 85)] G μ (fun r μ' => r = none ∧ Fr μ μ' CR ∧ Rd μ' bs (addW bs (D, wo, k, st, ft, pl))) := by
  have hu : D.u ≤ 48 := hV.2.1
  refine Runs.go RX4 rfl (by decide) [(0, .ref (G.2.2 85))] (Nat.le_of_ble_eq_true rfl) rfl (fun X hF => ?_)
  refine V.aload_n (pc := 0) 0 dX4_addWord_0 rfl ?_
  refine gf_X4_12 (pc := 1) dX4_addWord_1 ?_
  refine V.aload_n (pc := 4) 0 dX4_addWord_4 rfl ?_
  refine gf_X4_34 (pc := 5) (v := lN (packB bs st (min k 10))) dX4_addWord_5 (hR.2.2.2.2.1 hk0).2 ?_
  by_cases hf : fndW D bs st k < D.u
  · refine cp_X4_64 (pc := 8) 1 (by decide) dX4_addWord_8 (by have h := ok_X6_wordSpelled (G := G) (μ := μ) D (packB bs st (min k 10)) (mtB D bs st k) hR.2.2.2.2.2.2.1 hu hR.2.2.2.2.2.2.2.2.2.2.2.1 (fun x hx => spl_lt (hV.2.2.2.2.2.2.2.2.1 x hx).2.2.1 (hV.2.2.2.2.2.2.2.2.1 x hx).2.1) (by rw [Nat.min_eq_left hk10]; exact packB_lt hV.2.2.2.2.2.2.2.2.2 hk10) (fun x hx => by rw [Nat.min_eq_left hk10]; exact spl_eq (hV.2.2.2.2.2.2.2.2.1 x hx).2.2.1 hV.2.2.2.2.2.2.2.2.2); rw [if_pos (show fdW (mtB D bs st k) D.u < D.u from hf)] at h; exact h) (by omega) (Nat.le_of_ble_eq_true rfl) ?_
    refine V.istore_n (pc := 11) (lv' := [(0, .ref (G.2.2 85)), (1, .int (nI (fndW D bs st k)))]) dX4_addWord_11 (by decide) rfl ?_
    refine V.iload_n (pc := 12) 1 dX4_addWord_12 rfl ?_
    refine V.iconst (pc := 13) (v := (-1)) dX4_addWord_13 (by decide) ?_
    refine V.icmp_ne (pc := 14) 83 dX4_addWord_14 (by decide) (fun h_14 => ?_) (fun h_14 => ?_)
    · refine V.aload_n (pc := 83) 0 dX4_addWord_83 rfl ?_
      refine V.iload_n (pc := 84) 1 dX4_addWord_84 rfl ?_
      refine cl_X4_79 (pc := 85) dX4_addWord_85 (ok_X4_addToOpen bs D wo k st ft pl hR hV hk0 hk10 hn hwo (fndW D bs st k) hf) (by omega) (Nat.le_of_ble_eq_true rfl) (fun r_ μ_ h_ => ?_)
      obtain ⟨rfl, hfrA, hRA⟩ := h_
      exact V.vret (pc := 88) hF dX4_addWord_88 ⟨rfl, hfrA, by rw [addW_1 rfl hf]; exact hRA⟩
    · exact absurd h_14 (nn_ne_m1 (by omega))
  · refine cp_X4_64 (pc := 8) 1 (by decide) dX4_addWord_8 (by have h := ok_X6_wordSpelled (G := G) (μ := μ) D (packB bs st (min k 10)) (mtB D bs st k) hR.2.2.2.2.2.2.1 hu hR.2.2.2.2.2.2.2.2.2.2.2.1 (fun x hx => spl_lt (hV.2.2.2.2.2.2.2.2.1 x hx).2.2.1 (hV.2.2.2.2.2.2.2.2.1 x hx).2.1) (by rw [Nat.min_eq_left hk10]; exact packB_lt hV.2.2.2.2.2.2.2.2.2 hk10) (fun x hx => by rw [Nat.min_eq_left hk10]; exact spl_eq (hV.2.2.2.2.2.2.2.2.1 x hx).2.2.1 hV.2.2.2.2.2.2.2.2.2); rw [if_neg (show ¬ fdW (mtB D bs st k) D.u < D.u from hf)] at h; exact h) (by omega) (Nat.le_of_ble_eq_true rfl) ?_
    refine V.istore_n (pc := 11) (lv' := [(0, .ref (G.2.2 85)), (1, .int (-1))]) dX4_addWord_11 (by decide) rfl ?_
    refine V.iload_n (pc := 12) 1 dX4_addWord_12 rfl ?_
    refine V.iconst (pc := 13) (v := (-1)) dX4_addWord_13 (by decide) ?_
    refine V.icmp_ne (pc := 14) 83 dX4_addWord_14 (by decide) (fun h_14 => ?_) (fun h_14 => ?_)
    · exact absurd rfl h_14
    · refine V.aload_n (pc := 17) 0 dX4_addWord_17 rfl ?_
      refine gf_X4_12 (pc := 18) dX4_addWord_18 ?_
      refine gf_X4_68 (pc := 21) 1 (by decide) (v := nI D.u) dX4_addWord_21 hR.2.2.2.2.2.2.1 ?_
      refine V.bipush (pc := 24) (v := nI 48) dX4_addWord_24 (by decide) ?_
      refine V.icmpN_lt (pc := 26) 39 dX4_addWord_26 (by decide) (by omega) (by omega) (fun h_26 => ?_) (fun h_26 => ?_)
      · refine V.aload_n (pc := 39) 0 dX4_addWord_39 rfl ?_
        refine gf_X4_12 (pc := 40) dX4_addWord_40 ?_
        refine gf_X4_68 (pc := 43) 1 (by decide) (v := nI D.u) dX4_addWord_43 hR.2.2.2.2.2.2.1 ?_
        refine V.istore_n (pc := 46) (lv' := [(0, .ref (G.2.2 85)), (1, .int (nI D.u))]) dX4_addWord_46 (by decide) rfl ?_
        refine V.aload_n (pc := 47) 0 dX4_addWord_47 rfl ?_
        refine gf_X4_12 (pc := 48) dX4_addWord_48 ?_
        refine V.dup (pc := 51) dX4_addWord_51 rfl ?_
        refine gf_X4_68 (pc := 52) 1 (by decide) (v := nI D.u) dX4_addWord_52 hR.2.2.2.2.2.2.1 ?_
        refine V.iconst (pc := 55) (v := nI 1) dX4_addWord_55 (by decide) ?_
        refine V.iadd (pc := 56) (v := nI (D.u + 1)) dX4_addWord_56 (nI_add _ _) ?_
        refine pf_X4_68 (pc := 57) 1 (by decide) dX4_addWord_57 ?_
        refine V.aload_n (pc := 60) 0 dX4_addWord_60 rfl ?_
        refine gf_X4_12 (pc := 61) dX4_addWord_61 ?_
        refine gf_X4_71 (pc := 64) 1 (by decide) dX4_addWord_64 ?_
        refine V.iload_n (pc := 67) 1 dX4_addWord_67 rfl ?_
        refine V.aload_n (pc := 68) 0 dX4_addWord_68 rfl ?_
        refine gf_X4_34 (pc := 69) (v := lN (packB bs st (min k 10))) dX4_addWord_69 (Eq.trans (si_f2 _ _ _ _ _ _) (hR.2.2.2.2.1 hk0).2) ?_
        refine V.last (pc := 72) (k := 8 * 1 + 6) (n := 48) (v := lN (packB bs st (min k 10))) (by omega) (cell_Sp (by decide) rfl) D.u (by omega) (by decide) dX4_addWord_72 rfl ?_
        refine V.aload_n (pc := 73) 0 dX4_addWord_73 rfl ?_
        refine gf_X4_12 (pc := 74) dX4_addWord_74 ?_
        refine gf_X4_75 (pc := 77) 1 (by decide) dX4_addWord_77 ?_
        refine V.iload_n (pc := 80) 1 dX4_addWord_80 rfl ?_
        refine V.iconst (pc := 81) (v := nI 0) dX4_addWord_81 (by decide) ?_
        refine V.iast (pc := 82) (k := 8 * 1 + 7) (n := 48) (v := nI 0) (by omega) (cell_Sw (by decide) rfl) D.u (by omega) (by decide) dX4_addWord_82 rfl ?_
        refine V.aload_n (pc := 83) 0 dX4_addWord_83 rfl ?_
        refine V.iload_n (pc := 84) 1 dX4_addWord_84 rfl ?_
        refine cl_X4_79 (pc := 85) dX4_addWord_85 (ok_X4_addToOpen bs (newW D bs st k) wo k st ft pl (hR.new hk0 hk10) (hV.new (by omega) hk0 hk10) hk0 hk10 hn hwo D.u (Nat.lt_succ_self _)) (by omega) (Nat.le_of_ble_eq_true rfl) (fun r_ μ_ h_ => ?_)
        obtain ⟨rfl, hfrA, hRA⟩ := h_
        exact V.vret (pc := 88) hF dX4_addWord_88 ⟨rfl, CR_tr ((((Fr.refl μ CR).si _ _ (Or.inr (by unfold Blk; omega))).sj _ _ (Or.inr (by unfold Blk; omega))).si _ _ (Or.inr (by unfold Blk; omega))) hfrA, by rw [addW_3 hf (by omega)]; exact hRA⟩
      · refine V.aload_n (pc := 29) 0 dX4_addWord_29 rfl ?_
        refine V.iconst (pc := 30) (v := nI 3) dX4_addWord_30 (by decide) ?_
        refine V.aload_n (pc := 31) 0 dX4_addWord_31 rfl ?_
        refine gf_X4_31 (pc := 32) (v := nI st) dX4_addWord_32 (hR.2.2.2.2.1 hk0).1 ?_
        refine cl_X4_51 (pc := 35) dX4_addWord_35 (ok_X4_refuse bs (D, wo, k, st, ft, pl) hR 3 st hf3) (by omega) (Nat.le_of_ble_eq_true rfl) (fun r_ μ_ h_ => ?_)
        obtain ⟨rfl, hfrA, hRA⟩ := h_
        exact V.vret (pc := 38) hF dX4_addWord_38 ⟨rfl, hfrA, by rw [addW_2 hf (by omega)]; exact hRA⟩
theorem Rd.clr {μ : Mu} {bs : Nat → Nat} {M : RM} (h : Rd μ bs M) : Rd (si μ 85 4 (nI 0)) bs (clrK M) := by
  obtain ⟨h1, h2, h3, h4, h5, h6⟩ := h
  exact ⟨by simp [si, upd]; exact h1, by simp [si, upd]; exact h2, by simp [si, upd]; exact h3, by simp [si, upd]; rfl, fun q => absurd q (by show ¬ 0 < 0; omega), h6.si _ _⟩
theorem rfs_ft {M : RM} {f a : Nat} (h : M.ft < 4) (hf : f < 4) : (rfs M f a).ft < 4 := by
  unfold rfs
  split
  · exact hf
  · exact h
theorem ok_X4_endWord {G : Gx} {μ : Mu} (bs : Nat → Nat) (D : TS) (wo k st ft pl : Nat) (hR : Rd μ bs (D, wo, k, st, ft, pl)) (hV : RV bs (D, wo, k, st, ft, pl)) (hkb : k ≤ 600) (hsb : st ≤ 600) (hf3 : ft < 4) : Runs 2 M_X4_endWord [.ref (G.2.2 85)] G μ (fun r μ' => r = none ∧ Fr μ μ' CR ∧ Rd μ' bs (endW bs (D, wo, k, st, ft, pl))) := by
  have hu : D.u ≤ 48 := hV.2.1
  have hn : D.n ≤ 16 := hV.1
  have hwo : wo ≤ 30 := hV.2.2.1
  refine Runs.go RX4 rfl (by decide) [(0, .ref (G.2.2 85))] (Nat.le_of_ble_eq_true rfl) rfl (fun X hF => ?_)
  refine V.aload_n (pc := 0) 0 dX4_endWord_0 rfl ?_
  refine gf_X4_28 (pc := 1) (v := nI k) dX4_endWord_1 hR.2.2.2.1 ?_
  refine V.ifN_ne (pc := 4) 8 dX4_endWord_4 (by decide) (by omega) (fun h_4 => ?_) (fun h_4 => ?_)
  · have hk0 : 0 < (k : Nat) := h_4
    refine V.aload_n (pc := 8) 0 dX4_endWord_8 rfl ?_
    refine gf_X4_28 (pc := 9) (v := nI k) dX4_endWord_9 hR.2.2.2.1 ?_
    refine V.bipush (pc := 12) (v := nI 10) dX4_endWord_12 (by decide) ?_
    refine V.icmpN_le (pc := 14) 29 dX4_endWord_14 (by decide) (by omega) (by omega) (fun h_14 => ?_) (fun h_14 => ?_)
    · refine V.aload_n (pc := 29) 0 dX4_endWord_29 rfl ?_
      refine gf_X4_12 (pc := 30) dX4_endWord_30 ?_
      refine gf_X4_58 (pc := 33) 1 (by decide) (v := nI D.n) dX4_endWord_33 hR.2.2.2.2.2.1 ?_
      refine V.bipush (pc := 36) (v := nI 16) dX4_endWord_36 (by decide) ?_
      refine V.icmpN_ge (pc := 38) 50 dX4_endWord_38 (by decide) (by omega) (by omega) (fun h_38 => ?_) (fun h_38 => ?_)
      · refine V.aload_n (pc := 50) 0 dX4_endWord_50 rfl ?_
        refine V.iconst (pc := 51) (v := nI 3) dX4_endWord_51 (by decide) ?_
        refine V.aload_n (pc := 52) 0 dX4_endWord_52 rfl ?_
        refine gf_X4_31 (pc := 53) (v := nI st) dX4_endWord_53 (hR.2.2.2.2.1 hk0).1 ?_
        refine cl_X4_51 (pc := 56) dX4_endWord_56 (ok_X4_refuse bs (D, wo, k, st, ft, pl) hR 3 st hf3) (by omega) (Nat.le_of_ble_eq_true rfl) (fun r_ μ_ h_ => ?_)
        obtain ⟨rfl, hfrA, hRA⟩ := h_
        refine V.goto (pc := 59) 66 dX4_endWord_59 (by decide) ?_
        refine V.aload_n (pc := 66) 0 dX4_endWord_66 rfl ?_
        refine V.iconst (pc := 67) (v := nI 0) dX4_endWord_67 (by decide) ?_
        refine pf_X4_28 (pc := 68) dX4_endWord_68 ?_
        exact V.vret (pc := 71) hF dX4_endWord_71 ⟨rfl, hfrA.si _ _ (Or.inl rfl), by rw [endW, if_neg (by show ¬ k = 0; omega), if_neg (by show ¬ 10 < k; omega), if_pos (by show 16 ≤ D.n ∨ 30 ≤ wo; omega)]; exact hRA.clr⟩
      · refine V.aload_n (pc := 41) 0 dX4_endWord_41 rfl ?_
        refine gf_X4_25 (pc := 42) (v := nI wo) dX4_endWord_42 hR.2.2.1 ?_
        refine V.bipush (pc := 45) (v := nI 30) dX4_endWord_45 (by decide) ?_
        refine V.icmpN_lt (pc := 47) 62 dX4_endWord_47 (by decide) (by omega) (by omega) (fun h_47 => ?_) (fun h_47 => ?_)
        · refine V.aload_n (pc := 62) 0 dX4_endWord_62 rfl ?_
          refine cl_X4_61 (pc := 63) dX4_endWord_63 (ok_X4_addWord bs D wo k st ft pl hR hV hk0 (by omega) (by omega) (by omega) hsb hf3) (by omega) (Nat.le_of_ble_eq_true rfl) (fun r_ μ_ h_ => ?_)
          obtain ⟨rfl, hfrA, hRA⟩ := h_
          refine V.aload_n (pc := 66) 0 dX4_endWord_66 rfl ?_
          refine V.iconst (pc := 67) (v := nI 0) dX4_endWord_67 (by decide) ?_
          refine pf_X4_28 (pc := 68) dX4_endWord_68 ?_
          exact V.vret (pc := 71) hF dX4_endWord_71 ⟨rfl, hfrA.si _ _ (Or.inl rfl), by rw [endW, if_neg (by show ¬ k = 0; omega), if_neg (by show ¬ 10 < k; omega), if_neg (by show ¬ (16 ≤ D.n ∨ 30 ≤ wo); omega)]; exact hRA.clr⟩
        · refine V.aload_n (pc := 50) 0 dX4_endWord_50 rfl ?_
          refine V.iconst (pc := 51) (v := nI 3) dX4_endWord_51 (by decide) ?_
          refine V.aload_n (pc := 52) 0 dX4_endWord_52 rfl ?_
          refine gf_X4_31 (pc := 53) (v := nI st) dX4_endWord_53 (hR.2.2.2.2.1 hk0).1 ?_
          refine cl_X4_51 (pc := 56) dX4_endWord_56 (ok_X4_refuse bs (D, wo, k, st, ft, pl) hR 3 st hf3) (by omega) (Nat.le_of_ble_eq_true rfl) (fun r_ μ_ h_ => ?_)
          obtain ⟨rfl, hfrA, hRA⟩ := h_
          refine V.goto (pc := 59) 66 dX4_endWord_59 (by decide) ?_
          refine V.aload_n (pc := 66) 0 dX4_endWord_66 rfl ?_
          refine V.iconst (pc := 67) (v := nI 0) dX4_endWord_67 (by decide) ?_
          refine pf_X4_28 (pc := 68) dX4_endWord_68 ?_
          exact V.vret (pc := 71) hF dX4_endWord_71 ⟨rfl, hfrA.si _ _ (Or.inl rfl), by rw [endW, if_neg (by show ¬ k = 0; omega), if_neg (by show ¬ 10 < k; omega), if_pos (by show 16 ≤ D.n ∨ 30 ≤ wo; omega)]; exact hRA.clr⟩
    · refine V.aload_n (pc := 17) 0 dX4_endWord_17 rfl ?_
      refine V.iconst (pc := 18) (v := nI 2) dX4_endWord_18 (by decide) ?_
      refine V.aload_n (pc := 19) 0 dX4_endWord_19 rfl ?_
      refine gf_X4_31 (pc := 20) (v := nI st) dX4_endWord_20 (hR.2.2.2.2.1 hk0).1 ?_
      refine cl_X4_51 (pc := 23) dX4_endWord_23 (ok_X4_refuse bs (D, wo, k, st, ft, pl) hR 2 st hf3) (by omega) (Nat.le_of_ble_eq_true rfl) (fun r_ μ_ h_ => ?_)
      obtain ⟨rfl, hfrA, hRA⟩ := h_
      refine V.goto (pc := 26) 66 dX4_endWord_26 (by decide) ?_
      refine V.aload_n (pc := 66) 0 dX4_endWord_66 rfl ?_
      refine V.iconst (pc := 67) (v := nI 0) dX4_endWord_67 (by decide) ?_
      refine pf_X4_28 (pc := 68) dX4_endWord_68 ?_
      exact V.vret (pc := 71) hF dX4_endWord_71 ⟨rfl, hfrA.si _ _ (Or.inl rfl), by rw [endW, if_neg (by show ¬ k = 0; omega), if_pos (by show 10 < k; omega)]; exact hRA.clr⟩
  · exact V.vret (pc := 7) hF dX4_endWord_7 ⟨rfl, Fr.refl _ _, by rw [show endW bs (D, wo, k, st, ft, pl) = (D, wo, k, st, ft, pl) from if_pos h_4]; exact hR⟩
