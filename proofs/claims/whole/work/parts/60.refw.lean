theorem ok_wrong0 {G : Gx} {μ : Mu} (c w : Nat) (hf : μ.1 96 6 = nI 0) : Runs 0 M_X9_wrong [.ref (G.2.2 96), .int (nI c), .int (nI w)] G μ (fun r μ' => r = none ∧ μ' = si (si μ 96 6 (nI c)) 96 7 (nI w)) := by
  refine Runs.go RX9 rfl (by decide) [(0, .ref (G.2.2 96)), (1, .int (nI c)), (2, .int (nI w))] (Nat.le_of_ble_eq_true rfl) rfl (fun X hF => ?_)
  refine V.aload_n (pc := 0) 0 dX9_wrong_0 rfl ?_
  refine gf_X9_79 (pc := 1) (v := nI 0) dX9_wrong_1 hf ?_
  refine V.ifN_ne (pc := 4) 17 dX9_wrong_4 (by decide) (by decide) (fun h_ => absurd h_ (by decide)) (fun h_4 => ?_)
  refine V.aload_n (pc := 7) 0 dX9_wrong_7 rfl ?_
  refine V.iload_n (pc := 8) 1 dX9_wrong_8 rfl ?_
  refine pf_X9_79 (pc := 9) dX9_wrong_9 ?_
  refine V.aload_n (pc := 12) 0 dX9_wrong_12 rfl ?_
  refine V.iload_n (pc := 13) 2 dX9_wrong_13 rfl ?_
  refine pf_X9_82 (pc := 14) dX9_wrong_14 ?_
  exact V.vret (pc := 17) hF dX9_wrong_17 ⟨rfl, rfl⟩
theorem ok_wrong1 {G : Gx} {μ : Mu} (f c w : Nat) (hf : μ.1 96 6 = nI f) (hfb : 0 < f ∧ f < 4) : Runs 0 M_X9_wrong [.ref (G.2.2 96), .int (nI c), .int (nI w)] G μ (fun r μ' => r = none ∧ μ' = μ) := by
  refine Runs.go RX9 rfl (by decide) [(0, .ref (G.2.2 96)), (1, .int (nI c)), (2, .int (nI w))] (Nat.le_of_ble_eq_true rfl) rfl (fun X hF => ?_)
  refine V.aload_n (pc := 0) 0 dX9_wrong_0 rfl ?_
  refine gf_X9_79 (pc := 1) (v := nI f) dX9_wrong_1 hf ?_
  refine V.ifN_ne (pc := 4) 17 dX9_wrong_4 (by decide) (by omega) (fun h_4 => ?_) (fun h_4 => ?_)
  · exact V.vret (pc := 17) hF dX9_wrong_17 ⟨rfl, rfl⟩
  · exact absurd h_4 (by omega)
theorem ew_long {bs : Nat → Nat} {D : TS} {wo j p pl : Nat} (h : 10 < j) : endW bs (D, wo, j, p, 0, pl) = (D, wo, 0, p, 2, p + 1) := (if_neg (show ¬ j = 0 by omega)).trans (if_pos h)
theorem ew_many {bs : Nat → Nat} {D : TS} {wo j p pl : Nat} (h0 : 0 < j) (h : j ≤ 10) (h2 : 16 ≤ D.n ∨ 30 ≤ wo) : endW bs (D, wo, j, p, 0, pl) = (D, wo, 0, p, 3, p + 1) := (if_neg (show ¬ j = 0 by omega)).trans ((if_neg (show ¬ 10 < j by omega)).trans (if_pos h2))
theorem ew_add {bs : Nat → Nat} {D : TS} {wo j p pl : Nat} (h0 : 0 < j) (h : j ≤ 10) (h2 : ¬ (16 ≤ D.n ∨ 30 ≤ wo)) : endW bs (D, wo, j, p, 0, pl) = clrK (addW bs (D, wo, j, p, 0, pl)) := (if_neg (show ¬ j = 0 by omega)).trans ((if_neg (show ¬ 10 < j by omega)).trans (if_neg h2))
theorem sm_no {bs : Nat → Nat} {m e : Nat} (he : e ≤ m) (h : smB bs m e = false) : e = m ∨ isLt (bs e) = false := by
  by_cases c : e = m
  · exact Or.inl c
  · unfold smB at h
    rw [decide_eq_true (show e < m by omega), Bool.true_and] at h
    exact Or.inr h
theorem sm_yes {bs : Nat → Nat} {m e : Nat} (h : smB bs m e = true) : e < m ∧ isLt (bs e) = true := by
  unfold smB at h
  rw [Bool.and_eq_true] at h
  exact ⟨of_decide_eq_true h.1, h.2⟩
theorem FL_w {μ : Mu} {bs : Nat → Nat} {m e f w : Nat} {M : RM} {D' : TS} {wo' : Nat} (he : e ≤ m) (hsm : smB bs m e = false) (hM : rrun bs e = M) (h0 : M.ft = 0) (hE : endW bs M = (D', wo', 0, w, f, w + 1)) (hf : 0 < f ∧ f < 4) (h6 : μ.1 96 6 = nI f) (h7 : μ.1 96 7 = nI w) : FL μ bs m := by
  have e1 : endW bs (rrun bs e) = (D', wo', 0, w, f, w + 1) := by rw [hM]; exact hE
  have h := fl_w he (sm_no he hsm) (by rw [hM]; exact h0) (by rw [e1]; show f ≠ 0; omega)
  rw [e1] at h
  exact ⟨f, w, h6, h7, hf.1, hf.2, h.1, h.2⟩
theorem Tm_new {μ1 μ2 μ3 : Mu} {D : TS} {bs : Nat → Nat} {B p j : Nat} (hT : Tm μ1 D B) (hn : D.n < 16) (hj : j ≤ 10) (hnl : ∀ w, w < D.u → D.nl w ≤ 10) (e3 : ∀ i, i ≠ 1 → (i < 69 + 12 * D.u ∨ 69 + 12 * D.u + 10 ≤ i) → μ2.2 100 i = μ1.2 100 i) (e4 : μ2.2 100 1 = lN (D.u + 1)) (e5 : ∀ i, i < 10 → i < j → μ2.2 100 (69 + 12 * D.u + i) = lN (bs (p + i))) (e : μ3 = sj (sj μ2 100 (69 + 12 * D.u + 10) (lN j)) 100 (69 + 12 * D.u + 10 + 1) (-1)) : Tm μ3 (newW D bs p j) B ∧ ∀ i, i ≠ 1 → i < 69 → μ3.2 100 i = μ1.2 100 i := by
  subst e
  obtain ⟨h1, h2, h3, h4, h5, h6, h7⟩ := hT
  have k : ∀ i, i ≠ 1 → i < 69 + 12 * D.u → (sj (sj μ2 100 (69 + 12 * D.u + 10) (lN j)) 100 (69 + 12 * D.u + 10 + 1) (-1)).2 100 i = μ1.2 100 i := fun i a b => by rw [sj_i _ _ _ (by omega), sj_i _ _ _ (by omega)]; exact e3 i a (Or.inl b)
  refine ⟨⟨by rw [k _ (by decide) (by omega)]; exact h1, by rw [sj_i _ _ _ (by omega), sj_i _ _ _ (by omega)]; exact e4, by rw [k _ (by decide) (by omega)]; exact h3, by rw [k _ (by decide) (by omega)]; exact h4, by rw [k _ (by decide) (by omega)]; exact h5, fun s hs => ?_, fun x hx => ?_⟩, fun i a b => k i a (by omega)⟩
  · have hs : s < D.n := hs
    rw [k _ (by omega) (by omega), k _ (by omega) (by omega), k _ (by omega) (by omega), k _ (by omega) (by omega)]; exact h6 s hs
  · have hx : x < D.u + 1 := hx
    by_cases z : x = D.u
    · subst z
      have en : (newW D bs p j).nl D.u = j := updN_s _ _ _
      rw [en]
      refine ⟨fun q hq => ?_, by rw [sj_i _ _ _ (by omega), sj_s], by rw [sj_s]⟩
      rw [sj_i _ _ _ (by omega), sj_i _ _ _ (by omega), e5 q (by omega) hq]
      show _ = lN (if D.u = D.u then bs (p + q) else _)
      rw [if_pos rfl]
    · have en : (newW D bs p j).nl x = D.nl x := updN_n z
      have hq10 := hnl x (by omega)
      rw [en, k _ (by omega) (by omega), k _ (by omega) (by omega)]
      refine ⟨fun q hq => ?_, (h7 x (by omega)).2.1, (h7 x (by omega)).2.2⟩
      rw [k _ (by omega) (by omega)]
      show _ = lN (if x = D.u then _ else D.lt x q)
      rw [if_neg z]
      exact (h7 x (by omega)).1 q hq
theorem Tm_put {μ3 μ4 : Mu} {D : TS} {B wo j w : Nat} (hT : Tm μ3 D B) (hn : D.n < 16) (f1 : ∀ i, i ≠ 5 + 4 * D.n → i ≠ 5 + 4 * D.n + 1 → i ≠ 5 + 4 * D.n + 2 → i ≠ 5 + 4 * D.n + 3 → μ4.2 100 i = μ3.2 100 i) (f2 : μ4.2 100 (5 + 4 * D.n) = lN (bag0 D wo ||| 2 ^ w)) (f3 : μ4.2 100 (5 + 4 * D.n + 1) = lN (len0 D wo + (j + 1))) (f4 : μ4.2 100 (5 + 4 * D.n + 2) = lN (wo + 1)) (f5 : μ4.2 100 (5 + 4 * D.n + 3) = lN ((if wo = 0 then updN D.fst D.n w else D.fst) D.n)) : Tm μ4 (putW D wo j w) B ∧ To μ4 (putW D wo j w) (wo + 1) := by
  obtain ⟨h1, h2, h3, h4, h5, h6, h7⟩ := hT
  have g : ∀ i, i < 5 ∨ 69 ≤ i → μ4.2 100 i = μ3.2 100 i := fun i hi => f1 i (by omega) (by omega) (by omega) (by omega)
  refine ⟨⟨by rw [g _ (by omega)]; exact h1, by rw [g _ (by omega)]; exact h2, by rw [g _ (by omega)]; exact h3, by rw [g _ (by omega)]; exact h4, by rw [g _ (by omega)]; exact h5, fun s hs => ?_, fun x hx => ?_⟩, ?_, ?_, f4, fun _ => f5⟩
  · have hs : s < D.n := hs
    have ne : s ≠ D.n := by omega
    have e1 : (putW D wo j w).bag s = D.bag s := updN_n ne
    have e2 : (putW D wo j w).len s = D.len s := updN_n ne
    have e3 : (putW D wo j w).cnt s = D.cnt s := updN_n ne
    have e4 : (putW D wo j w).fst s = D.fst s := by
      show (if wo = 0 then updN D.fst D.n w else D.fst) s = _
      split
      · exact updN_n ne
      · rfl
    rw [e1, e2, e3, e4, f1 _ (by omega) (by omega) (by omega) (by omega), f1 _ (by omega) (by omega) (by omega) (by omega), f1 _ (by omega) (by omega) (by omega) (by omega), f1 _ (by omega) (by omega) (by omega) (by omega)]
    exact h6 s hs
  · refine ⟨fun q hq => ?_, ?_, ?_⟩
    · rw [g _ (by omega)]; exact (h7 x hx).1 q hq
    · rw [g _ (by omega)]; exact (h7 x hx).2.1
    · rw [g _ (by omega)]; exact (h7 x hx).2.2
  · rw [bag0, if_neg (by omega)]
    show _ = lN (updN D.bag D.n (bag0 D wo ||| 2 ^ w) D.n)
    rw [updN_s]; exact f2
  · rw [len0, if_neg (by omega)]
    show _ = lN (updN D.len D.n (len0 D wo + (j + 1)) D.n)
    rw [updN_s]; exact f3
def WP (μ : Mu) (bs : Nat → Nat) (m B n0 p : Nat) : Prop := (∃ (e : Nat) (D : TS) (wo st pl : Nat), endW bs (rrun bs e) = (D, wo, 0, st, 0, pl) ∧ p < e ∧ e ≤ m ∧ smB bs m e = false ∧ μ.1 96 4 = nI e ∧ μ.1 96 6 = nI 0 ∧ Tm μ D B ∧ To μ D wo ∧ D.n = n0 ∧ 0 < wo) ∨ FL μ bs m
theorem wput {μ3 μ4 : Mu} {D D2 : TS} {B wo j w : Nat} (hT : Tm μ3 D2 B) (hf : D2.n = D.n ∧ D2.bag = D.bag ∧ D2.len = D.len ∧ D2.fst = D.fst) (hn : D.n < 16) (f1 : ∀ i, i ≠ 5 + 4 * D.n → i ≠ 5 + 4 * D.n + 1 → i ≠ 5 + 4 * D.n + 2 → i ≠ 5 + 4 * D.n + 3 → μ4.2 100 i = μ3.2 100 i) (f2 : μ4.2 100 (5 + 4 * D.n) = lN (bag0 D wo ||| 2 ^ w)) (f3 : μ4.2 100 (5 + 4 * D.n + 1) = lN (len0 D wo + (j + 1))) (f4 : μ4.2 100 (5 + 4 * D.n + 2) = lN (wo + 1)) (f5 : μ4.2 100 (5 + 4 * D.n + 3) = lN ((if wo = 0 then updN D2.fst D.n w else D2.fst) D.n)) : Tm μ4 (putW D2 wo j w) B ∧ To μ4 (putW D2 wo j w) (wo + 1) := by
  have e1 : bag0 D2 wo = bag0 D wo := by unfold bag0; rw [hf.1, hf.2.1]
  have e2 : len0 D2 wo = len0 D wo := by unfold len0; rw [hf.1, hf.2.2.1]
  exact Tm_put hT (by rw [hf.1]; exact hn) (by rw [hf.1]; exact f1) (by rw [hf.1, e1]; exact f2) (by rw [hf.1, e2]; exact f3) (by rw [hf.1]; exact f4) (by rw [hf.1]; exact f5)
theorem let_st {μ2 : Mu} {w k j : Nat} {v : Int64} {g : Nat → Nat} (h : ∀ i, i < k → i < j → μ2.2 100 (69 + 12 * w + i) = lN (g i)) (hv : k < j → v = lN (g k)) : ∀ i, i < k + 1 → i < j → (sj μ2 100 (69 + 12 * w + k) v).2 100 (69 + 12 * w + i) = lN (g i) := by
  intro i hi hj
  by_cases e : i = k
  · subst e; rw [sj_s]; exact hv hj
  · rw [sj_i _ _ _ (by omega)]; exact h i (by omega) hj
theorem ok_X9_readsWord {G : Gx} {μ : Mu} (bs : Nat → Nat) (m : Nat) (hB : Bs μ bs m) (D : TS) (B wo st pl p : Nat) (hT : Tm μ D B) (hO : To μ D wo) (hM : rrun bs p = (D, wo, 0, st, 0, pl)) (hp : p < m) (hl : isLt (bs p) = true) (hat : μ.1 96 4 = nI p) (hf : μ.1 96 6 = nI 0) (hn : D.n < 16) : Runs 3 M_X9_readsWord [.ref (G.2.2 96), .int (nI D.n)] G μ (fun r μ' => r = none ∧ Kt μ μ' ∧ WP μ' bs m B D.n p) := by
  have hm6 := hB.2.1
  refine Runs.go RX9 rfl (by decide) [(0, .ref (G.2.2 96)), (1, .int (nI D.n))] (Nat.le_of_ble_eq_true rfl) rfl (fun X hF => ?_)
  refine V.aload_n (pc := 0) 0 dX9_readsWord_0 rfl ?_
  refine gf_X9_73 (pc := 1) (v := nI p) dX9_readsWord_1 hat ?_
  refine V.istore_n (pc := 4) (lv' := [(0, .ref (G.2.2 96)), (1, .int (nI D.n)), (2, .int (nI p))]) dX9_readsWord_4 (by decide) rfl ?_
  refine V.iconst (pc := 5) (v := nI 0) dX9_readsWord_5 (by decide) ?_
  refine V.istore_n (pc := 6) (lv' := [(0, .ref (G.2.2 96)), (1, .int (nI D.n)), (2, .int (nI p)), (3, .int (nI 0))]) dX9_readsWord_6 (by decide) rfl ?_
  refine V.iload_n (pc := 7) 1 dX9_readsWord_7 rfl ?_
  refine cp_X9_66 (pc := 8) dX9_readsWord_8 (ok_X9_sentenceAt D.n) (by omega) (Nat.le_of_ble_eq_true rfl) ?_
  refine V.istore (pc := 11) (lv' := [(0, .ref (G.2.2 96)), (1, .int (nI D.n)), (2, .int (nI p)), (3, .int (nI 0)), (4, .int (nI (5 + 4 * D.n)))]) dX9_readsWord_11 (by decide) rfl ?_
  have L13 : ∀ (n_ : Nat) (j : Nat), (p + j ≤ m) → (rrun bs (p + j) = (D, wo, j, (if j = 0 then st else p), 0, pl)) → m - (p + j) < n_ → V G RX9 cX9_readsWord 7 3 X 13 [(0, .ref (G.2.2 96)), (1, .int (nI D.n)), (2, .int (nI p)), (3, .int (nI j)), (4, .int (nI (5 + 4 * D.n)))] [] (si μ 96 4 (nI (p + j))) := by
    intro n_
    induction n_ with
    | zero => intro j hj0 hM2 hm_; exact absurd hm_ (Nat.not_lt_zero _)
    | succ n_ ih13 =>
      intro j hj0 hM2 hm_
      refine V.aload_n (pc := 13) 0 dX9_readsWord_13 rfl ?_
      refine V.aload_n (pc := 14) 0 dX9_readsWord_14 rfl ?_
      refine gf_X9_73 (pc := 15) (v := nI (p + j)) dX9_readsWord_15 (si_s _ _ _ _) ?_
      refine cp_X9_76 (pc := 18) dX9_readsWord_18 (ok_X9_byteAt bs m (hB.fld 4 _ (by decide)) (p + j) (by omega)) (by omega) (Nat.le_of_ble_eq_true rfl) ?_
      refine cp_X9_85 (pc := 21) dX9_readsWord_21 (ok_X9_isSmall bs m (p + j) (fun z => (hB.2.2 (p + j) z).2)) (by omega) (Nat.le_of_ble_eq_true rfl) ?_
      refine V.ifB_eq (pc := 24) 43 dX9_readsWord_24 (by decide) (fun h_24 => ?_) (fun h_24 => ?_)
      · have hj1 : 0 < j := by
          rcases Nat.eq_zero_or_pos j with z | z
          · rw [z, Nat.add_zero] at h_24; rw [smB, decide_eq_true hp, hl] at h_24; cases h_24
          · exact z
        have hMe : rrun bs (p + j) = (D, wo, j, p, 0, pl) := by rw [hM2, if_neg (by omega)]
        have hV : RV bs (D, wo, j, p, 0, pl) := by have := RV_run bs (p + j); rw [hMe] at this; exact this
        have hu48 : D.u ≤ 48 := hV.2.1
        have hwo30 : wo ≤ 30 := hV.2.2.1
        have hwd : ∀ x, x < D.u → 1 ≤ D.nl x ∧ D.nl x ≤ 10 ∧ (∀ i, i < D.nl x → 97 ≤ D.lt x i ∧ D.lt x i ≤ 122) ∧ _ := hV.2.2.2.2.2.2.2.2.1
        obtain ⟨μ1, hμ1⟩ : ∃ q, q = si μ 96 4 (nI (p + j)) := ⟨_, rfl⟩
        rw [← hμ1]
        have hB1 : Bs μ1 bs m := by rw [hμ1]; exact hB.fld 4 _ (by decide)
        have hat1 : μ1.1 96 4 = nI (p + j) := by rw [hμ1, si_s]
        have hf1 : μ1.1 96 6 = nI 0 := by rw [hμ1, si_i _ _ _ (by decide)]; exact hf
        have hT1 : Tm μ1 D B := by rw [hμ1]; exact hT
        have hO1 : To μ1 D wo := by rw [hμ1]; exact hO
        have hK1 : Kt μ μ1 := by rw [hμ1]; exact (Kt.refl μ).at_ _
        clear hμ1
        · refine V.iload_n (pc := 43) 3 dX9_readsWord_43 rfl ?_
          refine V.bipush (pc := 44) (v := nI 10) dX9_readsWord_44 (by decide) ?_
          refine V.icmpN_le (pc := 46) 55 dX9_readsWord_46 (by decide) (by omega) (by omega) (fun h_46 => ?_) (fun h_46 => ?_)
          · refine V.aload_n (pc := 55) 0 dX9_readsWord_55 rfl ?_
            refine gf_X9_24 (pc := 56) dX9_readsWord_56 ?_
            refine V.iload (pc := 59) 4 dX9_readsWord_59 rfl ?_
            refine V.iconst (pc := 61) (v := nI 2) dX9_readsWord_61 (by decide) ?_
            refine V.iadd (pc := 62) (v := nI (5 + 4 * D.n + 2)) dX9_readsWord_62 (nI_add _ _) ?_
            refine V.lald (pc := 63) (k := 100) (n := 645) (v := lN wo) (Nat.le_of_ble_eq_true rfl) (fun _ _ => rfl) (5 + 4 * D.n + 2) (by omega) (by decide) dX9_readsWord_63 hO1.2.2.1 ?_
            refine V.ldc2_w (pc := 64) (v := lN 30) mw_5_67 dX9_readsWord_64 ?_
            refine V.lcmpN_ne (pc := 67) 77 dX9_readsWord_67 dX9_readsWord_68 (by decide) (by omega) (by omega) (fun h_67 => ?_) (fun h_67 => ?_)
            · refine V.aload_n (pc := 77) 0 dX9_readsWord_77 rfl ?_
              refine cp_X9_95 (pc := 78) dX9_readsWord_78 (ok_X9_fine 0 hf1 (by decide)) (by omega) (Nat.le_of_ble_eq_true rfl) ?_
              refine V.ifN_ne (pc := 81) 85 dX9_readsWord_81 (by decide) (by decide) (fun h_81 => ?_) (fun h_ => absurd h_ (by decide))
              refine V.iconst (pc := 85) (v := nI 0) dX9_readsWord_85 (by decide) ?_
              refine V.istore (pc := 86) (lv' := [(0, .ref (G.2.2 96)), (1, .int (nI D.n)), (2, .int (nI p)), (3, .int (nI j)), (4, .int (nI (5 + 4 * D.n))), (5, .int (nI 0))]) dX9_readsWord_86 (by decide) rfl ?_
              have L88 : ∀ (n_ : Nat) (w : Nat), (w ≤ D.u) → (∀ i, i < w → mtB D bs p j i = false) → D.u - w < n_ → V G RX9 cX9_readsWord 7 3 X 88 [(0, .ref (G.2.2 96)), (1, .int (nI D.n)), (2, .int (nI p)), (3, .int (nI j)), (4, .int (nI (5 + 4 * D.n))), (5, .int (nI w))] [] μ1 := by
                intro n_
                induction n_ with
                | zero => intro w hw hno hm_; exact absurd hm_ (Nat.not_lt_zero _)
                | succ n_ ih88 =>
                  intro w hw hno hm_
                  refine V.iload (pc := 88) 5 dX9_readsWord_88 rfl ?_
                  refine V.i2l (pc := 90) (v := lN w) dX9_readsWord_90 (nI_l (by omega)) ?_
                  refine V.aload_n (pc := 91) 0 dX9_readsWord_91 rfl ?_
                  refine gf_X9_24 (pc := 92) dX9_readsWord_92 ?_
                  refine V.iconst (pc := 95) (v := nI 1) dX9_readsWord_95 (by decide) ?_
                  refine V.lald (pc := 96) (k := 100) (n := 645) (v := lN D.u) (Nat.le_of_ble_eq_true rfl) (fun _ _ => rfl) 1 (by omega) (by decide) dX9_readsWord_96 hT1.2.1 ?_
                  refine V.lcmpN_ge (pc := 97) 118 dX9_readsWord_97 dX9_readsWord_98 (by decide) (by omega) (by omega) (fun h_97 => ?_) (fun h_97 => ?_)
                  · have hfn : fndW D bs p j = w := fdW_eq (by omega) hno (fun z => absurd z (by omega))
                    refine V.iload (pc := 118) 5 dX9_readsWord_118 rfl ?_
                    refine V.bipush (pc := 120) (v := nI 48) dX9_readsWord_120 (by decide) ?_
                    refine V.icmpN_ne (pc := 122) 132 dX9_readsWord_122 (by decide) (by omega) (by omega) (fun h_122 => ?_) (fun h_122 => ?_)
                    · refine V.iload (pc := 132) 5 dX9_readsWord_132 rfl ?_
                      refine V.i2l (pc := 134) (v := lN w) dX9_readsWord_134 (nI_l (by omega)) ?_
                      refine V.aload_n (pc := 135) 0 dX9_readsWord_135 rfl ?_
                      refine gf_X9_24 (pc := 136) dX9_readsWord_136 ?_
                      refine V.iconst (pc := 139) (v := nI 1) dX9_readsWord_139 (by decide) ?_
                      refine V.lald (pc := 140) (k := 100) (n := 645) (v := lN D.u) (Nat.le_of_ble_eq_true rfl) (fun _ _ => rfl) 1 (by omega) (by decide) dX9_readsWord_140 hT1.2.1 ?_
                      refine V.lcmpN_ne (pc := 141) 237 dX9_readsWord_141 dX9_readsWord_142 (by decide) (by omega) (by omega) (fun h_141 => ?_) (fun h_141 => ?_)
                      · obtain ⟨μ3, hμ3⟩ : ∃ q, q = μ1 := ⟨_, rfl⟩
                        rw [← hμ3]
                        obtain ⟨D2, hD2⟩ : ∃ q, q = D := ⟨_, rfl⟩
                        have hT3 : Tm μ3 D2 B := by rw [hμ3, hD2]; exact hT1
                        have hO3 : To μ3 D wo := by rw [hμ3]; exact hO1
                        have hK3 : Kt μ μ3 := by rw [hμ3]; exact hK1
                        have h43 : μ3.1 = μ1.1 := by rw [hμ3]
                        have hw2 : w < D2.u := by rw [hD2]; omega
                        have hu2 : D2.u ≤ 48 := by rw [hD2]; exact hu48
                        have hfields : D2.n = D.n ∧ D2.bag = D.bag ∧ D2.len = D.len ∧ D2.fst = D.fst := by rw [hD2]; exact ⟨rfl, rfl, rfl, rfl⟩
                        have hE : endW bs (D, wo, j, p, 0, pl) = (putW D2 wo j w, wo + 1, 0, p, 0, pl) := by rw [ew_add hj1 (by omega) (by omega), addW_1 hfn (by omega), hD2]; rfl
                        clear hμ3 hD2
                        · refine V.aload_n (pc := 237) 0 dX9_readsWord_237 rfl ?_
                          refine gf_X9_24 (pc := 238) dX9_readsWord_238 ?_
                          refine V.iload (pc := 241) 4 dX9_readsWord_241 rfl ?_
                          refine V.iconst (pc := 243) (v := nI 2) dX9_readsWord_243 (by decide) ?_
                          refine V.iadd (pc := 244) (v := nI (5 + 4 * D.n + 2)) dX9_readsWord_244 (nI_add _ _) ?_
                          refine V.lald (pc := 245) (k := 100) (n := 645) (v := lN wo) (Nat.le_of_ble_eq_true rfl) (fun _ _ => rfl) (5 + 4 * D.n + 2) (by omega) (by decide) dX9_readsWord_245 hO3.2.2.1 ?_
                          refine V.lconst (pc := 246) (v := lN 0) dX9_readsWord_246 (by decide) ?_
                          refine V.lcmpN_ne (pc := 247) 263 dX9_readsWord_247 dX9_readsWord_248 (by decide) (by omega) (by omega) (fun h_247 => ?_) (fun h_247 => ?_)
                          · refine V.aload_n (pc := 263) 0 dX9_readsWord_263 rfl ?_
                            refine gf_X9_24 (pc := 264) dX9_readsWord_264 ?_
                            refine V.iload (pc := 267) 4 dX9_readsWord_267 rfl ?_
                            refine V.dup2 (pc := 269) dX9_readsWord_269 rfl rfl ?_
                            refine V.lald (pc := 270) (k := 100) (n := 645) (v := lN (bag0 D wo)) (Nat.le_of_ble_eq_true rfl) (fun _ _ => rfl) (5 + 4 * D.n) (by omega) (by decide) dX9_readsWord_270 hO3.1 ?_
                            refine V.lconst (pc := 271) (v := lN 1) dX9_readsWord_271 (by decide) ?_
                            refine V.iload (pc := 272) 5 dX9_readsWord_272 rfl ?_
                            refine V.lshl (pc := 274) (v := lN (2 ^ w)) dX9_readsWord_274 (ll_shl1 (by omega)) ?_
                            refine V.lor (pc := 275) (v := lN ((bag0 D wo) ||| (2 ^ w))) dX9_readsWord_275 (ll_or _ _) ?_
                            refine V.last (pc := 276) (k := 100) (n := 645) (v := lN ((bag0 D wo) ||| (2 ^ w))) (Nat.le_of_ble_eq_true rfl) (fun _ _ => rfl) (5 + 4 * D.n) (by omega) (by decide) dX9_readsWord_276 rfl ?_
                            refine V.aload_n (pc := 277) 0 dX9_readsWord_277 rfl ?_
                            refine gf_X9_24 (pc := 278) dX9_readsWord_278 ?_
                            refine V.iload (pc := 281) 4 dX9_readsWord_281 rfl ?_
                            refine V.iconst (pc := 283) (v := nI 1) dX9_readsWord_283 (by decide) ?_
                            refine V.iadd (pc := 284) (v := nI (5 + 4 * D.n + 1)) dX9_readsWord_284 (nI_add _ _) ?_
                            refine V.dup2 (pc := 285) dX9_readsWord_285 rfl rfl ?_
                            refine V.lald (pc := 286) (k := 100) (n := 645) (v := lN (len0 D wo)) (Nat.le_of_ble_eq_true rfl) (fun _ _ => rfl) (5 + 4 * D.n + 1) (by omega) (by decide) dX9_readsWord_286 (Eq.trans (sj_i _ _ _ (by omega) _) hO3.2.1) ?_
                            refine V.iload_n (pc := 287) 3 dX9_readsWord_287 rfl ?_
                            refine V.iconst (pc := 288) (v := nI 1) dX9_readsWord_288 (by decide) ?_
                            refine V.iadd (pc := 289) (v := nI (j + 1)) dX9_readsWord_289 (nI_add _ _) ?_
                            refine V.i2l (pc := 290) (v := lN (j + 1)) dX9_readsWord_290 (nI_l (by omega)) ?_
                            refine V.ladd (pc := 291) (v := lN (len0 D wo + (j + 1))) dX9_readsWord_291 (lN_add _ _) ?_
                            refine V.last (pc := 292) (k := 100) (n := 645) (v := lN (len0 D wo + (j + 1))) (Nat.le_of_ble_eq_true rfl) (fun _ _ => rfl) (5 + 4 * D.n + 1) (by omega) (by decide) dX9_readsWord_292 rfl ?_
                            refine V.aload_n (pc := 293) 0 dX9_readsWord_293 rfl ?_
                            refine gf_X9_24 (pc := 294) dX9_readsWord_294 ?_
                            refine V.iload (pc := 297) 4 dX9_readsWord_297 rfl ?_
                            refine V.iconst (pc := 299) (v := nI 2) dX9_readsWord_299 (by decide) ?_
                            refine V.iadd (pc := 300) (v := nI (5 + 4 * D.n + 2)) dX9_readsWord_300 (nI_add _ _) ?_
                            refine V.dup2 (pc := 301) dX9_readsWord_301 rfl rfl ?_
                            refine V.lald (pc := 302) (k := 100) (n := 645) (v := lN wo) (Nat.le_of_ble_eq_true rfl) (fun _ _ => rfl) (5 + 4 * D.n + 2) (by omega) (by decide) dX9_readsWord_302 (Eq.trans (sj_i _ _ _ (by omega) _) (Eq.trans (sj_i _ _ _ (by omega) _) hO3.2.2.1)) ?_
                            refine V.lconst (pc := 303) (v := lN 1) dX9_readsWord_303 (by decide) ?_
                            refine V.ladd (pc := 304) (v := lN (wo + 1)) dX9_readsWord_304 (lN_add _ _) ?_
                            refine V.last (pc := 305) (k := 100) (n := 645) (v := lN (wo + 1)) (Nat.le_of_ble_eq_true rfl) (fun _ _ => rfl) (5 + 4 * D.n + 2) (by omega) (by decide) dX9_readsWord_305 rfl ?_
                            exact V.vret (pc := 306) hF dX9_readsWord_306 ⟨rfl, (((hK3.tld _ _).tld _ _).tld _ _), Or.inl ⟨p + j, putW D2 wo j w, wo + 1, p, pl, by rw [hMe]; exact hE, by omega, hj0, h_24, by show μ3.1 96 4 = _; rw [h43]; exact hat1, by show μ3.1 96 6 = _; rw [h43]; exact hf1, (wput hT3 hfields hn (fun i a b c d => by simp [sj, vp_updL, a, b, c]) (by simp [sj, vp_updL]) (by simp [sj, vp_updL]) (by simp [sj, vp_updL]) (by rw [if_neg (by omega), hfields.2.2.2]; simp [sj, vp_updL]; exact hO3.2.2.2 (by omega))).1, (wput hT3 hfields hn (fun i a b c d => by simp [sj, vp_updL, a, b, c]) (by simp [sj, vp_updL]) (by simp [sj, vp_updL]) (by simp [sj, vp_updL]) (by rw [if_neg (by omega), hfields.2.2.2]; simp [sj, vp_updL]; exact hO3.2.2.2 (by omega))).2, hfields.1, by omega⟩⟩
                          · refine V.aload_n (pc := 251) 0 dX9_readsWord_251 rfl ?_
                            refine gf_X9_24 (pc := 252) dX9_readsWord_252 ?_
                            refine V.iload (pc := 255) 4 dX9_readsWord_255 rfl ?_
                            refine V.iconst (pc := 257) (v := nI 3) dX9_readsWord_257 (by decide) ?_
                            refine V.iadd (pc := 258) (v := nI (5 + 4 * D.n + 3)) dX9_readsWord_258 (nI_add _ _) ?_
                            refine V.iload (pc := 259) 5 dX9_readsWord_259 rfl ?_
                            refine V.i2l (pc := 261) (v := lN w) dX9_readsWord_261 (nI_l (by omega)) ?_
                            refine V.last (pc := 262) (k := 100) (n := 645) (v := lN w) (Nat.le_of_ble_eq_true rfl) (fun _ _ => rfl) (5 + 4 * D.n + 3) (by omega) (by decide) dX9_readsWord_262 rfl ?_
                            refine V.aload_n (pc := 263) 0 dX9_readsWord_263 rfl ?_
                            refine gf_X9_24 (pc := 264) dX9_readsWord_264 ?_
                            refine V.iload (pc := 267) 4 dX9_readsWord_267 rfl ?_
                            refine V.dup2 (pc := 269) dX9_readsWord_269 rfl rfl ?_
                            refine V.lald (pc := 270) (k := 100) (n := 645) (v := lN (bag0 D wo)) (Nat.le_of_ble_eq_true rfl) (fun _ _ => rfl) (5 + 4 * D.n) (by omega) (by decide) dX9_readsWord_270 (Eq.trans (sj_i _ _ _ (by omega) _) hO3.1) ?_
                            refine V.lconst (pc := 271) (v := lN 1) dX9_readsWord_271 (by decide) ?_
                            refine V.iload (pc := 272) 5 dX9_readsWord_272 rfl ?_
                            refine V.lshl (pc := 274) (v := lN (2 ^ w)) dX9_readsWord_274 (ll_shl1 (by omega)) ?_
                            refine V.lor (pc := 275) (v := lN ((bag0 D wo) ||| (2 ^ w))) dX9_readsWord_275 (ll_or _ _) ?_
                            refine V.last (pc := 276) (k := 100) (n := 645) (v := lN ((bag0 D wo) ||| (2 ^ w))) (Nat.le_of_ble_eq_true rfl) (fun _ _ => rfl) (5 + 4 * D.n) (by omega) (by decide) dX9_readsWord_276 rfl ?_
                            refine V.aload_n (pc := 277) 0 dX9_readsWord_277 rfl ?_
                            refine gf_X9_24 (pc := 278) dX9_readsWord_278 ?_
                            refine V.iload (pc := 281) 4 dX9_readsWord_281 rfl ?_
                            refine V.iconst (pc := 283) (v := nI 1) dX9_readsWord_283 (by decide) ?_
                            refine V.iadd (pc := 284) (v := nI (5 + 4 * D.n + 1)) dX9_readsWord_284 (nI_add _ _) ?_
                            refine V.dup2 (pc := 285) dX9_readsWord_285 rfl rfl ?_
                            refine V.lald (pc := 286) (k := 100) (n := 645) (v := lN (len0 D wo)) (Nat.le_of_ble_eq_true rfl) (fun _ _ => rfl) (5 + 4 * D.n + 1) (by omega) (by decide) dX9_readsWord_286 (Eq.trans (sj_i _ _ _ (by omega) _) (Eq.trans (sj_i _ _ _ (by omega) _) hO3.2.1)) ?_
                            refine V.iload_n (pc := 287) 3 dX9_readsWord_287 rfl ?_
                            refine V.iconst (pc := 288) (v := nI 1) dX9_readsWord_288 (by decide) ?_
                            refine V.iadd (pc := 289) (v := nI (j + 1)) dX9_readsWord_289 (nI_add _ _) ?_
                            refine V.i2l (pc := 290) (v := lN (j + 1)) dX9_readsWord_290 (nI_l (by omega)) ?_
                            refine V.ladd (pc := 291) (v := lN (len0 D wo + (j + 1))) dX9_readsWord_291 (lN_add _ _) ?_
                            refine V.last (pc := 292) (k := 100) (n := 645) (v := lN (len0 D wo + (j + 1))) (Nat.le_of_ble_eq_true rfl) (fun _ _ => rfl) (5 + 4 * D.n + 1) (by omega) (by decide) dX9_readsWord_292 rfl ?_
                            refine V.aload_n (pc := 293) 0 dX9_readsWord_293 rfl ?_
                            refine gf_X9_24 (pc := 294) dX9_readsWord_294 ?_
                            refine V.iload (pc := 297) 4 dX9_readsWord_297 rfl ?_
                            refine V.iconst (pc := 299) (v := nI 2) dX9_readsWord_299 (by decide) ?_
                            refine V.iadd (pc := 300) (v := nI (5 + 4 * D.n + 2)) dX9_readsWord_300 (nI_add _ _) ?_
                            refine V.dup2 (pc := 301) dX9_readsWord_301 rfl rfl ?_
                            refine V.lald (pc := 302) (k := 100) (n := 645) (v := lN wo) (Nat.le_of_ble_eq_true rfl) (fun _ _ => rfl) (5 + 4 * D.n + 2) (by omega) (by decide) dX9_readsWord_302 (Eq.trans (sj_i _ _ _ (by omega) _) (Eq.trans (sj_i _ _ _ (by omega) _) (Eq.trans (sj_i _ _ _ (by omega) _) hO3.2.2.1))) ?_
                            refine V.lconst (pc := 303) (v := lN 1) dX9_readsWord_303 (by decide) ?_
                            refine V.ladd (pc := 304) (v := lN (wo + 1)) dX9_readsWord_304 (lN_add _ _) ?_
                            refine V.last (pc := 305) (k := 100) (n := 645) (v := lN (wo + 1)) (Nat.le_of_ble_eq_true rfl) (fun _ _ => rfl) (5 + 4 * D.n + 2) (by omega) (by decide) dX9_readsWord_305 rfl ?_
                            exact V.vret (pc := 306) hF dX9_readsWord_306 ⟨rfl, ((((hK3.tld _ _).tld _ _).tld _ _).tld _ _), Or.inl ⟨p + j, putW D2 wo j w, wo + 1, p, pl, by rw [hMe]; exact hE, by omega, hj0, h_24, by show μ3.1 96 4 = _; rw [h43]; exact hat1, by show μ3.1 96 6 = _; rw [h43]; exact hf1, (wput hT3 hfields hn (fun i a b c d => by simp [sj, vp_updL, a, b, c, d]) (by simp [sj, vp_updL]) (by simp [sj, vp_updL]) (by simp [sj, vp_updL]) (by rw [if_pos h_247, updN_s]; simp [sj, vp_updL])).1, (wput hT3 hfields hn (fun i a b c d => by simp [sj, vp_updL, a, b, c, d]) (by simp [sj, vp_updL]) (by simp [sj, vp_updL]) (by simp [sj, vp_updL]) (by rw [if_pos h_247, updN_s]; simp [sj, vp_updL])).2, hfields.1, by omega⟩⟩
                      · refine V.aload_n (pc := 145) 0 dX9_readsWord_145 rfl ?_
                        refine gf_X9_24 (pc := 146) dX9_readsWord_146 ?_
                        refine V.iconst (pc := 149) (v := nI 1) dX9_readsWord_149 (by decide) ?_
                        refine V.dup2 (pc := 150) dX9_readsWord_150 rfl rfl ?_
                        refine V.lald (pc := 151) (k := 100) (n := 645) (v := lN D.u) (Nat.le_of_ble_eq_true rfl) (fun _ _ => rfl) 1 (by omega) (by decide) dX9_readsWord_151 hT1.2.1 ?_
                        refine V.lconst (pc := 152) (v := lN 1) dX9_readsWord_152 (by decide) ?_
                        refine V.ladd (pc := 153) (v := lN (D.u + 1)) dX9_readsWord_153 (lN_add _ _) ?_
                        refine V.last (pc := 154) (k := 100) (n := 645) (v := lN (D.u + 1)) (Nat.le_of_ble_eq_true rfl) (fun _ _ => rfl) 1 (by omega) (by decide) dX9_readsWord_154 rfl ?_
                        refine V.iconst (pc := 155) (v := nI 0) dX9_readsWord_155 (by decide) ?_
                        refine V.istore (pc := 156) (lv' := [(0, .ref (G.2.2 96)), (1, .int (nI D.n)), (2, .int (nI p)), (3, .int (nI j)), (4, .int (nI (5 + 4 * D.n))), (5, .int (nI w)), (6, .int (nI 0))]) dX9_readsWord_156 (by decide) rfl ?_
                        have L158 : ∀ (n_ : Nat) (k : Nat) ( μ2 : Mu), (k ≤ 10) → (μ2.1 = μ1.1) → (∀ c, c ≠ 100 → μ2.2 c = μ1.2 c) → (∀ i, i ≠ 1 → (i < 69 + 12 * w ∨ 69 + 12 * w + 10 ≤ i) → μ2.2 100 i = μ1.2 100 i) → (μ2.2 100 1 = lN (D.u + 1)) → (∀ i, i < k → i < j → μ2.2 100 (69 + 12 * w + i) = lN (bs (p + i))) → 10 - k < n_ → V G RX9 cX9_readsWord 7 3 X 158 [(0, .ref (G.2.2 96)), (1, .int (nI D.n)), (2, .int (nI p)), (3, .int (nI j)), (4, .int (nI (5 + 4 * D.n))), (5, .int (nI w)), (6, .int (nI k))] [] μ2 := by
                          intro n_
                          induction n_ with
                          | zero => intro k μ2 hk e1 e2 e3 e4 e5 hm_; exact absurd hm_ (Nat.not_lt_zero _)
                          | succ n_ ih158 =>
                            intro k μ2 hk e1 e2 e3 e4 e5 hm_
                            have hkb : k < j → bs (p + k) < 256 := fun z => (hB1.2.2 (p + k) (by omega)).2
                            refine V.iload (pc := 158) 6 dX9_readsWord_158 rfl ?_
                            refine V.bipush (pc := 160) (v := nI 10) dX9_readsWord_160 (by decide) ?_
                            refine V.icmpN_ge (pc := 162) 204 dX9_readsWord_162 (by decide) (by omega) (by omega) (fun h_162 => ?_) (fun h_162 => ?_)
                            · refine V.aload_n (pc := 204) 0 dX9_readsWord_204 rfl ?_
                              refine gf_X9_24 (pc := 205) dX9_readsWord_205 ?_
                              refine V.iload (pc := 208) 5 dX9_readsWord_208 rfl ?_
                              refine cp_X9_103 (pc := 210) dX9_readsWord_210 (ok_X9_wordAt w) (by omega) (Nat.le_of_ble_eq_true rfl) ?_
                              refine V.bipush (pc := 213) (v := nI 10) dX9_readsWord_213 (by decide) ?_
                              refine V.iadd (pc := 215) (v := nI (69 + 12 * w + 10)) dX9_readsWord_215 (nI_add _ _) ?_
                              refine V.iload_n (pc := 216) 3 dX9_readsWord_216 rfl ?_
                              refine V.i2l (pc := 217) (v := lN j) dX9_readsWord_217 (nI_l (by omega)) ?_
                              refine V.last (pc := 218) (k := 100) (n := 645) (v := lN j) (Nat.le_of_ble_eq_true rfl) (fun _ _ => rfl) (69 + 12 * w + 10) (by omega) (by decide) dX9_readsWord_218 rfl ?_
                              refine V.aload_n (pc := 219) 0 dX9_readsWord_219 rfl ?_
                              refine gf_X9_24 (pc := 220) dX9_readsWord_220 ?_
                              refine V.iload (pc := 223) 5 dX9_readsWord_223 rfl ?_
                              refine cp_X9_103 (pc := 225) dX9_readsWord_225 (ok_X9_wordAt w) (by omega) (Nat.le_of_ble_eq_true rfl) ?_
                              refine V.bipush (pc := 228) (v := nI 10) dX9_readsWord_228 (by decide) ?_
                              refine V.iadd (pc := 230) (v := nI (69 + 12 * w + 10)) dX9_readsWord_230 (nI_add _ _) ?_
                              refine V.iconst (pc := 231) (v := nI 1) dX9_readsWord_231 (by decide) ?_
                              refine V.iadd (pc := 232) (v := nI (69 + 12 * w + 10 + 1)) dX9_readsWord_232 (nI_add _ _) ?_
                              refine V.ldc2_w (pc := 233) (v := (-1)) mw_5_75 dX9_readsWord_233 ?_
                              refine V.last (pc := 236) (k := 100) (n := 645) (v := (-1)) (Nat.le_of_ble_eq_true rfl) (fun _ _ => rfl) (69 + 12 * w + 10 + 1) (by omega) (by decide) dX9_readsWord_236 rfl ?_
                              obtain ⟨μ3, hμ3⟩ : ∃ q, q = sj (sj μ2 100 (69 + 12 * w + 10) (lN j)) 100 (69 + 12 * w + 10 + 1) (-1) := ⟨_, rfl⟩
                              rw [← hμ3]
                              have hwu : D.u = w := by omega
                              obtain ⟨D2, hD2⟩ : ∃ q, q = newW D bs p j := ⟨_, rfl⟩
                              have hnew := Tm_new (μ2 := μ2) (μ3 := μ3) (bs := bs) (p := p) (j := j) hT1 hn (by omega) (fun x hx => (hwd x hx).2.1) (by rw [hwu]; exact e3) e4 (by rw [hwu]; exact fun i h1 h2 => e5 i (by omega) h2) (by rw [hwu]; exact hμ3)
                              have hT3 : Tm μ3 D2 B := by rw [hD2]; exact hnew.1
                              have hO3 : To μ3 D wo := ⟨(hnew.2 _ (by omega) (by omega)).trans hO1.1, (hnew.2 _ (by omega) (by omega)).trans hO1.2.1, (hnew.2 _ (by omega) (by omega)).trans hO1.2.2.1, fun z => (hnew.2 _ (by omega) (by omega)).trans (hO1.2.2.2 z)⟩
                              have h43 : μ3.1 = μ1.1 := by rw [hμ3]; exact e1
                              have hK3 : Kt μ μ3 := hK1.trans ⟨fun i _ _ _ => by rw [h43], fun c _ => by rw [h43], fun c hc => by rw [hμ3, sj_c _ _ _ hc, sj_c _ _ _ hc]; exact e2 c hc, fun z => by rw [h43] at z ⊢; exact ⟨z, rfl⟩⟩
                              have hw2 : w < D2.u := by rw [hD2]; show w < D.u + 1; omega
                              have hu2 : D2.u ≤ 48 := by rw [hD2]; show D.u + 1 ≤ 48; omega
                              have hfields : D2.n = D.n ∧ D2.bag = D.bag ∧ D2.len = D.len ∧ D2.fst = D.fst := by rw [hD2]; exact ⟨rfl, rfl, rfl, rfl⟩
                              have hE : endW bs (D, wo, j, p, 0, pl) = (putW D2 wo j w, wo + 1, 0, p, 0, pl) := by rw [ew_add hj1 (by omega) (by omega), addW_3 (by rw [hfn]; omega) (by omega), hD2, ← hwu]; rfl
                              clear hμ3 hD2 hnew
                              · refine V.sub [0, 1, 2, 3, 4, 5] rfl ?_
                                refine V.aload_n (pc := 237) 0 dX9_readsWord_237 rfl ?_
                                refine gf_X9_24 (pc := 238) dX9_readsWord_238 ?_
                                refine V.iload (pc := 241) 4 dX9_readsWord_241 rfl ?_
                                refine V.iconst (pc := 243) (v := nI 2) dX9_readsWord_243 (by decide) ?_
                                refine V.iadd (pc := 244) (v := nI (5 + 4 * D.n + 2)) dX9_readsWord_244 (nI_add _ _) ?_
                                refine V.lald (pc := 245) (k := 100) (n := 645) (v := lN wo) (Nat.le_of_ble_eq_true rfl) (fun _ _ => rfl) (5 + 4 * D.n + 2) (by omega) (by decide) dX9_readsWord_245 hO3.2.2.1 ?_
                                refine V.lconst (pc := 246) (v := lN 0) dX9_readsWord_246 (by decide) ?_
                                refine V.lcmpN_ne (pc := 247) 263 dX9_readsWord_247 dX9_readsWord_248 (by decide) (by omega) (by omega) (fun h_247 => ?_) (fun h_247 => ?_)
                                · refine V.aload_n (pc := 263) 0 dX9_readsWord_263 rfl ?_
                                  refine gf_X9_24 (pc := 264) dX9_readsWord_264 ?_
                                  refine V.iload (pc := 267) 4 dX9_readsWord_267 rfl ?_
                                  refine V.dup2 (pc := 269) dX9_readsWord_269 rfl rfl ?_
                                  refine V.lald (pc := 270) (k := 100) (n := 645) (v := lN (bag0 D wo)) (Nat.le_of_ble_eq_true rfl) (fun _ _ => rfl) (5 + 4 * D.n) (by omega) (by decide) dX9_readsWord_270 hO3.1 ?_
                                  refine V.lconst (pc := 271) (v := lN 1) dX9_readsWord_271 (by decide) ?_
                                  refine V.iload (pc := 272) 5 dX9_readsWord_272 rfl ?_
                                  refine V.lshl (pc := 274) (v := lN (2 ^ w)) dX9_readsWord_274 (ll_shl1 (by omega)) ?_
                                  refine V.lor (pc := 275) (v := lN ((bag0 D wo) ||| (2 ^ w))) dX9_readsWord_275 (ll_or _ _) ?_
                                  refine V.last (pc := 276) (k := 100) (n := 645) (v := lN ((bag0 D wo) ||| (2 ^ w))) (Nat.le_of_ble_eq_true rfl) (fun _ _ => rfl) (5 + 4 * D.n) (by omega) (by decide) dX9_readsWord_276 rfl ?_
                                  refine V.aload_n (pc := 277) 0 dX9_readsWord_277 rfl ?_
                                  refine gf_X9_24 (pc := 278) dX9_readsWord_278 ?_
                                  refine V.iload (pc := 281) 4 dX9_readsWord_281 rfl ?_
                                  refine V.iconst (pc := 283) (v := nI 1) dX9_readsWord_283 (by decide) ?_
                                  refine V.iadd (pc := 284) (v := nI (5 + 4 * D.n + 1)) dX9_readsWord_284 (nI_add _ _) ?_
                                  refine V.dup2 (pc := 285) dX9_readsWord_285 rfl rfl ?_
                                  refine V.lald (pc := 286) (k := 100) (n := 645) (v := lN (len0 D wo)) (Nat.le_of_ble_eq_true rfl) (fun _ _ => rfl) (5 + 4 * D.n + 1) (by omega) (by decide) dX9_readsWord_286 (Eq.trans (sj_i _ _ _ (by omega) _) hO3.2.1) ?_
                                  refine V.iload_n (pc := 287) 3 dX9_readsWord_287 rfl ?_
                                  refine V.iconst (pc := 288) (v := nI 1) dX9_readsWord_288 (by decide) ?_
                                  refine V.iadd (pc := 289) (v := nI (j + 1)) dX9_readsWord_289 (nI_add _ _) ?_
                                  refine V.i2l (pc := 290) (v := lN (j + 1)) dX9_readsWord_290 (nI_l (by omega)) ?_
                                  refine V.ladd (pc := 291) (v := lN (len0 D wo + (j + 1))) dX9_readsWord_291 (lN_add _ _) ?_
                                  refine V.last (pc := 292) (k := 100) (n := 645) (v := lN (len0 D wo + (j + 1))) (Nat.le_of_ble_eq_true rfl) (fun _ _ => rfl) (5 + 4 * D.n + 1) (by omega) (by decide) dX9_readsWord_292 rfl ?_
                                  refine V.aload_n (pc := 293) 0 dX9_readsWord_293 rfl ?_
                                  refine gf_X9_24 (pc := 294) dX9_readsWord_294 ?_
                                  refine V.iload (pc := 297) 4 dX9_readsWord_297 rfl ?_
                                  refine V.iconst (pc := 299) (v := nI 2) dX9_readsWord_299 (by decide) ?_
                                  refine V.iadd (pc := 300) (v := nI (5 + 4 * D.n + 2)) dX9_readsWord_300 (nI_add _ _) ?_
                                  refine V.dup2 (pc := 301) dX9_readsWord_301 rfl rfl ?_
                                  refine V.lald (pc := 302) (k := 100) (n := 645) (v := lN wo) (Nat.le_of_ble_eq_true rfl) (fun _ _ => rfl) (5 + 4 * D.n + 2) (by omega) (by decide) dX9_readsWord_302 (Eq.trans (sj_i _ _ _ (by omega) _) (Eq.trans (sj_i _ _ _ (by omega) _) hO3.2.2.1)) ?_
                                  refine V.lconst (pc := 303) (v := lN 1) dX9_readsWord_303 (by decide) ?_
                                  refine V.ladd (pc := 304) (v := lN (wo + 1)) dX9_readsWord_304 (lN_add _ _) ?_
                                  refine V.last (pc := 305) (k := 100) (n := 645) (v := lN (wo + 1)) (Nat.le_of_ble_eq_true rfl) (fun _ _ => rfl) (5 + 4 * D.n + 2) (by omega) (by decide) dX9_readsWord_305 rfl ?_
                                  exact V.vret (pc := 306) hF dX9_readsWord_306 ⟨rfl, (((hK3.tld _ _).tld _ _).tld _ _), Or.inl ⟨p + j, putW D2 wo j w, wo + 1, p, pl, by rw [hMe]; exact hE, by omega, hj0, h_24, by show μ3.1 96 4 = _; rw [h43]; exact hat1, by show μ3.1 96 6 = _; rw [h43]; exact hf1, (wput hT3 hfields hn (fun i a b c d => by simp [sj, vp_updL, a, b, c]) (by simp [sj, vp_updL]) (by simp [sj, vp_updL]) (by simp [sj, vp_updL]) (by rw [if_neg (by omega), hfields.2.2.2]; simp [sj, vp_updL]; exact hO3.2.2.2 (by omega))).1, (wput hT3 hfields hn (fun i a b c d => by simp [sj, vp_updL, a, b, c]) (by simp [sj, vp_updL]) (by simp [sj, vp_updL]) (by simp [sj, vp_updL]) (by rw [if_neg (by omega), hfields.2.2.2]; simp [sj, vp_updL]; exact hO3.2.2.2 (by omega))).2, hfields.1, by omega⟩⟩
                                · refine V.aload_n (pc := 251) 0 dX9_readsWord_251 rfl ?_
                                  refine gf_X9_24 (pc := 252) dX9_readsWord_252 ?_
                                  refine V.iload (pc := 255) 4 dX9_readsWord_255 rfl ?_
                                  refine V.iconst (pc := 257) (v := nI 3) dX9_readsWord_257 (by decide) ?_
                                  refine V.iadd (pc := 258) (v := nI (5 + 4 * D.n + 3)) dX9_readsWord_258 (nI_add _ _) ?_
                                  refine V.iload (pc := 259) 5 dX9_readsWord_259 rfl ?_
                                  refine V.i2l (pc := 261) (v := lN w) dX9_readsWord_261 (nI_l (by omega)) ?_
                                  refine V.last (pc := 262) (k := 100) (n := 645) (v := lN w) (Nat.le_of_ble_eq_true rfl) (fun _ _ => rfl) (5 + 4 * D.n + 3) (by omega) (by decide) dX9_readsWord_262 rfl ?_
                                  refine V.aload_n (pc := 263) 0 dX9_readsWord_263 rfl ?_
                                  refine gf_X9_24 (pc := 264) dX9_readsWord_264 ?_
                                  refine V.iload (pc := 267) 4 dX9_readsWord_267 rfl ?_
                                  refine V.dup2 (pc := 269) dX9_readsWord_269 rfl rfl ?_
                                  refine V.lald (pc := 270) (k := 100) (n := 645) (v := lN (bag0 D wo)) (Nat.le_of_ble_eq_true rfl) (fun _ _ => rfl) (5 + 4 * D.n) (by omega) (by decide) dX9_readsWord_270 (Eq.trans (sj_i _ _ _ (by omega) _) hO3.1) ?_
                                  refine V.lconst (pc := 271) (v := lN 1) dX9_readsWord_271 (by decide) ?_
                                  refine V.iload (pc := 272) 5 dX9_readsWord_272 rfl ?_
                                  refine V.lshl (pc := 274) (v := lN (2 ^ w)) dX9_readsWord_274 (ll_shl1 (by omega)) ?_
                                  refine V.lor (pc := 275) (v := lN ((bag0 D wo) ||| (2 ^ w))) dX9_readsWord_275 (ll_or _ _) ?_
                                  refine V.last (pc := 276) (k := 100) (n := 645) (v := lN ((bag0 D wo) ||| (2 ^ w))) (Nat.le_of_ble_eq_true rfl) (fun _ _ => rfl) (5 + 4 * D.n) (by omega) (by decide) dX9_readsWord_276 rfl ?_
                                  refine V.aload_n (pc := 277) 0 dX9_readsWord_277 rfl ?_
                                  refine gf_X9_24 (pc := 278) dX9_readsWord_278 ?_
                                  refine V.iload (pc := 281) 4 dX9_readsWord_281 rfl ?_
                                  refine V.iconst (pc := 283) (v := nI 1) dX9_readsWord_283 (by decide) ?_
                                  refine V.iadd (pc := 284) (v := nI (5 + 4 * D.n + 1)) dX9_readsWord_284 (nI_add _ _) ?_
                                  refine V.dup2 (pc := 285) dX9_readsWord_285 rfl rfl ?_
                                  refine V.lald (pc := 286) (k := 100) (n := 645) (v := lN (len0 D wo)) (Nat.le_of_ble_eq_true rfl) (fun _ _ => rfl) (5 + 4 * D.n + 1) (by omega) (by decide) dX9_readsWord_286 (Eq.trans (sj_i _ _ _ (by omega) _) (Eq.trans (sj_i _ _ _ (by omega) _) hO3.2.1)) ?_
                                  refine V.iload_n (pc := 287) 3 dX9_readsWord_287 rfl ?_
                                  refine V.iconst (pc := 288) (v := nI 1) dX9_readsWord_288 (by decide) ?_
                                  refine V.iadd (pc := 289) (v := nI (j + 1)) dX9_readsWord_289 (nI_add _ _) ?_
                                  refine V.i2l (pc := 290) (v := lN (j + 1)) dX9_readsWord_290 (nI_l (by omega)) ?_
                                  refine V.ladd (pc := 291) (v := lN (len0 D wo + (j + 1))) dX9_readsWord_291 (lN_add _ _) ?_
                                  refine V.last (pc := 292) (k := 100) (n := 645) (v := lN (len0 D wo + (j + 1))) (Nat.le_of_ble_eq_true rfl) (fun _ _ => rfl) (5 + 4 * D.n + 1) (by omega) (by decide) dX9_readsWord_292 rfl ?_
                                  refine V.aload_n (pc := 293) 0 dX9_readsWord_293 rfl ?_
                                  refine gf_X9_24 (pc := 294) dX9_readsWord_294 ?_
                                  refine V.iload (pc := 297) 4 dX9_readsWord_297 rfl ?_
                                  refine V.iconst (pc := 299) (v := nI 2) dX9_readsWord_299 (by decide) ?_
                                  refine V.iadd (pc := 300) (v := nI (5 + 4 * D.n + 2)) dX9_readsWord_300 (nI_add _ _) ?_
                                  refine V.dup2 (pc := 301) dX9_readsWord_301 rfl rfl ?_
                                  refine V.lald (pc := 302) (k := 100) (n := 645) (v := lN wo) (Nat.le_of_ble_eq_true rfl) (fun _ _ => rfl) (5 + 4 * D.n + 2) (by omega) (by decide) dX9_readsWord_302 (Eq.trans (sj_i _ _ _ (by omega) _) (Eq.trans (sj_i _ _ _ (by omega) _) (Eq.trans (sj_i _ _ _ (by omega) _) hO3.2.2.1))) ?_
                                  refine V.lconst (pc := 303) (v := lN 1) dX9_readsWord_303 (by decide) ?_
                                  refine V.ladd (pc := 304) (v := lN (wo + 1)) dX9_readsWord_304 (lN_add _ _) ?_
                                  refine V.last (pc := 305) (k := 100) (n := 645) (v := lN (wo + 1)) (Nat.le_of_ble_eq_true rfl) (fun _ _ => rfl) (5 + 4 * D.n + 2) (by omega) (by decide) dX9_readsWord_305 rfl ?_
                                  exact V.vret (pc := 306) hF dX9_readsWord_306 ⟨rfl, ((((hK3.tld _ _).tld _ _).tld _ _).tld _ _), Or.inl ⟨p + j, putW D2 wo j w, wo + 1, p, pl, by rw [hMe]; exact hE, by omega, hj0, h_24, by show μ3.1 96 4 = _; rw [h43]; exact hat1, by show μ3.1 96 6 = _; rw [h43]; exact hf1, (wput hT3 hfields hn (fun i a b c d => by simp [sj, vp_updL, a, b, c, d]) (by simp [sj, vp_updL]) (by simp [sj, vp_updL]) (by simp [sj, vp_updL]) (by rw [if_pos h_247, updN_s]; simp [sj, vp_updL])).1, (wput hT3 hfields hn (fun i a b c d => by simp [sj, vp_updL, a, b, c, d]) (by simp [sj, vp_updL]) (by simp [sj, vp_updL]) (by simp [sj, vp_updL]) (by rw [if_pos h_247, updN_s]; simp [sj, vp_updL])).2, hfields.1, by omega⟩⟩
                            · refine V.aload_n (pc := 165) 0 dX9_readsWord_165 rfl ?_
                              refine gf_X9_24 (pc := 166) dX9_readsWord_166 ?_
                              refine V.iload (pc := 169) 5 dX9_readsWord_169 rfl ?_
                              refine cp_X9_103 (pc := 171) dX9_readsWord_171 (ok_X9_wordAt w) (by omega) (Nat.le_of_ble_eq_true rfl) ?_
                              refine V.iload (pc := 174) 6 dX9_readsWord_174 rfl ?_
                              refine V.iadd (pc := 176) (v := nI (69 + 12 * w + k)) dX9_readsWord_176 (nI_add _ _) ?_
                              refine V.iload (pc := 177) 6 dX9_readsWord_177 rfl ?_
                              refine V.iload_n (pc := 179) 3 dX9_readsWord_179 rfl ?_
                              refine V.icmpN_ge (pc := 180) 196 dX9_readsWord_180 (by decide) (by omega) (by omega) (fun h_180 => ?_) (fun h_180 => ?_)
                              · refine V.lconst (pc := 196) (v := lN 0) dX9_readsWord_196 (by decide) ?_
                                refine V.last (pc := 197) (k := 100) (n := 645) (v := lN 0) (Nat.le_of_ble_eq_true rfl) (fun _ _ => rfl) (69 + 12 * w + k) (by omega) (by decide) dX9_readsWord_197 rfl ?_
                                refine V.iinc (pc := 198) (v := nI (k + 1)) (lv' := [(0, .ref (G.2.2 96)), (1, .int (nI D.n)), (2, .int (nI p)), (3, .int (nI j)), (4, .int (nI (5 + 4 * D.n))), (5, .int (nI w)), (6, .int (nI (k + 1)))]) 6 dX9_readsWord_198 rfl (nn_inc _) (by decide) rfl ?_
                                refine V.goto (pc := 201) 158 dX9_readsWord_201 (by decide) ?_
                                exact ih158 (k + 1) (sj μ2 100 (69 + 12 * w + k) (lN 0)) (by omega) e1 (fun c hc => (sj_c _ _ _ hc).trans (e2 c hc)) (fun i a b => (sj_i _ _ _ (by omega) _).trans (e3 i a b)) ((sj_i _ _ _ (by omega) _).trans e4) (fun i hi hij => let_st e5 (fun z => absurd z (by omega)) i hi hij) (by omega)
                              · refine V.aload_n (pc := 183) 0 dX9_readsWord_183 rfl ?_
                                refine gf_X9_17 (pc := 184) dX9_readsWord_184 ?_
                                refine V.iload_n (pc := 187) 2 dX9_readsWord_187 rfl ?_
                                refine V.iload (pc := 188) 6 dX9_readsWord_188 rfl ?_
                                refine V.iadd (pc := 190) (v := nI (p + k)) dX9_readsWord_190 (nI_add _ _) ?_
                                refine V.iald (pc := 191) (k := 98) (n := 600) (v := nI (bs (p + k))) (Nat.le_of_ble_eq_true rfl) (fun _ _ => rfl) (p + k) (by omega) (by decide) dX9_readsWord_191 ((congrFun (congrFun e1 98) (p + k)).trans (hB1.2.2 (p + k) (by omega)).1) ?_
                                refine V.i2l (pc := 192) (v := lN (bs (p + k))) dX9_readsWord_192 (nI_l (by omega)) ?_
                                refine V.goto (pc := 193) 197 dX9_readsWord_193 (by decide) ?_
                                refine V.last (pc := 197) (k := 100) (n := 645) (v := lN (bs (p + k))) (Nat.le_of_ble_eq_true rfl) (fun _ _ => rfl) (69 + 12 * w + k) (by omega) (by decide) dX9_readsWord_197 rfl ?_
                                refine V.iinc (pc := 198) (v := nI (k + 1)) (lv' := [(0, .ref (G.2.2 96)), (1, .int (nI D.n)), (2, .int (nI p)), (3, .int (nI j)), (4, .int (nI (5 + 4 * D.n))), (5, .int (nI w)), (6, .int (nI (k + 1)))]) 6 dX9_readsWord_198 rfl (nn_inc _) (by decide) rfl ?_
                                refine V.goto (pc := 201) 158 dX9_readsWord_201 (by decide) ?_
                                exact ih158 (k + 1) (sj μ2 100 (69 + 12 * w + k) (lN (bs (p + k)))) (by omega) e1 (fun c hc => (sj_c _ _ _ hc).trans (e2 c hc)) (fun i a b => (sj_i _ _ _ (by omega) _).trans (e3 i a b)) ((sj_i _ _ _ (by omega) _).trans e4) (fun i hi hij => let_st e5 (fun _ => rfl) i hi hij) (by omega)
                        exact L158 _ 0 (sj μ1 100 1 (lN (D.u + 1))) (by omega) rfl (fun c hc => sj_c _ _ _ hc) (fun i a b => sj_i _ _ _ a _) (sj_s _ _ _ _) (fun i hi => absurd hi (by omega)) (Nat.lt_succ_self _)
                    · refine V.aload_n (pc := 125) 0 dX9_readsWord_125 rfl ?_
                      refine V.iconst (pc := 126) (v := nI 3) dX9_readsWord_126 (by decide) ?_
                      refine V.iload_n (pc := 127) 2 dX9_readsWord_127 rfl ?_
                      refine cl_X9_89 (pc := 128) dX9_readsWord_128 (ok_wrong0 3 p hf1) (by omega) (Nat.le_of_ble_eq_true rfl) (fun r_ μ_ h_ => ?_)
                      obtain ⟨rfl, rfl⟩ := h_
                      exact V.vret (pc := 131) hF dX9_readsWord_131 ⟨rfl, hK1.wrg _ (by decide), Or.inr (FL_w (f := 3) (w := p) (D' := D) (wo' := wo) hj0 h_24 hMe rfl (by rw [ew_add hj1 (by omega) (by omega), addW_2 (by rw [hfn]; omega) (by omega)]; rfl) (by decide) (by simp [si, upd]) (by simp [si, upd]))⟩
                  · refine V.aload_n (pc := 101) 0 dX9_readsWord_101 rfl ?_
                    refine V.iload (pc := 102) 5 dX9_readsWord_102 rfl ?_
                    refine V.iload_n (pc := 104) 2 dX9_readsWord_104 rfl ?_
                    refine V.iload_n (pc := 105) 3 dX9_readsWord_105 rfl ?_
                    refine cp_X9_99 (pc := 106) dX9_readsWord_106 (ok_X9_isWord bs m hB1 D B w p j hT1 (by omega) hu48 (hwd w (by omega)).2.1 (fun i hi => by have := ((hwd w (by omega)).2.2.1 i hi).2; omega) (by omega) (by omega)) (by omega) (Nat.le_of_ble_eq_true rfl) ?_
                    refine V.ifB_ne (pc := 109) 118 dX9_readsWord_109 (by decide) (fun h_109 => ?_) (fun h_109 => ?_)
                    · have hfn : fndW D bs p j = w := fdW_eq (by omega) hno (fun _ => h_109)
                      refine V.iload (pc := 118) 5 dX9_readsWord_118 rfl ?_
                      refine V.bipush (pc := 120) (v := nI 48) dX9_readsWord_120 (by decide) ?_
                      refine V.icmpN_ne (pc := 122) 132 dX9_readsWord_122 (by decide) (by omega) (by omega) (fun h_122 => ?_) (fun h_122 => ?_)
                      · refine V.iload (pc := 132) 5 dX9_readsWord_132 rfl ?_
                        refine V.i2l (pc := 134) (v := lN w) dX9_readsWord_134 (nI_l (by omega)) ?_
                        refine V.aload_n (pc := 135) 0 dX9_readsWord_135 rfl ?_
                        refine gf_X9_24 (pc := 136) dX9_readsWord_136 ?_
                        refine V.iconst (pc := 139) (v := nI 1) dX9_readsWord_139 (by decide) ?_
                        refine V.lald (pc := 140) (k := 100) (n := 645) (v := lN D.u) (Nat.le_of_ble_eq_true rfl) (fun _ _ => rfl) 1 (by omega) (by decide) dX9_readsWord_140 hT1.2.1 ?_
                        refine V.lcmpN_ne (pc := 141) 237 dX9_readsWord_141 dX9_readsWord_142 (by decide) (by omega) (by omega) (fun h_141 => ?_) (fun h_141 => ?_)
                        · obtain ⟨μ3, hμ3⟩ : ∃ q, q = μ1 := ⟨_, rfl⟩
                          rw [← hμ3]
                          obtain ⟨D2, hD2⟩ : ∃ q, q = D := ⟨_, rfl⟩
                          have hT3 : Tm μ3 D2 B := by rw [hμ3, hD2]; exact hT1
                          have hO3 : To μ3 D wo := by rw [hμ3]; exact hO1
                          have hK3 : Kt μ μ3 := by rw [hμ3]; exact hK1
                          have h43 : μ3.1 = μ1.1 := by rw [hμ3]
                          have hw2 : w < D2.u := by rw [hD2]; omega
                          have hu2 : D2.u ≤ 48 := by rw [hD2]; exact hu48
                          have hfields : D2.n = D.n ∧ D2.bag = D.bag ∧ D2.len = D.len ∧ D2.fst = D.fst := by rw [hD2]; exact ⟨rfl, rfl, rfl, rfl⟩
                          have hE : endW bs (D, wo, j, p, 0, pl) = (putW D2 wo j w, wo + 1, 0, p, 0, pl) := by rw [ew_add hj1 (by omega) (by omega), addW_1 hfn (by omega), hD2]; rfl
                          clear hμ3 hD2
                          · refine V.aload_n (pc := 237) 0 dX9_readsWord_237 rfl ?_
                            refine gf_X9_24 (pc := 238) dX9_readsWord_238 ?_
                            refine V.iload (pc := 241) 4 dX9_readsWord_241 rfl ?_
                            refine V.iconst (pc := 243) (v := nI 2) dX9_readsWord_243 (by decide) ?_
                            refine V.iadd (pc := 244) (v := nI (5 + 4 * D.n + 2)) dX9_readsWord_244 (nI_add _ _) ?_
                            refine V.lald (pc := 245) (k := 100) (n := 645) (v := lN wo) (Nat.le_of_ble_eq_true rfl) (fun _ _ => rfl) (5 + 4 * D.n + 2) (by omega) (by decide) dX9_readsWord_245 hO3.2.2.1 ?_
                            refine V.lconst (pc := 246) (v := lN 0) dX9_readsWord_246 (by decide) ?_
                            refine V.lcmpN_ne (pc := 247) 263 dX9_readsWord_247 dX9_readsWord_248 (by decide) (by omega) (by omega) (fun h_247 => ?_) (fun h_247 => ?_)
                            · refine V.aload_n (pc := 263) 0 dX9_readsWord_263 rfl ?_
                              refine gf_X9_24 (pc := 264) dX9_readsWord_264 ?_
                              refine V.iload (pc := 267) 4 dX9_readsWord_267 rfl ?_
                              refine V.dup2 (pc := 269) dX9_readsWord_269 rfl rfl ?_
                              refine V.lald (pc := 270) (k := 100) (n := 645) (v := lN (bag0 D wo)) (Nat.le_of_ble_eq_true rfl) (fun _ _ => rfl) (5 + 4 * D.n) (by omega) (by decide) dX9_readsWord_270 hO3.1 ?_
                              refine V.lconst (pc := 271) (v := lN 1) dX9_readsWord_271 (by decide) ?_
                              refine V.iload (pc := 272) 5 dX9_readsWord_272 rfl ?_
                              refine V.lshl (pc := 274) (v := lN (2 ^ w)) dX9_readsWord_274 (ll_shl1 (by omega)) ?_
                              refine V.lor (pc := 275) (v := lN ((bag0 D wo) ||| (2 ^ w))) dX9_readsWord_275 (ll_or _ _) ?_
                              refine V.last (pc := 276) (k := 100) (n := 645) (v := lN ((bag0 D wo) ||| (2 ^ w))) (Nat.le_of_ble_eq_true rfl) (fun _ _ => rfl) (5 + 4 * D.n) (by omega) (by decide) dX9_readsWord_276 rfl ?_
                              refine V.aload_n (pc := 277) 0 dX9_readsWord_277 rfl ?_
                              refine gf_X9_24 (pc := 278) dX9_readsWord_278 ?_
                              refine V.iload (pc := 281) 4 dX9_readsWord_281 rfl ?_
                              refine V.iconst (pc := 283) (v := nI 1) dX9_readsWord_283 (by decide) ?_
                              refine V.iadd (pc := 284) (v := nI (5 + 4 * D.n + 1)) dX9_readsWord_284 (nI_add _ _) ?_
                              refine V.dup2 (pc := 285) dX9_readsWord_285 rfl rfl ?_
                              refine V.lald (pc := 286) (k := 100) (n := 645) (v := lN (len0 D wo)) (Nat.le_of_ble_eq_true rfl) (fun _ _ => rfl) (5 + 4 * D.n + 1) (by omega) (by decide) dX9_readsWord_286 (Eq.trans (sj_i _ _ _ (by omega) _) hO3.2.1) ?_
                              refine V.iload_n (pc := 287) 3 dX9_readsWord_287 rfl ?_
                              refine V.iconst (pc := 288) (v := nI 1) dX9_readsWord_288 (by decide) ?_
                              refine V.iadd (pc := 289) (v := nI (j + 1)) dX9_readsWord_289 (nI_add _ _) ?_
                              refine V.i2l (pc := 290) (v := lN (j + 1)) dX9_readsWord_290 (nI_l (by omega)) ?_
                              refine V.ladd (pc := 291) (v := lN (len0 D wo + (j + 1))) dX9_readsWord_291 (lN_add _ _) ?_
                              refine V.last (pc := 292) (k := 100) (n := 645) (v := lN (len0 D wo + (j + 1))) (Nat.le_of_ble_eq_true rfl) (fun _ _ => rfl) (5 + 4 * D.n + 1) (by omega) (by decide) dX9_readsWord_292 rfl ?_
                              refine V.aload_n (pc := 293) 0 dX9_readsWord_293 rfl ?_
                              refine gf_X9_24 (pc := 294) dX9_readsWord_294 ?_
                              refine V.iload (pc := 297) 4 dX9_readsWord_297 rfl ?_
                              refine V.iconst (pc := 299) (v := nI 2) dX9_readsWord_299 (by decide) ?_
                              refine V.iadd (pc := 300) (v := nI (5 + 4 * D.n + 2)) dX9_readsWord_300 (nI_add _ _) ?_
                              refine V.dup2 (pc := 301) dX9_readsWord_301 rfl rfl ?_
                              refine V.lald (pc := 302) (k := 100) (n := 645) (v := lN wo) (Nat.le_of_ble_eq_true rfl) (fun _ _ => rfl) (5 + 4 * D.n + 2) (by omega) (by decide) dX9_readsWord_302 (Eq.trans (sj_i _ _ _ (by omega) _) (Eq.trans (sj_i _ _ _ (by omega) _) hO3.2.2.1)) ?_
                              refine V.lconst (pc := 303) (v := lN 1) dX9_readsWord_303 (by decide) ?_
                              refine V.ladd (pc := 304) (v := lN (wo + 1)) dX9_readsWord_304 (lN_add _ _) ?_
                              refine V.last (pc := 305) (k := 100) (n := 645) (v := lN (wo + 1)) (Nat.le_of_ble_eq_true rfl) (fun _ _ => rfl) (5 + 4 * D.n + 2) (by omega) (by decide) dX9_readsWord_305 rfl ?_
                              exact V.vret (pc := 306) hF dX9_readsWord_306 ⟨rfl, (((hK3.tld _ _).tld _ _).tld _ _), Or.inl ⟨p + j, putW D2 wo j w, wo + 1, p, pl, by rw [hMe]; exact hE, by omega, hj0, h_24, by show μ3.1 96 4 = _; rw [h43]; exact hat1, by show μ3.1 96 6 = _; rw [h43]; exact hf1, (wput hT3 hfields hn (fun i a b c d => by simp [sj, vp_updL, a, b, c]) (by simp [sj, vp_updL]) (by simp [sj, vp_updL]) (by simp [sj, vp_updL]) (by rw [if_neg (by omega), hfields.2.2.2]; simp [sj, vp_updL]; exact hO3.2.2.2 (by omega))).1, (wput hT3 hfields hn (fun i a b c d => by simp [sj, vp_updL, a, b, c]) (by simp [sj, vp_updL]) (by simp [sj, vp_updL]) (by simp [sj, vp_updL]) (by rw [if_neg (by omega), hfields.2.2.2]; simp [sj, vp_updL]; exact hO3.2.2.2 (by omega))).2, hfields.1, by omega⟩⟩
                            · refine V.aload_n (pc := 251) 0 dX9_readsWord_251 rfl ?_
                              refine gf_X9_24 (pc := 252) dX9_readsWord_252 ?_
                              refine V.iload (pc := 255) 4 dX9_readsWord_255 rfl ?_
                              refine V.iconst (pc := 257) (v := nI 3) dX9_readsWord_257 (by decide) ?_
                              refine V.iadd (pc := 258) (v := nI (5 + 4 * D.n + 3)) dX9_readsWord_258 (nI_add _ _) ?_
                              refine V.iload (pc := 259) 5 dX9_readsWord_259 rfl ?_
                              refine V.i2l (pc := 261) (v := lN w) dX9_readsWord_261 (nI_l (by omega)) ?_
                              refine V.last (pc := 262) (k := 100) (n := 645) (v := lN w) (Nat.le_of_ble_eq_true rfl) (fun _ _ => rfl) (5 + 4 * D.n + 3) (by omega) (by decide) dX9_readsWord_262 rfl ?_
                              refine V.aload_n (pc := 263) 0 dX9_readsWord_263 rfl ?_
                              refine gf_X9_24 (pc := 264) dX9_readsWord_264 ?_
                              refine V.iload (pc := 267) 4 dX9_readsWord_267 rfl ?_
                              refine V.dup2 (pc := 269) dX9_readsWord_269 rfl rfl ?_
                              refine V.lald (pc := 270) (k := 100) (n := 645) (v := lN (bag0 D wo)) (Nat.le_of_ble_eq_true rfl) (fun _ _ => rfl) (5 + 4 * D.n) (by omega) (by decide) dX9_readsWord_270 (Eq.trans (sj_i _ _ _ (by omega) _) hO3.1) ?_
                              refine V.lconst (pc := 271) (v := lN 1) dX9_readsWord_271 (by decide) ?_
                              refine V.iload (pc := 272) 5 dX9_readsWord_272 rfl ?_
                              refine V.lshl (pc := 274) (v := lN (2 ^ w)) dX9_readsWord_274 (ll_shl1 (by omega)) ?_
                              refine V.lor (pc := 275) (v := lN ((bag0 D wo) ||| (2 ^ w))) dX9_readsWord_275 (ll_or _ _) ?_
                              refine V.last (pc := 276) (k := 100) (n := 645) (v := lN ((bag0 D wo) ||| (2 ^ w))) (Nat.le_of_ble_eq_true rfl) (fun _ _ => rfl) (5 + 4 * D.n) (by omega) (by decide) dX9_readsWord_276 rfl ?_
                              refine V.aload_n (pc := 277) 0 dX9_readsWord_277 rfl ?_
                              refine gf_X9_24 (pc := 278) dX9_readsWord_278 ?_
                              refine V.iload (pc := 281) 4 dX9_readsWord_281 rfl ?_
                              refine V.iconst (pc := 283) (v := nI 1) dX9_readsWord_283 (by decide) ?_
                              refine V.iadd (pc := 284) (v := nI (5 + 4 * D.n + 1)) dX9_readsWord_284 (nI_add _ _) ?_
                              refine V.dup2 (pc := 285) dX9_readsWord_285 rfl rfl ?_
                              refine V.lald (pc := 286) (k := 100) (n := 645) (v := lN (len0 D wo)) (Nat.le_of_ble_eq_true rfl) (fun _ _ => rfl) (5 + 4 * D.n + 1) (by omega) (by decide) dX9_readsWord_286 (Eq.trans (sj_i _ _ _ (by omega) _) (Eq.trans (sj_i _ _ _ (by omega) _) hO3.2.1)) ?_
                              refine V.iload_n (pc := 287) 3 dX9_readsWord_287 rfl ?_
                              refine V.iconst (pc := 288) (v := nI 1) dX9_readsWord_288 (by decide) ?_
                              refine V.iadd (pc := 289) (v := nI (j + 1)) dX9_readsWord_289 (nI_add _ _) ?_
                              refine V.i2l (pc := 290) (v := lN (j + 1)) dX9_readsWord_290 (nI_l (by omega)) ?_
                              refine V.ladd (pc := 291) (v := lN (len0 D wo + (j + 1))) dX9_readsWord_291 (lN_add _ _) ?_
                              refine V.last (pc := 292) (k := 100) (n := 645) (v := lN (len0 D wo + (j + 1))) (Nat.le_of_ble_eq_true rfl) (fun _ _ => rfl) (5 + 4 * D.n + 1) (by omega) (by decide) dX9_readsWord_292 rfl ?_
                              refine V.aload_n (pc := 293) 0 dX9_readsWord_293 rfl ?_
                              refine gf_X9_24 (pc := 294) dX9_readsWord_294 ?_
                              refine V.iload (pc := 297) 4 dX9_readsWord_297 rfl ?_
                              refine V.iconst (pc := 299) (v := nI 2) dX9_readsWord_299 (by decide) ?_
                              refine V.iadd (pc := 300) (v := nI (5 + 4 * D.n + 2)) dX9_readsWord_300 (nI_add _ _) ?_
                              refine V.dup2 (pc := 301) dX9_readsWord_301 rfl rfl ?_
                              refine V.lald (pc := 302) (k := 100) (n := 645) (v := lN wo) (Nat.le_of_ble_eq_true rfl) (fun _ _ => rfl) (5 + 4 * D.n + 2) (by omega) (by decide) dX9_readsWord_302 (Eq.trans (sj_i _ _ _ (by omega) _) (Eq.trans (sj_i _ _ _ (by omega) _) (Eq.trans (sj_i _ _ _ (by omega) _) hO3.2.2.1))) ?_
                              refine V.lconst (pc := 303) (v := lN 1) dX9_readsWord_303 (by decide) ?_
                              refine V.ladd (pc := 304) (v := lN (wo + 1)) dX9_readsWord_304 (lN_add _ _) ?_
                              refine V.last (pc := 305) (k := 100) (n := 645) (v := lN (wo + 1)) (Nat.le_of_ble_eq_true rfl) (fun _ _ => rfl) (5 + 4 * D.n + 2) (by omega) (by decide) dX9_readsWord_305 rfl ?_
                              exact V.vret (pc := 306) hF dX9_readsWord_306 ⟨rfl, ((((hK3.tld _ _).tld _ _).tld _ _).tld _ _), Or.inl ⟨p + j, putW D2 wo j w, wo + 1, p, pl, by rw [hMe]; exact hE, by omega, hj0, h_24, by show μ3.1 96 4 = _; rw [h43]; exact hat1, by show μ3.1 96 6 = _; rw [h43]; exact hf1, (wput hT3 hfields hn (fun i a b c d => by simp [sj, vp_updL, a, b, c, d]) (by simp [sj, vp_updL]) (by simp [sj, vp_updL]) (by simp [sj, vp_updL]) (by rw [if_pos h_247, updN_s]; simp [sj, vp_updL])).1, (wput hT3 hfields hn (fun i a b c d => by simp [sj, vp_updL, a, b, c, d]) (by simp [sj, vp_updL]) (by simp [sj, vp_updL]) (by simp [sj, vp_updL]) (by rw [if_pos h_247, updN_s]; simp [sj, vp_updL])).2, hfields.1, by omega⟩⟩
                        · refine V.aload_n (pc := 145) 0 dX9_readsWord_145 rfl ?_
                          refine gf_X9_24 (pc := 146) dX9_readsWord_146 ?_
                          refine V.iconst (pc := 149) (v := nI 1) dX9_readsWord_149 (by decide) ?_
                          refine V.dup2 (pc := 150) dX9_readsWord_150 rfl rfl ?_
                          refine V.lald (pc := 151) (k := 100) (n := 645) (v := lN D.u) (Nat.le_of_ble_eq_true rfl) (fun _ _ => rfl) 1 (by omega) (by decide) dX9_readsWord_151 hT1.2.1 ?_
                          refine V.lconst (pc := 152) (v := lN 1) dX9_readsWord_152 (by decide) ?_
                          refine V.ladd (pc := 153) (v := lN (D.u + 1)) dX9_readsWord_153 (lN_add _ _) ?_
                          refine V.last (pc := 154) (k := 100) (n := 645) (v := lN (D.u + 1)) (Nat.le_of_ble_eq_true rfl) (fun _ _ => rfl) 1 (by omega) (by decide) dX9_readsWord_154 rfl ?_
                          refine V.iconst (pc := 155) (v := nI 0) dX9_readsWord_155 (by decide) ?_
                          refine V.istore (pc := 156) (lv' := [(0, .ref (G.2.2 96)), (1, .int (nI D.n)), (2, .int (nI p)), (3, .int (nI j)), (4, .int (nI (5 + 4 * D.n))), (5, .int (nI w)), (6, .int (nI 0))]) dX9_readsWord_156 (by decide) rfl ?_
                          have L158 : ∀ (n_ : Nat) (k : Nat) ( μ2 : Mu), (k ≤ 10) → (μ2.1 = μ1.1) → (∀ c, c ≠ 100 → μ2.2 c = μ1.2 c) → (∀ i, i ≠ 1 → (i < 69 + 12 * w ∨ 69 + 12 * w + 10 ≤ i) → μ2.2 100 i = μ1.2 100 i) → (μ2.2 100 1 = lN (D.u + 1)) → (∀ i, i < k → i < j → μ2.2 100 (69 + 12 * w + i) = lN (bs (p + i))) → 10 - k < n_ → V G RX9 cX9_readsWord 7 3 X 158 [(0, .ref (G.2.2 96)), (1, .int (nI D.n)), (2, .int (nI p)), (3, .int (nI j)), (4, .int (nI (5 + 4 * D.n))), (5, .int (nI w)), (6, .int (nI k))] [] μ2 := by
                            intro n_
                            induction n_ with
                            | zero => intro k μ2 hk e1 e2 e3 e4 e5 hm_; exact absurd hm_ (Nat.not_lt_zero _)
                            | succ n_ ih158 =>
                              intro k μ2 hk e1 e2 e3 e4 e5 hm_
                              have hkb : k < j → bs (p + k) < 256 := fun z => (hB1.2.2 (p + k) (by omega)).2
                              refine V.iload (pc := 158) 6 dX9_readsWord_158 rfl ?_
                              refine V.bipush (pc := 160) (v := nI 10) dX9_readsWord_160 (by decide) ?_
                              refine V.icmpN_ge (pc := 162) 204 dX9_readsWord_162 (by decide) (by omega) (by omega) (fun h_162 => ?_) (fun h_162 => ?_)
                              · refine V.aload_n (pc := 204) 0 dX9_readsWord_204 rfl ?_
                                refine gf_X9_24 (pc := 205) dX9_readsWord_205 ?_
                                refine V.iload (pc := 208) 5 dX9_readsWord_208 rfl ?_
                                refine cp_X9_103 (pc := 210) dX9_readsWord_210 (ok_X9_wordAt w) (by omega) (Nat.le_of_ble_eq_true rfl) ?_
                                refine V.bipush (pc := 213) (v := nI 10) dX9_readsWord_213 (by decide) ?_
                                refine V.iadd (pc := 215) (v := nI (69 + 12 * w + 10)) dX9_readsWord_215 (nI_add _ _) ?_
                                refine V.iload_n (pc := 216) 3 dX9_readsWord_216 rfl ?_
                                refine V.i2l (pc := 217) (v := lN j) dX9_readsWord_217 (nI_l (by omega)) ?_
                                refine V.last (pc := 218) (k := 100) (n := 645) (v := lN j) (Nat.le_of_ble_eq_true rfl) (fun _ _ => rfl) (69 + 12 * w + 10) (by omega) (by decide) dX9_readsWord_218 rfl ?_
                                refine V.aload_n (pc := 219) 0 dX9_readsWord_219 rfl ?_
                                refine gf_X9_24 (pc := 220) dX9_readsWord_220 ?_
                                refine V.iload (pc := 223) 5 dX9_readsWord_223 rfl ?_
                                refine cp_X9_103 (pc := 225) dX9_readsWord_225 (ok_X9_wordAt w) (by omega) (Nat.le_of_ble_eq_true rfl) ?_
                                refine V.bipush (pc := 228) (v := nI 10) dX9_readsWord_228 (by decide) ?_
                                refine V.iadd (pc := 230) (v := nI (69 + 12 * w + 10)) dX9_readsWord_230 (nI_add _ _) ?_
                                refine V.iconst (pc := 231) (v := nI 1) dX9_readsWord_231 (by decide) ?_
                                refine V.iadd (pc := 232) (v := nI (69 + 12 * w + 10 + 1)) dX9_readsWord_232 (nI_add _ _) ?_
                                refine V.ldc2_w (pc := 233) (v := (-1)) mw_5_75 dX9_readsWord_233 ?_
                                refine V.last (pc := 236) (k := 100) (n := 645) (v := (-1)) (Nat.le_of_ble_eq_true rfl) (fun _ _ => rfl) (69 + 12 * w + 10 + 1) (by omega) (by decide) dX9_readsWord_236 rfl ?_
                                obtain ⟨μ3, hμ3⟩ : ∃ q, q = sj (sj μ2 100 (69 + 12 * w + 10) (lN j)) 100 (69 + 12 * w + 10 + 1) (-1) := ⟨_, rfl⟩
                                rw [← hμ3]
                                have hwu : D.u = w := by omega
                                obtain ⟨D2, hD2⟩ : ∃ q, q = newW D bs p j := ⟨_, rfl⟩
                                have hnew := Tm_new (μ2 := μ2) (μ3 := μ3) (bs := bs) (p := p) (j := j) hT1 hn (by omega) (fun x hx => (hwd x hx).2.1) (by rw [hwu]; exact e3) e4 (by rw [hwu]; exact fun i h1 h2 => e5 i (by omega) h2) (by rw [hwu]; exact hμ3)
                                have hT3 : Tm μ3 D2 B := by rw [hD2]; exact hnew.1
                                have hO3 : To μ3 D wo := ⟨(hnew.2 _ (by omega) (by omega)).trans hO1.1, (hnew.2 _ (by omega) (by omega)).trans hO1.2.1, (hnew.2 _ (by omega) (by omega)).trans hO1.2.2.1, fun z => (hnew.2 _ (by omega) (by omega)).trans (hO1.2.2.2 z)⟩
                                have h43 : μ3.1 = μ1.1 := by rw [hμ3]; exact e1
                                have hK3 : Kt μ μ3 := hK1.trans ⟨fun i _ _ _ => by rw [h43], fun c _ => by rw [h43], fun c hc => by rw [hμ3, sj_c _ _ _ hc, sj_c _ _ _ hc]; exact e2 c hc, fun z => by rw [h43] at z ⊢; exact ⟨z, rfl⟩⟩
                                have hw2 : w < D2.u := by rw [hD2]; show w < D.u + 1; omega
                                have hu2 : D2.u ≤ 48 := by rw [hD2]; show D.u + 1 ≤ 48; omega
                                have hfields : D2.n = D.n ∧ D2.bag = D.bag ∧ D2.len = D.len ∧ D2.fst = D.fst := by rw [hD2]; exact ⟨rfl, rfl, rfl, rfl⟩
                                have hE : endW bs (D, wo, j, p, 0, pl) = (putW D2 wo j w, wo + 1, 0, p, 0, pl) := by rw [ew_add hj1 (by omega) (by omega), addW_3 (by rw [hfn]; omega) (by omega), hD2, ← hwu]; rfl
                                clear hμ3 hD2 hnew
                                · refine V.sub [0, 1, 2, 3, 4, 5] rfl ?_
                                  refine V.aload_n (pc := 237) 0 dX9_readsWord_237 rfl ?_
                                  refine gf_X9_24 (pc := 238) dX9_readsWord_238 ?_
                                  refine V.iload (pc := 241) 4 dX9_readsWord_241 rfl ?_
                                  refine V.iconst (pc := 243) (v := nI 2) dX9_readsWord_243 (by decide) ?_
                                  refine V.iadd (pc := 244) (v := nI (5 + 4 * D.n + 2)) dX9_readsWord_244 (nI_add _ _) ?_
                                  refine V.lald (pc := 245) (k := 100) (n := 645) (v := lN wo) (Nat.le_of_ble_eq_true rfl) (fun _ _ => rfl) (5 + 4 * D.n + 2) (by omega) (by decide) dX9_readsWord_245 hO3.2.2.1 ?_
                                  refine V.lconst (pc := 246) (v := lN 0) dX9_readsWord_246 (by decide) ?_
                                  refine V.lcmpN_ne (pc := 247) 263 dX9_readsWord_247 dX9_readsWord_248 (by decide) (by omega) (by omega) (fun h_247 => ?_) (fun h_247 => ?_)
                                  · refine V.aload_n (pc := 263) 0 dX9_readsWord_263 rfl ?_
                                    refine gf_X9_24 (pc := 264) dX9_readsWord_264 ?_
                                    refine V.iload (pc := 267) 4 dX9_readsWord_267 rfl ?_
                                    refine V.dup2 (pc := 269) dX9_readsWord_269 rfl rfl ?_
                                    refine V.lald (pc := 270) (k := 100) (n := 645) (v := lN (bag0 D wo)) (Nat.le_of_ble_eq_true rfl) (fun _ _ => rfl) (5 + 4 * D.n) (by omega) (by decide) dX9_readsWord_270 hO3.1 ?_
                                    refine V.lconst (pc := 271) (v := lN 1) dX9_readsWord_271 (by decide) ?_
                                    refine V.iload (pc := 272) 5 dX9_readsWord_272 rfl ?_
                                    refine V.lshl (pc := 274) (v := lN (2 ^ w)) dX9_readsWord_274 (ll_shl1 (by omega)) ?_
                                    refine V.lor (pc := 275) (v := lN ((bag0 D wo) ||| (2 ^ w))) dX9_readsWord_275 (ll_or _ _) ?_
                                    refine V.last (pc := 276) (k := 100) (n := 645) (v := lN ((bag0 D wo) ||| (2 ^ w))) (Nat.le_of_ble_eq_true rfl) (fun _ _ => rfl) (5 + 4 * D.n) (by omega) (by decide) dX9_readsWord_276 rfl ?_
                                    refine V.aload_n (pc := 277) 0 dX9_readsWord_277 rfl ?_
                                    refine gf_X9_24 (pc := 278) dX9_readsWord_278 ?_
                                    refine V.iload (pc := 281) 4 dX9_readsWord_281 rfl ?_
                                    refine V.iconst (pc := 283) (v := nI 1) dX9_readsWord_283 (by decide) ?_
                                    refine V.iadd (pc := 284) (v := nI (5 + 4 * D.n + 1)) dX9_readsWord_284 (nI_add _ _) ?_
                                    refine V.dup2 (pc := 285) dX9_readsWord_285 rfl rfl ?_
                                    refine V.lald (pc := 286) (k := 100) (n := 645) (v := lN (len0 D wo)) (Nat.le_of_ble_eq_true rfl) (fun _ _ => rfl) (5 + 4 * D.n + 1) (by omega) (by decide) dX9_readsWord_286 (Eq.trans (sj_i _ _ _ (by omega) _) hO3.2.1) ?_
                                    refine V.iload_n (pc := 287) 3 dX9_readsWord_287 rfl ?_
                                    refine V.iconst (pc := 288) (v := nI 1) dX9_readsWord_288 (by decide) ?_
                                    refine V.iadd (pc := 289) (v := nI (j + 1)) dX9_readsWord_289 (nI_add _ _) ?_
                                    refine V.i2l (pc := 290) (v := lN (j + 1)) dX9_readsWord_290 (nI_l (by omega)) ?_
                                    refine V.ladd (pc := 291) (v := lN (len0 D wo + (j + 1))) dX9_readsWord_291 (lN_add _ _) ?_
                                    refine V.last (pc := 292) (k := 100) (n := 645) (v := lN (len0 D wo + (j + 1))) (Nat.le_of_ble_eq_true rfl) (fun _ _ => rfl) (5 + 4 * D.n + 1) (by omega) (by decide) dX9_readsWord_292 rfl ?_
                                    refine V.aload_n (pc := 293) 0 dX9_readsWord_293 rfl ?_
                                    refine gf_X9_24 (pc := 294) dX9_readsWord_294 ?_
                                    refine V.iload (pc := 297) 4 dX9_readsWord_297 rfl ?_
                                    refine V.iconst (pc := 299) (v := nI 2) dX9_readsWord_299 (by decide) ?_
                                    refine V.iadd (pc := 300) (v := nI (5 + 4 * D.n + 2)) dX9_readsWord_300 (nI_add _ _) ?_
                                    refine V.dup2 (pc := 301) dX9_readsWord_301 rfl rfl ?_
                                    refine V.lald (pc := 302) (k := 100) (n := 645) (v := lN wo) (Nat.le_of_ble_eq_true rfl) (fun _ _ => rfl) (5 + 4 * D.n + 2) (by omega) (by decide) dX9_readsWord_302 (Eq.trans (sj_i _ _ _ (by omega) _) (Eq.trans (sj_i _ _ _ (by omega) _) hO3.2.2.1)) ?_
                                    refine V.lconst (pc := 303) (v := lN 1) dX9_readsWord_303 (by decide) ?_
                                    refine V.ladd (pc := 304) (v := lN (wo + 1)) dX9_readsWord_304 (lN_add _ _) ?_
                                    refine V.last (pc := 305) (k := 100) (n := 645) (v := lN (wo + 1)) (Nat.le_of_ble_eq_true rfl) (fun _ _ => rfl) (5 + 4 * D.n + 2) (by omega) (by decide) dX9_readsWord_305 rfl ?_
                                    exact V.vret (pc := 306) hF dX9_readsWord_306 ⟨rfl, (((hK3.tld _ _).tld _ _).tld _ _), Or.inl ⟨p + j, putW D2 wo j w, wo + 1, p, pl, by rw [hMe]; exact hE, by omega, hj0, h_24, by show μ3.1 96 4 = _; rw [h43]; exact hat1, by show μ3.1 96 6 = _; rw [h43]; exact hf1, (wput hT3 hfields hn (fun i a b c d => by simp [sj, vp_updL, a, b, c]) (by simp [sj, vp_updL]) (by simp [sj, vp_updL]) (by simp [sj, vp_updL]) (by rw [if_neg (by omega), hfields.2.2.2]; simp [sj, vp_updL]; exact hO3.2.2.2 (by omega))).1, (wput hT3 hfields hn (fun i a b c d => by simp [sj, vp_updL, a, b, c]) (by simp [sj, vp_updL]) (by simp [sj, vp_updL]) (by simp [sj, vp_updL]) (by rw [if_neg (by omega), hfields.2.2.2]; simp [sj, vp_updL]; exact hO3.2.2.2 (by omega))).2, hfields.1, by omega⟩⟩
                                  · refine V.aload_n (pc := 251) 0 dX9_readsWord_251 rfl ?_
                                    refine gf_X9_24 (pc := 252) dX9_readsWord_252 ?_
                                    refine V.iload (pc := 255) 4 dX9_readsWord_255 rfl ?_
                                    refine V.iconst (pc := 257) (v := nI 3) dX9_readsWord_257 (by decide) ?_
                                    refine V.iadd (pc := 258) (v := nI (5 + 4 * D.n + 3)) dX9_readsWord_258 (nI_add _ _) ?_
                                    refine V.iload (pc := 259) 5 dX9_readsWord_259 rfl ?_
                                    refine V.i2l (pc := 261) (v := lN w) dX9_readsWord_261 (nI_l (by omega)) ?_
                                    refine V.last (pc := 262) (k := 100) (n := 645) (v := lN w) (Nat.le_of_ble_eq_true rfl) (fun _ _ => rfl) (5 + 4 * D.n + 3) (by omega) (by decide) dX9_readsWord_262 rfl ?_
                                    refine V.aload_n (pc := 263) 0 dX9_readsWord_263 rfl ?_
                                    refine gf_X9_24 (pc := 264) dX9_readsWord_264 ?_
                                    refine V.iload (pc := 267) 4 dX9_readsWord_267 rfl ?_
                                    refine V.dup2 (pc := 269) dX9_readsWord_269 rfl rfl ?_
                                    refine V.lald (pc := 270) (k := 100) (n := 645) (v := lN (bag0 D wo)) (Nat.le_of_ble_eq_true rfl) (fun _ _ => rfl) (5 + 4 * D.n) (by omega) (by decide) dX9_readsWord_270 (Eq.trans (sj_i _ _ _ (by omega) _) hO3.1) ?_
                                    refine V.lconst (pc := 271) (v := lN 1) dX9_readsWord_271 (by decide) ?_
                                    refine V.iload (pc := 272) 5 dX9_readsWord_272 rfl ?_
                                    refine V.lshl (pc := 274) (v := lN (2 ^ w)) dX9_readsWord_274 (ll_shl1 (by omega)) ?_
                                    refine V.lor (pc := 275) (v := lN ((bag0 D wo) ||| (2 ^ w))) dX9_readsWord_275 (ll_or _ _) ?_
                                    refine V.last (pc := 276) (k := 100) (n := 645) (v := lN ((bag0 D wo) ||| (2 ^ w))) (Nat.le_of_ble_eq_true rfl) (fun _ _ => rfl) (5 + 4 * D.n) (by omega) (by decide) dX9_readsWord_276 rfl ?_
                                    refine V.aload_n (pc := 277) 0 dX9_readsWord_277 rfl ?_
                                    refine gf_X9_24 (pc := 278) dX9_readsWord_278 ?_
                                    refine V.iload (pc := 281) 4 dX9_readsWord_281 rfl ?_
                                    refine V.iconst (pc := 283) (v := nI 1) dX9_readsWord_283 (by decide) ?_
                                    refine V.iadd (pc := 284) (v := nI (5 + 4 * D.n + 1)) dX9_readsWord_284 (nI_add _ _) ?_
                                    refine V.dup2 (pc := 285) dX9_readsWord_285 rfl rfl ?_
                                    refine V.lald (pc := 286) (k := 100) (n := 645) (v := lN (len0 D wo)) (Nat.le_of_ble_eq_true rfl) (fun _ _ => rfl) (5 + 4 * D.n + 1) (by omega) (by decide) dX9_readsWord_286 (Eq.trans (sj_i _ _ _ (by omega) _) (Eq.trans (sj_i _ _ _ (by omega) _) hO3.2.1)) ?_
                                    refine V.iload_n (pc := 287) 3 dX9_readsWord_287 rfl ?_
                                    refine V.iconst (pc := 288) (v := nI 1) dX9_readsWord_288 (by decide) ?_
                                    refine V.iadd (pc := 289) (v := nI (j + 1)) dX9_readsWord_289 (nI_add _ _) ?_
                                    refine V.i2l (pc := 290) (v := lN (j + 1)) dX9_readsWord_290 (nI_l (by omega)) ?_
                                    refine V.ladd (pc := 291) (v := lN (len0 D wo + (j + 1))) dX9_readsWord_291 (lN_add _ _) ?_
                                    refine V.last (pc := 292) (k := 100) (n := 645) (v := lN (len0 D wo + (j + 1))) (Nat.le_of_ble_eq_true rfl) (fun _ _ => rfl) (5 + 4 * D.n + 1) (by omega) (by decide) dX9_readsWord_292 rfl ?_
                                    refine V.aload_n (pc := 293) 0 dX9_readsWord_293 rfl ?_
                                    refine gf_X9_24 (pc := 294) dX9_readsWord_294 ?_
                                    refine V.iload (pc := 297) 4 dX9_readsWord_297 rfl ?_
                                    refine V.iconst (pc := 299) (v := nI 2) dX9_readsWord_299 (by decide) ?_
                                    refine V.iadd (pc := 300) (v := nI (5 + 4 * D.n + 2)) dX9_readsWord_300 (nI_add _ _) ?_
                                    refine V.dup2 (pc := 301) dX9_readsWord_301 rfl rfl ?_
                                    refine V.lald (pc := 302) (k := 100) (n := 645) (v := lN wo) (Nat.le_of_ble_eq_true rfl) (fun _ _ => rfl) (5 + 4 * D.n + 2) (by omega) (by decide) dX9_readsWord_302 (Eq.trans (sj_i _ _ _ (by omega) _) (Eq.trans (sj_i _ _ _ (by omega) _) (Eq.trans (sj_i _ _ _ (by omega) _) hO3.2.2.1))) ?_
                                    refine V.lconst (pc := 303) (v := lN 1) dX9_readsWord_303 (by decide) ?_
                                    refine V.ladd (pc := 304) (v := lN (wo + 1)) dX9_readsWord_304 (lN_add _ _) ?_
                                    refine V.last (pc := 305) (k := 100) (n := 645) (v := lN (wo + 1)) (Nat.le_of_ble_eq_true rfl) (fun _ _ => rfl) (5 + 4 * D.n + 2) (by omega) (by decide) dX9_readsWord_305 rfl ?_
                                    exact V.vret (pc := 306) hF dX9_readsWord_306 ⟨rfl, ((((hK3.tld _ _).tld _ _).tld _ _).tld _ _), Or.inl ⟨p + j, putW D2 wo j w, wo + 1, p, pl, by rw [hMe]; exact hE, by omega, hj0, h_24, by show μ3.1 96 4 = _; rw [h43]; exact hat1, by show μ3.1 96 6 = _; rw [h43]; exact hf1, (wput hT3 hfields hn (fun i a b c d => by simp [sj, vp_updL, a, b, c, d]) (by simp [sj, vp_updL]) (by simp [sj, vp_updL]) (by simp [sj, vp_updL]) (by rw [if_pos h_247, updN_s]; simp [sj, vp_updL])).1, (wput hT3 hfields hn (fun i a b c d => by simp [sj, vp_updL, a, b, c, d]) (by simp [sj, vp_updL]) (by simp [sj, vp_updL]) (by simp [sj, vp_updL]) (by rw [if_pos h_247, updN_s]; simp [sj, vp_updL])).2, hfields.1, by omega⟩⟩
                              · refine V.aload_n (pc := 165) 0 dX9_readsWord_165 rfl ?_
                                refine gf_X9_24 (pc := 166) dX9_readsWord_166 ?_
                                refine V.iload (pc := 169) 5 dX9_readsWord_169 rfl ?_
                                refine cp_X9_103 (pc := 171) dX9_readsWord_171 (ok_X9_wordAt w) (by omega) (Nat.le_of_ble_eq_true rfl) ?_
                                refine V.iload (pc := 174) 6 dX9_readsWord_174 rfl ?_
                                refine V.iadd (pc := 176) (v := nI (69 + 12 * w + k)) dX9_readsWord_176 (nI_add _ _) ?_
                                refine V.iload (pc := 177) 6 dX9_readsWord_177 rfl ?_
                                refine V.iload_n (pc := 179) 3 dX9_readsWord_179 rfl ?_
                                refine V.icmpN_ge (pc := 180) 196 dX9_readsWord_180 (by decide) (by omega) (by omega) (fun h_180 => ?_) (fun h_180 => ?_)
                                · refine V.lconst (pc := 196) (v := lN 0) dX9_readsWord_196 (by decide) ?_
                                  refine V.last (pc := 197) (k := 100) (n := 645) (v := lN 0) (Nat.le_of_ble_eq_true rfl) (fun _ _ => rfl) (69 + 12 * w + k) (by omega) (by decide) dX9_readsWord_197 rfl ?_
                                  refine V.iinc (pc := 198) (v := nI (k + 1)) (lv' := [(0, .ref (G.2.2 96)), (1, .int (nI D.n)), (2, .int (nI p)), (3, .int (nI j)), (4, .int (nI (5 + 4 * D.n))), (5, .int (nI w)), (6, .int (nI (k + 1)))]) 6 dX9_readsWord_198 rfl (nn_inc _) (by decide) rfl ?_
                                  refine V.goto (pc := 201) 158 dX9_readsWord_201 (by decide) ?_
                                  exact ih158 (k + 1) (sj μ2 100 (69 + 12 * w + k) (lN 0)) (by omega) e1 (fun c hc => (sj_c _ _ _ hc).trans (e2 c hc)) (fun i a b => (sj_i _ _ _ (by omega) _).trans (e3 i a b)) ((sj_i _ _ _ (by omega) _).trans e4) (fun i hi hij => let_st e5 (fun z => absurd z (by omega)) i hi hij) (by omega)
                                · refine V.aload_n (pc := 183) 0 dX9_readsWord_183 rfl ?_
                                  refine gf_X9_17 (pc := 184) dX9_readsWord_184 ?_
                                  refine V.iload_n (pc := 187) 2 dX9_readsWord_187 rfl ?_
                                  refine V.iload (pc := 188) 6 dX9_readsWord_188 rfl ?_
                                  refine V.iadd (pc := 190) (v := nI (p + k)) dX9_readsWord_190 (nI_add _ _) ?_
                                  refine V.iald (pc := 191) (k := 98) (n := 600) (v := nI (bs (p + k))) (Nat.le_of_ble_eq_true rfl) (fun _ _ => rfl) (p + k) (by omega) (by decide) dX9_readsWord_191 ((congrFun (congrFun e1 98) (p + k)).trans (hB1.2.2 (p + k) (by omega)).1) ?_
                                  refine V.i2l (pc := 192) (v := lN (bs (p + k))) dX9_readsWord_192 (nI_l (by omega)) ?_
                                  refine V.goto (pc := 193) 197 dX9_readsWord_193 (by decide) ?_
                                  refine V.last (pc := 197) (k := 100) (n := 645) (v := lN (bs (p + k))) (Nat.le_of_ble_eq_true rfl) (fun _ _ => rfl) (69 + 12 * w + k) (by omega) (by decide) dX9_readsWord_197 rfl ?_
                                  refine V.iinc (pc := 198) (v := nI (k + 1)) (lv' := [(0, .ref (G.2.2 96)), (1, .int (nI D.n)), (2, .int (nI p)), (3, .int (nI j)), (4, .int (nI (5 + 4 * D.n))), (5, .int (nI w)), (6, .int (nI (k + 1)))]) 6 dX9_readsWord_198 rfl (nn_inc _) (by decide) rfl ?_
                                  refine V.goto (pc := 201) 158 dX9_readsWord_201 (by decide) ?_
                                  exact ih158 (k + 1) (sj μ2 100 (69 + 12 * w + k) (lN (bs (p + k)))) (by omega) e1 (fun c hc => (sj_c _ _ _ hc).trans (e2 c hc)) (fun i a b => (sj_i _ _ _ (by omega) _).trans (e3 i a b)) ((sj_i _ _ _ (by omega) _).trans e4) (fun i hi hij => let_st e5 (fun _ => rfl) i hi hij) (by omega)
                          exact L158 _ 0 (sj μ1 100 1 (lN (D.u + 1))) (by omega) rfl (fun c hc => sj_c _ _ _ hc) (fun i a b => sj_i _ _ _ a _) (sj_s _ _ _ _) (fun i hi => absurd hi (by omega)) (Nat.lt_succ_self _)
                      · refine V.aload_n (pc := 125) 0 dX9_readsWord_125 rfl ?_
                        refine V.iconst (pc := 126) (v := nI 3) dX9_readsWord_126 (by decide) ?_
                        refine V.iload_n (pc := 127) 2 dX9_readsWord_127 rfl ?_
                        refine cl_X9_89 (pc := 128) dX9_readsWord_128 (ok_wrong0 3 p hf1) (by omega) (Nat.le_of_ble_eq_true rfl) (fun r_ μ_ h_ => ?_)
                        obtain ⟨rfl, rfl⟩ := h_
                        exact V.vret (pc := 131) hF dX9_readsWord_131 ⟨rfl, hK1.wrg _ (by decide), Or.inr (FL_w (f := 3) (w := p) (D' := D) (wo' := wo) hj0 h_24 hMe rfl (by rw [ew_add hj1 (by omega) (by omega), addW_2 (by rw [hfn]; omega) (by omega)]; rfl) (by decide) (by simp [si, upd]) (by simp [si, upd]))⟩
                    · refine V.iinc (pc := 112) (v := nI (w + 1)) (lv' := [(0, .ref (G.2.2 96)), (1, .int (nI D.n)), (2, .int (nI p)), (3, .int (nI j)), (4, .int (nI (5 + 4 * D.n))), (5, .int (nI (w + 1)))]) 5 dX9_readsWord_112 rfl (nn_inc _) (by decide) rfl ?_
                      refine V.goto (pc := 115) 88 dX9_readsWord_115 (by decide) ?_
                      exact ih88 (w + 1) (by omega) (lt_s hno h_109) (by omega)
              exact L88 _ 0 (by omega) (fun i hi => absurd hi (by omega)) (Nat.lt_succ_self _)
            · refine V.aload_n (pc := 71) 0 dX9_readsWord_71 rfl ?_
              refine V.iconst (pc := 72) (v := nI 3) dX9_readsWord_72 (by decide) ?_
              refine V.iload_n (pc := 73) 2 dX9_readsWord_73 rfl ?_
              refine cl_X9_89 (pc := 74) dX9_readsWord_74 (ok_wrong0 3 p hf1) (by omega) (Nat.le_of_ble_eq_true rfl) (fun r_ μ_ h_ => ?_)
              obtain ⟨rfl, rfl⟩ := h_
              refine V.aload_n (pc := 77) 0 dX9_readsWord_77 rfl ?_
              refine cp_X9_95 (pc := 78) dX9_readsWord_78 (ok_X9_fine 3 (by simp [si, upd]) (by decide)) (by omega) (Nat.le_of_ble_eq_true rfl) ?_
              refine V.ifN_ne (pc := 81) 85 dX9_readsWord_81 (by decide) (by decide) (fun h_ => absurd h_ (by decide)) (fun h_81 => ?_)
              exact V.vret (pc := 84) hF dX9_readsWord_84 ⟨rfl, hK1.wrg _ (by decide), Or.inr (FL_w (f := 3) (w := p) (D' := D) (wo' := wo) hj0 h_24 hMe rfl (ew_many hj1 (by omega) (by omega)) (by decide) (by simp [si, upd]) (by simp [si, upd]))⟩
          · refine V.aload_n (pc := 49) 0 dX9_readsWord_49 rfl ?_
            refine V.iconst (pc := 50) (v := nI 2) dX9_readsWord_50 (by decide) ?_
            refine V.iload_n (pc := 51) 2 dX9_readsWord_51 rfl ?_
            refine cl_X9_89 (pc := 52) dX9_readsWord_52 (ok_wrong0 2 p hf1) (by omega) (Nat.le_of_ble_eq_true rfl) (fun r_ μ_ h_ => ?_)
            obtain ⟨rfl, rfl⟩ := h_
            refine V.aload_n (pc := 55) 0 dX9_readsWord_55 rfl ?_
            refine gf_X9_24 (pc := 56) dX9_readsWord_56 ?_
            refine V.iload (pc := 59) 4 dX9_readsWord_59 rfl ?_
            refine V.iconst (pc := 61) (v := nI 2) dX9_readsWord_61 (by decide) ?_
            refine V.iadd (pc := 62) (v := nI (5 + 4 * D.n + 2)) dX9_readsWord_62 (nI_add _ _) ?_
            refine V.lald (pc := 63) (k := 100) (n := 645) (v := lN wo) (Nat.le_of_ble_eq_true rfl) (fun _ _ => rfl) (5 + 4 * D.n + 2) (by omega) (by decide) dX9_readsWord_63 hO1.2.2.1 ?_
            refine V.ldc2_w (pc := 64) (v := lN 30) mw_5_67 dX9_readsWord_64 ?_
            refine V.lcmpN_ne (pc := 67) 77 dX9_readsWord_67 dX9_readsWord_68 (by decide) (by omega) (by omega) (fun h_67 => ?_) (fun h_67 => ?_)
            · refine V.aload_n (pc := 77) 0 dX9_readsWord_77 rfl ?_
              refine cp_X9_95 (pc := 78) dX9_readsWord_78 (ok_X9_fine 2 (by simp [si, upd]) (by decide)) (by omega) (Nat.le_of_ble_eq_true rfl) ?_
              refine V.ifN_ne (pc := 81) 85 dX9_readsWord_81 (by decide) (by decide) (fun h_ => absurd h_ (by decide)) (fun h_81 => ?_)
              exact V.vret (pc := 84) hF dX9_readsWord_84 ⟨rfl, hK1.wrg _ (by decide), Or.inr (FL_w (f := 2) (w := p) (D' := D) (wo' := wo) hj0 h_24 hMe rfl (ew_long (by omega)) (by decide) (by simp [si, upd]) (by simp [si, upd]))⟩
            · refine V.aload_n (pc := 71) 0 dX9_readsWord_71 rfl ?_
              refine V.iconst (pc := 72) (v := nI 3) dX9_readsWord_72 (by decide) ?_
              refine V.iload_n (pc := 73) 2 dX9_readsWord_73 rfl ?_
              refine cl_X9_89 (pc := 74) dX9_readsWord_74 (ok_wrong1 2 3 p (by simp [si, upd]) (by decide)) (by omega) (Nat.le_of_ble_eq_true rfl) (fun r_ μ_ h_ => ?_)
              obtain ⟨rfl, rfl⟩ := h_
              refine V.aload_n (pc := 77) 0 dX9_readsWord_77 rfl ?_
              refine cp_X9_95 (pc := 78) dX9_readsWord_78 (ok_X9_fine 2 (by simp [si, upd]) (by decide)) (by omega) (Nat.le_of_ble_eq_true rfl) ?_
              refine V.ifN_ne (pc := 81) 85 dX9_readsWord_81 (by decide) (by decide) (fun h_ => absurd h_ (by decide)) (fun h_81 => ?_)
              exact V.vret (pc := 84) hF dX9_readsWord_84 ⟨rfl, hK1.wrg _ (by decide), Or.inr (FL_w (f := 2) (w := p) (D' := D) (wo' := wo) hj0 h_24 hMe rfl (ew_long (by omega)) (by decide) (by simp [si, upd]) (by simp [si, upd]))⟩
      · have hsm := sm_yes h_24
        refine V.aload_n (pc := 27) 0 dX9_readsWord_27 rfl ?_
        refine V.dup (pc := 28) dX9_readsWord_28 rfl ?_
        refine gf_X9_73 (pc := 29) (v := nI (p + j)) dX9_readsWord_29 (si_s _ _ _ _) ?_
        refine V.iconst (pc := 32) (v := nI 1) dX9_readsWord_32 (by decide) ?_
        refine V.iadd (pc := 33) (v := nI (p + j + 1)) dX9_readsWord_33 (nI_add _ _) ?_
        refine pf_X9_73 (pc := 34) dX9_readsWord_34 ?_
        refine V.iinc (pc := 37) (v := nI (j + 1)) (lv' := [(0, .ref (G.2.2 96)), (1, .int (nI D.n)), (2, .int (nI p)), (3, .int (nI (j + 1))), (4, .int (nI (5 + 4 * D.n)))]) 3 dX9_readsWord_37 rfl (nn_inc _) (by decide) rfl ?_
        refine V.goto (pc := 40) 13 dX9_readsWord_40 (by decide) ?_
        refine V.mu (si_si _ _ _ _ _) ?_
        exact ih13 (j + 1) (by omega) (rrun_lt hM2 hsm.2) (by omega)
  refine V.mu (si_self hat) ?_
  exact L13 _ 0 (by omega) hM (Nat.lt_succ_self _)
