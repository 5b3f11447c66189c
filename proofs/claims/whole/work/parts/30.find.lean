theorem pv_sub (m : Nat) : nI m - nI 1 = pv m := by
  cases m with
  | zero => decide
  | succ m => rw [pv_s, pk_sub (by omega)]; rfl
theorem pv_dec (m : Nat) : nI m + Int32.ofInt (-1) = pv m := by
  cases m with
  | zero => decide
  | succ m => rw [pv_s]; exact nn_dec m
theorem bagUp_0 (S : TS) : ∀ i, bagUp S 0 i = 0
  | 0 => rfl
  | i + 1 => by rw [← bagUp_f (Nat.zero_testBit i)]; exact bagUp_0 S i
theorem bagOf_0 (S : TS) : bagOf S 0 = 0 := bagUp_0 S S.n
theorem wOf_0 (S : TS) : wOf S 0 = 0 := wUp_z0 (fun j _ => Nat.zero_testBit j)
theorem cov_0 (S : TS) : cov S 0 = 0 := by rw [cov, bagOf_0, wOf_0]
theorem lenUp_0 (S : TS) : ∀ i, lenUp S 0 i = 0
  | 0 => rfl
  | i + 1 => by rw [← lenUp_f (Nat.zero_testBit i)]; exact lenUp_0 S i
theorem lenOf_0 (S : TS) : lenOf S 0 = 0 := lenUp_0 S S.n
theorem rch_0 (S : TS) (br : Nat) : rch S br 0 0 = wOf S (bfr S br 0) := by rw [rch, bagOf_0, Nat.zero_or]
def Sx0 (μ : Mu) (o br mL lC : Nat) : Prop := μ.1 92 0 = nI o ∧ μ.1 92 1 = pv br ∧ μ.1 92 2 = nI mL ∧ μ.1 92 3 = nI lC
def Sp (μ : Mu) (S : TS) (o br mL lC j : Nat) : Prop := Sx0 μ o br mL lC ∧ μ.1 92 5 = nI 0 ∧ μ.1 92 6 = nI 0 ∧ μ.1 92 7 = nI 0 ∧ μ.1 92 8 = nI 0 ∧ ∀ s, j ≤ s → s ≤ S.n → μ.2 93 s = lN (bfr S br s)
theorem Sp.step {μ : Mu} {S : TS} {o br mL lC s : Nat} (h : Sp μ S o br mL lC (s + 1)) : Sp (sj μ 93 s (lN (bfr S br s))) S o br mL lC s := by
  refine ⟨h.1, h.2.1, h.2.2.1, h.2.2.2.1, h.2.2.2.2.1, fun i h1 h2 => ?_⟩
  by_cases e : i = s
  · subst e; exact sj_s _ _ _ _
  · rw [sj_i _ _ _ e]; exact h.2.2.2.2.2 i (by omega) h2
theorem Sp.sb {μ : Mu} {S : TS} {o br mL lC : Nat} (h : Sp μ S o br mL lC 0) : Sb μ S false 0 := ⟨h.2.1, h.2.2.1, by rw [cov_0]; exact h.2.2.2.1, by rw [lenOf_0]; exact h.2.2.2.2.1, by decide⟩
theorem Sp.sx {μ : Mu} {S : TS} {o br mL lC : Nat} (h : Sp μ S o br mL lC 0) (ho : o < 3) (hbr : br ≤ S.n) (hm : mL < 2 ^ 31) (hc : lC ≤ 48001) : Sx μ S o br mL lC := ⟨h.1.1, h.1.2.1, h.1.2.2.1, h.1.2.2.2, fun s hs => h.2.2.2.2.2 s (Nat.zero_le _) hs, ho, hbr, hm, hc⟩
theorem Vw_0 (S : TS) (br : Nat) : Vw S br 0 0 := ⟨Nat.zero_le _, by decide, fun s hs => absurd hs (by omega), fun s _ => Nat.zero_testBit s⟩
def FPost (μ : Mu) (S : TS) (o br mL lC : Nat) (r : Option Value) (μ' : Mu) : Prop := r = none ∧ Fr μ μ' C92 ∧ ∃ (f : Bool) (b : Nat), Sb μ' S f b ∧ Best S o br mL lC (fun _ => True) f b
theorem best_0 (S : TS) (o br mL lC : Nat) : Best S o br mL lC (fun _ => False) false 0 := Or.inl ⟨rfl, rfl, fun _ h => h.elim⟩
theorem best_all {S : TS} {o br mL lC : Nat} {f : Bool} {b : Nat} (h : Best S o br mL lC (fun x => False ∨ Sub S 0 0 x) f b) : Best S o br mL lC (fun _ => True) f b := h.cong (fun x hx => ⟨fun _ => trivial, fun _ => Or.inr ⟨hx, fun i hi => absurd hi (by omega)⟩⟩)
theorem ok_X5_visitAll {G : Gx} {μ : Mu} (t : Nat) (ht : t < 10) (S : TS) (hS : St μ t S) (o br mL lC : Nat) (hx : Sx0 μ o br mL lC) (ho : o < 3) (hbr : br ≤ S.n) (hmL : mL < 2 ^ 31) (hlC : lC ≤ 48001) : Runs 20 M_X5_visitAll [.ref (G.2.2 92), .ref (G.2.2 (8 * t))] G μ (FPost μ S o br mL lC) := by
  have hn := hS.vs.n16
  have hu := pow48 hS.vs
  refine Runs.go RX5 rfl (by decide) [(0, .ref (G.2.2 92)), (1, .ref (G.2.2 (8 * t)))] (Nat.le_of_ble_eq_true rfl) rfl (fun X hF => ?_)
  refine V.aload_n (pc := 0) 0 dX5_visitAll_0 rfl ?_
  refine V.iconst (pc := 1) (v := nI 0) dX5_visitAll_1 (by decide) ?_
  refine pf_X5_28 (pc := 2) (by decide) (by decide) dX5_visitAll_2 ?_
  refine V.aload_n (pc := 5) 0 dX5_visitAll_5 rfl ?_
  refine V.iconst (pc := 6) (v := nI 0) dX5_visitAll_6 (by decide) ?_
  refine pf_X5_32 (pc := 7) dX5_visitAll_7 ?_
  refine V.aload_n (pc := 10) 0 dX5_visitAll_10 rfl ?_
  refine V.iconst (pc := 11) (v := nI 0) dX5_visitAll_11 (by decide) ?_
  refine pf_X5_35 (pc := 12) dX5_visitAll_12 ?_
  refine V.aload_n (pc := 15) 0 dX5_visitAll_15 rfl ?_
  refine V.iconst (pc := 16) (v := nI 0) dX5_visitAll_16 (by decide) ?_
  refine pf_X5_38 (pc := 17) dX5_visitAll_17 ?_
  refine V.aload_n (pc := 20) 0 dX5_visitAll_20 rfl ?_
  refine gf_X5_24 (pc := 21) dX5_visitAll_21 ?_
  refine V.aload_n (pc := 24) 1 dX5_visitAll_24 rfl ?_
  refine gf_X5_55 (pc := 25) t ht (v := nI S.n) dX5_visitAll_25 (Eq.trans (congrFun (si_c _ _ _ (by omega)) _) (Eq.trans (congrFun (si_c _ _ _ (by omega)) _) (Eq.trans (congrFun (si_c _ _ _ (by omega)) _) (Eq.trans (congrFun (si_c _ _ _ (by omega)) _) hS.n)))) ?_
  refine V.lconst (pc := 28) (v := lN 0) dX5_visitAll_28 (by decide) ?_
  refine V.last (pc := 29) (k := 93) (n := 17) (v := lN 0) (Nat.le_of_ble_eq_true rfl) (fun _ _ => rfl) S.n (by omega) (by decide) dX5_visitAll_29 rfl ?_
  refine V.aload_n (pc := 30) 1 dX5_visitAll_30 rfl ?_
  refine gf_X5_55 (pc := 31) t ht (v := nI S.n) dX5_visitAll_31 (Eq.trans (congrFun (si_c _ _ _ (by omega)) _) (Eq.trans (congrFun (si_c _ _ _ (by omega)) _) (Eq.trans (congrFun (si_c _ _ _ (by omega)) _) (Eq.trans (congrFun (si_c _ _ _ (by omega)) _) hS.n)))) ?_
  refine V.iconst (pc := 34) (v := nI 1) dX5_visitAll_34 (by decide) ?_
  refine V.isub (pc := 35) (v := pv S.n) dX5_visitAll_35 (pv_sub S.n) ?_
  refine V.istore_n (pc := 36) (lv' := [(0, .ref (G.2.2 92)), (1, .ref (G.2.2 (8 * t))), (2, .int (pv S.n))]) dX5_visitAll_36 (by decide) rfl ?_
  have L37 : ∀ (n_ : Nat) (j : Nat) ( μ1 : Mu), (j ≤ S.n) → (Fr μ μ1 C92) → (Sp μ1 S o br mL lC j) → j < n_ → V G RX5 cX5_visitAll 3 20 X 37 [(0, .ref (G.2.2 92)), (1, .ref (G.2.2 (8 * t))), (2, .int (pv j))] [] μ1 := by
    intro n_
    induction n_ with
    | zero => intro j μ1 hj hfr hp hm_; exact absurd hm_ (Nat.not_lt_zero _)
    | succ n_ ih37 =>
      intro j μ1 hj hfr hp hm_
      have hS1 := hS.fr hfr (C92_no ht)
      refine V.iload_n (pc := 37) 2 dX5_visitAll_37 rfl ?_
      rcases j with _ | s
      · refine V.st (st' := [.int (-1)]) rfl ?_
        refine V.lvs (lv' := [(0, .ref (G.2.2 92)), (1, .ref (G.2.2 (8 * t))), (2, .int (-1))]) rfl ?_
        refine V.if_lt (pc := 38) 80 dX5_visitAll_38 (by decide) (fun h_38 => ?_) (fun h_38 => ?_)
        · have hb0 := bfr_lt hS.vs br 0
          refine V.aload_n (pc := 80) 0 dX5_visitAll_80 rfl ?_
          refine V.aload_n (pc := 81) 1 dX5_visitAll_81 rfl ?_
          refine V.iconst (pc := 82) (v := nI 0) dX5_visitAll_82 (by decide) ?_
          refine V.iconst (pc := 83) (v := nI 0) dX5_visitAll_83 (by decide) ?_
          refine V.lconst (pc := 84) (v := lN 0) dX5_visitAll_84 (by decide) ?_
          refine V.iconst (pc := 85) (v := nI 0) dX5_visitAll_85 (by decide) ?_
          refine V.iconst (pc := 86) (v := nI 0) dX5_visitAll_86 (by decide) ?_
          refine V.aload_n (pc := 87) 1 dX5_visitAll_87 rfl ?_
          refine V.aload_n (pc := 88) 0 dX5_visitAll_88 rfl ?_
          refine gf_X5_24 (pc := 89) dX5_visitAll_89 ?_
          refine V.iconst (pc := 92) (v := nI 0) dX5_visitAll_92 (by decide) ?_
          refine V.lald (pc := 93) (k := 93) (n := 17) (v := lN (bfr S br 0)) (Nat.le_of_ble_eq_true rfl) (fun _ _ => rfl) 0 (by omega) (by decide) dX5_visitAll_93 (hp.2.2.2.2.2 0 (by omega) (by omega)) ?_
          refine cp_X5_61 (pc := 94) t ht dX5_visitAll_94 (ok_X6_weightOf t ht S hS1 (bfr S br 0) (by omega)) (by omega) (Nat.le_of_ble_eq_true rfl) ?_
          refine V.st (st' := [.int (nI (rch S br 0 0)), .int (nI (lenOf S 0)), .int (nI (cov S 0)), .long (lN (bagOf S 0)), .int (nI 0), .int (nI 0), .ref (G.2.2 (8 * t)), .ref (G.2.2 92)]) (by rw [rch_0, lenOf_0, cov_0, bagOf_0]) ?_
          refine cl_X5_65 (pc := 97) dX5_visitAll_97 (ok_visit t ht S o br mL lC S.n 0 (by omega) μ1 (fun _ => False) false 0 0 hS1 (hp.sx ho hbr hmL hlC) hp.sb (best_0 S o br mL lC) (Vw_0 S br)) (by omega) (Nat.le_of_ble_eq_true rfl) (fun r_ μ_ h_ => ?_)
          obtain ⟨rfl, hfr2, -, f, b, hb, hB⟩ := h_
          exact V.vret (pc := 100) hF dX5_visitAll_100 ⟨rfl, hfr.trans hfr2 (fun _ h => h) (fun _ h => h), f, b, hb, best_all hB⟩
        · exact absurd (by decide) h_38
      · refine V.st (st' := [.int (nI s)]) rfl ?_
        refine V.lvs (lv' := [(0, .ref (G.2.2 92)), (1, .ref (G.2.2 (8 * t))), (2, .int (nI s))]) rfl ?_
        refine V.ifN_lt (pc := 38) 80 dX5_visitAll_38 (by decide) (by omega) ?_
        refine V.aload_n (pc := 41) 0 dX5_visitAll_41 rfl ?_
        refine gf_X5_24 (pc := 42) dX5_visitAll_42 ?_
        refine V.iload_n (pc := 45) 2 dX5_visitAll_45 rfl ?_
        refine V.aload_n (pc := 46) 0 dX5_visitAll_46 rfl ?_
        refine gf_X5_24 (pc := 47) dX5_visitAll_47 ?_
        refine V.iload_n (pc := 50) 2 dX5_visitAll_50 rfl ?_
        refine V.iconst (pc := 51) (v := nI 1) dX5_visitAll_51 (by decide) ?_
        refine V.iadd (pc := 52) (v := nI (s + 1)) dX5_visitAll_52 (nI_add _ _) ?_
        refine V.lald (pc := 53) (k := 93) (n := 17) (v := lN (bfr S br (s + 1))) (Nat.le_of_ble_eq_true rfl) (fun _ _ => rfl) (s + 1) (by omega) (by decide) dX5_visitAll_53 (hp.2.2.2.2.2 (s + 1) (by omega) (by omega)) ?_
        refine V.iload_n (pc := 54) 2 dX5_visitAll_54 rfl ?_
        refine V.aload_n (pc := 55) 0 dX5_visitAll_55 rfl ?_
        refine gf_X5_15 (pc := 56) (v := pv br) dX5_visitAll_56 hp.1.2.1 ?_
        refine V.icmp_ne (pc := 59) 66 dX5_visitAll_59 (by decide) (fun h_59 => ?_) (fun h_59 => ?_)
        · refine V.aload_n (pc := 66) 1 dX5_visitAll_66 rfl ?_
          refine gf_X5_58 (pc := 67) t ht dX5_visitAll_67 ?_
          refine V.iload_n (pc := 70) 2 dX5_visitAll_70 rfl ?_
          refine V.lald (pc := 71) (k := 8 * t + 5) (n := 16) (v := lN (S.bag s)) (by omega) (cell_Sj ht rfl) s (by omega) (by decide) dX5_visitAll_71 (hS1.bag s (by omega)) ?_
          refine V.lor (pc := 72) (v := lN (bfr S br s)) dX5_visitAll_72 ((ll_or _ _).trans (congrArg lN (by rw [bfr_s (s := s) (by omega), if_neg (fun e => h_59 ((pv_eq (by omega) (by omega)).mpr e).symm)]))) ?_
          refine V.last (pc := 73) (k := 93) (n := 17) (v := lN (bfr S br s)) (Nat.le_of_ble_eq_true rfl) (fun _ _ => rfl) s (by omega) (by decide) dX5_visitAll_73 rfl ?_
          refine V.iinc (pc := 74) (v := pv s) (lv' := [(0, .ref (G.2.2 92)), (1, .ref (G.2.2 (8 * t))), (2, .int (pv s))]) 2 dX5_visitAll_74 rfl (pv_dec s) (by decide) rfl ?_
          refine V.goto (pc := 77) 37 dX5_visitAll_77 (by decide) ?_
          exact ih37 s (sj μ1 93 s (lN (bfr S br s))) (by omega) (hfr.sj _ _ (Or.inr rfl)) hp.step (by omega)
        · refine V.lconst (pc := 62) (v := lN 0) dX5_visitAll_62 (by decide) ?_
          refine V.goto (pc := 63) 72 dX5_visitAll_63 (by decide) ?_
          refine V.lor (pc := 72) (v := lN (bfr S br s)) dX5_visitAll_72 ((ll_or _ _).trans (congrArg lN (by rw [bfr_s (s := s) (by omega), if_pos ((pv_eq (by omega) (by omega)).mp h_59.symm)]))) ?_
          refine V.last (pc := 73) (k := 93) (n := 17) (v := lN (bfr S br s)) (Nat.le_of_ble_eq_true rfl) (fun _ _ => rfl) s (by omega) (by decide) dX5_visitAll_73 rfl ?_
          refine V.iinc (pc := 74) (v := pv s) (lv' := [(0, .ref (G.2.2 92)), (1, .ref (G.2.2 (8 * t))), (2, .int (pv s))]) 2 dX5_visitAll_74 rfl (pv_dec s) (by decide) rfl ?_
          refine V.goto (pc := 77) 37 dX5_visitAll_77 (by decide) ?_
          exact ih37 s (sj μ1 93 s (lN (bfr S br s))) (by omega) (hfr.sj _ _ (Or.inr rfl)) hp.step (by omega)
  exact L37 _ S.n (sj (si (si (si (si μ 92 5 (nI 0)) 92 6 (nI 0)) 92 7 (nI 0)) 92 8 (nI 0)) 93 S.n (lN 0)) (by omega) (((((Fr.refl μ C92).si _ _ (Or.inl rfl)).si _ _ (Or.inl rfl)).si _ _ (Or.inl rfl)).si _ _ (Or.inl rfl) |>.sj _ _ (Or.inr rfl)) (⟨⟨by simp [si, sj, upd, hx.1], by simp [si, sj, upd, hx.2.1], by simp [si, sj, upd, hx.2.2.1], by simp [si, sj, upd, hx.2.2.2]⟩, by simp [si, sj, upd], by simp [si, sj, upd], by simp [si, sj, upd], by simp [si, sj, upd], fun s h1 h2 => by rw [show s = S.n from by omega, bfr_n]; exact sj_s _ _ _ _⟩) (Nat.lt_succ_self _)
theorem cand_any {S : TS} (hv : VS S) {br lC x : Nat} : Cand S br 600 lC x ↔ Cand S br 2147483647 lC x := ⟨fun h => ⟨h.1, h.2.1, h.2.2.1, Nat.le_trans h.2.2.2.1 (by decide), h.2.2.2.2⟩, fun h => ⟨h.1, h.2.1, h.2.2.1, lenOf_tot hv x, h.2.2.2.2⟩⟩
theorem best_any {S : TS} (hv : VS S) {o br lC : Nat} {C : Nat → Prop} {f : Bool} {b : Nat} (h : Best S o br 600 lC C f b) : Best S o br 2147483647 lC C f b := by
  rcases h with ⟨h1, h2, h3⟩ | ⟨h1, h2, h3, h4⟩
  · exact Or.inl ⟨h1, h2, fun x hx hc => h3 x hx ((cand_any hv).mpr hc)⟩
  · exact Or.inr ⟨h1, h2, (cand_any hv).mp h3, fun x hx hc => h4 x hx ((cand_any hv).mpr hc)⟩
theorem ok_X5_findMost {G : Gx} {μ : Mu} (t : Nat) (ht : t < 10) (S : TS) (hS : St μ t S) (bud br : Nat) (hbud : bud ≤ 9999) (hbr : br ≤ S.n) : Runs 21 M_X5_findMost [.ref (G.2.2 92), .ref (G.2.2 (8 * t)), .int (nI bud), .int (pv br)] G μ (FPost μ S 0 br bud 0) := by
  refine Runs.go RX5 rfl (by decide) [(0, .ref (G.2.2 92)), (1, .ref (G.2.2 (8 * t))), (2, .int (nI bud)), (3, .int (pv br))] (Nat.le_of_ble_eq_true rfl) rfl (fun X hF => ?_)
  refine V.aload_n (pc := 0) 0 dX5_findMost_0 rfl ?_
  refine V.iconst (pc := 1) (v := nI 0) dX5_findMost_1 (by decide) ?_
  refine pf_X5_11 (pc := 2) dX5_findMost_2 ?_
  refine V.aload_n (pc := 5) 0 dX5_findMost_5 rfl ?_
  refine V.iload_n (pc := 6) 3 dX5_findMost_6 rfl ?_
  refine pf_X5_15 (pc := 7) dX5_findMost_7 ?_
  refine V.aload_n (pc := 10) 0 dX5_findMost_10 rfl ?_
  refine V.iload_n (pc := 11) 2 dX5_findMost_11 rfl ?_
  refine pf_X5_18 (pc := 12) dX5_findMost_12 ?_
  refine V.aload_n (pc := 15) 0 dX5_findMost_15 rfl ?_
  refine V.iconst (pc := 16) (v := nI 0) dX5_findMost_16 (by decide) ?_
  refine pf_X5_21 (pc := 17) dX5_findMost_17 ?_
  refine V.aload_n (pc := 20) 0 dX5_findMost_20 rfl ?_
  refine V.aload_n (pc := 21) 1 dX5_findMost_21 rfl ?_
  refine cl_X5_41 (pc := 22) dX5_findMost_22 (ok_X5_visitAll t ht S ((((hS.si ht (by decide)).si ht (by decide)).si ht (by decide)).si ht (by decide)) 0 br bud 0 ⟨by simp [si, upd], by simp [si, upd]; try rfl, by simp [si, upd], by simp [si, upd]⟩ (by omega) (by omega) (by omega) (by omega)) (by omega) (Nat.le_of_ble_eq_true rfl) (fun r_ μ_ h_ => ?_)
  obtain ⟨rfl, hfr2, f, b, hb, hB⟩ := h_
  exact V.vret (pc := 25) hF dX5_findMost_25 ⟨rfl, Fr.trans (((((Fr.refl μ C92).si _ _ (Or.inl rfl)).si _ _ (Or.inl rfl)).si _ _ (Or.inl rfl)).si _ _ (Or.inl rfl)) hfr2 (fun _ h => h) (fun _ h => h), f, b, hb, hB⟩
theorem ok_X5_findFewest {G : Gx} {μ : Mu} (t : Nat) (ht : t < 10) (S : TS) (hS : St μ t S)  : Runs 21 M_X5_findFewest [.ref (G.2.2 92), .ref (G.2.2 (8 * t))] G μ (FPost μ S 1 0 2147483647 (cov S (2 ^ S.n - 1))) := by
  have hn := hS.vs.n16
  have h16 := pow16 hS.vs
  have hcv := cov_le hS.vs (2 ^ S.n - 1)
  have hp := Nat.two_pow_pos S.n
  refine Runs.go RX5 rfl (by decide) [(0, .ref (G.2.2 92)), (1, .ref (G.2.2 (8 * t)))] (Nat.le_of_ble_eq_true rfl) rfl (fun X hF => ?_)
  refine V.aload_n (pc := 0) 0 dX5_findFewest_0 rfl ?_
  refine V.iconst (pc := 1) (v := nI 1) dX5_findFewest_1 (by decide) ?_
  refine pf_X5_11 (pc := 2) dX5_findFewest_2 ?_
  refine V.aload_n (pc := 5) 0 dX5_findFewest_5 rfl ?_
  refine V.iconst (pc := 6) (v := (-1)) dX5_findFewest_6 (by decide) ?_
  refine pf_X5_15 (pc := 7) dX5_findFewest_7 ?_
  refine V.aload_n (pc := 10) 0 dX5_findFewest_10 rfl ?_
  refine V.sipush (pc := 11) (v := nI 600) dX5_findFewest_11 (by decide) ?_
  refine pf_X5_18 (pc := 14) dX5_findFewest_14 ?_
  refine V.aload_n (pc := 17) 0 dX5_findFewest_17 rfl ?_
  refine V.aload_n (pc := 18) 1 dX5_findFewest_18 rfl ?_
  refine V.aload_n (pc := 19) 1 dX5_findFewest_19 rfl ?_
  refine cp_X5_45 (pc := 20) t ht dX5_findFewest_20 (ok_X6_everySentence t ht S (((hS.si ht (by decide)).si ht (by decide)).si ht (by decide))) (by omega) (Nat.le_of_ble_eq_true rfl) ?_
  refine cp_X5_51 (pc := 23) t ht dX5_findFewest_23 (ok_X6_coveredBy t ht S (((hS.si ht (by decide)).si ht (by decide)).si ht (by decide)) (2 ^ S.n - 1) (by omega)) (by omega) (Nat.le_of_ble_eq_true rfl) ?_
  refine pf_X5_21 (pc := 26) dX5_findFewest_26 ?_
  refine V.aload_n (pc := 29) 0 dX5_findFewest_29 rfl ?_
  refine V.aload_n (pc := 30) 1 dX5_findFewest_30 rfl ?_
  refine cl_X5_41 (pc := 31) dX5_findFewest_31 (ok_X5_visitAll t ht S ((((hS.si ht (by decide)).si ht (by decide)).si ht (by decide)).si ht (by decide)) 1 0 600 (cov S (2 ^ S.n - 1)) ⟨by simp [si, upd], by simp [si, upd]; try rfl, by simp [si, upd], by simp [si, upd]⟩ (by omega) (by omega) (by omega) (by omega)) (by omega) (Nat.le_of_ble_eq_true rfl) (fun r_ μ_ h_ => ?_)
  obtain ⟨rfl, hfr2, f, b, hb, hB⟩ := h_
  exact V.vret (pc := 34) hF dX5_findFewest_34 ⟨rfl, Fr.trans (((((Fr.refl μ C92).si _ _ (Or.inl rfl)).si _ _ (Or.inl rfl)).si _ _ (Or.inl rfl)).si _ _ (Or.inl rfl)) hfr2 (fun _ h => h) (fun _ h => h), f, b, hb, best_any hS.vs hB⟩
theorem ok_X5_findShortest {G : Gx} {μ : Mu} (t : Nat) (ht : t < 10) (S : TS) (hS : St μ t S) (lC : Nat) (hlC : lC ≤ 48001) : Runs 21 M_X5_findShortest [.ref (G.2.2 92), .ref (G.2.2 (8 * t)), .int (nI lC)] G μ (FPost μ S 2 0 2147483647 lC) := by
  refine Runs.go RX5 rfl (by decide) [(0, .ref (G.2.2 92)), (1, .ref (G.2.2 (8 * t))), (2, .int (nI lC))] (Nat.le_of_ble_eq_true rfl) rfl (fun X hF => ?_)
  refine V.aload_n (pc := 0) 0 dX5_findShortest_0 rfl ?_
  refine V.iconst (pc := 1) (v := nI 2) dX5_findShortest_1 (by decide) ?_
  refine pf_X5_11 (pc := 2) dX5_findShortest_2 ?_
  refine V.aload_n (pc := 5) 0 dX5_findShortest_5 rfl ?_
  refine V.iconst (pc := 6) (v := (-1)) dX5_findShortest_6 (by decide) ?_
  refine pf_X5_15 (pc := 7) dX5_findShortest_7 ?_
  refine V.aload_n (pc := 10) 0 dX5_findShortest_10 rfl ?_
  refine V.sipush (pc := 11) (v := nI 600) dX5_findShortest_11 (by decide) ?_
  refine pf_X5_18 (pc := 14) dX5_findShortest_14 ?_
  refine V.aload_n (pc := 17) 0 dX5_findShortest_17 rfl ?_
  refine V.iload_n (pc := 18) 2 dX5_findShortest_18 rfl ?_
  refine pf_X5_21 (pc := 19) dX5_findShortest_19 ?_
  refine V.aload_n (pc := 22) 0 dX5_findShortest_22 rfl ?_
  refine V.aload_n (pc := 23) 1 dX5_findShortest_23 rfl ?_
  refine cl_X5_41 (pc := 24) dX5_findShortest_24 (ok_X5_visitAll t ht S ((((hS.si ht (by decide)).si ht (by decide)).si ht (by decide)).si ht (by decide)) 2 0 600 lC ⟨by simp [si, upd], by simp [si, upd]; try rfl, by simp [si, upd], by simp [si, upd]⟩ (by omega) (by omega) (by omega) (by omega)) (by omega) (Nat.le_of_ble_eq_true rfl) (fun r_ μ_ h_ => ?_)
  obtain ⟨rfl, hfr2, f, b, hb, hB⟩ := h_
  exact V.vret (pc := 27) hF dX5_findShortest_27 ⟨rfl, Fr.trans (((((Fr.refl μ C92).si _ _ (Or.inl rfl)).si _ _ (Or.inl rfl)).si _ _ (Or.inl rfl)).si _ _ (Or.inl rfl)) hfr2 (fun _ h => h) (fun _ h => h), f, b, hb, best_any hS.vs hB⟩
