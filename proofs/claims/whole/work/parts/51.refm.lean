theorem cell_past {G : Gx} (i : Nat) (h : i < 8) : ∀ f g, cell G (102 + i) f g = aJ G 645 g := by
  have : i = 0 ∨ i = 1 ∨ i = 2 ∨ i = 3 ∨ i = 4 ∨ i = 5 ∨ i = 6 ∨ i = 7 := by omega
  rcases this with rfl | rfl | rfl | rfl | rfl | rfl | rfl | rfl <;> exact fun _ _ => rfl
/-! the reference's state -/
def Laid (μ : Mu) (S : TS) : Prop := ∀ x, x < 2 ^ S.n → μ.1 114 x = (if whole S x = true then nI (cov S x) else -1) ∧ μ.1 115 x = nI (lenOf S x)
def Rf (μ : Mu) (a : AS) : Prop := μ.1 96 2 = nI a.tb ∧ a.tb ≤ 600 ∧ (∀ i, i < a.tb → μ.1 98 i = nI (a.bs i) ∧ a.bs i < 256) ∧ μ.1 96 5 = pv a.fp ∧ (∀ r, r < 3 → μ.1 97 r = nI (a.rf r)) ∧ Rw μ 99 a.S ∧ μ.1 96 12 = nI a.k ∧ a.k ≤ 8 ∧ (∀ i, i < a.k → Rw μ (102 + i) (a.h i)) ∧ ∃ q : Bool, μ.1 96 13 = nI q.toNat ∧ (q = true → Laid μ a.S)
theorem Rf.rw {μ : Mu} {a : AS} (h : Rf μ a) : Rw μ 99 a.S := h.2.2.2.2.2.1
theorem Rf.vs {μ : Mu} {a : AS} (h : Rf μ a) : VS a.S := h.rw.vs
theorem Rw.row {μ μ' : Mu} {c : Nat} {S : TS} (h : Rw μ c S) (e : μ'.2 c = μ.2 c) : Rw μ' c S := h.same (fun i _ => congrFun e i)
theorem Rf.keep {μ μ' : Mu} {a : AS} (h : Rf μ a) (h96 : ∀ i, i = 2 ∨ i = 5 ∨ i = 12 ∨ i = 13 → μ'.1 96 i = μ.1 96 i) (h2 : ∀ c, c = 97 ∨ c = 98 ∨ c = 114 ∨ c = 115 → μ'.1 c = μ.1 c) (h3 : ∀ c, c = 99 ∨ (102 ≤ c ∧ c < 110) → μ'.2 c = μ.2 c) : Rf μ' a := by
  obtain ⟨g1, g2, g3, g4, g5, g6, g7, g8, g9, q, g10, g11⟩ := h
  exact ⟨by rw [h96 _ (by omega)]; exact g1, g2, fun i hi => by rw [h2 _ (by omega)]; exact g3 i hi, by rw [h96 _ (by omega)]; exact g4, fun r hr => by rw [h2 _ (by omega)]; exact g5 r hr, g6.row (h3 _ (by omega)), by rw [h96 _ (by omega)]; exact g7, g8, fun i hi => (g9 i hi).row (h3 _ (by omega)), q, by rw [h96 _ (by omega)]; exact g10, fun e x hx => by rw [h2 _ (by omega), h2 _ (by omega)]; exact g11 e x hx⟩
theorem Rf.fld {μ : Mu} {a : AS} (h : Rf μ a) (i : Nat) (v : Int32) (hi : i ≠ 2 ∧ i ≠ 5 ∧ i ≠ 12 ∧ i ≠ 13) : Rf (si μ 96 i v) a :=
  h.keep (fun j hj => si_i _ _ _ (by omega) _) (fun c hc => si_c _ _ _ (by omega)) (fun _ _ => rfl)
theorem Rf.arr {μ : Mu} {a : AS} (h : Rf μ a) (c i : Nat) (v : Int32) (hc : 110 ≤ c ∧ c ≠ 114 ∧ c ≠ 115) : Rf (si μ c i v) a :=
  h.keep (fun j hj => congrFun (si_c _ _ _ (by omega)) j) (fun d hd => si_c _ _ _ (by omega)) (fun _ _ => rfl)
def RK (c : Nat) : Prop := 96 ≤ c
def rR (μ : Mu) (c r : Nat) : Mu := si (si μ 96 0 (nI c)) 97 r (μ.1 97 r + nI 1)
theorem Rf.no {μ : Mu} {a : AS} (h : Rf μ a) (c : Nat) {r : Nat} (hr : r < 3) : Rf (rR μ c r) (a.ref r) := by
  obtain ⟨g1, g2, g3, g4, g5, g6, g7, g8, g9, q, g10, g11⟩ := h
  have e96 : ∀ i, i ≠ 0 → (rR μ c r).1 96 i = μ.1 96 i := fun i hi => by unfold rR; rw [si_c _ _ _ (by decide), si_i _ _ _ hi]
  have e : ∀ d, d ≠ 96 → d ≠ 97 → (rR μ c r).1 d = μ.1 d := fun d h1 h2 => by unfold rR; rw [si_c _ _ _ h2, si_c _ _ _ h1]
  refine ⟨by rw [e96 _ (by decide)]; exact g1, g2, fun i hi => by rw [e _ (by decide) (by decide)]; exact g3 i hi, by rw [e96 _ (by decide)]; exact g4, fun r' hr' => ?_, g6, by rw [e96 _ (by decide)]; exact g7, g8, g9, q, by rw [e96 _ (by decide)]; exact g10, fun z x hx => by rw [e _ (by decide) (by decide), e _ (by decide) (by decide)]; exact g11 z x hx⟩
  show _ = nI (updN a.rf r (a.rf r + 1) r')
  unfold rR
  by_cases z : r' = r
  · subst z; rw [updN_s, si_s, g5 r' hr, nI_add]
  · rw [updN_n z, si_i _ _ _ z, si_c _ _ _ (by decide)]; exact g5 r' hr'
def RP (μ : Mu) (q : Res) (r : Option Value) (μ' : Mu) : Prop := Rf μ' q.2.2 ∧ μ'.1 96 0 = nI q.1 ∧ (∃ v, r = some (.int v) ∧ (q.1 = 0 → v = q.2.1)) ∧ Fr μ μ' RK
theorem RP.mk {μ μ' : Mu} {q : Res} {v : Int32} {a : AS} (e : q = rOk v a) (hR : Rf μ' a) (ht : μ'.1 96 0 = nI 0) (hf : Fr μ μ' RK) : RP μ q (some (.int v)) μ' := by
  subst e; exact ⟨hR, ht, ⟨v, rfl, fun _ => rfl⟩, hf⟩
theorem RP.no {μ μ0 : Mu} {q : Res} {v : Int32} {a : AS} {c r : Nat} (e : q = rNo c a r) (hc : 0 < c) (hR : Rf μ0 a) (hr : r < 3) (hf : Fr μ μ0 RK) : RP μ q (some (.int v)) (rR μ0 c r) := by
  subst e
  refine ⟨hR.no c hr, ?_, ⟨v, rfl, fun z => absurd z (by show ¬ c = 0; omega)⟩, (hf.si _ _ (by unfold RK; decide)).si _ _ (by unfold RK; decide)⟩
  unfold rR
  rw [si_c _ _ _ (by decide), si_s]
  rfl
theorem ok_bad1 {G : Gx} {μ : Mu} (c r : Nat) (hth : μ.1 96 0 = nI 0) (hc : 0 < c) (hcb : c < 2 ^ 31) (hr : r < 3) : Runs 0 M_X9_bad [.ref (G.2.2 96), .int (nI 1), .int (nI c), .int (nI r)] G μ (fun r' μ' => r' = some (.int (nI 1)) ∧ μ' = rR μ c r) := by
  refine Runs.go RX9 rfl (by decide) [(0, .ref (G.2.2 96)), (1, .int (nI 1)), (2, .int (nI c)), (3, .int (nI r))] (Nat.le_of_ble_eq_true rfl) rfl (fun X hF => ?_)
  refine V.iload_n (pc := 0) 1 dX9_bad_0 rfl ?_
  refine V.ifN_eq (pc := 1) 26 dX9_bad_1 (by decide) (by decide) (fun h_ => absurd h_ (by decide)) (fun h_1 => ?_)
  refine V.aload_n (pc := 4) 0 dX9_bad_4 rfl ?_
  refine gf_X9_60 (pc := 5) (v := nI 0) dX9_bad_5 hth ?_
  refine V.ifN_ne (pc := 8) 26 dX9_bad_8 (by decide) (by decide) (fun h_ => absurd h_ (by decide)) (fun h_8 => ?_)
  refine V.aload_n (pc := 11) 0 dX9_bad_11 rfl ?_
  refine V.iload_n (pc := 12) 2 dX9_bad_12 rfl ?_
  refine pf_X9_60 (pc := 13) dX9_bad_13 ?_
  refine V.aload_n (pc := 16) 0 dX9_bad_16 rfl ?_
  refine gf_X9_9 (pc := 17) dX9_bad_17 ?_
  refine V.iload_n (pc := 20) 3 dX9_bad_20 rfl ?_
  refine V.dup2 (pc := 21) dX9_bad_21 rfl rfl ?_
  refine V.iald (pc := 22) (k := 97) (n := 3) (v := μ.1 97 r) (Nat.le_of_ble_eq_true rfl) (fun _ _ => rfl) r (by omega) (by decide) dX9_bad_22 (Eq.trans (congrFun (si_c _ _ _ (by decide)) _) rfl) ?_
  refine V.iconst (pc := 23) (v := nI 1) dX9_bad_23 (by decide) ?_
  refine V.iadd (pc := 24) (v := μ.1 97 r + nI 1) dX9_bad_24 rfl ?_
  refine V.iast (pc := 25) (k := 97) (n := 3) (v := μ.1 97 r + nI 1) (Nat.le_of_ble_eq_true rfl) (fun _ _ => rfl) r (by omega) (by decide) dX9_bad_25 rfl ?_
  refine V.aload_n (pc := 26) 0 dX9_bad_26 rfl ?_
  refine gf_X9_60 (pc := 27) (v := nI c) dX9_bad_27 ((Eq.trans (congrFun (si_c _ _ _ (by decide)) _) (si_s _ _ _ _))) ?_
  refine V.ifN_eq (pc := 30) 37 dX9_bad_30 (by decide) (by omega) (fun h_30 => ?_) (fun h_30 => ?_)
  · exact absurd h_30 (by omega)
  · refine V.iconst (pc := 33) (v := nI 1) dX9_bad_33 (by decide) ?_
    refine V.goto (pc := 34) 38 dX9_bad_34 (by decide) ?_
    exact V.zret (pc := 38) hF dX9_bad_38 (by decide) ⟨rfl, rfl⟩
theorem ok_bad0 {G : Gx} {μ : Mu} (c r : Nat) (hth : μ.1 96 0 = nI 0) : RunsP 0 M_X9_bad [.ref (G.2.2 96), .int (nI 0), .int (nI c), .int (nI r)] G μ (.int (nI 0)) := by
  refine Runs.go RX9 rfl (by decide) [(0, .ref (G.2.2 96)), (1, .int (nI 0)), (2, .int (nI c)), (3, .int (nI r))] (Nat.le_of_ble_eq_true rfl) rfl (fun X hF => ?_)
  refine V.iload_n (pc := 0) 1 dX9_bad_0 rfl ?_
  refine V.ifN_eq (pc := 1) 26 dX9_bad_1 (by decide) (by decide) (fun h_1 => ?_) (fun h_ => absurd h_ (by decide))
  refine V.aload_n (pc := 26) 0 dX9_bad_26 rfl ?_
  refine gf_X9_60 (pc := 27) (v := nI 0) dX9_bad_27 hth ?_
  refine V.ifN_eq (pc := 30) 37 dX9_bad_30 (by decide) (by decide) (fun h_30 => ?_) (fun h_ => absurd h_ (by decide))
  refine V.iconst (pc := 37) (v := nI 0) dX9_bad_37 (by decide) ?_
  exact V.zret (pc := 38) hF dX9_bad_38 (by decide) ⟨rfl, rfl⟩
theorem cp_step {μ1 : Mu} {t i : Nat} {g : Nat → Int64} (h : ∀ j, j < i → μ1.2 t j = g j) : ∀ j, j < i + 1 → (sj μ1 t i (g i)).2 t j = g j := by
  intro j hj
  by_cases e : j = i
  · subst e; rw [sj_s]
  · rw [sj_i _ _ _ e]; exact h j (by omega)
theorem ok_X9_copies {G : Gx} {μ : Mu} (f t : Nat) (hf : f < 118) (ht : t < 118) (hsf : ∀ x y, cell G f x y = aJ G 645 y) (hst : ∀ x y, cell G t x y = aJ G 645 y) : Runs 0 M_X9_copies [.ref (G.2.2 f), .ref (G.2.2 t)] G μ (fun r μ' => r = none ∧ Fr μ μ' (fun c => c = t) ∧ μ'.1 = μ.1 ∧ ∀ i, i < 645 → μ'.2 t i = μ.2 f i) := by
  refine Runs.go RX9 rfl (by decide) [(0, .ref (G.2.2 f)), (1, .ref (G.2.2 t))] (Nat.le_of_ble_eq_true rfl) rfl (fun X hF => ?_)
  refine V.iconst (pc := 0) (v := nI 0) dX9_copies_0 (by decide) ?_
  refine V.istore_n (pc := 1) (lv' := [(0, .ref (G.2.2 f)), (1, .ref (G.2.2 t)), (2, .int (nI 0))]) dX9_copies_1 (by decide) rfl ?_
  have L2 : ∀ (n_ : Nat) (i : Nat) ( μ1 : Mu), (i ≤ 645) → (Fr μ μ1 (fun c => c = t)) → (μ1.1 = μ.1) → (∀ j, j < i → μ1.2 t j = μ.2 f j) → (∀ j, i ≤ j → μ1.2 f j = μ.2 f j) → 645 - i < n_ → V G RX9 cX9_copies 3 0 X 2 [(0, .ref (G.2.2 f)), (1, .ref (G.2.2 t)), (2, .int (nI i))] [] μ1 := by
    intro n_
    induction n_ with
    | zero => intro i μ1 hi hfr h1 hdst hsrc hm_; exact absurd hm_ (Nat.not_lt_zero _)
    | succ n_ ih2 =>
      intro i μ1 hi hfr h1 hdst hsrc hm_
      refine V.iload_n (pc := 2) 2 dX9_copies_2 rfl ?_
      refine V.sipush (pc := 3) (v := nI 645) dX9_copies_3 (by decide) ?_
      refine V.icmpN_ge (pc := 6) 21 dX9_copies_6 (by decide) (by omega) (by omega) (fun h_6 => ?_) (fun h_6 => ?_)
      · exact V.vret (pc := 21) hF dX9_copies_21 ⟨rfl, hfr, h1, fun j hj => hdst j (by omega)⟩
      · refine V.aload_n (pc := 9) 1 dX9_copies_9 rfl ?_
        refine V.iload_n (pc := 10) 2 dX9_copies_10 rfl ?_
        refine V.aload_n (pc := 11) 0 dX9_copies_11 rfl ?_
        refine V.iload_n (pc := 12) 2 dX9_copies_12 rfl ?_
        refine V.lald (pc := 13) (k := f) (n := 645) (v := μ.2 f i) hf hsf i (by omega) (by decide) dX9_copies_13 (hsrc i (by omega)) ?_
        refine V.last (pc := 14) (k := t) (n := 645) (v := μ.2 f i) ht hst i (by omega) (by decide) dX9_copies_14 rfl ?_
        refine V.iinc (pc := 15) (v := nI (i + 1)) (lv' := [(0, .ref (G.2.2 f)), (1, .ref (G.2.2 t)), (2, .int (nI (i + 1)))]) 2 dX9_copies_15 rfl (nn_inc _) (by decide) rfl ?_
        refine V.goto (pc := 18) 2 dX9_copies_18 (by decide) ?_
        exact ih2 (i + 1) (sj μ1 t i (μ.2 f i)) (by omega) (hfr.sj _ _ rfl) h1 (fun j hj => cp_step hdst j hj) (fun j hj => (sj_i _ _ _ (by omega) _).trans (hsrc j (by omega))) (by omega)
  exact L2 _ 0 μ (by omega) (Fr.refl _ _) rfl (fun j hj => absurd hj (by omega)) (fun _ _ => rfl) (Nat.lt_succ_self _)
def RmP (μ μ' : Mu) (a : AS) : Prop := Rf μ' (a.act a.S) ∧ μ'.1 96 13 = nI 0 ∧ (∀ i, i ≠ 12 → i ≠ 13 → μ'.1 96 i = μ.1 96 i) ∧ Fr μ μ' (fun c => c = 96 ∨ (102 ≤ c ∧ c < 110)) ∧ ∀ c, c ≠ 96 → μ'.1 c = μ.1 c
theorem Rm_mk {μ μ1 μ2 μ3 : Mu} {a : AS} (h : Rf μ a) {b : Nat} (hb : b = (if a.k = 8 then 7 else a.k)) (hf : Fr μ μ1 (fun c => c = 96 ∨ (102 ≤ c ∧ c < 110))) (e1 : ∀ c, c ≠ 96 → μ1.1 c = μ.1 c) (e96 : ∀ i, i ≠ 12 → i ≠ 13 → μ1.1 96 i = μ.1 96 i) (e13 : μ1.1 96 13 = nI 0)
    (hrows : ∀ i, i < b → Rw μ1 (102 + i) (if a.k = 8 then a.h (i + 1) else a.h i)) (hf2 : Fr μ1 μ2 (fun c => c = 102 + b)) (e2 : μ2.1 = μ1.1) (hc : ∀ i, i < 645 → μ2.2 (102 + b) i = μ1.2 99 i) (e3 : μ3 = si μ2 96 12 (nI (b + 1))) : RmP μ μ3 a := by
  subst e3
  obtain ⟨g1, g2, g3, g4, g5, g6, g7, g8, g9, q, g10, g11⟩ := h
  have hb8 : b < 8 := by rw [hb]; split <;> omega
  have f3 : ∀ i, i ≠ 12 → i ≠ 13 → (si μ2 96 12 (nI (b + 1))).1 96 i = μ.1 96 i := fun i h1 h2 => by rw [si_i _ _ _ h1, e2]; exact e96 i h1 h2
  have fc : ∀ c, c ≠ 96 → (si μ2 96 12 (nI (b + 1))).1 c = μ.1 c := fun c hc => by rw [si_c _ _ _ hc, e2]; exact e1 c hc
  have f99 : (si μ2 96 12 (nI (b + 1))).2 99 = μ.2 99 := ((hf2 99 (by omega)).2).trans (hf 99 (by omega)).2
  refine ⟨⟨by rw [f3 _ (by decide) (by decide)]; exact g1, g2, fun i hi => by rw [fc _ (by decide)]; exact g3 i hi, by rw [f3 _ (by decide) (by decide)]; exact g4, fun r hr => by rw [fc _ (by decide)]; exact g5 r hr, g6.row f99, ?_, ?_, fun i hi => ?_, false, by rw [si_i _ _ _ (by decide), e2]; exact e13, fun z => absurd z (by decide)⟩, by rw [si_i _ _ _ (by decide), e2]; exact e13, f3, (hf.trans hf2 (fun _ z => z) (fun c z => by omega)).si _ _ (Or.inl rfl), fc⟩
  · rw [si_s]
    show nI (b + 1) = nI (if a.k = 8 then 8 else a.k + 1)
    rw [hb]
    split <;> rfl
  · show (if a.k = 8 then 8 else a.k + 1) ≤ 8
    split <;> omega
  · have hi2 : i < (if a.k = 8 then 8 else a.k + 1) := hi
    have hib : i < b + 1 := by rw [hb]; split at hi2 <;> simp_all
    show Rw _ (102 + i) (push a.k a.h a.S i)
    by_cases e : i = b
    · subst e
      have : push a.k a.h a.S i = a.S := by
        unfold push
        split
        · rename_i k8; rw [if_pos k8] at hb; exact if_pos hb
        · rename_i k8; rw [if_neg k8] at hb; exact if_pos hb
      rw [this]
      exact g6.same (fun j hj => (hc j hj).trans (congrFun (hf 99 (by omega)).2 j))
    · have : push a.k a.h a.S i = (if a.k = 8 then a.h (i + 1) else a.h i) := by
        unfold push
        split
        · rename_i k8; rw [if_pos k8] at hb; exact if_neg (by omega)
        · rename_i k8; rw [if_neg k8] at hb; exact if_neg (by omega)
      rw [this]
      exact (hrows i (by omega)).row (hf2 _ (by omega)).2
theorem rm_lo {μ1 μ2 : Mu} {j : Nat} {h : Nat → TS} (hc1 : Fr μ1 μ2 (fun c => c = 102 + j)) (hc3 : ∀ i, i < 645 → μ2.2 (102 + j) i = μ1.2 (102 + (j + 1)) i) (hlo : ∀ i, i < j → Rw μ1 (102 + i) (h (i + 1))) (hhi : ∀ i, j < i → i < 8 → Rw μ1 (102 + i) (h i)) {hj : j + 1 < 8} : ∀ i, i < j + 1 → Rw μ2 (102 + i) (h (i + 1)) := by
  intro i hi
  by_cases e : i = j
  · subst e; exact (hhi (i + 1) (by omega) hj).same hc3
  · exact (hlo i (by omega)).row (hc1 _ (by omega)).2
theorem ok_X9_remembers {G : Gx} {μ : Mu} (a : AS) (hRf : Rf μ a) : Runs 1 M_X9_remembers [.ref (G.2.2 96)] G μ (fun r μ' => r = none ∧ RmP μ μ' a) := by
  have hk8 := hRf.2.2.2.2.2.2.2.1
  have hk := hRf.2.2.2.2.2.2.1
  have hrw := hRf.2.2.2.2.2.2.2.2.1
  refine Runs.go RX9 rfl (by decide) [(0, .ref (G.2.2 96))] (Nat.le_of_ble_eq_true rfl) rfl (fun X hF => ?_)
  refine V.aload_n (pc := 0) 0 dX9_remembers_0 rfl ?_
  refine V.iconst (pc := 1) (v := nI 0) dX9_remembers_1 (by decide) ?_
  refine pf_X9_173 (pc := 2) (by decide) (by decide) dX9_remembers_2 ?_
  refine V.aload_n (pc := 5) 0 dX9_remembers_5 rfl ?_
  refine gf_X9_177 (pc := 6) (v := nI a.k) dX9_remembers_6 ((si_i _ _ _ (by decide) _).trans hk) ?_
  refine V.bipush (pc := 9) (v := nI 8) dX9_remembers_9 (by decide) ?_
  refine V.icmpN_ne (pc := 11) 55 dX9_remembers_11 (by decide) (by omega) (by omega) (fun h_11 => ?_) (fun h_11 => ?_)
  · refine V.aload_n (pc := 55) 0 dX9_remembers_55 rfl ?_
    refine gf_X9_20 (pc := 56) dX9_remembers_56 ?_
    refine V.aload_n (pc := 59) 0 dX9_remembers_59 rfl ?_
    refine gf_X9_29 (pc := 60) dX9_remembers_60 ?_
    refine V.aload_n (pc := 63) 0 dX9_remembers_63 rfl ?_
    refine gf_X9_177 (pc := 64) (v := nI a.k) dX9_remembers_64 ((si_i _ _ _ (by decide) _).trans hk) ?_
    refine V.aaldJ (pc := 67) (k := 101) (n := 8) (Nat.le_of_ble_eq_true rfl) (fun _ _ => rfl) a.k (by omega) (by decide) dX9_remembers_67 ?_
    refine cl_X9_129 (pc := 68) dX9_remembers_68 (ok_X9_copies 99 (102 + a.k) (by omega) (by omega) (fun _ _ => rfl) (cell_past a.k (by omega))) (by omega) (Nat.le_of_ble_eq_true rfl) (fun r_ μ_ h_ => ?_)
    obtain ⟨rfl, hd1, hd2, hd3⟩ := h_
    refine V.aload_n (pc := 71) 0 dX9_remembers_71 rfl ?_
    refine V.dup (pc := 72) dX9_remembers_72 rfl ?_
    refine gf_X9_177 (pc := 73) (v := nI a.k) dX9_remembers_73 ((congrFun (congrFun hd2 96) 12).trans ((si_i _ _ _ (by decide) _).trans hk)) ?_
    refine V.iconst (pc := 76) (v := nI 1) dX9_remembers_76 (by decide) ?_
    refine V.iadd (pc := 77) (v := nI (a.k + 1)) dX9_remembers_77 (nI_add _ _) ?_
    refine pf_X9_177 (pc := 78) dX9_remembers_78 ?_
    exact V.vret (pc := 81) hF dX9_remembers_81 ⟨rfl, Rm_mk hRf (b := a.k) (by rw [if_neg h_11]) ((Fr.refl μ _).si _ _ (Or.inl rfl)) (fun c hc => si_c _ _ _ hc) (fun i h1 h2 => si_i _ _ _ h2 _) (si_s _ _ _ _) (fun i hi => by rw [if_neg h_11]; exact hrw i hi) hd1 hd2 hd3 rfl⟩
  · refine V.iconst (pc := 14) (v := nI 1) dX9_remembers_14 (by decide) ?_
    refine V.istore_n (pc := 15) (lv' := [(0, .ref (G.2.2 96)), (1, .int (nI 1))]) dX9_remembers_15 (by decide) rfl ?_
    have L16 : ∀ (n_ : Nat) (j : Nat) ( μ1 : Mu), (j + 1 ≤ 8) → (Fr μ μ1 (fun c => c = 96 ∨ (102 ≤ c ∧ c < 110))) → (∀ c, c ≠ 96 → μ1.1 c = μ.1 c) → (∀ i, i ≠ 12 → i ≠ 13 → μ1.1 96 i = μ.1 96 i) → (μ1.1 96 13 = nI 0) → (μ1.1 96 12 = nI 8) → (∀ i, i < j → Rw μ1 (102 + i) (a.h (i + 1))) → (∀ i, j < i → i < 8 → Rw μ1 (102 + i) (a.h i)) → 8 - j < n_ → V G RX9 cX9_remembers 2 1 X 16 [(0, .ref (G.2.2 96)), (1, .int (nI (j + 1)))] [] μ1 := by
      intro n_
      induction n_ with
      | zero => intro j μ1 hj hfr e1 e96 e13 e12 hlo hhi hm_; exact absurd hm_ (Nat.not_lt_zero _)
      | succ n_ ih16 =>
        intro j μ1 hj hfr e1 e96 e13 e12 hlo hhi hm_
        refine V.iload_n (pc := 16) 1 dX9_remembers_16 rfl ?_
        refine V.bipush (pc := 17) (v := nI 8) dX9_remembers_17 (by decide) ?_
        refine V.icmpN_ge (pc := 19) 45 dX9_remembers_19 (by decide) (by omega) (by omega) (fun h_19 => ?_) (fun h_19 => ?_)
        · refine V.aload_n (pc := 45) 0 dX9_remembers_45 rfl ?_
          refine V.dup (pc := 46) dX9_remembers_46 rfl ?_
          refine gf_X9_177 (pc := 47) (v := nI 8) dX9_remembers_47 e12 ?_
          refine V.iconst (pc := 50) (v := nI 1) dX9_remembers_50 (by decide) ?_
          refine V.isub (pc := 51) (v := nI 7) dX9_remembers_51 ((pk_sub (by omega)).trans (congrArg nI rfl)) ?_
          refine pf_X9_177 (pc := 52) dX9_remembers_52 ?_
          refine V.aload_n (pc := 55) 0 dX9_remembers_55 rfl ?_
          refine gf_X9_20 (pc := 56) dX9_remembers_56 ?_
          refine V.aload_n (pc := 59) 0 dX9_remembers_59 rfl ?_
          refine gf_X9_29 (pc := 60) dX9_remembers_60 ?_
          refine V.aload_n (pc := 63) 0 dX9_remembers_63 rfl ?_
          refine gf_X9_177 (pc := 64) (v := nI 7) dX9_remembers_64 (si_s _ _ _ _) ?_
          refine V.aaldJ (pc := 67) (k := 101) (n := 8) (Nat.le_of_ble_eq_true rfl) (fun _ _ => rfl) 7 (by omega) (by decide) dX9_remembers_67 ?_
          refine cl_X9_129 (pc := 68) dX9_remembers_68 (ok_X9_copies 99 (102 + 7) (by omega) (by omega) (fun _ _ => rfl) (cell_past 7 (by omega))) (by omega) (Nat.le_of_ble_eq_true rfl) (fun r_ μ_ h_ => ?_)
          obtain ⟨rfl, hd1, hd2, hd3⟩ := h_
          refine V.aload_n (pc := 71) 0 dX9_remembers_71 rfl ?_
          refine V.dup (pc := 72) dX9_remembers_72 rfl ?_
          refine gf_X9_177 (pc := 73) (v := nI 7) dX9_remembers_73 ((congrFun (congrFun hd2 96) 12).trans (si_s _ _ _ _)) ?_
          refine V.iconst (pc := 76) (v := nI 1) dX9_remembers_76 (by decide) ?_
          refine V.iadd (pc := 77) (v := nI (7 + 1)) dX9_remembers_77 ((nI_add _ _).trans (congrArg nI rfl)) ?_
          refine pf_X9_177 (pc := 78) dX9_remembers_78 ?_
          exact V.vret (pc := 81) hF dX9_remembers_81 ⟨rfl, Rm_mk hRf (b := 7) (by rw [if_pos h_11]) (hfr.si _ _ (Or.inl rfl)) (fun c hc => (si_c _ _ _ hc).trans (e1 c hc)) (fun i h1 h2 => (si_i _ _ _ h1 _).trans (e96 i h1 h2)) ((si_i _ _ _ (by decide) _).trans e13) (fun i hi => by rw [if_pos h_11]; exact hlo i (by omega)) hd1 hd2 hd3 rfl⟩
        · refine V.aload_n (pc := 22) 0 dX9_remembers_22 rfl ?_
          refine gf_X9_29 (pc := 23) dX9_remembers_23 ?_
          refine V.iload_n (pc := 26) 1 dX9_remembers_26 rfl ?_
          refine V.aaldJ (pc := 27) (k := 101) (n := 8) (Nat.le_of_ble_eq_true rfl) (fun _ _ => rfl) (j + 1) (by omega) (by decide) dX9_remembers_27 ?_
          refine V.aload_n (pc := 28) 0 dX9_remembers_28 rfl ?_
          refine gf_X9_29 (pc := 29) dX9_remembers_29 ?_
          refine V.iload_n (pc := 32) 1 dX9_remembers_32 rfl ?_
          refine V.iconst (pc := 33) (v := nI 1) dX9_remembers_33 (by decide) ?_
          refine V.isub (pc := 34) (v := nI j) dX9_remembers_34 ((pk_sub (by omega)).trans (congrArg nI (by omega))) ?_
          refine V.aaldJ (pc := 35) (k := 101) (n := 8) (Nat.le_of_ble_eq_true rfl) (fun _ _ => rfl) j (by omega) (by decide) dX9_remembers_35 ?_
          refine cl_X9_129 (pc := 36) dX9_remembers_36 (ok_X9_copies (102 + (j + 1)) (102 + j) (by omega) (by omega) (cell_past (j + 1) (by omega)) (cell_past j (by omega))) (by omega) (Nat.le_of_ble_eq_true rfl) (fun r_ μ_ h_ => ?_)
          obtain ⟨rfl, hc1, hc2, hc3⟩ := h_
          refine V.iinc (pc := 39) (v := nI (j + 1 + 1)) (lv' := [(0, .ref (G.2.2 96)), (1, .int (nI (j + 1 + 1)))]) 1 dX9_remembers_39 rfl (nn_inc _) (by decide) rfl ?_
          refine V.goto (pc := 42) 16 dX9_remembers_42 (by decide) ?_
          have e_1 : nI (j + 1 + 1) = nI ((j + 1) + 1) := congrArg nI (by omega)
          refine V.lvs (lv' := [(0, .ref (G.2.2 96)), (1, .int (nI ((j + 1) + 1)))]) (congrArg (fun z => ([(0, .ref (G.2.2 96)), (1, .int z)] : List (Nat × Value))) e_1) ?_
          exact ih16 (j + 1) μ_ (by omega) (hfr.trans hc1 (fun _ z => z) (fun c z => by omega)) (fun c hc => (congrFun hc2 c).trans (e1 c hc)) (fun i h1 h2 => (congrFun (congrFun hc2 96) i).trans (e96 i h1 h2)) ((congrFun (congrFun hc2 96) 13).trans e13) ((congrFun (congrFun hc2 96) 12).trans e12) (fun i hi => rm_lo (hj := by omega) hc1 hc3 hlo hhi i hi) (fun i h1 h2 => (hhi i (by omega) h2).row (hc1 _ (by omega)).2) (by omega)
    have e_1 : nI 1 = nI (0 + 1) := rfl
    refine V.lvs (lv' := [(0, .ref (G.2.2 96)), (1, .int (nI (0 + 1)))]) (congrArg (fun z => ([(0, .ref (G.2.2 96)), (1, .int z)] : List (Nat × Value))) e_1) ?_
    exact L16 _ 0 (si μ 96 13 (nI 0)) (by omega) ((Fr.refl μ _).si _ _ (Or.inl rfl)) (fun c hc => si_c _ _ _ hc) (fun i h1 h2 => si_i _ _ _ h2 _) (si_s _ _ _ _) ((si_i _ _ _ (by decide) _).trans (hk.trans (congrArg nI h_11))) (fun i hi => absurd hi (by omega)) (fun i h1 h2 => hrw i (by omega)) (Nat.lt_succ_self _)
