/-! the reference reads -/
def Bs (μ : Mu) (bs : Nat → Nat) (m : Nat) : Prop := μ.1 96 3 = nI m ∧ m ≤ 600 ∧ ∀ i, i < m → μ.1 98 i = nI (bs i) ∧ bs i < 256
theorem Bs.fld {μ : Mu} {bs : Nat → Nat} {m : Nat} (h : Bs μ bs m) (i : Nat) (v : Int32) (hi : i ≠ 3) : Bs (si μ 96 i v) bs m := ⟨(si_i _ _ _ (fun e => hi e.symm) _).trans h.1, h.2.1, fun j hj => ⟨(congrFun (si_c _ _ _ (by decide)) j).trans (h.2.2 j hj).1, (h.2.2 j hj).2⟩⟩
theorem Bs.lng {μ : Mu} {bs : Nat → Nat} {m : Nat} (h : Bs μ bs m) (c i : Nat) (v : Int64) : Bs (sj μ c i v) bs m := h
def bv (bs : Nat → Nat) (m k : Nat) : Int32 := if k < m then nI (bs k) else -1
def smB (bs : Nat → Nat) (m k : Nat) : Bool := decide (k < m) && isLt (bs k)
theorem bv_eq {bs : Nat → Nat} {m k c : Nat} (hb : k < m → bs k < 256) (hc : c < 2 ^ 31) : bv bs m k = nI c ↔ k < m ∧ bs k = c := by
  unfold bv
  by_cases h : k < m
  · rw [if_pos h, nn_eq32 (by have := hb h; omega) (by omega)]
    exact ⟨fun e => ⟨h, e⟩, fun e => e.2⟩
  · rw [if_neg h]
    exact ⟨fun e => absurd e.symm (nn_ne_m1 hc), fun e => absurd e.1 h⟩
def Sk (bs : Nat → Nat) (m p q : Nat) : Prop := p ≤ q ∧ (∀ j, p ≤ j → j < q → j < m ∧ bs j = 32) ∧ ¬ (q < m ∧ bs q = 32)
def Kt (μ μ' : Mu) : Prop := (∀ i, i ≠ 4 → i ≠ 6 → i ≠ 7 → μ'.1 96 i = μ.1 96 i) ∧ (∀ c, c ≠ 96 → μ'.1 c = μ.1 c) ∧ (∀ c, c ≠ 100 → μ'.2 c = μ.2 c) ∧ (μ'.1 96 6 = nI 0 → μ.1 96 6 = nI 0 ∧ μ'.1 96 7 = μ.1 96 7)
theorem Kt.refl (μ : Mu) : Kt μ μ := ⟨fun _ _ _ _ => rfl, fun _ _ => rfl, fun _ _ => rfl, fun h => ⟨h, rfl⟩⟩
theorem Kt.trans {μ μ1 μ2 : Mu} (h : Kt μ μ1) (h2 : Kt μ1 μ2) : Kt μ μ2 := ⟨fun i a b c => (h2.1 i a b c).trans (h.1 i a b c), fun c hc => (h2.2.1 c hc).trans (h.2.1 c hc), fun c hc => (h2.2.2.1 c hc).trans (h.2.2.1 c hc), fun z => ⟨(h.2.2.2 (h2.2.2.2 z).1).1, (h2.2.2.2 z).2.trans (h.2.2.2 (h2.2.2.2 z).1).2⟩⟩
theorem Kt.at_ {μ μ1 : Mu} (h : Kt μ μ1) (v : Int32) : Kt μ (si μ1 96 4 v) := h.trans ⟨fun j a b c => si_i _ _ _ a _, fun c hc => si_c _ _ _ hc, fun _ _ => rfl, fun z => ⟨(si_i μ1 96 v (show (6 : Nat) ≠ 4 by decide) 96).symm.trans z, si_i μ1 96 v (show (7 : Nat) ≠ 4 by decide) 96⟩⟩
theorem Kt.wrg {μ μ1 : Mu} (h : Kt μ μ1) {c : Nat} (w : Int32) (hc : 0 < c ∧ c < 4) : Kt μ (si (si μ1 96 6 (nI c)) 96 7 w) := h.trans ⟨fun j a b d => (si_i _ _ _ d _).trans (si_i _ _ _ b _), fun d hd => (si_c _ _ _ hd).trans (si_c _ _ _ hd), fun _ _ => rfl, fun z => by
  rw [si_i _ _ _ (by decide), si_s] at z
  exact absurd ((nn_eq32 (by omega) (by decide)).mp z) (by omega)⟩
theorem Kt.tld {μ μ1 : Mu} (h : Kt μ μ1) (i : Nat) (v : Int64) : Kt μ (sj μ1 100 i v) := h.trans ⟨fun _ _ _ _ => rfl, fun _ _ => rfl, fun c hc => sj_c _ _ _ hc, fun z => ⟨z, rfl⟩⟩
theorem Kt.bs_ {μ μ1 : Mu} {bs : Nat → Nat} {m : Nat} (h : Kt μ μ1) (hB : Bs μ bs m) : Bs μ1 bs m := ⟨(h.1 3 (by decide) (by decide) (by decide)).trans hB.1, hB.2.1, fun i hi => ⟨(congrFun (h.2.1 98 (by decide)) i).trans (hB.2.2 i hi).1, (hB.2.2 i hi).2⟩⟩
theorem Kt.rf {μ μ1 : Mu} {a : AS} (h : Kt μ μ1) (hR : Rf μ a) : Rf μ1 a := hR.keep (fun i hi => h.1 i (by omega) (by omega) (by omega)) (fun c hc => h.2.1 c (by omega)) (fun c hc => h.2.2.1 c (by omega))
theorem Kt.fr {μ0 μ μ1 : Mu} (h : Kt μ μ1) (h0 : Fr μ0 μ RK) : Fr μ0 μ1 RK := h0.trans (Q := RK) (fun c hc => ⟨h.2.1 c (by unfold RK at hc; omega), h.2.2.1 c (by unfold RK at hc; omega)⟩) (fun _ z => z) (fun _ z => z)
/-- the row that is being told -/
def Tm (μ : Mu) (D : TS) (B : Nat) : Prop := μ.2 100 0 = lN D.n ∧ μ.2 100 1 = lN D.u ∧ μ.2 100 2 = lN B ∧ μ.2 100 3 = lN 0 ∧ μ.2 100 4 = lN 0 ∧
  (∀ s, s < D.n → μ.2 100 (5 + 4 * s) = lN (D.bag s) ∧ μ.2 100 (5 + 4 * s + 1) = lN (D.len s) ∧ μ.2 100 (5 + 4 * s + 2) = lN (D.cnt s) ∧ μ.2 100 (5 + 4 * s + 3) = lN (D.fst s)) ∧
  (∀ w, w < D.u → (∀ k, k < D.nl w → μ.2 100 (69 + 12 * w + k) = lN (D.lt w k)) ∧ μ.2 100 (69 + 12 * w + 10) = lN (D.nl w) ∧ μ.2 100 (69 + 12 * w + 10 + 1) = -1)
def To (μ : Mu) (D : TS) (wo : Nat) : Prop := μ.2 100 (5 + 4 * D.n) = lN (bag0 D wo) ∧ μ.2 100 (5 + 4 * D.n + 1) = lN (len0 D wo) ∧ μ.2 100 (5 + 4 * D.n + 2) = lN wo ∧ (0 < wo → μ.2 100 (5 + 4 * D.n + 3) = lN (D.fst D.n))
/-- the fault that both find -/
def FL (μ : Mu) (bs : Nat → Nat) (m : Nat) : Prop := ∃ f w, μ.1 96 6 = nI f ∧ μ.1 96 7 = nI w ∧ 0 < f ∧ f < 4 ∧ (rfin bs m).ft = f ∧ (rfin bs m).pl = w + 1
theorem rfs_f {M : RM} (h : M.ft ≠ 0) (f a : Nat) : rfs M f a = M := if_neg h
theorem addW_f {bs : Nat → Nat} {M : RM} (h : M.ft ≠ 0) : (addW bs M).ft = M.ft ∧ (addW bs M).pl = M.pl := by
  unfold addW
  split
  · exact ⟨rfl, rfl⟩
  · split
    · rw [rfs_f h]; exact ⟨rfl, rfl⟩
    · exact ⟨rfl, rfl⟩
theorem endW_f {bs : Nat → Nat} {M : RM} (h : M.ft ≠ 0) : (endW bs M).ft = M.ft ∧ (endW bs M).pl = M.pl := by
  unfold endW
  split
  · exact ⟨rfl, rfl⟩
  · split
    · rw [rfs_f h]; exact ⟨rfl, rfl⟩
    · split
      · rw [rfs_f h]; exact ⟨rfl, rfl⟩
      · exact addW_f h
theorem sgn_f {M : RM} (h : M.ft ≠ 0) (c a : Nat) : (sgn M c a).ft = M.ft ∧ (sgn M c a).pl = M.pl := by
  unfold sgn
  split
  · exact ⟨rfl, rfl⟩
  · split
    · exact ⟨rfl, rfl⟩
    · rw [rfs_f h]; exact ⟨rfl, rfl⟩
theorem rfin_f {bs : Nat → Nat} {m : Nat} (h : (rrun bs m).ft ≠ 0) : (rfin bs m).ft = (rrun bs m).ft ∧ (rfin bs m).pl = (rrun bs m).pl := by
  have h1 := endW_f (bs := bs) h
  unfold rfin
  split
  · rw [rfs_f (by rw [h1.1]; exact h)]; exact h1
  · exact h1
theorem endW_0 {bs : Nat → Nat} {M : RM} (h : (endW bs M).ft = 0) : M.ft = 0 := by
  by_cases e : M.ft = 0
  · exact e
  · rw [(endW_f e).1] at h; exact h
/-- a fault of a word that ends at e -/
theorem fl_w {bs : Nat → Nat} {m e : Nat} (he : e ≤ m) (hl : e = m ∨ isLt (bs e) = false) (h0 : (rrun bs e).ft = 0) (hf : (endW bs (rrun bs e)).ft ≠ 0) : (rfin bs m).ft = (endW bs (rrun bs e)).ft ∧ (rfin bs m).pl = (endW bs (rrun bs e)).pl := by
  by_cases c : e = m
  · subst c
    unfold rfin
    split
    · rw [rfs_f hf]; exact ⟨rfl, rfl⟩
    · exact ⟨rfl, rfl⟩
  · have hl : isLt (bs e) = false := hl.resolve_left c
    have h1 := rrun_s (bs := bs) (i := e) rfl h0 hl
    have h2 := sgn_f hf (bs e) e
    have h3 : (rrun bs (e + 1)).ft ≠ 0 := by rw [h1, h2.1]; exact hf
    have h4 := rrun_stop (bs := bs) (i := e + 1) rfl h3 m (by omega)
    have h5 := rfin_f (bs := bs) (m := m) (by rw [h4]; exact h3)
    rw [h5.1, h5.2, h4, h1]
    exact h2
/-- a fault of a byte at e -/
theorem fl_s {bs : Nat → Nat} {m e f w : Nat} (he : e < m) (h : (rrun bs (e + 1)).ft = f) (hp : (rrun bs (e + 1)).pl = w) (hf : f ≠ 0) : (rfin bs m).ft = f ∧ (rfin bs m).pl = w := by
  have h3 : (rrun bs (e + 1)).ft ≠ 0 := by rw [h]; exact hf
  have h4 := rrun_stop (bs := bs) (i := e + 1) rfl h3 m (by omega)
  have h5 := rfin_f (bs := bs) (m := m) (by rw [h4]; exact h3)
  rw [h5.1, h5.2, h4]
  exact ⟨h, hp⟩
theorem rrun_lt {bs : Nat → Nat} {p j : Nat} {D : TS} {wo st pl : Nat} (h : rrun bs (p + j) = (D, wo, j, (if j = 0 then st else p), 0, pl)) (hl : isLt (bs (p + j)) = true) : rrun bs (p + (j + 1)) = (D, wo, j + 1, (if j + 1 = 0 then st else p), 0, pl) := by
  rw [← Nat.add_assoc, rrun_l h rfl hl]
  show (D, wo, j + 1, (if j = 0 then p + j else (if j = 0 then st else p)), 0, pl) = _
  rw [if_neg (show ¬ j + 1 = 0 by omega)]
  by_cases e : j = 0
  · subst e; rfl
  · rw [if_neg e, if_neg e]
theorem sk_run {bs : Nat → Nat} {m : Nat} {M : RM} (hk : M.k = 0) (h0 : M.ft = 0) : ∀ (d e q : Nat), q - e = d → Sk bs m e q → endW bs (rrun bs e) = M → endW bs (rrun bs q) = M ∧ (e < q → rrun bs q = M)
  | 0, e, q, hd, hs, h => by
    have : e = q := by have := hs.1; omega
    subst this
    exact ⟨h, fun z => absurd z (by omega)⟩
  | d + 1, e, q, hd, hs, h => by
    have hb := hs.2.1 e (Nat.le_refl _) (by omega)
    have h1 : rrun bs (e + 1) = M := by
      rw [rrun_s (bs := bs) (i := e) rfl (endW_0 (bs := bs) (by rw [h]; exact h0)) (by rw [hb.2]; rfl), h, hb.2]
      unfold sgn
      rw [if_neg (by omega), if_pos rfl]
    have h2 : endW bs (rrun bs (e + 1)) = M := by rw [h1]; exact if_pos hk
    have ih := sk_run hk h0 d (e + 1) q (by omega) ⟨by omega, fun j a b => hs.2.1 j (by omega) b, hs.2.2⟩ h2
    refine ⟨ih.1, fun _ => ?_⟩
    by_cases c : e + 1 = q
    · rw [← c]; exact h1
    · exact ih.2 (by have := hs.1; omega)
theorem ok_X9_byteAt {G : Gx} {μ : Mu} (bs : Nat → Nat) (m : Nat) (hB : Bs μ bs m) (k : Nat) (hk : k < 2 ^ 31) : RunsP 0 M_X9_byteAt [.ref (G.2.2 96), .int (nI k)] G μ (.int (bv bs m k)) := by
  have hm6 := hB.2.1
  refine Runs.go RX9 rfl (by decide) [(0, .ref (G.2.2 96)), (1, .int (nI k))] (Nat.le_of_ble_eq_true rfl) rfl (fun X hF => ?_)
  refine V.iload_n (pc := 0) 1 dX9_byteAt_0 rfl ?_
  refine V.aload_n (pc := 1) 0 dX9_byteAt_1 rfl ?_
  refine gf_X9_70 (pc := 2) (v := nI m) dX9_byteAt_2 hB.1 ?_
  refine V.icmpN_lt (pc := 5) 12 dX9_byteAt_5 (by decide) (by omega) (by omega) (fun h_5 => ?_) (fun h_5 => ?_)
  · refine V.aload_n (pc := 12) 0 dX9_byteAt_12 rfl ?_
    refine gf_X9_17 (pc := 13) dX9_byteAt_13 ?_
    refine V.iload_n (pc := 16) 1 dX9_byteAt_16 rfl ?_
    refine V.iald (pc := 17) (k := 98) (n := 600) (v := nI (bs k)) (Nat.le_of_ble_eq_true rfl) (fun _ _ => rfl) k (by omega) (by decide) dX9_byteAt_17 (hB.2.2 k h_5).1 ?_
    exact V.iret (pc := 18) hF dX9_byteAt_18 ⟨by rw [bv, if_pos h_5], rfl⟩
  · refine V.iconst (pc := 8) (v := (-1)) dX9_byteAt_8 (by decide) ?_
    refine V.goto (pc := 9) 18 dX9_byteAt_9 (by decide) ?_
    exact V.iret (pc := 18) hF dX9_byteAt_18 ⟨by rw [bv, if_neg (by omega)], rfl⟩
theorem ok_X9_isSmall {G : Gx} {μ : Mu} (bs : Nat → Nat) (m k : Nat) (hb : k < m → bs k < 256) : RunsP 0 M_X9_isSmall [.int (bv bs m k)] G μ (.int (nI (smB bs m k).toNat)) := by
  refine Runs.go RX9 rfl (by decide) [(0, .int (bv bs m k))] (Nat.le_of_ble_eq_true rfl) rfl (fun X hF => ?_)
  by_cases hkm : k < m
  · refine V.lvs (lv' := [(0, .int (nI (bs k)))]) (by rw [bv, if_pos hkm]) ?_
    refine V.iload_n (pc := 0) 0 dX9_isSmall_0 rfl ?_
    have hb2 := hb hkm
    refine V.bipush (pc := 1) (v := nI 97) dX9_isSmall_1 (by decide) ?_
    refine V.icmpN_lt (pc := 3) 16 dX9_isSmall_3 (by decide) (by omega) (by omega) (fun h_3 => ?_) (fun h_3 => ?_)
    · refine V.iconst (pc := 16) (v := nI 0) dX9_isSmall_16 (by decide) ?_
      exact V.zret (pc := 17) hF dX9_isSmall_17 (by decide) ⟨by rw [smB, decide_eq_true hkm, isLt_f (by omega)]; rfl, rfl⟩
    · refine V.iload_n (pc := 6) 0 dX9_isSmall_6 rfl ?_
      refine V.bipush (pc := 7) (v := nI 122) dX9_isSmall_7 (by decide) ?_
      refine V.icmpN_gt (pc := 9) 16 dX9_isSmall_9 (by decide) (by omega) (by omega) (fun h_9 => ?_) (fun h_9 => ?_)
      · refine V.iconst (pc := 16) (v := nI 0) dX9_isSmall_16 (by decide) ?_
        exact V.zret (pc := 17) hF dX9_isSmall_17 (by decide) ⟨by rw [smB, decide_eq_true hkm, isLt_f (by omega)]; rfl, rfl⟩
      · refine V.iconst (pc := 12) (v := nI 1) dX9_isSmall_12 (by decide) ?_
        refine V.goto (pc := 13) 17 dX9_isSmall_13 (by decide) ?_
        exact V.zret (pc := 17) hF dX9_isSmall_17 (by decide) ⟨by rw [smB, decide_eq_true hkm, isLt_t (by omega) (by omega)]; rfl, rfl⟩
  · refine V.lvs (lv' := [(0, .int (-1))]) (by rw [bv, if_neg hkm]) ?_
    refine V.iload_n (pc := 0) 0 dX9_isSmall_0 rfl ?_
    have hz := hkm
    refine V.bipush (pc := 1) (v := nI 97) dX9_isSmall_1 (by decide) ?_
    refine V.icmp_lt (pc := 3) 16 dX9_isSmall_3 (by decide) (fun h_3 => ?_) (fun h_3 => ?_)
    · refine V.iconst (pc := 16) (v := nI 0) dX9_isSmall_16 (by decide) ?_
      exact V.zret (pc := 17) hF dX9_isSmall_17 (by decide) ⟨by rw [smB, decide_eq_false hkm]; rfl, rfl⟩
    · exact absurd (by decide) h_3
theorem sk_st {bs : Nat → Nat} {m p q : Nat} (hs : ∀ j, p ≤ j → j < q → j < m ∧ bs j = 32) (h : q < m ∧ bs q = 32) : ∀ j, p ≤ j → j < q + 1 → j < m ∧ bs j = 32 := by
  intro j a b
  by_cases e : j = q
  · subst e; exact h
  · exact hs j a (by omega)
theorem ok_X9_here {G : Gx} {μ : Mu} (bs : Nat → Nat) (m : Nat) (hB : Bs μ bs m) (p : Nat) (hat : μ.1 96 4 = nI p) (hp : p ≤ m) : Runs 1 M_X9_here [.ref (G.2.2 96)] G μ (fun r μ' => ∃ q, Sk bs m p q ∧ q ≤ m ∧ r = some (.int (bv bs m q)) ∧ μ' = si μ 96 4 (nI q)) := by
  have hm6 := hB.2.1
  refine Runs.go RX9 rfl (by decide) [(0, .ref (G.2.2 96))] (Nat.le_of_ble_eq_true rfl) rfl (fun X hF => ?_)
  have L0 : ∀ (n_ : Nat) (q : Nat), (p ≤ q ∧ q ≤ m) → (∀ j, p ≤ j → j < q → j < m ∧ bs j = 32) → m - q < n_ → V G RX9 cX9_here 1 1 X 0 [(0, .ref (G.2.2 96))] [] (si μ 96 4 (nI q)) := by
    intro n_
    induction n_ with
    | zero => intro q hq hs hm_; exact absurd hm_ (Nat.not_lt_zero _)
    | succ n_ ih0 =>
      intro q hq hs hm_
      refine V.aload_n (pc := 0) 0 dX9_here_0 rfl ?_
      refine V.aload_n (pc := 1) 0 dX9_here_1 rfl ?_
      refine gf_X9_73 (pc := 2) (v := nI q) dX9_here_2 (si_s _ _ _ _) ?_
      refine cp_X9_76 (pc := 5) dX9_here_5 (ok_X9_byteAt bs m (hB.fld 4 _ (by decide)) q (by omega)) (by omega) (Nat.le_of_ble_eq_true rfl) ?_
      refine V.bipush (pc := 8) (v := nI 32) dX9_here_8 (by decide) ?_
      refine V.icmp_ne (pc := 10) 26 dX9_here_10 (by decide) (fun h_10 => ?_) (fun h_10 => ?_)
      · refine V.aload_n (pc := 26) 0 dX9_here_26 rfl ?_
        refine V.aload_n (pc := 27) 0 dX9_here_27 rfl ?_
        refine gf_X9_73 (pc := 28) (v := nI q) dX9_here_28 (si_s _ _ _ _) ?_
        refine cp_X9_76 (pc := 31) dX9_here_31 (ok_X9_byteAt bs m (hB.fld 4 _ (by decide)) q (by omega)) (by omega) (Nat.le_of_ble_eq_true rfl) ?_
        exact V.iret (pc := 34) hF dX9_here_34 ⟨q, ⟨hq.1, hs, fun z => h_10 ((bv_eq (fun z => (hB.2.2 q z).2) (by decide)).mpr z)⟩, hq.2, rfl, rfl⟩
      · have hsp := (bv_eq (fun z => (hB.2.2 q z).2) (by decide)).mp h_10
        refine V.aload_n (pc := 13) 0 dX9_here_13 rfl ?_
        refine V.dup (pc := 14) dX9_here_14 rfl ?_
        refine gf_X9_73 (pc := 15) (v := nI q) dX9_here_15 (si_s _ _ _ _) ?_
        refine V.iconst (pc := 18) (v := nI 1) dX9_here_18 (by decide) ?_
        refine V.iadd (pc := 19) (v := nI (q + 1)) dX9_here_19 (nI_add _ _) ?_
        refine pf_X9_73 (pc := 20) dX9_here_20 ?_
        refine V.goto (pc := 23) 0 dX9_here_23 (by decide) ?_
        refine V.mu (si_si _ _ _ _ _) ?_
        exact ih0 (q + 1) (by omega) (fun j a b => sk_st hs hsp j a b) (by omega)
  refine V.mu (si_self hat) ?_
  exact L0 _ p (⟨Nat.le_refl _, hp⟩) (fun j a b => absurd b (by omega)) (Nat.lt_succ_self _)
theorem ok_X9_fine {G : Gx} {μ : Mu} (f : Nat) (hf : μ.1 96 6 = nI f) (hfb : f < 4) : RunsP 0 M_X9_fine [.ref (G.2.2 96)] G μ (.int (nI (decide (f = 0)).toNat)) := by
  refine Runs.go RX9 rfl (by decide) [(0, .ref (G.2.2 96))] (Nat.le_of_ble_eq_true rfl) rfl (fun X hF => ?_)
  refine V.aload_n (pc := 0) 0 dX9_fine_0 rfl ?_
  refine gf_X9_79 (pc := 1) (v := nI f) dX9_fine_1 hf ?_
  refine V.ifN_ne (pc := 4) 11 dX9_fine_4 (by decide) (by omega) (fun h_4 => ?_) (fun h_4 => ?_)
  · refine V.iconst (pc := 11) (v := nI 0) dX9_fine_11 (by decide) ?_
    exact V.zret (pc := 12) hF dX9_fine_12 (by decide) ⟨by rw [decide_eq_false (by omega)]; rfl, rfl⟩
  · refine V.iconst (pc := 7) (v := nI 1) dX9_fine_7 (by decide) ?_
    refine V.goto (pc := 8) 12 dX9_fine_8 (by decide) ?_
    exact V.zret (pc := 12) hF dX9_fine_12 (by decide) ⟨by rw [decide_eq_true (by omega)]; rfl, rfl⟩
def wrM (μ : Mu) (f c w : Nat) : Mu := if f = 0 then si (si μ 96 6 (nI c)) 96 7 (nI w) else μ
theorem ok_X9_wrong {G : Gx} {μ : Mu} (f c w : Nat) (hf : μ.1 96 6 = nI f) (hfb : f < 4) : Runs 0 M_X9_wrong [.ref (G.2.2 96), .int (nI c), .int (nI w)] G μ (fun r μ' => r = none ∧ μ' = wrM μ f c w) := by
  refine Runs.go RX9 rfl (by decide) [(0, .ref (G.2.2 96)), (1, .int (nI c)), (2, .int (nI w))] (Nat.le_of_ble_eq_true rfl) rfl (fun X hF => ?_)
  refine V.aload_n (pc := 0) 0 dX9_wrong_0 rfl ?_
  refine gf_X9_79 (pc := 1) (v := nI f) dX9_wrong_1 hf ?_
  refine V.ifN_ne (pc := 4) 17 dX9_wrong_4 (by decide) (by omega) (fun h_4 => ?_) (fun h_4 => ?_)
  · exact V.vret (pc := 17) hF dX9_wrong_17 ⟨rfl, by rw [wrM, if_neg (by omega)]⟩
  · refine V.aload_n (pc := 7) 0 dX9_wrong_7 rfl ?_
    refine V.iload_n (pc := 8) 1 dX9_wrong_8 rfl ?_
    refine pf_X9_79 (pc := 9) dX9_wrong_9 ?_
    refine V.aload_n (pc := 12) 0 dX9_wrong_12 rfl ?_
    refine V.iload_n (pc := 13) 2 dX9_wrong_13 rfl ?_
    refine pf_X9_82 (pc := 14) dX9_wrong_14 ?_
    exact V.vret (pc := 17) hF dX9_wrong_17 ⟨rfl, by rw [wrM, if_pos h_4]⟩
theorem of_and_nl {D : TS} {w j : Nat} {q : Bool} (h : ((D.nl w == j) && q) = true) : D.nl w = j := by
  rw [Bool.and_eq_true] at h; simpa using h.1
theorem eqUp_no {D : TS} {w : Nat} {bs : Nat → Nat} {st k : Nat} (h : eqUp D w bs st k = false) : ∀ d, eqUp D w bs st (k + d) = false
  | 0 => h
  | d + 1 => by rw [← Nat.add_assoc, eqUp, eqUp_no h d]; rfl
theorem mt_end {D : TS} {w : Nat} {bs : Nat → Nat} {p j k : Nat} (hk : k ≤ j) (h : ((D.nl w == j) && eqUp D w bs p k) = false) : mtB D bs p j w = false := by
  unfold mtB
  rw [Bool.and_eq_false_iff] at h ⊢
  rcases h with h | h
  · exact Or.inl h
  · have := eqUp_no h (j - k)
    rw [show k + (j - k) = j by omega] at this
    exact Or.inr this
theorem ok_X9_isWord {G : Gx} {μ : Mu} (bs : Nat → Nat) (m : Nat) (hB : Bs μ bs m) (D : TS) (B w p j : Nat) (hT : Tm μ D B) (hw : w < D.u) (hu : D.u ≤ 48) (hnl : D.nl w ≤ 10) (hlt : ∀ k, k < D.nl w → D.lt w k < 256) (hj : j ≤ 10) (hpj : p + j ≤ m) : RunsP 1 M_X9_isWord [.ref (G.2.2 96), .int (nI w), .int (nI p), .int (nI j)] G μ (.int (nI (mtB D bs p j w).toNat)) := by
  have hm6 := hB.2.1
  refine Runs.go RX9 rfl (by decide) [(0, .ref (G.2.2 96)), (1, .int (nI w)), (2, .int (nI p)), (3, .int (nI j))] (Nat.le_of_ble_eq_true rfl) rfl (fun X hF => ?_)
  refine V.aload_n (pc := 0) 0 dX9_isWord_0 rfl ?_
  refine gf_X9_24 (pc := 1) dX9_isWord_1 ?_
  refine V.iload_n (pc := 4) 1 dX9_isWord_4 rfl ?_
  refine cp_X9_103 (pc := 5) dX9_isWord_5 (ok_X9_wordAt w) (by omega) (Nat.le_of_ble_eq_true rfl) ?_
  refine V.bipush (pc := 8) (v := nI 10) dX9_isWord_8 (by decide) ?_
  refine V.iadd (pc := 10) (v := nI (69 + 12 * w + 10)) dX9_isWord_10 (nI_add _ _) ?_
  refine V.lald (pc := 11) (k := 100) (n := 645) (v := lN (D.nl w)) (Nat.le_of_ble_eq_true rfl) (fun _ _ => rfl) (69 + 12 * w + 10) (by omega) (by decide) dX9_isWord_11 (hT.2.2.2.2.2.2 w hw).2.1 ?_
  refine V.iload_n (pc := 12) 3 dX9_isWord_12 rfl ?_
  refine V.i2l (pc := 13) (v := lN j) dX9_isWord_13 (nI_l (by omega)) ?_
  refine V.lcmpN_ne (pc := 14) 22 dX9_isWord_14 dX9_isWord_15 (by decide) (by omega) (by omega) (fun h_14 => ?_) (fun h_14 => ?_)
  · have hne : (D.nl w == j) = false := by simp; omega
    refine V.iconst (pc := 22) (v := nI 0) dX9_isWord_22 (by decide) ?_
    refine V.istore (pc := 23) (lv' := [(0, .ref (G.2.2 96)), (1, .int (nI w)), (2, .int (nI p)), (3, .int (nI j)), (4, .int (nI 0))]) dX9_isWord_23 (by decide) rfl ?_
    refine V.iconst (pc := 25) (v := nI 0) dX9_isWord_25 (by decide) ?_
    refine V.istore (pc := 26) (lv' := [(0, .ref (G.2.2 96)), (1, .int (nI w)), (2, .int (nI p)), (3, .int (nI j)), (4, .int (nI 0)), (5, .int (nI 0))]) dX9_isWord_26 (by decide) rfl ?_
    have L28 : ∀ (n_ : Nat) (k : Nat), (k ≤ j) → j - k < n_ → V G RX9 cX9_isWord 6 1 X 28 [(0, .ref (G.2.2 96)), (1, .int (nI w)), (2, .int (nI p)), (3, .int (nI j)), (4, .int (nI ((D.nl w == j) && eqUp D w bs p k).toNat)), (5, .int (nI k))] [] μ := by
      intro n_
      induction n_ with
      | zero => intro k hk hm_; exact absurd hm_ (Nat.not_lt_zero _)
      | succ n_ ih28 =>
        intro k hk hm_
        refine V.iload (pc := 28) 5 dX9_isWord_28 rfl ?_
        refine V.iload_n (pc := 30) 3 dX9_isWord_30 rfl ?_
        refine V.icmpN_ge (pc := 31) 78 dX9_isWord_31 (by decide) (by omega) (by omega) (fun h_31 => ?_) (fun h_31 => ?_)
        · refine V.iload (pc := 78) 4 dX9_isWord_78 rfl ?_
          exact V.zret (pc := 80) hF dX9_isWord_80 (nn_nb _) ⟨by rw [show k = j by omega]; rfl, rfl⟩
        · refine V.iload (pc := 34) 4 dX9_isWord_34 rfl ?_
          refine V.ifB_eq (pc := 36) 78 dX9_isWord_36 (by decide) (fun h_36 => ?_) (fun h_36 => ?_)
          · refine V.iload (pc := 78) 4 dX9_isWord_78 rfl ?_
            exact V.zret (pc := 80) hF dX9_isWord_80 (nn_nb _) ⟨by rw [mt_end (by omega) h_36, h_36], rfl⟩
          · have hc1 := hlt k (by have := of_and_nl h_36; omega)
            have hc2 := (hB.2.2 (p + k) (by omega)).2
            have hnj := of_and_nl h_36
            refine V.aload_n (pc := 39) 0 dX9_isWord_39 rfl ?_
            refine gf_X9_24 (pc := 40) dX9_isWord_40 ?_
            refine V.iload_n (pc := 43) 1 dX9_isWord_43 rfl ?_
            refine cp_X9_103 (pc := 44) dX9_isWord_44 (ok_X9_wordAt w) (by omega) (Nat.le_of_ble_eq_true rfl) ?_
            refine V.iload (pc := 47) 5 dX9_isWord_47 rfl ?_
            refine V.iadd (pc := 49) (v := nI (69 + 12 * w + k)) dX9_isWord_49 (nI_add _ _) ?_
            refine V.lald (pc := 50) (k := 100) (n := 645) (v := lN (D.lt w k)) (Nat.le_of_ble_eq_true rfl) (fun _ _ => rfl) (69 + 12 * w + k) (by omega) (by decide) dX9_isWord_50 ((hT.2.2.2.2.2.2 w hw).1 k (by omega)) ?_
            refine V.aload_n (pc := 51) 0 dX9_isWord_51 rfl ?_
            refine gf_X9_17 (pc := 52) dX9_isWord_52 ?_
            refine V.iload_n (pc := 55) 2 dX9_isWord_55 rfl ?_
            refine V.iload (pc := 56) 5 dX9_isWord_56 rfl ?_
            refine V.iadd (pc := 58) (v := nI (p + k)) dX9_isWord_58 (nI_add _ _) ?_
            refine V.iald (pc := 59) (k := 98) (n := 600) (v := nI (bs (p + k))) (Nat.le_of_ble_eq_true rfl) (fun _ _ => rfl) (p + k) (by omega) (by decide) dX9_isWord_59 (hB.2.2 (p + k) (by omega)).1 ?_
            refine V.i2l (pc := 60) (v := lN (bs (p + k))) dX9_isWord_60 (nI_l (by omega)) ?_
            refine V.lcmpN_ne (pc := 61) 69 dX9_isWord_61 dX9_isWord_62 (by decide) (by omega) (by omega) (fun h_61 => ?_) (fun h_61 => ?_)
            · refine V.iconst (pc := 69) (v := nI 0) dX9_isWord_69 (by decide) ?_
              refine V.istore (pc := 70) (lv' := [(0, .ref (G.2.2 96)), (1, .int (nI w)), (2, .int (nI p)), (3, .int (nI j)), (4, .int (nI 0)), (5, .int (nI k))]) dX9_isWord_70 (by decide) rfl ?_
              refine V.iinc (pc := 72) (v := nI (k + 1)) (lv' := [(0, .ref (G.2.2 96)), (1, .int (nI w)), (2, .int (nI p)), (3, .int (nI j)), (4, .int (nI 0)), (5, .int (nI (k + 1)))]) 5 dX9_isWord_72 rfl (nn_inc _) (by decide) rfl ?_
              refine V.goto (pc := 75) 28 dX9_isWord_75 (by decide) ?_
              have e_4 : nI 0 = nI ((D.nl w == j) && eqUp D w bs p (k + 1)).toNat := by rw [eqUp, ← Bool.and_assoc, h_36]; show nI 0 = nI (D.lt w k == bs (p + k)).toNat; rw [show (D.lt w k == bs (p + k)) = false from by simp; omega]; rfl
              refine V.lvs (lv' := [(0, .ref (G.2.2 96)), (1, .int (nI w)), (2, .int (nI p)), (3, .int (nI j)), (4, .int (nI ((D.nl w == j) && eqUp D w bs p (k + 1)).toNat)), (5, .int (nI (k + 1)))]) (congrArg (fun z => ([(0, .ref (G.2.2 96)), (1, .int (nI w)), (2, .int (nI p)), (3, .int (nI j)), (4, .int z), (5, .int (nI (k + 1)))] : List (Nat × Value))) e_4) ?_
              exact ih28 (k + 1) (by omega) (by omega)
            · refine V.iconst (pc := 65) (v := nI 1) dX9_isWord_65 (by decide) ?_
              refine V.goto (pc := 66) 70 dX9_isWord_66 (by decide) ?_
              refine V.istore (pc := 70) (lv' := [(0, .ref (G.2.2 96)), (1, .int (nI w)), (2, .int (nI p)), (3, .int (nI j)), (4, .int (nI 1)), (5, .int (nI k))]) dX9_isWord_70 (by decide) rfl ?_
              refine V.iinc (pc := 72) (v := nI (k + 1)) (lv' := [(0, .ref (G.2.2 96)), (1, .int (nI w)), (2, .int (nI p)), (3, .int (nI j)), (4, .int (nI 1)), (5, .int (nI (k + 1)))]) 5 dX9_isWord_72 rfl (nn_inc _) (by decide) rfl ?_
              refine V.goto (pc := 75) 28 dX9_isWord_75 (by decide) ?_
              have e_4 : nI 1 = nI ((D.nl w == j) && eqUp D w bs p (k + 1)).toNat := by rw [eqUp, ← Bool.and_assoc, h_36]; show nI 1 = nI (D.lt w k == bs (p + k)).toNat; rw [show (D.lt w k == bs (p + k)) = true from by simp; omega]; rfl
              refine V.lvs (lv' := [(0, .ref (G.2.2 96)), (1, .int (nI w)), (2, .int (nI p)), (3, .int (nI j)), (4, .int (nI ((D.nl w == j) && eqUp D w bs p (k + 1)).toNat)), (5, .int (nI (k + 1)))]) (congrArg (fun z => ([(0, .ref (G.2.2 96)), (1, .int (nI w)), (2, .int (nI p)), (3, .int (nI j)), (4, .int z), (5, .int (nI (k + 1)))] : List (Nat × Value))) e_4) ?_
              exact ih28 (k + 1) (by omega) (by omega)
    have e_4 : nI 0 = nI ((D.nl w == j) && eqUp D w bs p 0).toNat := by rw [hne]; rfl
    refine V.lvs (lv' := [(0, .ref (G.2.2 96)), (1, .int (nI w)), (2, .int (nI p)), (3, .int (nI j)), (4, .int (nI ((D.nl w == j) && eqUp D w bs p 0).toNat)), (5, .int (nI 0))]) (congrArg (fun z => ([(0, .ref (G.2.2 96)), (1, .int (nI w)), (2, .int (nI p)), (3, .int (nI j)), (4, .int z), (5, .int (nI 0))] : List (Nat × Value))) e_4) ?_
    exact L28 _ 0 (by omega) (Nat.lt_succ_self _)
  · have hne : (D.nl w == j) = true := by simp; omega
    refine V.iconst (pc := 18) (v := nI 1) dX9_isWord_18 (by decide) ?_
    refine V.goto (pc := 19) 23 dX9_isWord_19 (by decide) ?_
    refine V.istore (pc := 23) (lv' := [(0, .ref (G.2.2 96)), (1, .int (nI w)), (2, .int (nI p)), (3, .int (nI j)), (4, .int (nI 1))]) dX9_isWord_23 (by decide) rfl ?_
    refine V.iconst (pc := 25) (v := nI 0) dX9_isWord_25 (by decide) ?_
    refine V.istore (pc := 26) (lv' := [(0, .ref (G.2.2 96)), (1, .int (nI w)), (2, .int (nI p)), (3, .int (nI j)), (4, .int (nI 1)), (5, .int (nI 0))]) dX9_isWord_26 (by decide) rfl ?_
    have L28 : ∀ (n_ : Nat) (k : Nat), (k ≤ j) → j - k < n_ → V G RX9 cX9_isWord 6 1 X 28 [(0, .ref (G.2.2 96)), (1, .int (nI w)), (2, .int (nI p)), (3, .int (nI j)), (4, .int (nI ((D.nl w == j) && eqUp D w bs p k).toNat)), (5, .int (nI k))] [] μ := by
      intro n_
      induction n_ with
      | zero => intro k hk hm_; exact absurd hm_ (Nat.not_lt_zero _)
      | succ n_ ih28 =>
        intro k hk hm_
        refine V.iload (pc := 28) 5 dX9_isWord_28 rfl ?_
        refine V.iload_n (pc := 30) 3 dX9_isWord_30 rfl ?_
        refine V.icmpN_ge (pc := 31) 78 dX9_isWord_31 (by decide) (by omega) (by omega) (fun h_31 => ?_) (fun h_31 => ?_)
        · refine V.iload (pc := 78) 4 dX9_isWord_78 rfl ?_
          exact V.zret (pc := 80) hF dX9_isWord_80 (nn_nb _) ⟨by rw [show k = j by omega]; rfl, rfl⟩
        · refine V.iload (pc := 34) 4 dX9_isWord_34 rfl ?_
          refine V.ifB_eq (pc := 36) 78 dX9_isWord_36 (by decide) (fun h_36 => ?_) (fun h_36 => ?_)
          · refine V.iload (pc := 78) 4 dX9_isWord_78 rfl ?_
            exact V.zret (pc := 80) hF dX9_isWord_80 (nn_nb _) ⟨by rw [mt_end (by omega) h_36, h_36], rfl⟩
          · have hc1 := hlt k (by have := of_and_nl h_36; omega)
            have hc2 := (hB.2.2 (p + k) (by omega)).2
            have hnj := of_and_nl h_36
            refine V.aload_n (pc := 39) 0 dX9_isWord_39 rfl ?_
            refine gf_X9_24 (pc := 40) dX9_isWord_40 ?_
            refine V.iload_n (pc := 43) 1 dX9_isWord_43 rfl ?_
            refine cp_X9_103 (pc := 44) dX9_isWord_44 (ok_X9_wordAt w) (by omega) (Nat.le_of_ble_eq_true rfl) ?_
            refine V.iload (pc := 47) 5 dX9_isWord_47 rfl ?_
            refine V.iadd (pc := 49) (v := nI (69 + 12 * w + k)) dX9_isWord_49 (nI_add _ _) ?_
            refine V.lald (pc := 50) (k := 100) (n := 645) (v := lN (D.lt w k)) (Nat.le_of_ble_eq_true rfl) (fun _ _ => rfl) (69 + 12 * w + k) (by omega) (by decide) dX9_isWord_50 ((hT.2.2.2.2.2.2 w hw).1 k (by omega)) ?_
            refine V.aload_n (pc := 51) 0 dX9_isWord_51 rfl ?_
            refine gf_X9_17 (pc := 52) dX9_isWord_52 ?_
            refine V.iload_n (pc := 55) 2 dX9_isWord_55 rfl ?_
            refine V.iload (pc := 56) 5 dX9_isWord_56 rfl ?_
            refine V.iadd (pc := 58) (v := nI (p + k)) dX9_isWord_58 (nI_add _ _) ?_
            refine V.iald (pc := 59) (k := 98) (n := 600) (v := nI (bs (p + k))) (Nat.le_of_ble_eq_true rfl) (fun _ _ => rfl) (p + k) (by omega) (by decide) dX9_isWord_59 (hB.2.2 (p + k) (by omega)).1 ?_
            refine V.i2l (pc := 60) (v := lN (bs (p + k))) dX9_isWord_60 (nI_l (by omega)) ?_
            refine V.lcmpN_ne (pc := 61) 69 dX9_isWord_61 dX9_isWord_62 (by decide) (by omega) (by omega) (fun h_61 => ?_) (fun h_61 => ?_)
            · refine V.iconst (pc := 69) (v := nI 0) dX9_isWord_69 (by decide) ?_
              refine V.istore (pc := 70) (lv' := [(0, .ref (G.2.2 96)), (1, .int (nI w)), (2, .int (nI p)), (3, .int (nI j)), (4, .int (nI 0)), (5, .int (nI k))]) dX9_isWord_70 (by decide) rfl ?_
              refine V.iinc (pc := 72) (v := nI (k + 1)) (lv' := [(0, .ref (G.2.2 96)), (1, .int (nI w)), (2, .int (nI p)), (3, .int (nI j)), (4, .int (nI 0)), (5, .int (nI (k + 1)))]) 5 dX9_isWord_72 rfl (nn_inc _) (by decide) rfl ?_
              refine V.goto (pc := 75) 28 dX9_isWord_75 (by decide) ?_
              have e_4 : nI 0 = nI ((D.nl w == j) && eqUp D w bs p (k + 1)).toNat := by rw [eqUp, ← Bool.and_assoc, h_36]; show nI 0 = nI (D.lt w k == bs (p + k)).toNat; rw [show (D.lt w k == bs (p + k)) = false from by simp; omega]; rfl
              refine V.lvs (lv' := [(0, .ref (G.2.2 96)), (1, .int (nI w)), (2, .int (nI p)), (3, .int (nI j)), (4, .int (nI ((D.nl w == j) && eqUp D w bs p (k + 1)).toNat)), (5, .int (nI (k + 1)))]) (congrArg (fun z => ([(0, .ref (G.2.2 96)), (1, .int (nI w)), (2, .int (nI p)), (3, .int (nI j)), (4, .int z), (5, .int (nI (k + 1)))] : List (Nat × Value))) e_4) ?_
              exact ih28 (k + 1) (by omega) (by omega)
            · refine V.iconst (pc := 65) (v := nI 1) dX9_isWord_65 (by decide) ?_
              refine V.goto (pc := 66) 70 dX9_isWord_66 (by decide) ?_
              refine V.istore (pc := 70) (lv' := [(0, .ref (G.2.2 96)), (1, .int (nI w)), (2, .int (nI p)), (3, .int (nI j)), (4, .int (nI 1)), (5, .int (nI k))]) dX9_isWord_70 (by decide) rfl ?_
              refine V.iinc (pc := 72) (v := nI (k + 1)) (lv' := [(0, .ref (G.2.2 96)), (1, .int (nI w)), (2, .int (nI p)), (3, .int (nI j)), (4, .int (nI 1)), (5, .int (nI (k + 1)))]) 5 dX9_isWord_72 rfl (nn_inc _) (by decide) rfl ?_
              refine V.goto (pc := 75) 28 dX9_isWord_75 (by decide) ?_
              have e_4 : nI 1 = nI ((D.nl w == j) && eqUp D w bs p (k + 1)).toNat := by rw [eqUp, ← Bool.and_assoc, h_36]; show nI 1 = nI (D.lt w k == bs (p + k)).toNat; rw [show (D.lt w k == bs (p + k)) = true from by simp; omega]; rfl
              refine V.lvs (lv' := [(0, .ref (G.2.2 96)), (1, .int (nI w)), (2, .int (nI p)), (3, .int (nI j)), (4, .int (nI ((D.nl w == j) && eqUp D w bs p (k + 1)).toNat)), (5, .int (nI (k + 1)))]) (congrArg (fun z => ([(0, .ref (G.2.2 96)), (1, .int (nI w)), (2, .int (nI p)), (3, .int (nI j)), (4, .int z), (5, .int (nI (k + 1)))] : List (Nat × Value))) e_4) ?_
              exact ih28 (k + 1) (by omega) (by omega)
    have e_4 : nI 1 = nI ((D.nl w == j) && eqUp D w bs p 0).toNat := by rw [hne]; rfl
    refine V.lvs (lv' := [(0, .ref (G.2.2 96)), (1, .int (nI w)), (2, .int (nI p)), (3, .int (nI j)), (4, .int (nI ((D.nl w == j) && eqUp D w bs p 0).toNat)), (5, .int (nI 0))]) (congrArg (fun z => ([(0, .ref (G.2.2 96)), (1, .int (nI w)), (2, .int (nI p)), (3, .int (nI j)), (4, .int z), (5, .int (nI 0))] : List (Nat × Value))) e_4) ?_
    exact L28 _ 0 (by omega) (Nat.lt_succ_self _)
