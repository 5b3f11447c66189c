/-! the queue comes to its end -/
theorem cntB_clr {q s : Nat} (h : q.testBit s = true) : ∀ n, cntB (adn q (2 ^ s)) n + (if s < n then 1 else 0) = cntB q n
  | 0 => rfl
  | n + 1 => by
    have ih := cntB_clr h n
    rw [cntB, cntB, adn_bit, two_bit]
    by_cases e : s = n
    · subst e
      rw [if_neg (by omega)] at ih
      rw [if_pos (by omega), h, decide_eq_true rfl, ← ih]
      show _ + 0 + 1 = _ + 0 + 1
      rfl
    · rw [decide_eq_false e, Bool.not_false, Bool.and_true]
      by_cases c : s < n
      · rw [if_pos c] at ih; rw [if_pos (by omega)]; omega
      · rw [if_neg c] at ih; rw [if_neg (by omega)]; omega
def frB (S : TS) (x : QS) (j : Nat) : Bool := decide (x.g j = gain S j x.set) && decide (x.c j = cost S j x.set)
def stC (S : TS) (x : QS) : Nat → Nat
  | 0 => 0
  | i + 1 => stC S x i + (x.q.testBit i && !frB S x i).toNat
theorem stC_le (S : TS) (x : QS) : ∀ i, stC S x i ≤ i
  | 0 => Nat.le_refl _
  | i + 1 => by
    have := stC_le S x i
    have h2 : (x.q.testBit i && !frB S x i).toNat ≤ 1 := Bool.toNat_le _
    rw [stC]; omega
def qM (S : TS) (x : QS) : Nat := 17 * cntB x.q 16 + stC S x 16
theorem upd_id {f : Nat → Nat} {s v : Nat} (h : f s = v) : updN f s v = f := by
  funext j
  unfold updN
  split
  · rename_i e; rw [e]; exact h.symm
  · rfl
theorem stC_ask {S : TS} {x : QS} {s : Nat} (hq : x.q.testBit s = true) (hf : frB S x s = false) : ∀ i, stC S (qAsk S x s) i + (if s < i then 1 else 0) = stC S x i
  | 0 => rfl
  | i + 1 => by
    have ih := stC_ask hq hf i
    rw [stC, stC]
    by_cases e : s = i
    · subst e
      rw [if_neg (by omega)] at ih
      have h1 : frB S (qAsk S x s) s = true := by
        unfold frB
        rw [Bool.and_eq_true]
        exact ⟨decide_eq_true (updN_s _ _ _), decide_eq_true (updN_s _ _ _)⟩
      have h2 : (qAsk S x s).q = x.q := rfl
      rw [if_pos (by omega), h1, h2, hq, hf, ← ih]
      show _ + 0 + 1 = _ + 0 + 1
      rfl
    · have h1 : frB S (qAsk S x s) i = frB S x i := by
        unfold frB
        show (decide (updN x.g s _ i = _) && decide (updN x.c s _ i = _)) = _
        rw [updN_n (fun z => e z.symm), updN_n (fun z => e z.symm)]
        rfl
      have h2 : (qAsk S x s).q = x.q := rfl
      rw [h1, h2]
      by_cases c : s < i
      · rw [if_pos c] at ih; rw [if_pos (by omega)]; omega
      · rw [if_neg c] at ih; rw [if_neg (by omega)]; omega
theorem q_dec {S : TS} {x : QS} {s : Nat} (hs : qFm x = s + 1) (hs16 : s < 16) (hb : x.q.testBit s = true) : qM S (qLook S x s) < qM S x := by
  have hc := cntB_clr hb 16
  rw [if_pos hs16] at hc
  have gone : ∀ y : QS, y.q = adn x.q (2 ^ s) → qM S y < qM S x := fun y hy => by
    have h1 := stC_le S y 16
    unfold qM
    rw [hy]
    omega
  unfold qLook
  split
  · exact gone _ rfl
  · split
    · exact gone _ rfl
    · split
      · exact gone _ rfl
      · rename_i h3
        have hf : frB S x s = false := by
          cases e : frB S x s with
          | false => rfl
          | true =>
            exfalso
            unfold frB at e
            rw [Bool.and_eq_true] at e
            have e1 := of_decide_eq_true e.1
            have e2 := of_decide_eq_true e.2
            apply h3
            show fm x.q (updN x.g s _) (updN x.c s _) = _
            rw [upd_id e1, upd_id e2]
            exact hs
        have := stC_ask (S := S) hb hf 16
        rw [if_pos hs16] at this
        unfold qM
        show 17 * cntB x.q 16 + _ < _
        omega
theorem q_run {S : TS} (hv : VS S) : ∀ k, (∀ j, j < k → qFm (qRun S j) ≠ 0) → qM S (qRun S k) + k ≤ qM S (qRun S 0)
  | 0, _ => Nat.le_refl _
  | k + 1, h => by
    have ih := q_run hv k (fun j hj => h j (by omega))
    have hB := QB.run hv k (fun j hj => h j (by omega))
    have hp := h k (by omega)
    obtain ⟨s, hs⟩ : ∃ s, qFm (qRun S k) = s + 1 := ⟨qFm (qRun S k) - 1, by omega⟩
    have h1 := fm_lt hv hB hs
    have h2 := q_dec (S := S) hs (by have := hv.n16; omega) h1.2
    have h3 : qRun S (k + 1) = qLook S (qRun S k) s := by rw [qRun, hs]; rfl
    rw [h3]
    omega
theorem q_alt (S : TS) : ∀ k, (∃ K, K ≤ k ∧ qFm (qRun S K) = 0 ∧ ∀ j, j < K → qFm (qRun S j) ≠ 0) ∨ ∀ j, j ≤ k → qFm (qRun S j) ≠ 0
  | 0 => by
    by_cases e : qFm (qRun S 0) = 0
    · exact Or.inl ⟨0, Nat.le_refl _, e, fun j hj => absurd hj (by omega)⟩
    · exact Or.inr (fun j hj => by rw [show j = 0 by omega]; exact e)
  | k + 1 => by
    rcases q_alt S k with ⟨K, h1, h2⟩ | h
    · exact Or.inl ⟨K, by omega, h2⟩
    · by_cases e : qFm (qRun S (k + 1)) = 0
      · exact Or.inl ⟨k + 1, Nat.le_refl _, e, fun j hj => h j (by omega)⟩
      · refine Or.inr (fun j hj => ?_)
        by_cases c : j = k + 1
        · rw [c]; exact e
        · exact h j (by omega)
theorem q_ex {S : TS} (hv : VS S) : ∃ K, QEnd S K := by
  rcases q_alt S 300 with ⟨K, h1, h2, h3⟩ | h
  · exact ⟨K, by omega, h2, h3⟩
  · exfalso
    have h1 := q_run hv 300 (fun j hj => h j (by omega))
    have h2 := cntB_le (qRun S 0).q 16
    have h3 := stC_le S (qRun S 0) 16
    unfold qM at h1
    omega
/-! what waits has gain -/
def QP (x : QS) : Prop := ∀ j, x.q.testBit j = true → 0 < x.g j
theorem adn_sub {a b j : Nat} (h : (adn a b).testBit j = true) : a.testBit j = true := by
  rw [adn_bit, Bool.and_eq_true] at h; exact h.1
theorem QP.init (S : TS) : ∀ i, QP (qInit S i) ∧ (qInit S i).q < 2 ^ i
  | 0 => ⟨fun j hj => absurd hj (by show ¬ Nat.testBit 0 j = true; rw [Nat.zero_testBit]; decide), by show 0 < 2 ^ 0; decide⟩
  | i + 1 => by
    obtain ⟨ih, ih2⟩ := QP.init S i
    have h1 : (2 : Nat) ^ i < 2 ^ (i + 1) := Nat.pow_lt_pow_right (by decide) (by omega)
    have e0 := qInit_set S i
    have key : ∀ j, (qInit S i).q.testBit j = true → 0 < updN (qInit S i).g i (gain S i (qInit S i).set) j := fun j hj => by
      have : j ≠ i := fun e => by
        have := Nat.testBit_lt_two_pow (Nat.lt_of_lt_of_le ih2 (two_le (Nat.le_refl i)))
        rw [e] at hj
        rw [hj] at this
        cases this
      rw [updN_n this]; exact ih j hj
    rw [qInit]
    split
    · rename_i hg
      refine ⟨fun j hj => ?_, or_lt (Nat.lt_trans ih2 h1) h1⟩
      show 0 < updN (qInit S i).g i (gain S i (qInit S i).set) j
      have hj : ((qInit S i).q ||| 2 ^ i).testBit j = true := hj
      rw [Nat.testBit_or, two_bit, Bool.or_eq_true] at hj
      rcases hj with hj | hj
      · exact key j hj
      · have := of_decide_eq_true hj
        subst this
        rw [updN_s, e0]; exact hg
    · exact ⟨key, Nat.lt_trans ih2 h1⟩
theorem QP.ask {S : TS} {x : QS} (h : QP x) {s : Nat} (hg : 0 < gain S s x.set) : QP (qAsk S x s) := by
  intro j hj
  show 0 < updN x.g s _ j
  by_cases e : j = s
  · subst e; rw [updN_s]; exact hg
  · rw [updN_n e]; exact h j hj
theorem QP.look {S : TS} {x : QS} (h : QP x) (s : Nat) : QP (qLook S x s) := by
  unfold qLook
  split
  · exact fun j hj => h j (adn_sub hj)
  · split
    · intro j hj
      show 0 < updN x.g s _ j
      have hj : (adn x.q (2 ^ s)).testBit j = true := hj
      have e : j ≠ s := fun e => by
        subst e
        rw [adn_bit, two_bit, decide_eq_true rfl] at hj
        simp at hj
      rw [updN_n e]; exact h j (adn_sub hj)
    · rename_i hg
      split
      · exact fun j hj => (h.ask (s := s) (S := S) (by omega)) j (adn_sub hj)
      · exact h.ask (by omega)
theorem QP.run (S : TS) : ∀ k, QP (qRun S k)
  | 0 => (QP.init S S.n).1
  | k + 1 => by rw [qRun]; exact (QP.run S k).look _
theorem fmUp_cut {q : Nat} {g c : Nat → Nat} {n : Nat} (h : q < 2 ^ n) : ∀ k, fmUp q g c (n + k) = fmUp q g c n
  | 0 => rfl
  | k + 1 => by
    have : q.testBit (n + k) = false := Nat.testBit_lt_two_pow (Nat.lt_of_lt_of_le h (two_le (by omega)))
    rw [← Nat.add_assoc, fmUp_f this, fmUp_cut h k]
theorem fmUp_nz {q : Nat} {g c : Nat → Nat} : ∀ i, ((fmUp q g c i).1 = 0 → (fmUp q g c i).2 = (0, 1)) ∧ ((fmUp q g c i).1 ≠ 0 → (fmUp q g c i).2 = (g ((fmUp q g c i).1 - 1), c ((fmUp q g c i).1 - 1)) ∧ (fmUp q g c i).1 - 1 < i ∧ q.testBit ((fmUp q g c i).1 - 1) = true)
  | 0 => ⟨fun _ => rfl, fun h => absurd rfl h⟩
  | i + 1 => by
    have ih := fmUp_nz (q := q) (g := g) (c := c) i
    rcases fmUp_or q g c i with ⟨hb, e⟩ | e
    · rw [e]
      exact ⟨fun z => absurd z (by show ¬ i + 1 = 0; omega), fun _ => ⟨rfl, by show i + 1 - 1 < i + 1; omega, hb⟩⟩
    · rw [e]
      exact ⟨ih.1, fun z => ⟨(ih.2 z).1, by have := (ih.2 z).2.1; omega, (ih.2 z).2.2⟩⟩
/-! the reference's queue -/
def Qr (μ : Mu) (m : Nat) (x : QS) : Prop := μ.1 96 21 = nI x.set ∧ μ.1 96 22 = nI x.ask ∧ ∀ j, j < m → μ.1 113 j = nI (x.q.testBit j).toNat ∧ μ.1 111 j = nI (x.g j) ∧ μ.1 112 j = nI (x.c j)
theorem ok_X9_first {G : Gx} {μ : Mu} (S : TS) (hR : Rw μ 99 S) (x : QS) (hq : Qr μ S.n x) (hb : QB S S.n x) (hP : QP x) : RunsP 2 M_X9_first [.ref (G.2.2 96)] G μ (.int (pv (qFm x))) := by
  have hvs := hR.vs
  have hn16 := hvs.n16
  have hu48 := hvs.u48
  have hT2 := hvs.tk
  have hp16 := pow16 hvs
  have hB9 := hvs.B9
  have hp48 := pow48 hvs
  have hLL := hvs.le
  refine Runs.go RX9 rfl (by decide) [(0, .ref (G.2.2 96))] (Nat.le_of_ble_eq_true rfl) rfl (fun X hF => ?_)
  refine V.iconst (pc := 0) (v := (-1)) dX9_first_0 (by decide) ?_
  refine V.istore_n (pc := 1) (lv' := [(0, .ref (G.2.2 96)), (1, .int (-1))]) dX9_first_1 (by decide) rfl ?_
  refine V.iconst (pc := 2) (v := nI 0) dX9_first_2 (by decide) ?_
  refine V.istore_n (pc := 3) (lv' := [(0, .ref (G.2.2 96)), (1, .int (-1)), (2, .int (nI 0))]) dX9_first_3 (by decide) rfl ?_
  have L4 : ∀ (n_ : Nat) (i : Nat), (i ≤ S.n) → S.n - i < n_ → V G RX9 cX9_first 3 2 X 4 [(0, .ref (G.2.2 96)), (1, .int (pv (fmUp x.q x.g x.c i).1)), (2, .int (nI i))] [] μ := by
    intro n_
    induction n_ with
    | zero => intro i hi hm_; exact absurd hm_ (Nat.not_lt_zero _)
    | succ n_ ih4 =>
      intro i hi hm_
      have hpl := fm_le x.q x.g x.c i
      refine V.iload_n (pc := 4) 2 dX9_first_4 rfl ?_
      refine V.aload_n (pc := 5) 0 dX9_first_5 rfl ?_
      refine cp_X9_133 (pc := 6) dX9_first_6 (ok_X9_many S hR) (by omega) (Nat.le_of_ble_eq_true rfl) ?_
      refine V.icmpN_ge (pc := 9) 65 dX9_first_9 (by decide) (by omega) (by omega) (fun h_9 => ?_) (fun h_9 => ?_)
      · refine V.iload_n (pc := 65) 1 dX9_first_65 rfl ?_
        exact V.iret (pc := 66) hF dX9_first_66 ⟨by rw [show i = S.n by omega, ← fmUp_cut hb.1 (16 - S.n), show S.n + (16 - S.n) = 16 by omega]; rfl, rfl⟩
      · refine V.aload_n (pc := 12) 0 dX9_first_12 rfl ?_
        refine gf_X9_41 (pc := 13) dX9_first_13 ?_
        refine V.iload_n (pc := 16) 2 dX9_first_16 rfl ?_
        refine V.zald (pc := 17) (k := 113) (n := 16) (v := nI (x.q.testBit i).toNat) (Nat.le_of_ble_eq_true rfl) (fun _ _ => rfl) i (by omega) (by decide) dX9_first_17 (hq.2.2 i h_9).1 ?_
        refine V.ifB_eq (pc := 18) 59 dX9_first_18 (by decide) (fun h_18 => ?_) (fun h_18 => ?_)
        · refine V.iinc (pc := 59) (v := nI (i + 1)) (lv' := [(0, .ref (G.2.2 96)), (1, .int (pv (fmUp x.q x.g x.c i).1)), (2, .int (nI (i + 1)))]) 2 dX9_first_59 rfl (nn_inc _) (by decide) rfl ?_
          refine V.goto (pc := 62) 4 dX9_first_62 (by decide) ?_
          have e_1 : pv (fmUp x.q x.g x.c i).1 = pv (fmUp x.q x.g x.c (i + 1)).1 := by rw [fmUp_f h_18]
          refine V.lvs (lv' := [(0, .ref (G.2.2 96)), (1, .int (pv (fmUp x.q x.g x.c (i + 1)).1)), (2, .int (nI (i + 1)))]) (congrArg (fun z => ([(0, .ref (G.2.2 96)), (1, .int z), (2, .int (nI (i + 1)))] : List (Nat × Value))) e_1) ?_
          exact ih4 (i + 1) (by omega) (by omega)
        · refine V.iload_n (pc := 21) 1 dX9_first_21 rfl ?_
          refine V.iconst (pc := 22) (v := (-1)) dX9_first_22 (by decide) ?_
          refine V.icmp_eq (pc := 23) 57 dX9_first_23 (by decide) (fun h_23 => ?_) (fun h_23 => ?_)
          · have hz : (fmUp x.q x.g x.c i).1 = 0 := (pv_ne (by omega)).mp h_23
            refine V.iload_n (pc := 57) 2 dX9_first_57 rfl ?_
            refine V.istore_n (pc := 58) (lv' := [(0, .ref (G.2.2 96)), (1, .int (nI i)), (2, .int (nI i))]) dX9_first_58 (by decide) rfl ?_
            refine V.iinc (pc := 59) (v := nI (i + 1)) (lv' := [(0, .ref (G.2.2 96)), (1, .int (nI i)), (2, .int (nI (i + 1)))]) 2 dX9_first_59 rfl (nn_inc _) (by decide) rfl ?_
            refine V.goto (pc := 62) 4 dX9_first_62 (by decide) ?_
            have e_1 : nI i = pv (fmUp x.q x.g x.c (i + 1)).1 := by rw [fmUp_t h_18 (by rw [(fmUp_nz i).1 hz, moreB]; exact decide_eq_true (by have := hP i h_18; omega))]; rfl
            refine V.lvs (lv' := [(0, .ref (G.2.2 96)), (1, .int (pv (fmUp x.q x.g x.c (i + 1)).1)), (2, .int (nI (i + 1)))]) (congrArg (fun z => ([(0, .ref (G.2.2 96)), (1, .int z), (2, .int (nI (i + 1)))] : List (Nat × Value))) e_1) ?_
            exact ih4 (i + 1) (by omega) (by omega)
          · have hz : (fmUp x.q x.g x.c i).1 ≠ 0 := fun z => h_23 ((pv_ne (by omega)).mpr z)
            have hzl := ((fmUp_nz (q := x.q) (g := x.g) (c := x.c) i).2 hz).2.1
            have hb1 := hb.2.2 i
            have hb2 := hb.2.2 ((fmUp x.q x.g x.c i).1 - 1)
            refine V.iconst (pc := 26) (v := nI 1) dX9_first_26 (by decide) ?_
            refine V.aload_n (pc := 27) 0 dX9_first_27 rfl ?_
            refine gf_X9_35 (pc := 28) dX9_first_28 ?_
            refine V.iload_n (pc := 31) 2 dX9_first_31 rfl ?_
            refine V.iald (pc := 32) (k := 111) (n := 16) (v := nI (x.g i)) (Nat.le_of_ble_eq_true rfl) (fun _ _ => rfl) i (by omega) (by decide) dX9_first_32 (hq.2.2 i h_9).2.1 ?_
            refine V.aload_n (pc := 33) 0 dX9_first_33 rfl ?_
            refine gf_X9_38 (pc := 34) dX9_first_34 ?_
            refine V.iload_n (pc := 37) 2 dX9_first_37 rfl ?_
            refine V.iald (pc := 38) (k := 112) (n := 16) (v := nI (x.c i)) (Nat.le_of_ble_eq_true rfl) (fun _ _ => rfl) i (by omega) (by decide) dX9_first_38 (hq.2.2 i h_9).2.2 ?_
            refine V.aload_n (pc := 39) 0 dX9_first_39 rfl ?_
            refine gf_X9_35 (pc := 40) dX9_first_40 ?_
            refine V.iload_n (pc := 43) 1 dX9_first_43 rfl ?_
            refine V.st (st' := [.int (nI ((fmUp x.q x.g x.c i).1 - 1)), .ref (G.2.2 111), .int (nI (x.c i)), .int (nI (x.g i)), .int (nI 1)]) (by rw [show pv (fmUp x.q x.g x.c i).1 = nI ((fmUp x.q x.g x.c i).1 - 1) from if_neg hz]) ?_
            refine V.iald (pc := 44) (k := 111) (n := 16) (v := nI (x.g ((fmUp x.q x.g x.c i).1 - 1))) (Nat.le_of_ble_eq_true rfl) (fun _ _ => rfl) ((fmUp x.q x.g x.c i).1 - 1) (by omega) (by decide) dX9_first_44 (hq.2.2 ((fmUp x.q x.g x.c i).1 - 1) (by omega)).2.1 ?_
            refine V.aload_n (pc := 45) 0 dX9_first_45 rfl ?_
            refine gf_X9_38 (pc := 46) dX9_first_46 ?_
            refine V.iload_n (pc := 49) 1 dX9_first_49 rfl ?_
            refine V.st (st' := [.int (nI ((fmUp x.q x.g x.c i).1 - 1)), .ref (G.2.2 112), .int (nI (x.g ((fmUp x.q x.g x.c i).1 - 1))), .int (nI (x.c i)), .int (nI (x.g i)), .int (nI 1)]) (by rw [show pv (fmUp x.q x.g x.c i).1 = nI ((fmUp x.q x.g x.c i).1 - 1) from if_neg hz]) ?_
            refine V.iald (pc := 50) (k := 112) (n := 16) (v := nI (x.c ((fmUp x.q x.g x.c i).1 - 1))) (Nat.le_of_ble_eq_true rfl) (fun _ _ => rfl) ((fmUp x.q x.g x.c i).1 - 1) (by omega) (by decide) dX9_first_50 (hq.2.2 ((fmUp x.q x.g x.c i).1 - 1) (by omega)).2.2 ?_
            refine cp_X9_205 (pc := 51) dX9_first_51 (ok_X9_isMore 1 (x.g i) (x.c i) (x.g ((fmUp x.q x.g x.c i).1 - 1)) (x.c ((fmUp x.q x.g x.c i).1 - 1)) (by decide) (by omega) (by omega) (by omega) (by omega)) (by omega) (Nat.le_of_ble_eq_true rfl) ?_
            refine V.ifB_eq (pc := 54) 59 dX9_first_54 (by decide) (fun h_54 => ?_) (fun h_54 => ?_)
            · refine V.iinc (pc := 59) (v := nI (i + 1)) (lv' := [(0, .ref (G.2.2 96)), (1, .int (pv (fmUp x.q x.g x.c i).1)), (2, .int (nI (i + 1)))]) 2 dX9_first_59 rfl (nn_inc _) (by decide) rfl ?_
              refine V.goto (pc := 62) 4 dX9_first_62 (by decide) ?_
              have e_1 : pv (fmUp x.q x.g x.c i).1 = pv (fmUp x.q x.g x.c (i + 1)).1 := by rw [fmUp_g (by rw [((fmUp_nz i).2 hz).1]; exact h_54)]
              refine V.lvs (lv' := [(0, .ref (G.2.2 96)), (1, .int (pv (fmUp x.q x.g x.c (i + 1)).1)), (2, .int (nI (i + 1)))]) (congrArg (fun z => ([(0, .ref (G.2.2 96)), (1, .int z), (2, .int (nI (i + 1)))] : List (Nat × Value))) e_1) ?_
              exact ih4 (i + 1) (by omega) (by omega)
            · refine V.iload_n (pc := 57) 2 dX9_first_57 rfl ?_
              refine V.istore_n (pc := 58) (lv' := [(0, .ref (G.2.2 96)), (1, .int (nI i)), (2, .int (nI i))]) dX9_first_58 (by decide) rfl ?_
              refine V.iinc (pc := 59) (v := nI (i + 1)) (lv' := [(0, .ref (G.2.2 96)), (1, .int (nI i)), (2, .int (nI (i + 1)))]) 2 dX9_first_59 rfl (nn_inc _) (by decide) rfl ?_
              refine V.goto (pc := 62) 4 dX9_first_62 (by decide) ?_
              have e_1 : nI i = pv (fmUp x.q x.g x.c (i + 1)).1 := by rw [fmUp_t h_18 (by rw [((fmUp_nz i).2 hz).1]; exact h_54)]; rfl
              refine V.lvs (lv' := [(0, .ref (G.2.2 96)), (1, .int (pv (fmUp x.q x.g x.c (i + 1)).1)), (2, .int (nI (i + 1)))]) (congrArg (fun z => ([(0, .ref (G.2.2 96)), (1, .int z), (2, .int (nI (i + 1)))] : List (Nat × Value))) e_1) ?_
              exact ih4 (i + 1) (by omega) (by omega)
  have e_1 : (-1) = pv (fmUp x.q x.g x.c 0).1 := rfl
  refine V.lvs (lv' := [(0, .ref (G.2.2 96)), (1, .int (pv (fmUp x.q x.g x.c 0).1)), (2, .int (nI 0))]) (congrArg (fun z => ([(0, .ref (G.2.2 96)), (1, .int z), (2, .int (nI 0))] : List (Nat × Value))) e_1) ?_
  exact L4 _ 0 (by omega) (Nat.lt_succ_self _)
def asMem (S : TS) (μ : Mu) (x : QS) (s : Nat) : Mu := si (si (si μ 111 s (nI (gain S s x.set))) 112 s (nI (cost S s x.set))) 96 22 (nI (x.ask + 1))
theorem Qr.ask {S : TS} {μ : Mu} {m : Nat} {x : QS} (h : Qr μ m x) {s : Nat} : Qr (asMem S μ x s) m (qAsk S x s) := by
  refine ⟨?_, ?_, fun j hj => ?_⟩
  · show _ = nI x.set
    simp [asMem, si, upd, h.1]
  · show _ = nI (x.ask + 1)
    simp [asMem, si, upd]
  · show _ = nI (x.q.testBit j).toNat ∧ _ = nI (updN x.g s _ j) ∧ _ = nI (updN x.c s _ j)
    have h3 := h.2.2 j hj
    by_cases e : j = s
    · subst e
      simp [asMem, si, upd, updN, h3.1]
    · simp [asMem, si, upd, updN, e, h3.1, h3.2.1, h3.2.2]
theorem Kp.ask {S : TS} {μ μ1 : Mu} (h : Kp μ μ1) (x : QS) (s : Nat) : Kp μ (asMem S μ1 x s) := ((h.arr _ _ (by decide)).arr _ _ (by decide)).fld _ (by decide)
theorem Qr.drop {μ : Mu} {m : Nat} {x : QS} (h : Qr μ m x) (s : Nat) : Qr (si μ 113 s (nI 0)) m (adn x.q (2 ^ s), x.2) := by
  refine ⟨?_, ?_, fun j hj => ?_⟩
  · show _ = nI x.set
    simp [si, upd, h.1]
  · show _ = nI x.ask
    simp [si, upd, h.2.1]
  · show _ = nI ((adn x.q (2 ^ s)).testBit j).toNat ∧ _ = nI (x.g j) ∧ _ = nI (x.c j)
    have h3 := h.2.2 j hj
    rw [adn_bit, two_bit]
    by_cases e : j = s
    · subst e
      simp [si, upd, h3.2.1, h3.2.2]
    · rw [decide_eq_false (show ¬ s = j from fun z => e z.symm)]
      simp [si, upd, e, h3.1, h3.2.1, h3.2.2]
theorem Qr.set {μ : Mu} {m : Nat} {x : QS} (h : Qr μ m x) (z : Nat) : Qr (si μ 96 21 (nI z)) m (x.1, z, x.2.2) := by
  refine ⟨?_, ?_, fun j hj => ?_⟩
  · show _ = nI z
    simp [si, upd]
  · show _ = nI x.ask
    simp [si, upd, h.2.1]
  · have h3 := h.2.2 j hj
    show _ = nI (x.q.testBit j).toNat ∧ _ = nI (x.g j) ∧ _ = nI (x.c j)
    simp [si, upd, h3.1, h3.2.1, h3.2.2]
theorem Qr.ini {S : TS} {μ : Mu} {i : Nat} (h : Qr μ i (qInit S i)) (v : Bool) (hv : v = decide (0 < gain S i 0)) : Qr (si (asMem S μ (qInit S i) i) 113 i (nI v.toNat)) (i + 1) (qInit S (i + 1)) := by
  have e0 := qInit_set S i
  have hq := (QP.init S i).2
  have key : ∀ j, j < i + 1 → (si (asMem S μ (qInit S i) i) 113 i (nI v.toNat)).1 111 j = nI (updN (qInit S i).g i (gain S i (qInit S i).set) j) ∧ (si (asMem S μ (qInit S i) i) 113 i (nI v.toNat)).1 112 j = nI (updN (qInit S i).c i (cost S i (qInit S i).set) j) := fun j hj => by
    by_cases e : j = i
    · subst e; simp [asMem, si, upd, updN]
    · have h3 := h.2.2 j (by omega)
      simp [asMem, si, upd, updN, e, h3.2.1, h3.2.2]
  have k1 : (si (asMem S μ (qInit S i) i) 113 i (nI v.toNat)).1 96 21 = nI (qInit S i).set := by simp [asMem, si, upd, h.1]
  have k2 : (si (asMem S μ (qInit S i) i) 113 i (nI v.toNat)).1 96 22 = nI ((qInit S i).ask + 1) := by simp [asMem, si, upd]
  have k3 : ∀ j, j < i → (si (asMem S μ (qInit S i) i) 113 i (nI v.toNat)).1 113 j = nI ((qInit S i).q.testBit j).toNat := fun j hj => by
    have h3 := h.2.2 j hj
    have : j ≠ i := by omega
    simp [asMem, si, upd, this, h3.1]
  have k4 : (si (asMem S μ (qInit S i) i) 113 i (nI v.toNat)).1 113 i = nI v.toNat := si_s _ _ _ _
  have hbi : (qInit S i).q.testBit i = false := Nat.testBit_lt_two_pow hq
  rw [qInit]
  split
  · rename_i hg
    refine ⟨k1, k2, fun j hj => ⟨?_, key j hj⟩⟩
    show _ = nI (((qInit S i).q ||| 2 ^ i).testBit j).toNat
    rw [Nat.testBit_or, two_bit]
    by_cases e : j = i
    · subst e; rw [k4, hv, decide_eq_true hg]; simp
    · rw [k3 j (by omega), decide_eq_false (fun z => e z.symm), Bool.or_false]
  · rename_i hg
    refine ⟨k1, k2, fun j hj => ⟨?_, key j hj⟩⟩
    show _ = nI ((qInit S i).q.testBit j).toNat
    by_cases e : j = i
    · subst e; rw [k4, hv, decide_eq_false hg, hbi]
    · exact k3 j (by omega)
theorem ok_X9_asks {G : Gx} {μ : Mu} (S : TS) (hR : Rw μ 99 S) (x : QS) (s : Nat) (hs : s < S.n) (h1 : μ.1 96 21 = nI x.set) (h2 : μ.1 96 22 = nI x.ask) (hxs : x.set < 65536) : Runs 6 M_X9_asks [.ref (G.2.2 96), .int (nI s)] G μ (fun r μ' => r = none ∧ μ' = asMem S μ x s) := by
  have hvs := hR.vs
  have hn16 := hvs.n16
  have hu48 := hvs.u48
  have hT2 := hvs.tk
  have hp16 := pow16 hvs
  have hB9 := hvs.B9
  have hp48 := pow48 hvs
  have hLL := hvs.le
  refine Runs.go RX9 rfl (by decide) [(0, .ref (G.2.2 96)), (1, .int (nI s))] (Nat.le_of_ble_eq_true rfl) rfl (fun X hF => ?_)
  refine V.aload_n (pc := 0) 0 dX9_asks_0 rfl ?_
  refine gf_X9_35 (pc := 1) dX9_asks_1 ?_
  refine V.iload_n (pc := 4) 1 dX9_asks_4 rfl ?_
  refine V.aload_n (pc := 5) 0 dX9_asks_5 rfl ?_
  refine V.aload_n (pc := 6) 0 dX9_asks_6 rfl ?_
  refine gf_X9_227 (pc := 7) (v := nI x.set) dX9_asks_7 h1 ?_
  refine V.iload_n (pc := 10) 1 dX9_asks_10 rfl ?_
  refine cp_X9_193 (pc := 11) dX9_asks_11 (ok_X9_gain S hR x.set s hs hxs) (by omega) (Nat.le_of_ble_eq_true rfl) ?_
  refine V.iast (pc := 14) (k := 111) (n := 16) (v := nI (gain S s x.set)) (Nat.le_of_ble_eq_true rfl) (fun _ _ => rfl) s (by omega) (by decide) dX9_asks_14 rfl ?_
  refine V.aload_n (pc := 15) 0 dX9_asks_15 rfl ?_
  refine gf_X9_38 (pc := 16) dX9_asks_16 ?_
  refine V.iload_n (pc := 19) 1 dX9_asks_19 rfl ?_
  refine V.aload_n (pc := 20) 0 dX9_asks_20 rfl ?_
  refine V.aload_n (pc := 21) 0 dX9_asks_21 rfl ?_
  refine gf_X9_227 (pc := 22) (v := nI x.set) dX9_asks_22 (Eq.trans (congrFun (si_c _ _ _ (by decide)) _) h1) ?_
  refine V.iload_n (pc := 25) 1 dX9_asks_25 rfl ?_
  refine cp_X9_169 (pc := 26) dX9_asks_26 (ok_X9_cost S hR.sx x.set s hs hxs) (by omega) (Nat.le_of_ble_eq_true rfl) ?_
  refine V.iast (pc := 29) (k := 112) (n := 16) (v := nI (cost S s x.set)) (Nat.le_of_ble_eq_true rfl) (fun _ _ => rfl) s (by omega) (by decide) dX9_asks_29 rfl ?_
  refine V.aload_n (pc := 30) 0 dX9_asks_30 rfl ?_
  refine V.dup (pc := 31) dX9_asks_31 rfl ?_
  refine gf_X9_230 (pc := 32) (v := nI x.ask) dX9_asks_32 (Eq.trans (congrFun (si_c _ _ _ (by decide)) _) (Eq.trans (congrFun (si_c _ _ _ (by decide)) _) h2)) ?_
  refine V.iconst (pc := 35) (v := nI 1) dX9_asks_35 (by decide) ?_
  refine V.iadd (pc := 36) (v := nI (x.ask + 1)) dX9_asks_36 (nI_add _ _) ?_
  refine pf_X9_230 (pc := 37) dX9_asks_37 ?_
  exact V.vret (pc := 40) hF dX9_asks_40 ⟨rfl, rfl⟩
theorem lk1 {S : TS} {x : QS} {s : Nat} (h : fitsB S s x.set = false) : qLook S x s = (adn x.q (2 ^ s), x.2) := if_pos h
theorem lk2 {S : TS} {x : QS} {s : Nat} (h : fitsB S s x.set = true) (h2 : gain S s x.set = 0) : qLook S x s = (adn x.q (2 ^ s), (qAsk S x s).2) := (if_neg (by rw [h]; decide)).trans (if_pos h2)
theorem lk3 {S : TS} {x : QS} {s : Nat} (h : fitsB S s x.set = true) (h2 : ¬ gain S s x.set = 0) (h3 : qFm (qAsk S x s) = s + 1) : qLook S x s = (adn x.q (2 ^ s), x.set ||| chain S s, (qAsk S x s).2.2) := (if_neg (by rw [h]; decide)).trans ((if_neg h2).trans (if_pos h3))
theorem lk4 {S : TS} {x : QS} {s : Nat} (h : fitsB S s x.set = true) (h2 : ¬ gain S s x.set = 0) (h3 : ¬ qFm (qAsk S x s) = s + 1) : qLook S x s = qAsk S x s := (if_neg (by rw [h]; decide)).trans ((if_neg h2).trans (if_neg h3))
theorem nar_b (v : Bool) : vp_nar .boolean (nI v.toNat) = nI v.toNat := by cases v <;> decide
theorem q_k {S : TS} {K k : Nat} (hK : QEnd S K) (hk : k ≤ K) (h : qFm (qRun S k) = 0) : k = K := by
  rcases Nat.lt_or_ge k K with e | e
  · exact absurd h (hK.2.2 k e)
  · omega
theorem q_lt {S : TS} {K k : Nat} (hK : QEnd S K) (hk : k ≤ K) (h : qFm (qRun S k) ≠ 0) : k < K := by
  rcases Nat.lt_or_ge k K with e | e
  · exact e
  · have : k = K := by omega
    subst this; exact absurd hK.2.1 h
theorem ok_X9_laysLazy {G : Gx} {μ : Mu} (S : TS) (hR : Rw μ 99 S) (K : Nat) (hK : QEnd S K) : Runs 7 M_X9_laysLazy [.ref (G.2.2 96)] G μ (fun r μ' => r = none ∧ Kp μ μ' ∧ μ'.1 96 21 = nI (qRun S K).set ∧ μ'.1 96 22 = nI (qRun S K).ask) := by
  have hvs := hR.vs
  have hn16 := hvs.n16
  have hu48 := hvs.u48
  have hT2 := hvs.tk
  have hp16 := pow16 hvs
  have hB9 := hvs.B9
  have hp48 := pow48 hvs
  have hLL := hvs.le
  refine Runs.go RX9 rfl (by decide) [(0, .ref (G.2.2 96))] (Nat.le_of_ble_eq_true rfl) rfl (fun X hF => ?_)
  refine V.aload_n (pc := 0) 0 dX9_laysLazy_0 rfl ?_
  refine V.iconst (pc := 1) (v := nI 0) dX9_laysLazy_1 (by decide) ?_
  refine pf_X9_227 (pc := 2) dX9_laysLazy_2 ?_
  refine V.aload_n (pc := 5) 0 dX9_laysLazy_5 rfl ?_
  refine V.iconst (pc := 6) (v := nI 0) dX9_laysLazy_6 (by decide) ?_
  refine pf_X9_230 (pc := 7) dX9_laysLazy_7 ?_
  refine V.iconst (pc := 10) (v := nI 0) dX9_laysLazy_10 (by decide) ?_
  refine V.istore_n (pc := 11) (lv' := [(0, .ref (G.2.2 96)), (1, .int (nI 0))]) dX9_laysLazy_11 (by decide) rfl ?_
  have L12 : ∀ (n_ : Nat) (i : Nat) ( μ1 : Mu), (i ≤ S.n) → (Kp μ μ1) → (Qr μ1 i (qInit S i)) → S.n - i < n_ → V G RX9 cX9_laysLazy 2 7 X 12 [(0, .ref (G.2.2 96)), (1, .int (nI i))] [] μ1 := by
    intro n_
    induction n_ with
    | zero => intro i μ1 hi hkp1 hq1 hm_; exact absurd hm_ (Nat.not_lt_zero _)
    | succ n_ ih12 =>
      intro i μ1 hi hkp1 hq1 hm_
      have hR1 := hkp1.rw hR
      refine V.iload_n (pc := 12) 1 dX9_laysLazy_12 rfl ?_
      refine V.aload_n (pc := 13) 0 dX9_laysLazy_13 rfl ?_
      refine cp_X9_133 (pc := 14) dX9_laysLazy_14 (ok_X9_many S hR1) (by omega) (Nat.le_of_ble_eq_true rfl) ?_
      refine V.icmpN_ge (pc := 17) 51 dX9_laysLazy_17 (by decide) (by omega) (by omega) (fun h_17 => ?_) (fun h_17 => ?_)
      · have hin : i = S.n := by omega
        subst hin
        have hqz : Qr μ1 S.n (qRun S 0) := hq1
        refine V.aload_n (pc := 51) 0 dX9_laysLazy_51 rfl ?_
        refine cp_X9_236 (pc := 52) dX9_laysLazy_52 (ok_X9_first S hR1 (qRun S 0) hqz (QB.run hvs 0 (fun j hj => absurd hj (by omega))) (QP.run S 0)) (by omega) (Nat.le_of_ble_eq_true rfl) ?_
        refine V.istore_n (pc := 55) (lv' := [(0, .ref (G.2.2 96)), (1, .int (pv (qFm (qRun S 0))))]) dX9_laysLazy_55 (by decide) rfl ?_
        have L56 : ∀ (n_ : Nat) (k : Nat) ( μ1 : Mu), (k ≤ K) → (Kp μ μ1) → (Qr μ1 S.n (qRun S k)) → K - k < n_ → V G RX9 cX9_laysLazy 2 7 X 56 [(0, .ref (G.2.2 96)), (1, .int (pv (qFm (qRun S k))))] [] μ1 := by
          intro n_
          induction n_ with
          | zero => intro k μ1 hkK0 hkp1 hq1 hm_; exact absurd hm_ (Nat.not_lt_zero _)
          | succ n_ ih56 =>
            intro k μ1 hkK0 hkp1 hq1 hm_
            have hR1 := hkp1.rw hR
            have hfl : qFm (qRun S k) ≤ 16 := fm_le _ _ _ 16
            refine V.iload_n (pc := 56) 1 dX9_laysLazy_56 rfl ?_
            refine V.iconst (pc := 57) (v := (-1)) dX9_laysLazy_57 (by decide) ?_
            refine V.icmp_eq (pc := 58) 144 dX9_laysLazy_58 (by decide) (fun h_58 => ?_) (fun h_58 => ?_)
            · have hkE : k = K := q_k hK hkK0 ((pv_ne (by omega)).mp h_58)
              subst hkE
              exact V.vret (pc := 144) hF dX9_laysLazy_144 ⟨rfl, hkp1, hq1.1, hq1.2.1⟩
            · have hpz : qFm (qRun S k) ≠ 0 := fun z => h_58 ((pv_ne (by omega)).mpr z)
              obtain ⟨s, hs⟩ : ∃ s, qFm (qRun S k) = s + 1 := ⟨qFm (qRun S k) - 1, by omega⟩
              have hs0 := hs
              have hkK2 := q_lt hK hkK0 hpz
              obtain ⟨x, hx⟩ : ∃ x, x = qRun S k := ⟨_, rfl⟩
              have hrun : qRun S (k + 1) = qLook S x s := by rw [qRun, hs, hx]; rfl
              have hnz : ∀ j, j ≤ k → qFm (qRun S j) ≠ 0 := fun j hj => hK.2.2 j (by omega)
              have hxb := QB.run hvs k (fun j hj => hnz j (by omega))
              have hxp := QP.run S k
              have hsn := (fm_lt hvs hxb hs).1
              rw [← hx] at hq1 hxb hxp hs
              have hxs := hxb.2.1
              · refine V.lvs (lv' := [(0, .ref (G.2.2 96)), (1, .int (nI s))]) (by rw [hs0, pv_s]) ?_
                refine V.aload_n (pc := 61) 0 dX9_laysLazy_61 rfl ?_
                refine V.aload_n (pc := 62) 0 dX9_laysLazy_62 rfl ?_
                refine gf_X9_227 (pc := 63) (v := nI x.set) dX9_laysLazy_63 hq1.1 ?_
                refine V.iload_n (pc := 66) 1 dX9_laysLazy_66 rfl ?_
                refine cp_X9_189 (pc := 67) dX9_laysLazy_67 (ok_X9_fits S hR1 x.set s hsn (by omega)) (by omega) (Nat.le_of_ble_eq_true rfl) ?_
                refine V.ifB_ne (pc := 70) 83 dX9_laysLazy_70 (by decide) (fun h_70 => ?_) (fun h_70 => ?_)
                · refine V.aload_n (pc := 83) 0 dX9_laysLazy_83 rfl ?_
                  refine V.iload_n (pc := 84) 1 dX9_laysLazy_84 rfl ?_
                  refine cl_X9_233 (pc := 85) dX9_laysLazy_85 (ok_X9_asks S hR1 x s hsn hq1.1 hq1.2.1 (by omega)) (by omega) (Nat.le_of_ble_eq_true rfl) (fun r_ μ_ h_ => ?_)
                  obtain ⟨rfl, rfl⟩ := h_
                  have hgb := gain_le hvs s x.set
                  have hRa : Rw (asMem S μ1 x s) 99 S := (Kp.ask (S := S) hkp1 x s).rw hR
                  refine V.aload_n (pc := 88) 0 dX9_laysLazy_88 rfl ?_
                  refine gf_X9_35 (pc := 89) dX9_laysLazy_89 ?_
                  refine V.iload_n (pc := 92) 1 dX9_laysLazy_92 rfl ?_
                  refine V.iald (pc := 93) (k := 111) (n := 16) (v := nI (gain S s x.set)) (Nat.le_of_ble_eq_true rfl) (fun _ _ => rfl) s (by omega) (by decide) dX9_laysLazy_93 (by simp [asMem, si, upd]) ?_
                  refine V.ifN_ne (pc := 94) 107 dX9_laysLazy_94 (by decide) (by omega) (fun h_94 => ?_) (fun h_94 => ?_)
                  · refine V.aload_n (pc := 107) 0 dX9_laysLazy_107 rfl ?_
                    have hfa := fm_le (qAsk S x s).q (qAsk S x s).g (qAsk S x s).c 16
                    have hfa2 : qFm (qAsk S x s) ≤ 16 := hfa
                    refine cp_X9_236 (pc := 108) dX9_laysLazy_108 (ok_X9_first S hRa (qAsk S x s) (hq1.ask) (hxb.ask hvs s) (hxp.ask (by omega))) (by omega) (Nat.le_of_ble_eq_true rfl) ?_
                    refine V.iload_n (pc := 111) 1 dX9_laysLazy_111 rfl ?_
                    refine V.icmp_ne (pc := 112) 136 dX9_laysLazy_112 (by decide) (fun h_112 => ?_) (fun h_112 => ?_)
                    · obtain ⟨μ2, hm2⟩ : ∃ m, m = asMem S μ1 x s := ⟨_, rfl⟩
                      rw [← hm2]
                      have hlk : qLook S x s = _ := lk4 h_70 (by omega) (fun z => h_112 ((pv_eq (by omega) (by omega)).mpr z))
                      have hkp2 : Kp μ μ2 := by rw [hm2]; exact hkp1.ask _ _
                      have hq2 : Qr μ2 S.n (qRun S (k + 1)) := by rw [hrun, hlk, hm2]; exact hq1.ask (S := S) (s := s)
                      have hR2 := hkp2.rw hR
                      clear hm2
                      · refine V.aload_n (pc := 136) 0 dX9_laysLazy_136 rfl ?_
                        refine cp_X9_236 (pc := 137) dX9_laysLazy_137 (ok_X9_first S hR2 (qRun S (k + 1)) hq2 (QB.run hvs (k + 1) (fun j hj => hnz j (by omega))) (QP.run S (k + 1))) (by omega) (Nat.le_of_ble_eq_true rfl) ?_
                        refine V.istore_n (pc := 140) (lv' := [(0, .ref (G.2.2 96)), (1, .int (pv (qFm (qRun S (k + 1)))))]) dX9_laysLazy_140 (by decide) rfl ?_
                        refine V.goto (pc := 141) 56 dX9_laysLazy_141 (by decide) ?_
                        exact ih56 (k + 1) μ2 (by omega) hkp2 hq2 (by omega)
                    · refine V.aload_n (pc := 115) 0 dX9_laysLazy_115 rfl ?_
                      refine gf_X9_41 (pc := 116) dX9_laysLazy_116 ?_
                      refine V.iload_n (pc := 119) 1 dX9_laysLazy_119 rfl ?_
                      refine V.iconst (pc := 120) (v := nI 0) dX9_laysLazy_120 (by decide) ?_
                      refine V.zast (pc := 121) (k := 113) (n := 16) (v := nI 0) (Nat.le_of_ble_eq_true rfl) (fun _ _ => rfl) s (by omega) (by decide) dX9_laysLazy_121 (by decide) ?_
                      refine V.aload_n (pc := 122) 0 dX9_laysLazy_122 rfl ?_
                      refine V.dup (pc := 123) dX9_laysLazy_123 rfl ?_
                      refine gf_X9_227 (pc := 124) (v := nI x.set) dX9_laysLazy_124 (by simp [asMem, si, upd]; exact hq1.1) ?_
                      refine V.aload_n (pc := 127) 0 dX9_laysLazy_127 rfl ?_
                      refine V.iload_n (pc := 128) 1 dX9_laysLazy_128 rfl ?_
                      refine cp_X9_163 (pc := 129) dX9_laysLazy_129 (ok_X9_chain S hRa.sx s hsn) (by omega) (Nat.le_of_ble_eq_true rfl) ?_
                      refine V.ior (pc := 132) (v := nI (x.set ||| (chain S s))) dX9_laysLazy_132 (nn_or _ _) ?_
                      refine pf_X9_227 (pc := 133) dX9_laysLazy_133 ?_
                      obtain ⟨μ2, hm2⟩ : ∃ m, m = si (si (asMem S μ1 x s) 113 s (nI 0)) 96 21 (nI (x.set ||| (chain S s))) := ⟨_, rfl⟩
                      rw [← hm2]
                      have hlk : qLook S x s = _ := lk3 h_70 (by omega) ((pv_eq (by omega) (by omega)).mp h_112)
                      have hkp2 : Kp μ μ2 := by rw [hm2]; exact ((hkp1.ask _ _).arr _ _ (by decide)).fld _ (by decide)
                      have hq2 : Qr μ2 S.n (qRun S (k + 1)) := by rw [hrun, hlk, hm2]; exact ((hq1.ask (S := S) (s := s)).drop s).set (x.set ||| chain S s)
                      have hR2 := hkp2.rw hR
                      clear hm2
                      · refine V.aload_n (pc := 136) 0 dX9_laysLazy_136 rfl ?_
                        refine cp_X9_236 (pc := 137) dX9_laysLazy_137 (ok_X9_first S hR2 (qRun S (k + 1)) hq2 (QB.run hvs (k + 1) (fun j hj => hnz j (by omega))) (QP.run S (k + 1))) (by omega) (Nat.le_of_ble_eq_true rfl) ?_
                        refine V.istore_n (pc := 140) (lv' := [(0, .ref (G.2.2 96)), (1, .int (pv (qFm (qRun S (k + 1)))))]) dX9_laysLazy_140 (by decide) rfl ?_
                        refine V.goto (pc := 141) 56 dX9_laysLazy_141 (by decide) ?_
                        exact ih56 (k + 1) μ2 (by omega) hkp2 hq2 (by omega)
                  · refine V.aload_n (pc := 97) 0 dX9_laysLazy_97 rfl ?_
                    refine gf_X9_41 (pc := 98) dX9_laysLazy_98 ?_
                    refine V.iload_n (pc := 101) 1 dX9_laysLazy_101 rfl ?_
                    refine V.iconst (pc := 102) (v := nI 0) dX9_laysLazy_102 (by decide) ?_
                    refine V.zast (pc := 103) (k := 113) (n := 16) (v := nI 0) (Nat.le_of_ble_eq_true rfl) (fun _ _ => rfl) s (by omega) (by decide) dX9_laysLazy_103 (by decide) ?_
                    refine V.goto (pc := 104) 136 dX9_laysLazy_104 (by decide) ?_
                    obtain ⟨μ2, hm2⟩ : ∃ m, m = si (asMem S μ1 x s) 113 s (nI 0) := ⟨_, rfl⟩
                    rw [← hm2]
                    have hlk : qLook S x s = _ := lk2 h_70 h_94
                    have hkp2 : Kp μ μ2 := by rw [hm2]; exact (hkp1.ask _ _).arr _ _ (by decide)
                    have hq2 : Qr μ2 S.n (qRun S (k + 1)) := by rw [hrun, hlk, hm2]; exact (hq1.ask (S := S) (s := s)).drop s
                    have hR2 := hkp2.rw hR
                    clear hm2
                    · refine V.aload_n (pc := 136) 0 dX9_laysLazy_136 rfl ?_
                      refine cp_X9_236 (pc := 137) dX9_laysLazy_137 (ok_X9_first S hR2 (qRun S (k + 1)) hq2 (QB.run hvs (k + 1) (fun j hj => hnz j (by omega))) (QP.run S (k + 1))) (by omega) (Nat.le_of_ble_eq_true rfl) ?_
                      refine V.istore_n (pc := 140) (lv' := [(0, .ref (G.2.2 96)), (1, .int (pv (qFm (qRun S (k + 1)))))]) dX9_laysLazy_140 (by decide) rfl ?_
                      refine V.goto (pc := 141) 56 dX9_laysLazy_141 (by decide) ?_
                      exact ih56 (k + 1) μ2 (by omega) hkp2 hq2 (by omega)
                · refine V.aload_n (pc := 73) 0 dX9_laysLazy_73 rfl ?_
                  refine gf_X9_41 (pc := 74) dX9_laysLazy_74 ?_
                  refine V.iload_n (pc := 77) 1 dX9_laysLazy_77 rfl ?_
                  refine V.iconst (pc := 78) (v := nI 0) dX9_laysLazy_78 (by decide) ?_
                  refine V.zast (pc := 79) (k := 113) (n := 16) (v := nI 0) (Nat.le_of_ble_eq_true rfl) (fun _ _ => rfl) s (by omega) (by decide) dX9_laysLazy_79 (by decide) ?_
                  refine V.goto (pc := 80) 136 dX9_laysLazy_80 (by decide) ?_
                  obtain ⟨μ2, hm2⟩ : ∃ m, m = si μ1 113 s (nI 0) := ⟨_, rfl⟩
                  rw [← hm2]
                  have hlk : qLook S x s = _ := lk1 h_70
                  have hkp2 : Kp μ μ2 := by rw [hm2]; exact hkp1.arr _ _ (by decide)
                  have hq2 : Qr μ2 S.n (qRun S (k + 1)) := by rw [hrun, hlk, hm2]; exact hq1.drop s
                  have hR2 := hkp2.rw hR
                  clear hm2
                  · refine V.aload_n (pc := 136) 0 dX9_laysLazy_136 rfl ?_
                    refine cp_X9_236 (pc := 137) dX9_laysLazy_137 (ok_X9_first S hR2 (qRun S (k + 1)) hq2 (QB.run hvs (k + 1) (fun j hj => hnz j (by omega))) (QP.run S (k + 1))) (by omega) (Nat.le_of_ble_eq_true rfl) ?_
                    refine V.istore_n (pc := 140) (lv' := [(0, .ref (G.2.2 96)), (1, .int (pv (qFm (qRun S (k + 1)))))]) dX9_laysLazy_140 (by decide) rfl ?_
                    refine V.goto (pc := 141) 56 dX9_laysLazy_141 (by decide) ?_
                    exact ih56 (k + 1) μ2 (by omega) hkp2 hq2 (by omega)
        exact L56 _ 0 μ1 (by omega) hkp1 hqz (Nat.lt_succ_self _)
      · refine V.aload_n (pc := 20) 0 dX9_laysLazy_20 rfl ?_
        refine V.iload_n (pc := 21) 1 dX9_laysLazy_21 rfl ?_
        refine cl_X9_233 (pc := 22) dX9_laysLazy_22 (ok_X9_asks S hR1 (qInit S i) i (by omega) hq1.1 hq1.2.1 (by rw [qInit_set]; decide)) (by omega) (Nat.le_of_ble_eq_true rfl) (fun r_ μ_ h_ => ?_)
        obtain ⟨rfl, rfl⟩ := h_
        have hgb := gain_le hvs i (qInit S i).set
        refine V.aload_n (pc := 25) 0 dX9_laysLazy_25 rfl ?_
        refine gf_X9_41 (pc := 26) dX9_laysLazy_26 ?_
        refine V.iload_n (pc := 29) 1 dX9_laysLazy_29 rfl ?_
        refine V.aload_n (pc := 30) 0 dX9_laysLazy_30 rfl ?_
        refine gf_X9_35 (pc := 31) dX9_laysLazy_31 ?_
        refine V.iload_n (pc := 34) 1 dX9_laysLazy_34 rfl ?_
        refine V.iald (pc := 35) (k := 111) (n := 16) (v := nI (gain S i (qInit S i).set)) (Nat.le_of_ble_eq_true rfl) (fun _ _ => rfl) i (by omega) (by decide) dX9_laysLazy_35 (by simp [asMem, si, upd]) ?_
        refine V.ifN_le (pc := 36) 43 dX9_laysLazy_36 (by decide) (by omega) (fun h_36 => ?_) (fun h_36 => ?_)
        · refine V.iconst (pc := 43) (v := nI 0) dX9_laysLazy_43 (by decide) ?_
          refine V.zast (pc := 44) (k := 113) (n := 16) (v := nI (decide (0 < gain S i 0)).toNat) (Nat.le_of_ble_eq_true rfl) (fun _ _ => rfl) i (by omega) (by decide) dX9_laysLazy_44 (by rw [show decide (0 < gain S i 0) = false from decide_eq_false (by have := h_36; rw [qInit_set] at this; omega)]; decide) ?_
          refine V.iinc (pc := 45) (v := nI (i + 1)) (lv' := [(0, .ref (G.2.2 96)), (1, .int (nI (i + 1)))]) 1 dX9_laysLazy_45 rfl (nn_inc _) (by decide) rfl ?_
          refine V.goto (pc := 48) 12 dX9_laysLazy_48 (by decide) ?_
          exact ih12 (i + 1) (si (asMem S μ1 (qInit S i) i) 113 i (nI (decide (0 < gain S i 0)).toNat)) (by omega) ((hkp1.ask _ _).arr _ _ (by decide)) (hq1.ini _ rfl) (by omega)
        · refine V.iconst (pc := 39) (v := nI 1) dX9_laysLazy_39 (by decide) ?_
          refine V.goto (pc := 40) 44 dX9_laysLazy_40 (by decide) ?_
          refine V.zast (pc := 44) (k := 113) (n := 16) (v := nI (decide (0 < gain S i 0)).toNat) (Nat.le_of_ble_eq_true rfl) (fun _ _ => rfl) i (by omega) (by decide) dX9_laysLazy_44 (by rw [show decide (0 < gain S i 0) = true from decide_eq_true (by have := h_36; rw [qInit_set] at this; omega)]; decide) ?_
          refine V.iinc (pc := 45) (v := nI (i + 1)) (lv' := [(0, .ref (G.2.2 96)), (1, .int (nI (i + 1)))]) 1 dX9_laysLazy_45 rfl (nn_inc _) (by decide) rfl ?_
          refine V.goto (pc := 48) 12 dX9_laysLazy_48 (by decide) ?_
          exact ih12 (i + 1) (si (asMem S μ1 (qInit S i) i) 113 i (nI (decide (0 < gain S i 0)).toNat)) (by omega) ((hkp1.ask _ _).arr _ _ (by decide)) (hq1.ini _ rfl) (by omega)
  exact L12 _ 0 (si (si μ 96 21 (nI 0)) 96 22 (nI 0)) (by omega) (((Kp.refl μ).fld _ (by decide)).fld _ (by decide)) (⟨by simp [si, upd]; rfl, by simp [si, upd]; rfl, fun j hj => absurd hj (by omega)⟩) (Nat.lt_succ_self _)
