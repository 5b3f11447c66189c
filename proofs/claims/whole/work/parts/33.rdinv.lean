/-! the machine keeps what it must -/
theorem stUp_cong {D D' : TS} {w : Nat} : ∀ {m}, (∀ s, s < m → D'.bag s = D.bag s) → stUp D' w m = stUp D w m
  | 0, _ => rfl
  | m + 1, h => by rw [stUp, stUp, stUp_cong (fun s hs => h s (by omega)), h m (by omega)]
theorem stUp_zero {D : TS} {w : Nat} : ∀ {m}, (∀ s, s < m → (D.bag s).testBit w = false) → stUp D w m = 0
  | 0, _ => rfl
  | m + 1, h => by rw [stUp, stUp_zero (fun s hs => h s (by omega)), h m (by omega)]; rfl
theorem opn_st {D : TS} {wo w : Nat} : stUp D w (D.n + (if 0 < wo then 1 else 0)) = stUp D w D.n + ((bag0 D wo).testBit w).toNat := by
  unfold bag0
  by_cases h : wo = 0
  · subst h
    rw [if_neg (by omega), if_pos rfl, Nat.zero_testBit]; rfl
  · rw [if_pos (by omega), if_neg h]; rfl
theorem updN_s (f : Nat → Nat) (s v : Nat) : updN f s v s = v := if_pos rfl
theorem updN_n {f : Nat → Nat} {s v j : Nat} (h : j ≠ s) : updN f s v j = f j := if_neg h
theorem RV.put {bs : Nat → Nat} {D : TS} {wo k st ft pl w : Nat} (h : RV bs (D, wo, k, st, ft, pl)) (hn : D.n < 16) (hwo : wo < 30) (hk1 : 1 ≤ k) (hk2 : k ≤ 10) (hw : w < D.u) : RV bs (putW D wo k w, wo + 1, k, st, ft, pl) := by
  obtain ⟨h1, h2, h3, h4, h5, h6, h7, h8, h9, h10⟩ := h
  have e1 : opn (putW D wo k w, wo + 1, k, st, ft, pl) = D.n + 1 := by
    show D.n + (if 0 < wo + 1 then 1 else 0) = _
    rw [if_pos (by omega)]
  have hb0 : bag0 D wo < 2 ^ D.u := by
    unfold bag0
    by_cases e : wo = 0
    · rw [if_pos e]; exact Nat.two_pow_pos _
    · rw [if_neg e]
      exact (h7 D.n (by show D.n < D.n + (if 0 < wo then 1 else 0); rw [if_pos (by omega)]; omega)).2.2.2.2.2
  refine ⟨h1, h2, hwo, fun _ => hn, h5, h6, ?_, fun _ => updN_s _ _ _, ?_, h10⟩
  · rw [e1]
    intro s hs
    show 2 ≤ updN D.len D.n _ s ∧ updN D.len D.n _ s ≤ 11 * updN D.cnt D.n _ s ∧ 1 ≤ updN D.cnt D.n _ s ∧ updN D.cnt D.n _ s ≤ 30 ∧ (if wo = 0 then updN D.fst D.n w else D.fst) s < D.u ∧ updN D.bag D.n _ s < 2 ^ D.u
    by_cases e : s = D.n
    · subst e
      rw [updN_s, updN_s, updN_s]
      have hp : (2 : Nat) ^ w < 2 ^ D.u := Nat.pow_lt_pow_right (by decide) hw
      by_cases e : wo = 0
      · rw [if_pos e, updN_s]
        unfold len0
        rw [if_pos e]
        exact ⟨by omega, by omega, by omega, by omega, hw, or_lt hb0 hp⟩
      · have hs := h7 D.n (by show D.n < D.n + (if 0 < wo then 1 else 0); rw [if_pos (by omega)]; omega)
        have hc : D.cnt D.n = wo := h8 (by show 0 < wo; omega)
        have hs1 : 2 ≤ D.len D.n := hs.1
        have hs2 : D.len D.n ≤ 11 * D.cnt D.n := hs.2.1
        rw [hc] at hs2
        rw [if_neg e]
        unfold len0
        rw [if_neg e]
        exact ⟨by omega, by omega, by omega, by omega, hs.2.2.2.2.1, or_lt hb0 hp⟩
    · have hs2 := h7 s (by show s < D.n + (if 0 < wo then 1 else 0); omega)
      rw [updN_n e, updN_n e, updN_n e]
      refine ⟨hs2.1, hs2.2.1, hs2.2.2.1, hs2.2.2.2.1, ?_, hs2.2.2.2.2.2⟩
      split
      · rw [updN_n e]; exact hs2.2.2.2.2.1
      · exact hs2.2.2.2.2.1
  · rw [e1]
    intro x hx
    have hx2 := h9 x hx
    refine ⟨hx2.1, hx2.2.1, hx2.2.2.1, ?_⟩
    show (if (bag0 D wo).testBit w then D.wt else updN D.wt w (D.wt w + 1)) x = stUp (putW D wo k w) x D.n + ((updN D.bag D.n (bag0 D wo ||| 2 ^ w) D.n).testBit x).toNat
    rw [updN_s, stUp_cong (D := D) (D' := putW D wo k w) (m := D.n) (fun s hs => (updN_n (by omega) : updN D.bag D.n (bag0 D wo ||| 2 ^ w) s = D.bag s)), Nat.testBit_or, two_bit]
    have hwx : ∀ x, x < D.u → D.wt x = stUp D x D.n + ((bag0 D wo).testBit x).toNat := fun x hx => by
      have := (h9 x hx).2.2.2
      have e : D.wt x = stUp D x (D.n + (if 0 < wo then 1 else 0)) := this
      rw [e, opn_st]
    by_cases e : w = x
    · subst e
      cases hb : (bag0 D wo).testBit w with
      | true =>
        have := hwx w hw
        rw [hb] at this
        simp [this]
      | false =>
        have := hwx w hw
        rw [hb] at this
        rw [if_neg (by decide), updN_s, this]
        simp
    · rw [decide_eq_false e, Bool.or_false, ← hwx x hx]
      split
      · rfl
      · exact updN_n (fun q => e q.symm)
theorem RV.new {bs : Nat → Nat} {D : TS} {wo k st ft pl : Nat} (h : RV bs (D, wo, k, st, ft, pl)) (hu : D.u < 48) (hk1 : 1 ≤ k) (hk2 : k ≤ 10) : RV bs (newW D bs st k, wo, k, st, ft, pl) := by
  obtain ⟨h1, h2, h3, h4, h5, h6, h7, h8, h9, h10⟩ := h
  refine ⟨h1, hu, h3, h4, h5, h6, fun s hs => ?_, h8, fun x hx => ?_, h10⟩
  · have := h7 s hs
    have hp : (2 : Nat) ^ D.u < 2 ^ (D.u + 1) := Nat.pow_lt_pow_right (by decide) (by omega)
    exact ⟨this.1, this.2.1, this.2.2.1, this.2.2.2.1, Nat.lt_succ_of_lt this.2.2.2.2.1, Nat.lt_trans this.2.2.2.2.2 hp⟩
  · show 1 ≤ updN D.nl D.u k x ∧ updN D.nl D.u k x ≤ 10 ∧ (∀ j, j < updN D.nl D.u k x → 97 ≤ (if x = D.u then bs (st + j) else D.lt x j) ∧ (if x = D.u then bs (st + j) else D.lt x j) ≤ 122) ∧ updN D.wt D.u 0 x = stUp (newW D bs st k) x _
    by_cases e : x = D.u
    · subst e
      rw [updN_s, updN_s]
      refine ⟨hk1, hk2, fun j hj => ?_, ?_⟩
      · rw [if_pos rfl]; exact h10 j hj
      · refine (stUp_zero (fun s hs => ?_)).symm
        exact Nat.testBit_lt_two_pow (h7 s hs).2.2.2.2.2
    · have hx2 : x < D.u := by
        have : x < D.u + 1 := hx
        omega
      have := h9 x hx2
      rw [updN_n e, updN_n e]
      refine ⟨this.1, this.2.1, fun j hj => ?_, ?_⟩
      · rw [if_neg e]; exact this.2.2.1 j hj
      · exact this.2.2.2.trans (stUp_cong (D := D) (D' := newW D bs st k) (fun _ _ => rfl)).symm
theorem RV.rf_ {bs : Nat → Nat} {M : RM} (h : RV bs M) (f a : Nat) : RV bs (rfs M f a) := by
  unfold rfs
  split
  · exact h
  · exact h
theorem RV.clr {bs : Nat → Nat} {M : RM} (h : RV bs M) : RV bs (clrK M) := by
  obtain ⟨h1, h2, h3, h4, h5, h6, h7, h8, h9, h10⟩ := h
  exact ⟨h1, h2, h3, h4, h5, h6, h7, h8, h9, fun j hj => absurd hj (by show ¬ j < 0; omega)⟩
theorem RV.aw_ {bs : Nat → Nat} {M : RM} (h : RV bs M) (hn : M.D.n < 16) (hwo : M.wo < 30) (hk1 : 1 ≤ M.k) (hk2 : M.k ≤ 10) : RV bs (addW bs M) := by
  obtain ⟨D, wo, k, st, ft, pl⟩ := M
  unfold addW
  split
  · next c => exact h.put hn hwo hk1 hk2 c
  · split
    · exact h.rf_ 3 _
    · next c => exact (h.new (by have : ¬ 48 ≤ D.u := c; omega) hk1 hk2).put hn hwo hk1 hk2 (Nat.lt_succ_self _)
theorem RV.ew_ {bs : Nat → Nat} {M : RM} (h : RV bs M) : RV bs (endW bs M) := by
  unfold endW
  split
  · exact h
  · split
    · exact (h.rf_ 2 _).clr
    · split
      · exact (h.rf_ 3 _).clr
      · exact (h.aw_ (by omega) (by omega) (by omega) (by omega)).clr
theorem endW_k (bs : Nat → Nat) (M : RM) : (endW bs M).k = 0 := by
  unfold endW
  split
  · assumption
  · split
    · rfl
    · split <;> rfl
theorem RV.sg_ {bs : Nat → Nat} {M : RM} (h : RV bs M) (c a : Nat) : RV bs (sgn M c a) := by
  unfold sgn
  split
  · next hc =>
    obtain ⟨D, wo, k, st, ft, pl⟩ := M
    obtain ⟨h1, h2, h3, h4, h5, h6, h7, h8, h9, h10⟩ := h
    have hw : 0 < wo := hc.2
    have e : opn (endS D, 0, k, st, ft, pl) = opn (D, wo, k, st, ft, pl) := by
      show (D.n + 1) + 0 = D.n + (if 0 < wo then 1 else 0)
      rw [if_pos hw]
    refine ⟨h4 hw, h2, by show (0 : Nat) ≤ 30; omega, fun q => absurd q (by show ¬ 0 < 0; omega), h5, h6, ?_, fun q => absurd q (by show ¬ 0 < 0; omega), ?_, h10⟩
    · intro s hs
      have hs2 : s < opn (endS D, 0, k, st, ft, pl) := hs
      rw [e] at hs2
      exact h7 s hs2
    · intro w hw9
      have q := h9 w hw9
      refine ⟨q.1, q.2.1, q.2.2.1, ?_⟩
      show D.wt w = stUp (endS D) w (opn (endS D, 0, k, st, ft, pl))
      rw [e, stUp_cong (D := D) (D' := endS D) (fun _ _ => rfl)]
      exact q.2.2.2
  · split
    · exact h
    · exact h.rf_ 1 a
theorem RV.lt_ {bs : Nat → Nat} {M : RM} (h : RV bs M) {a : Nat} (hl : isLt (bs a) = true) (ha : M.k = 0 ∨ M.st + M.k = a) : RV bs (ltr M a) := by
  obtain ⟨D, wo, k, st, ft, pl⟩ := M
  obtain ⟨h1, h2, h3, h4, h5, h6, h7, h8, h9, h10⟩ := h
  refine ⟨h1, h2, h3, h4, h5, h6, h7, h8, h9, fun j hj => ?_⟩
  unfold isLt at hl
  rw [Bool.and_eq_true, decide_eq_true_eq, decide_eq_true_eq] at hl
  have hj2 : j < k + 1 := hj
  show 97 ≤ bs ((if k = 0 then a else st) + j) ∧ bs ((if k = 0 then a else st) + j) ≤ 122
  by_cases e : k = 0
  · rw [if_pos e, show a + j = a by omega]; exact hl
  · rw [if_neg e]
    rcases Nat.lt_or_ge j k with q | q
    · exact h10 j q
    · have ha2 : st + k = a := by
        rcases ha with ha | ha
        · exact absurd ha e
        · exact ha
      rw [show st + j = a by omega]; exact hl
/-- the open word ends where the machine stands -/
theorem rrun_k (bs : Nat → Nat) : ∀ i, (rrun bs i).ft = 0 → (rrun bs i).k = 0 ∨ (rrun bs i).st + (rrun bs i).k = i
  | 0, _ => Or.inl rfl
  | i + 1, h => by
    rw [rrun] at h ⊢
    by_cases c : (rrun bs i).ft = 0
    · rw [if_pos c] at h ⊢
      have ih := rrun_k bs i c
      unfold rstep
      by_cases q : isLt (bs i) = true
      · rw [if_pos q]
        right
        show (if (rrun bs i).k = 0 then i else (rrun bs i).st) + ((rrun bs i).k + 1) = i + 1
        rcases ih with e | e
        · rw [if_pos e]; omega
        · split <;> omega
      · rw [if_neg q]
        left
        have hk := endW_k bs (rrun bs i)
        unfold sgn rfs
        split
        · exact hk
        · split
          · exact hk
          · split <;> exact hk
    · rw [if_neg c] at h
      exact absurd h c
theorem RV_0 (bs : Nat → Nat) : RV bs M0 := ⟨by decide, by decide, by decide, fun h => absurd h (by decide), rfl, rfl, fun s hs => absurd hs (by show ¬ s < 0; omega), fun h => absurd h (by decide), fun w hw => absurd hw (by show ¬ w < 0; omega), fun j hj => absurd hj (by show ¬ j < 0; omega)⟩
theorem RV_run (bs : Nat → Nat) : ∀ i, RV bs (rrun bs i)
  | 0 => RV_0 bs
  | i + 1 => by
    have ih := RV_run bs i
    rw [rrun]
    by_cases c : (rrun bs i).ft = 0
    · rw [if_pos c]
      unfold rstep
      by_cases q : isLt (bs i) = true
      · rw [if_pos q]; exact ih.lt_ q (rrun_k bs i c)
      · rw [if_neg q]; exact ih.ew_.sg_ _ _
    · rw [if_neg c]; exact ih
theorem RV_fin (bs : Nat → Nat) (n : Nat) : RV bs (rfin bs n) := by
  unfold rfin
  split
  · exact (RV_run bs n).ew_.rf_ _ _
  · exact (RV_run bs n).ew_
/-- the text that was read, with the budget B -/
def txt (D : TS) (B : Nat) : TS := mkTS D.n D.u B 0 0 D.len D.cnt D.fst D.bag D.wt D.nl D.lt
theorem RV.vs {bs : Nat → Nat} {M : RM} (h : RV bs M) (hw : M.wo = 0) {B : Nat} (hB : B ≤ 9999) (ht : senUp M.D.len M.D.n ≤ 600) : VS (txt M.D B) ∧ ∀ w, w < M.D.u → M.D.wt w = stands (txt M.D B) w := by
  obtain ⟨h1, h2, h3, h4, h5, h6, h7, h8, h9, h10⟩ := h
  have e : opn M = M.D.n := by unfold opn; rw [hw]; rfl
  rw [e] at h7 h9
  have key : ∀ w, w < M.D.u → M.D.wt w = stands (txt M.D B) w := fun w hw => (h9 w hw).2.2.2.trans (stUp_cong (D := M.D) (D' := txt M.D B) (fun _ _ => rfl)).symm
  refine ⟨⟨h1, h2, hB, Nat.two_pow_pos _, Nat.two_pow_pos _, fun i hi => ?_, fun w hw => ?_, ht⟩, key⟩
  · have q := h7 i hi
    have q1 := q.2.1
    have q2 := q.2.2.2.1
    exact ⟨q.1, by show M.D.len i ≤ 330; omega, q.2.2.1, q.2.2.2.1, q.2.2.2.2.1, q.2.2.2.2.2⟩
  · have := h9 w hw
    refine ⟨?_, this.1, this.2.1, this.2.2.1⟩
    show M.D.wt w ≤ 1000
    rw [this.2.2.2]
    have := stUp_le M.D w M.D.n
    omega
theorem rfin_wo {bs : Nat → Nat} {n : Nat} (h : (rfin bs n).ft = 0) : (rfin bs n).wo = 0 := by
  unfold rfin at h ⊢
  by_cases c : 0 < (endW bs (rrun bs n)).wo
  · rw [if_pos c] at h
    unfold rfs at h
    split at h
    · exact absurd h (by show ¬ 1 = 0; decide)
    · next q => exact absurd h q
  · rw [if_neg c]; omega
/-! how long all sentences are: no longer than what was read -/
theorem senUp_cong {f g : Nat → Nat} : ∀ {m}, (∀ s, s < m → f s = g s) → senUp f m = senUp g m
  | 0, _ => rfl
  | m + 1, h => by rw [senUp, senUp, senUp_cong (fun s hs => h s (by omega)), h m (by omega)]
def totL (M : RM) : Nat := senUp M.D.len M.D.n + len0 M.D M.wo
theorem putW_tot (D : TS) (wo k w : Nat) (r : Nat × Nat × Nat × Nat) : totL (putW D wo k w, wo + 1, r) = senUp D.len D.n + len0 D wo + k + 1 := by
  have e : senUp (updN D.len D.n (len0 D wo + (k + 1))) D.n = senUp D.len D.n := senUp_cong (fun s hs => updN_n (by omega))
  show senUp (updN D.len D.n (len0 D wo + (k + 1))) D.n + (if wo + 1 = 0 then 0 else updN D.len D.n (len0 D wo + (k + 1)) D.n) = _
  rw [e, if_neg (by omega), updN_s]
  omega
theorem rfs_tot (M : RM) (f a : Nat) : totL (rfs M f a) = totL M := by
  unfold rfs
  split <;> rfl
theorem addW_tot (bs : Nat → Nat) (M : RM) : totL (addW bs M) ≤ totL M + M.k ∨ (0 < (addW bs M).wo ∧ totL (addW bs M) ≤ totL M + M.k + 1) := by
  obtain ⟨D, wo, k, st, ft, pl⟩ := M
  unfold addW
  split
  · exact Or.inr ⟨Nat.succ_pos wo, Nat.le_of_eq (putW_tot D wo k _ (k, st, ft, pl))⟩
  · split
    · rw [rfs_tot]; exact Or.inl (Nat.le_add_right _ _)
    · exact Or.inr ⟨Nat.succ_pos wo, Nat.le_of_eq (putW_tot (newW D bs st k) wo k D.u (k, st, ft, pl))⟩
theorem endW_tot (bs : Nat → Nat) (M : RM) : totL (endW bs M) ≤ totL M + M.k ∨ (0 < (endW bs M).wo ∧ totL (endW bs M) ≤ totL M + M.k + 1) := by
  unfold endW
  split
  · exact Or.inl (Nat.le_add_right _ _)
  · split
    · exact Or.inl (Nat.le_trans (Nat.le_of_eq (rfs_tot M 2 M.st)) (Nat.le_add_right _ _))
    · split
      · exact Or.inl (Nat.le_trans (Nat.le_of_eq (rfs_tot M 3 M.st)) (Nat.le_add_right _ _))
      · exact addW_tot bs M
theorem sgn_tot (M : RM) (c a : Nat) : totL (sgn M c a) = totL M := by
  unfold sgn
  split
  · next hc =>
    obtain ⟨D, wo, k, st, ft, pl⟩ := M
    have hw : ¬ wo = 0 := by
      have : 0 < wo := hc.2
      omega
    have e : (if wo = 0 then 0 else D.len D.n) = D.len D.n := if_neg hw
    show senUp D.len (D.n + 1) + 0 = senUp D.len D.n + (if wo = 0 then 0 else D.len D.n)
    exact (congrArg (fun z => senUp D.len D.n + z) e).symm
  · split
    · rfl
    · exact rfs_tot M 1 a
theorem sgn_k0 {M : RM} (h : M.k = 0) (c a : Nat) : (sgn M c a).k = 0 := by
  unfold sgn rfs
  split
  · exact h
  · split
    · exact h
    · split <;> exact h
theorem rrun_tot (bs : Nat → Nat) : ∀ i, totL (rrun bs i) + (rrun bs i).k ≤ i
  | 0 => Nat.le_refl _
  | i + 1 => by
    have ih := rrun_tot bs i
    rw [rrun]
    split
    · unfold rstep
      split
      · show totL (rrun bs i) + ((rrun bs i).k + 1) ≤ i + 1
        omega
      · rw [sgn_tot, sgn_k0 (endW_k bs (rrun bs i))]
        rcases endW_tot bs (rrun bs i) with e | e <;> omega
    · omega
theorem rfin_tot {bs : Nat → Nat} {n : Nat} (h : (rfin bs n).ft = 0) : senUp (rfin bs n).D.len (rfin bs n).D.n ≤ n := by
  have hw := rfin_wo h
  have hr := rrun_tot bs n
  have hE := endW_tot bs (rrun bs n)
  have hl : senUp (rfin bs n).D.len (rfin bs n).D.n ≤ totL (rfin bs n) := Nat.le_add_right _ _
  have hf : totL (rfin bs n) = totL (endW bs (rrun bs n)) ∧ (rfin bs n).wo = (endW bs (rrun bs n)).wo := by
    unfold rfin
    split
    · exact ⟨rfs_tot _ _ _, by unfold rfs; split <;> rfl⟩
    · exact ⟨rfl, rfl⟩
  rcases hE with e | e <;> omega
