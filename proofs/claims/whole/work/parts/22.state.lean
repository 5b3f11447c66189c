theorem ok_X8_isIn {G : Gx} {μ : Mu} (s set : Nat) (hs : s < 32) (hset : set < 2 ^ 32) : RunsP 0 M_X8_isIn [.int (nI s), .int (nI set)] G μ (.int (nI (set.testBit s).toNat)) := by
  have hle : set >>> s ≤ set := by rw [Nat.shiftRight_eq_div_pow]; exact Nat.div_le_self _ _
  have ha : set >>> s &&& 1 ≤ 1 := Nat.and_le_right
  refine Runs.go RX8 rfl (by decide) [(0, .int (nI s)), (1, .int (nI set))] (Nat.le_of_ble_eq_true rfl) rfl (fun X hF => ?_)
  refine V.iload_n (pc := 0) 1 dX8_isIn_0 rfl ?_
  refine V.iload_n (pc := 1) 0 dX8_isIn_1 rfl ?_
  refine V.iushr (pc := 2) (v := nI (set >>> s)) dX8_isIn_2 (nn_ushr (by omega) (by omega)) ?_
  refine V.iconst (pc := 3) (v := nI 1) dX8_isIn_3 (by decide) ?_
  refine V.iand (pc := 4) (v := nI ((set >>> s) &&& 1)) dX8_isIn_4 (nn_and _ _) ?_
  refine V.ifN_eq (pc := 5) 12 dX8_isIn_5 (by decide) (by omega) (fun h_5 => ?_) (fun h_5 => ?_)
  · refine V.iconst (pc := 12) (v := nI 0) dX8_isIn_12 (by decide) ?_
    exact V.zret (pc := 13) hF dX8_isIn_13 (by decide) ⟨by rw [(testBit_and1 set s).mp h_5]; rfl, rfl⟩
  · refine V.iconst (pc := 8) (v := nI 1) dX8_isIn_8 (by decide) ?_
    refine V.goto (pc := 9) 13 dX8_isIn_9 (by decide) ?_
    exact V.zret (pc := 13) hF dX8_isIn_13 (by decide) ⟨by rw [show set.testBit s = true from by cases hq : set.testBit s with | true => rfl | false => exact absurd ((testBit_and1 set s).mpr hq) (by omega)]; rfl, rfl⟩
theorem tb1 (a k : Nat) : (a >>> k) &&& 1 = (a.testBit k).toNat := by
  have h : (a >>> k) &&& 1 ≤ 1 := Nat.and_le_right
  cases hq : a.testBit k with
  | false => exact (testBit_and1 a k).mpr hq
  | true =>
    have h2 : ¬ (a >>> k) &&& 1 = 0 := fun e => by rw [(testBit_and1 a k).mp e] at hq; exact absurd hq (by decide)
    show _ = 1
    omega
theorem tb1_0 {a k : Nat} (h : (a >>> k) &&& 1 = 0) : a.testBit k = false := (testBit_and1 a k).mp h
theorem tb1_1 {a k : Nat} (h : ¬ (a >>> k) &&& 1 = 0) : a.testBit k = true := by
  cases hq : a.testBit k with
  | true => rfl
  | false => exact absurd ((testBit_and1 a k).mpr hq) h
theorem shr0 {a k j : Nat} (h : a >>> k = 0) (hj : k ≤ j) : a.testBit j = false := by
  have h1 : (a >>> k).testBit (j - k) = a.testBit (k + (j - k)) := Nat.testBit_shiftRight ..
  rw [h, Nat.zero_testBit, show k + (j - k) = j by omega] at h1
  exact h1.symm
theorem lenUp_t {S : TS} {set i : Nat} (h : set.testBit i = true) : lenUp S set i + S.len i = lenUp S set (i + 1) := by rw [lenUp, h]; rfl
theorem lenUp_f {S : TS} {set i : Nat} (h : set.testBit i = false) : lenUp S set i = lenUp S set (i + 1) := by rw [lenUp, h]; rfl
theorem bagUp_t {S : TS} {set i : Nat} (h : set.testBit i = true) : bagUp S set i ||| S.bag i = bagUp S set (i + 1) := by rw [bagUp, h]; rfl
theorem bagUp_f {S : TS} {set i : Nat} (h : set.testBit i = false) : bagUp S set i = bagUp S set (i + 1) := by rw [bagUp, h]; rfl
theorem wUp_t {S : TS} {bg i : Nat} (h : bg.testBit i = true) : wUp S bg i + S.wt i = wUp S bg (i + 1) := by rw [wUp, h]; rfl
theorem wUp_f {S : TS} {bg i : Nat} (h : bg.testBit i = false) : wUp S bg i = wUp S bg (i + 1) := by rw [wUp, h]; rfl
theorem wUp_z {S : TS} {bg : Nat} {i : Nat} : ∀ k, (∀ j, i ≤ j → j < i + k → bg.testBit j = false) → wUp S bg i = wUp S bg (i + k)
  | 0, _ => rfl
  | k + 1, h => by rw [wUp_z k (fun j h1 h2 => h j h1 (by omega))]; exact wUp_f (h (i + k) (by omega) (by omega))
theorem wUp_z0 {S : TS} {bg i : Nat} (h : ∀ j, j < i → bg.testBit j = false) : wUp S bg i = 0 := by
  have := wUp_z (S := S) (bg := bg) (i := 0) i (fun j _ h2 => h j (by omega))
  rw [Nat.zero_add] at this
  exact this.symm
theorem wUp_zu {S : TS} {bg i u : Nat} (hi : i ≤ u) (h : ∀ j, i ≤ j → bg.testBit j = false) : wUp S bg i = wUp S bg u := by
  have := wUp_z (S := S) (bg := bg) (i := i) (u - i) (fun j h1 _ => h j h1)
  rw [show i + (u - i) = u by omega] at this
  exact this
theorem ntz_all {G : Gx} {μ : Mu} (bg : Nat) (h : bg < 2 ^ 63) : ∃ k, k ≤ 64 ∧ (∀ j, j < k → bg.testBit j = false) ∧ RunsP 1 M_J13_numberOfTrailingZeros_95d88 [.long (lN bg)] G μ (.int (nI k)) := by
  rcases Nat.eq_zero_or_pos bg with e | e
  · subst e
    exact ⟨64, by decide, fun j _ => Nat.zero_testBit j, ok_ntzz⟩
  · obtain ⟨k, h1, -⟩ := low_ex e
    have := low_lt h1 h
    exact ⟨k, by omega, h1.2, ok_ntz k bg h h1⟩
/-- in how many of the first i sentences the word stands -/
def stUp (S : TS) (w : Nat) : Nat → Nat
  | 0 => 0
  | i + 1 => stUp S w i + ((S.bag i).testBit w).toNat
def stands (S : TS) (w : Nat) : Nat := stUp S w S.n
theorem b2n_le (p : Bool) : p.toNat ≤ 1 := by cases p <;> decide
theorem stUp_le (S : TS) (w : Nat) : ∀ i, stUp S w i ≤ i
  | 0 => Nat.le_refl _
  | i + 1 => by
    have := stUp_le S w i
    have := b2n_le ((S.bag i).testBit w)
    rw [stUp]; omega
/-- the sentences below i whose chain has s -/
def anUp (S : TS) (s : Nat) : Nat → Nat
  | 0 => 0
  | i + 1 => if (chain S i).testBit s then anUp S s i ||| 2 ^ i else anUp S s i
theorem anUp_t {S : TS} {s i : Nat} (h : (chain S i).testBit s = true) : anUp S s i ||| 2 ^ i = anUp S s (i + 1) := by rw [anUp, h]; rfl
theorem anUp_f {S : TS} {s i : Nat} (h : (chain S i).testBit s = false) : anUp S s i = anUp S s (i + 1) := by rw [anUp, h]; rfl
theorem anUp_lt (S : TS) (s : Nat) : ∀ i, anUp S s i < 2 ^ i
  | 0 => by rw [anUp]; decide
  | i + 1 => by
    have h := anUp_lt S s i
    have h1 : (2 : Nat) ^ i < 2 ^ (i + 1) := Nat.pow_lt_pow_right (by decide) (by omega)
    rw [anUp]
    split
    · exact or_lt (Nat.lt_trans h h1) h1
    · exact Nat.lt_trans h h1
def wholeUp (S : TS) (set : Nat) : Nat → Bool
  | 0 => true
  | i + 1 => wholeUp S set i && (!set.testBit i || adn (chain S i) set == 0)
def whole (S : TS) (set : Nat) : Bool := wholeUp S set S.n
theorem wholeUp_no {S : TS} {set i : Nat} (h : wholeUp S set (i + 1) = false) : ∀ k, wholeUp S set (i + 1 + k) = false
  | 0 => h
  | k + 1 => by
    rw [show i + 1 + (k + 1) = (i + 1 + k) + 1 by omega, wholeUp, wholeUp_no h k]; rfl
theorem ok_X6_lengthOf {G : Gx} {μ : Mu} (t : Nat) (ht : t < 10) (S : TS) (hS : St μ t S) (set : Nat) (hset : set < 2 ^ 31) : RunsP 1 M_X6_lengthOf [.ref (G.2.2 (8 * t)), .int (nI set)] G μ (.int (nI (lenOf S set))) := by
  have hn := hS.vs.n16
  refine Runs.go RX6 rfl (by decide) [(0, .ref (G.2.2 (8 * t))), (1, .int (nI set))] (Nat.le_of_ble_eq_true rfl) rfl (fun X hF => ?_)
  refine V.iconst (pc := 0) (v := nI 0) dX6_lengthOf_0 (by decide) ?_
  refine V.istore_n (pc := 1) (lv' := [(0, .ref (G.2.2 (8 * t))), (1, .int (nI set)), (2, .int (nI 0))]) dX6_lengthOf_1 (by decide) rfl ?_
  refine V.iconst (pc := 2) (v := nI 0) dX6_lengthOf_2 (by decide) ?_
  refine V.istore_n (pc := 3) (lv' := [(0, .ref (G.2.2 (8 * t))), (1, .int (nI set)), (2, .int (nI 0)), (3, .int (nI 0))]) dX6_lengthOf_3 (by decide) rfl ?_
  have L4 : ∀ (n_ : Nat) (i : Nat), (i ≤ S.n) → S.n - i < n_ → V G RX6 cX6_lengthOf 4 1 X 4 [(0, .ref (G.2.2 (8 * t))), (1, .int (nI set)), (2, .int (nI (lenUp S set i))), (3, .int (nI i))] [] μ := by
    intro n_
    induction n_ with
    | zero => intro i hi hm_; exact absurd hm_ (Nat.not_lt_zero _)
    | succ n_ ih4 =>
      intro i hi hm_
      refine V.iload_n (pc := 4) 3 dX6_lengthOf_4 rfl ?_
      refine V.aload_n (pc := 5) 0 dX6_lengthOf_5 rfl ?_
      refine gf_X6_9 (pc := 6) t ht (v := nI S.n) dX6_lengthOf_6 hS.n ?_
      refine V.icmpN_ge (pc := 9) 35 dX6_lengthOf_9 (by decide) (by omega) (by omega) (fun h_9 => ?_) (fun h_9 => ?_)
      · refine V.iload_n (pc := 35) 2 dX6_lengthOf_35 rfl ?_
        exact V.iret (pc := 36) hF dX6_lengthOf_36 ⟨by rw [show i = S.n from by omega]; rfl, rfl⟩
      · refine V.iload_n (pc := 12) 3 dX6_lengthOf_12 rfl ?_
        refine V.iload_n (pc := 13) 1 dX6_lengthOf_13 rfl ?_
        refine cp_X6_65 (pc := 14) dX6_lengthOf_14 (ok_X8_isIn i set (by omega) (by omega)) (by omega) (Nat.le_of_ble_eq_true rfl) ?_
        refine V.ifB_eq (pc := 17) 29 dX6_lengthOf_17 (by decide) (fun h_17 => ?_) (fun h_17 => ?_)
        · refine V.iinc (pc := 29) (v := nI (i + 1)) (lv' := [(0, .ref (G.2.2 (8 * t))), (1, .int (nI set)), (2, .int (nI (lenUp S set i))), (3, .int (nI (i + 1)))]) 3 dX6_lengthOf_29 rfl (nn_inc _) (by decide) rfl ?_
          refine V.goto (pc := 32) 4 dX6_lengthOf_32 (by decide) ?_
          have e_2 : nI (lenUp S set i) = nI (lenUp S set (i + 1)) := congrArg nI (lenUp_f h_17)
          refine V.lvs (lv' := [(0, .ref (G.2.2 (8 * t))), (1, .int (nI set)), (2, .int (nI (lenUp S set (i + 1)))), (3, .int (nI (i + 1)))]) (congrArg (fun z => ([(0, .ref (G.2.2 (8 * t))), (1, .int (nI set)), (2, .int z), (3, .int (nI (i + 1)))] : List (Nat × Value))) e_2) ?_
          exact ih4 (i + 1) (by omega) (by omega)
        · refine V.iload_n (pc := 20) 2 dX6_lengthOf_20 rfl ?_
          refine V.aload_n (pc := 21) 0 dX6_lengthOf_21 rfl ?_
          refine gf_X6_28 (pc := 22) t ht dX6_lengthOf_22 ?_
          refine V.iload_n (pc := 25) 3 dX6_lengthOf_25 rfl ?_
          refine V.iald (pc := 26) (k := 8 * t + 1) (n := 16) (v := nI (S.len i)) (by omega) (cell_Si ht ⟨by decide, by decide⟩) i (by omega) (by decide) dX6_lengthOf_26 (hS.len i (by omega)) ?_
          refine V.iadd (pc := 27) (v := nI (lenUp S set i + (S.len i))) dX6_lengthOf_27 (nI_add _ _) ?_
          refine V.istore_n (pc := 28) (lv' := [(0, .ref (G.2.2 (8 * t))), (1, .int (nI set)), (2, .int (nI (lenUp S set i + (S.len i)))), (3, .int (nI i))]) dX6_lengthOf_28 (by decide) rfl ?_
          refine V.iinc (pc := 29) (v := nI (i + 1)) (lv' := [(0, .ref (G.2.2 (8 * t))), (1, .int (nI set)), (2, .int (nI (lenUp S set i + (S.len i)))), (3, .int (nI (i + 1)))]) 3 dX6_lengthOf_29 rfl (nn_inc _) (by decide) rfl ?_
          refine V.goto (pc := 32) 4 dX6_lengthOf_32 (by decide) ?_
          have e_2 : nI (lenUp S set i + (S.len i)) = nI (lenUp S set (i + 1)) := congrArg nI (lenUp_t h_17)
          refine V.lvs (lv' := [(0, .ref (G.2.2 (8 * t))), (1, .int (nI set)), (2, .int (nI (lenUp S set (i + 1)))), (3, .int (nI (i + 1)))]) (congrArg (fun z => ([(0, .ref (G.2.2 (8 * t))), (1, .int (nI set)), (2, .int z), (3, .int (nI (i + 1)))] : List (Nat × Value))) e_2) ?_
          exact ih4 (i + 1) (by omega) (by omega)
  have e_2 : nI 0 = nI (lenUp S set 0) := rfl
  refine V.lvs (lv' := [(0, .ref (G.2.2 (8 * t))), (1, .int (nI set)), (2, .int (nI (lenUp S set 0))), (3, .int (nI 0))]) (congrArg (fun z => ([(0, .ref (G.2.2 (8 * t))), (1, .int (nI set)), (2, .int z), (3, .int (nI 0))] : List (Nat × Value))) e_2) ?_
  exact L4 _ 0 (by omega) (Nat.lt_succ_self _)
theorem ok_X6_bagOf {G : Gx} {μ : Mu} (t : Nat) (ht : t < 10) (S : TS) (hS : St μ t S) (set : Nat) (hset : set < 2 ^ 31) : RunsP 1 M_X6_bagOf [.ref (G.2.2 (8 * t)), .int (nI set)] G μ (.long (lN (bagOf S set))) := by
  have hn := hS.vs.n16
  refine Runs.go RX6 rfl (by decide) [(0, .ref (G.2.2 (8 * t))), (1, .int (nI set))] (Nat.le_of_ble_eq_true rfl) rfl (fun X hF => ?_)
  refine V.lconst (pc := 0) (v := lN 0) dX6_bagOf_0 (by decide) ?_
  refine V.lstore_n (pc := 1) (lv' := [(0, .ref (G.2.2 (8 * t))), (1, .int (nI set)), (2, .long (lN 0))]) dX6_bagOf_1 (by decide) rfl ?_
  refine V.iconst (pc := 2) (v := nI 0) dX6_bagOf_2 (by decide) ?_
  refine V.istore (pc := 3) (lv' := [(0, .ref (G.2.2 (8 * t))), (1, .int (nI set)), (2, .long (lN 0)), (4, .int (nI 0))]) dX6_bagOf_3 (by decide) rfl ?_
  have L5 : ∀ (n_ : Nat) (i : Nat), (i ≤ S.n) → S.n - i < n_ → V G RX6 cX6_bagOf 5 1 X 5 [(0, .ref (G.2.2 (8 * t))), (1, .int (nI set)), (2, .long (lN (bagUp S set i))), (4, .int (nI i))] [] μ := by
    intro n_
    induction n_ with
    | zero => intro i hi hm_; exact absurd hm_ (Nat.not_lt_zero _)
    | succ n_ ih5 =>
      intro i hi hm_
      refine V.iload (pc := 5) 3 dX6_bagOf_5 rfl ?_
      refine V.aload_n (pc := 7) 0 dX6_bagOf_7 rfl ?_
      refine gf_X6_9 (pc := 8) t ht (v := nI S.n) dX6_bagOf_8 hS.n ?_
      refine V.icmpN_ge (pc := 11) 39 dX6_bagOf_11 (by decide) (by omega) (by omega) (fun h_11 => ?_) (fun h_11 => ?_)
      · refine V.lload_n (pc := 39) 2 dX6_bagOf_39 rfl ?_
        exact V.lret (pc := 40) hF dX6_bagOf_40 ⟨by rw [show i = S.n from by omega]; rfl, rfl⟩
      · refine V.iload (pc := 14) 3 dX6_bagOf_14 rfl ?_
        refine V.iload_n (pc := 16) 1 dX6_bagOf_16 rfl ?_
        refine cp_X6_65 (pc := 17) dX6_bagOf_17 (ok_X8_isIn i set (by omega) (by omega)) (by omega) (Nat.le_of_ble_eq_true rfl) ?_
        refine V.ifB_eq (pc := 20) 33 dX6_bagOf_20 (by decide) (fun h_20 => ?_) (fun h_20 => ?_)
        · refine V.iinc (pc := 33) (v := nI (i + 1)) (lv' := [(0, .ref (G.2.2 (8 * t))), (1, .int (nI set)), (2, .long (lN (bagUp S set i))), (4, .int (nI (i + 1)))]) 3 dX6_bagOf_33 rfl (nn_inc _) (by decide) rfl ?_
          refine V.goto (pc := 36) 5 dX6_bagOf_36 (by decide) ?_
          have e_2 : lN (bagUp S set i) = lN (bagUp S set (i + 1)) := congrArg lN (bagUp_f h_20)
          refine V.lvs (lv' := [(0, .ref (G.2.2 (8 * t))), (1, .int (nI set)), (2, .long (lN (bagUp S set (i + 1)))), (4, .int (nI (i + 1)))]) (congrArg (fun z => ([(0, .ref (G.2.2 (8 * t))), (1, .int (nI set)), (2, .long z), (4, .int (nI (i + 1)))] : List (Nat × Value))) e_2) ?_
          exact ih5 (i + 1) (by omega) (by omega)
        · refine V.lload_n (pc := 23) 2 dX6_bagOf_23 rfl ?_
          refine V.aload_n (pc := 24) 0 dX6_bagOf_24 rfl ?_
          refine gf_X6_41 (pc := 25) t ht dX6_bagOf_25 ?_
          refine V.iload (pc := 28) 3 dX6_bagOf_28 rfl ?_
          refine V.lald (pc := 30) (k := 8 * t + 5) (n := 16) (v := lN (S.bag i)) (by omega) (cell_Sj ht rfl) i (by omega) (by decide) dX6_bagOf_30 (hS.bag i (by omega)) ?_
          refine V.lor (pc := 31) (v := lN ((bagUp S set i) ||| (S.bag i))) dX6_bagOf_31 (ll_or _ _) ?_
          refine V.lstore_n (pc := 32) (lv' := [(0, .ref (G.2.2 (8 * t))), (1, .int (nI set)), (2, .long (lN ((bagUp S set i) ||| (S.bag i)))), (4, .int (nI i))]) dX6_bagOf_32 (by decide) rfl ?_
          refine V.iinc (pc := 33) (v := nI (i + 1)) (lv' := [(0, .ref (G.2.2 (8 * t))), (1, .int (nI set)), (2, .long (lN ((bagUp S set i) ||| (S.bag i)))), (4, .int (nI (i + 1)))]) 3 dX6_bagOf_33 rfl (nn_inc _) (by decide) rfl ?_
          refine V.goto (pc := 36) 5 dX6_bagOf_36 (by decide) ?_
          have e_2 : lN ((bagUp S set i) ||| (S.bag i)) = lN (bagUp S set (i + 1)) := congrArg lN (bagUp_t h_20)
          refine V.lvs (lv' := [(0, .ref (G.2.2 (8 * t))), (1, .int (nI set)), (2, .long (lN (bagUp S set (i + 1)))), (4, .int (nI (i + 1)))]) (congrArg (fun z => ([(0, .ref (G.2.2 (8 * t))), (1, .int (nI set)), (2, .long z), (4, .int (nI (i + 1)))] : List (Nat × Value))) e_2) ?_
          exact ih5 (i + 1) (by omega) (by omega)
  have e_2 : lN 0 = lN (bagUp S set 0) := rfl
  refine V.lvs (lv' := [(0, .ref (G.2.2 (8 * t))), (1, .int (nI set)), (2, .long (lN (bagUp S set 0))), (4, .int (nI 0))]) (congrArg (fun z => ([(0, .ref (G.2.2 (8 * t))), (1, .int (nI set)), (2, .long z), (4, .int (nI 0))] : List (Nat × Value))) e_2) ?_
  exact L5 _ 0 (by omega) (Nat.lt_succ_self _)
theorem ok_X6_weightOf {G : Gx} {μ : Mu} (t : Nat) (ht : t < 10) (S : TS) (hS : St μ t S) (bg : Nat) (hbg : bg < 2 ^ 63) : RunsP 2 M_X6_weightOf [.ref (G.2.2 (8 * t)), .long (lN bg)] G μ (.int (nI (wOf S bg))) := by
  have hu := hS.vs.u48
  obtain ⟨k0, hk0, hlow, hrun⟩ := ntz_all (G := G) (μ := μ) bg hbg
  refine Runs.go RX6 rfl (by decide) [(0, .ref (G.2.2 (8 * t))), (1, .long (lN bg))] (Nat.le_of_ble_eq_true rfl) rfl (fun X hF => ?_)
  refine V.iconst (pc := 0) (v := nI 0) dX6_weightOf_0 (by decide) ?_
  refine V.istore_n (pc := 1) (lv' := [(0, .ref (G.2.2 (8 * t))), (1, .long (lN bg)), (3, .int (nI 0))]) dX6_weightOf_1 (by decide) rfl ?_
  refine V.lload_n (pc := 2) 1 dX6_weightOf_2 rfl ?_
  refine cp_X6_69 (pc := 3) dX6_weightOf_3 hrun (by omega) (Nat.le_of_ble_eq_true rfl) ?_
  refine V.istore (pc := 6) (lv' := [(0, .ref (G.2.2 (8 * t))), (1, .long (lN bg)), (3, .int (nI 0)), (4, .int (nI k0))]) dX6_weightOf_6 (by decide) rfl ?_
  have L8 : ∀ (n_ : Nat) (i : Nat), (i ≤ 64) → (wUp S bg i = wUp S bg (min i S.u)) → 64 - i < n_ → V G RX6 cX6_weightOf 5 2 X 8 [(0, .ref (G.2.2 (8 * t))), (1, .long (lN bg)), (3, .int (nI (wUp S bg i))), (4, .int (nI i))] [] μ := by
    intro n_
    induction n_ with
    | zero => intro i hi hz hm_; exact absurd hm_ (Nat.not_lt_zero _)
    | succ n_ ih8 =>
      intro i hi hz hm_
      refine V.iload (pc := 8) 3 dX6_weightOf_8 rfl ?_
      refine V.aload_n (pc := 10) 0 dX6_weightOf_10 rfl ?_
      refine gf_X6_15 (pc := 11) t ht (v := nI S.u) dX6_weightOf_11 hS.u ?_
      refine V.icmpN_ge (pc := 14) 53 dX6_weightOf_14 (by decide) (by omega) (by omega) (fun h_14 => ?_) (fun h_14 => ?_)
      · refine V.iload_n (pc := 53) 2 dX6_weightOf_53 rfl ?_
        exact V.iret (pc := 54) hF dX6_weightOf_54 ⟨nn_self_eq (by rw [hz, Nat.min_eq_right h_14]; rfl), rfl⟩
      · have hsh := shr_le bg i
        have ha1 : bg >>> i &&& 1 ≤ 1 := Nat.and_le_right
        refine V.lload_n (pc := 17) 1 dX6_weightOf_17 rfl ?_
        refine V.iload (pc := 18) 3 dX6_weightOf_18 rfl ?_
        refine V.lushr (pc := 20) (v := lN (bg >>> i)) dX6_weightOf_20 (ll_ushr (by omega) (by omega)) ?_
        refine V.lconst (pc := 21) (v := lN 0) dX6_weightOf_21 (by decide) ?_
        refine V.lcmpN_eq (pc := 22) 53 dX6_weightOf_22 dX6_weightOf_23 (by decide) (by omega) (by omega) (fun h_22 => ?_) (fun h_22 => ?_)
        · refine V.iload_n (pc := 53) 2 dX6_weightOf_53 rfl ?_
          exact V.iret (pc := 54) hF dX6_weightOf_54 ⟨nn_self_eq (wUp_zu (by omega) (fun j hj => shr0 h_22 hj)), rfl⟩
        · refine V.lload_n (pc := 26) 1 dX6_weightOf_26 rfl ?_
          refine V.iload (pc := 27) 3 dX6_weightOf_27 rfl ?_
          refine V.lushr (pc := 29) (v := lN (bg >>> i)) dX6_weightOf_29 (ll_ushr (by omega) (by omega)) ?_
          refine V.lconst (pc := 30) (v := lN 1) dX6_weightOf_30 (by decide) ?_
          refine V.land (pc := 31) (v := lN ((bg >>> i) &&& 1)) dX6_weightOf_31 (ll_and _ _) ?_
          refine V.lconst (pc := 32) (v := lN 0) dX6_weightOf_32 (by decide) ?_
          refine V.lcmpN_eq (pc := 33) 47 dX6_weightOf_33 dX6_weightOf_34 (by decide) (by omega) (by omega) (fun h_33 => ?_) (fun h_33 => ?_)
          · refine V.iinc (pc := 47) (v := nI (i + 1)) (lv' := [(0, .ref (G.2.2 (8 * t))), (1, .long (lN bg)), (3, .int (nI (wUp S bg i))), (4, .int (nI (i + 1)))]) 3 dX6_weightOf_47 rfl (nn_inc _) (by decide) rfl ?_
            refine V.goto (pc := 50) 8 dX6_weightOf_50 (by decide) ?_
            have e_3 : nI (wUp S bg i) = nI (wUp S bg (i + 1)) := congrArg nI (wUp_f (tb1_0 h_33))
            refine V.lvs (lv' := [(0, .ref (G.2.2 (8 * t))), (1, .long (lN bg)), (3, .int (nI (wUp S bg (i + 1)))), (4, .int (nI (i + 1)))]) (congrArg (fun z => ([(0, .ref (G.2.2 (8 * t))), (1, .long (lN bg)), (3, .int z), (4, .int (nI (i + 1)))] : List (Nat × Value))) e_3) ?_
            exact ih8 (i + 1) (by omega) (by rw [Nat.min_eq_left (by omega)]) (by omega)
          · refine V.iload_n (pc := 37) 2 dX6_weightOf_37 rfl ?_
            refine V.aload_n (pc := 38) 0 dX6_weightOf_38 rfl ?_
            refine gf_X6_48 (pc := 39) t ht dX6_weightOf_39 ?_
            refine V.iload (pc := 42) 3 dX6_weightOf_42 rfl ?_
            refine V.iald (pc := 44) (k := 8 * t + 7) (n := 48) (v := nI (S.wt i)) (by omega) (cell_Sw ht rfl) i (by omega) (by decide) dX6_weightOf_44 (hS.wt i (by omega)) ?_
            refine V.iadd (pc := 45) (v := nI (wUp S bg i + (S.wt i))) dX6_weightOf_45 (nI_add _ _) ?_
            refine V.istore_n (pc := 46) (lv' := [(0, .ref (G.2.2 (8 * t))), (1, .long (lN bg)), (3, .int (nI (wUp S bg i + (S.wt i)))), (4, .int (nI i))]) dX6_weightOf_46 (by decide) rfl ?_
            refine V.iinc (pc := 47) (v := nI (i + 1)) (lv' := [(0, .ref (G.2.2 (8 * t))), (1, .long (lN bg)), (3, .int (nI (wUp S bg i + (S.wt i)))), (4, .int (nI (i + 1)))]) 3 dX6_weightOf_47 rfl (nn_inc _) (by decide) rfl ?_
            refine V.goto (pc := 50) 8 dX6_weightOf_50 (by decide) ?_
            have e_3 : nI (wUp S bg i + (S.wt i)) = nI (wUp S bg (i + 1)) := congrArg nI (wUp_t (tb1_1 h_33))
            refine V.lvs (lv' := [(0, .ref (G.2.2 (8 * t))), (1, .long (lN bg)), (3, .int (nI (wUp S bg (i + 1)))), (4, .int (nI (i + 1)))]) (congrArg (fun z => ([(0, .ref (G.2.2 (8 * t))), (1, .long (lN bg)), (3, .int z), (4, .int (nI (i + 1)))] : List (Nat × Value))) e_3) ?_
            exact ih8 (i + 1) (by omega) (by rw [Nat.min_eq_left (by omega)]) (by omega)
  have e_3 : nI 0 = nI (wUp S bg k0) := by rw [wUp_z0 hlow]
  refine V.lvs (lv' := [(0, .ref (G.2.2 (8 * t))), (1, .long (lN bg)), (3, .int (nI (wUp S bg k0))), (4, .int (nI k0))]) (congrArg (fun z => ([(0, .ref (G.2.2 (8 * t))), (1, .long (lN bg)), (3, .int z), (4, .int (nI k0))] : List (Nat × Value))) e_3) ?_
  exact L8 _ k0 hk0 (by rw [wUp_z0 hlow, wUp_z0 (fun j hj => hlow j (by omega))]) (Nat.lt_succ_self _)
theorem ok_X6_coveredBy {G : Gx} {μ : Mu} (t : Nat) (ht : t < 10) (S : TS) (hS : St μ t S) (set : Nat) (hset : set < 2 ^ 31) : RunsP 3 M_X6_coveredBy [.ref (G.2.2 (8 * t)), .int (nI set)] G μ (.int (nI (cov S set))) := by
  have hu := pow48 hS.vs
  have hb := bagOf_lt hS.vs set
  refine Runs.go RX6 rfl (by decide) [(0, .ref (G.2.2 (8 * t))), (1, .int (nI set))] (Nat.le_of_ble_eq_true rfl) rfl (fun X hF => ?_)
  refine V.aload_n (pc := 0) 0 dX6_coveredBy_0 rfl ?_
  refine V.aload_n (pc := 1) 0 dX6_coveredBy_1 rfl ?_
  refine V.iload_n (pc := 2) 1 dX6_coveredBy_2 rfl ?_
  refine cp_X6_75 (pc := 3) t ht dX6_coveredBy_3 (ok_X6_bagOf t ht S hS set (by omega)) (by omega) (Nat.le_of_ble_eq_true rfl) ?_
  refine cp_X6_79 (pc := 6) t ht dX6_coveredBy_6 (ok_X6_weightOf t ht S hS (bagOf S set) (by omega)) (by omega) (Nat.le_of_ble_eq_true rfl) ?_
  exact V.iret (pc := 9) hF dX6_coveredBy_9 ⟨rfl, rfl⟩
theorem ok_X6_gainOf {G : Gx} {μ : Mu} (t : Nat) (ht : t < 10) (S : TS) (hS : St μ t S) (s set : Nat) (hs : s < S.n) (hset : set < 2 ^ 31) : RunsP 3 M_X6_gainOf [.ref (G.2.2 (8 * t)), .int (nI s), .int (nI set)] G μ (.int (nI (gain S s set))) := by
  have hn := hS.vs.n16
  have hu := pow48 hS.vs
  have h16 := pow16 hS.vs
  have hc := chain_ltn hs
  have hb := bagOf_lt hS.vs (chain S s)
  have had := adn_le (bagOf S (chain S s)) (bagOf S set)
  refine Runs.go RX6 rfl (by decide) [(0, .ref (G.2.2 (8 * t))), (1, .int (nI s)), (2, .int (nI set))] (Nat.le_of_ble_eq_true rfl) rfl (fun X hF => ?_)
  refine V.aload_n (pc := 0) 0 dX6_gainOf_0 rfl ?_
  refine V.aload_n (pc := 1) 0 dX6_gainOf_1 rfl ?_
  refine V.aload_n (pc := 2) 0 dX6_gainOf_2 rfl ?_
  refine gf_X6_38 (pc := 3) t ht dX6_gainOf_3 ?_
  refine V.iload_n (pc := 6) 1 dX6_gainOf_6 rfl ?_
  refine V.iald (pc := 7) (k := 8 * t + 4) (n := 16) (v := nI (chain S s)) (by omega) (cell_Si ht ⟨by decide, by decide⟩) s (by omega) (by decide) dX6_gainOf_7 (hS.chain s (by omega)) ?_
  refine cp_X6_75 (pc := 8) t ht dX6_gainOf_8 (ok_X6_bagOf t ht S hS (chain S s) (by omega)) (by omega) (Nat.le_of_ble_eq_true rfl) ?_
  refine V.aload_n (pc := 11) 0 dX6_gainOf_11 rfl ?_
  refine V.iload_n (pc := 12) 2 dX6_gainOf_12 rfl ?_
  refine cp_X6_75 (pc := 13) t ht dX6_gainOf_13 (ok_X6_bagOf t ht S hS set (by omega)) (by omega) (Nat.le_of_ble_eq_true rfl) ?_
  refine V.ldc2_w (pc := 16) (v := (-1)) mw_2_133 dX6_gainOf_16 ?_
  refine V.lxor (pc := 19) (v := lN (bagOf S set) ^^^ (-1)) dX6_gainOf_19 rfl ?_
  refine V.land (pc := 20) (v := lN (adn (bagOf S (chain S s)) (bagOf S set))) dX6_gainOf_20 (ll_adn _ _) ?_
  refine cp_X6_79 (pc := 21) t ht dX6_gainOf_21 (ok_X6_weightOf t ht S hS (adn (bagOf S (chain S s)) (bagOf S set)) (by omega)) (by omega) (Nat.le_of_ble_eq_true rfl) ?_
  exact V.iret (pc := 24) hF dX6_gainOf_24 ⟨rfl, rfl⟩
theorem ok_X6_costOf {G : Gx} {μ : Mu} (t : Nat) (ht : t < 10) (S : TS) (hS : St μ t S) (s set : Nat) (hs : s < S.n) (hset : set < 2 ^ 31) : RunsP 2 M_X6_costOf [.ref (G.2.2 (8 * t)), .int (nI s), .int (nI set)] G μ (.int (nI (cost S s set))) := by
  have hn := hS.vs.n16
  have h16 := pow16 hS.vs
  have hc := chain_ltn hs
  have had := adn_le (chain S s) set
  refine Runs.go RX6 rfl (by decide) [(0, .ref (G.2.2 (8 * t))), (1, .int (nI s)), (2, .int (nI set))] (Nat.le_of_ble_eq_true rfl) rfl (fun X hF => ?_)
  refine V.aload_n (pc := 0) 0 dX6_costOf_0 rfl ?_
  refine V.aload_n (pc := 1) 0 dX6_costOf_1 rfl ?_
  refine gf_X6_38 (pc := 2) t ht dX6_costOf_2 ?_
  refine V.iload_n (pc := 5) 1 dX6_costOf_5 rfl ?_
  refine V.iald (pc := 6) (k := 8 * t + 4) (n := 16) (v := nI (chain S s)) (by omega) (cell_Si ht ⟨by decide, by decide⟩) s (by omega) (by decide) dX6_costOf_6 (hS.chain s (by omega)) ?_
  refine V.iload_n (pc := 7) 2 dX6_costOf_7 rfl ?_
  refine V.iconst (pc := 8) (v := (-1)) dX6_costOf_8 (by decide) ?_
  refine V.ixor (pc := 9) (v := nI set ^^^ (-1)) dX6_costOf_9 rfl ?_
  refine V.iand (pc := 10) (v := nI (adn (chain S s) set)) dX6_costOf_10 (nn_adn _ _) ?_
  refine cp_X6_84 (pc := 11) t ht dX6_costOf_11 (ok_X6_lengthOf t ht S hS (adn (chain S s) set) (by omega)) (by omega) (Nat.le_of_ble_eq_true rfl) ?_
  exact V.iret (pc := 14) hF dX6_costOf_14 ⟨rfl, rfl⟩
theorem ok_X6_fitsInto {G : Gx} {μ : Mu} (t : Nat) (ht : t < 10) (S : TS) (hS : St μ t S) (s set : Nat) (hs : s < S.n) (hset : set < 65536) : RunsP 2 M_X6_fitsInto [.ref (G.2.2 (8 * t)), .int (nI s), .int (nI set)] G μ (.int (nI (fitsB S s set).toNat)) := by
  have hn := hS.vs.n16
  have h16 := pow16 hS.vs
  have hc := chain_ltn hs
  have hor : set ||| chain S s < 2 ^ 16 := or_lt hset (by omega)
  have hB := hS.vs.B9
  have hln := lenOf_le hS.vs (set ||| chain S s)
  refine Runs.go RX6 rfl (by decide) [(0, .ref (G.2.2 (8 * t))), (1, .int (nI s)), (2, .int (nI set))] (Nat.le_of_ble_eq_true rfl) rfl (fun X hF => ?_)
  refine V.iload_n (pc := 0) 1 dX6_fitsInto_0 rfl ?_
  refine V.iload_n (pc := 1) 2 dX6_fitsInto_1 rfl ?_
  refine cp_X6_65 (pc := 2) dX6_fitsInto_2 (ok_X8_isIn s set (by omega) (by omega)) (by omega) (Nat.le_of_ble_eq_true rfl) ?_
  refine V.ifB_ne (pc := 5) 31 dX6_fitsInto_5 (by decide) (fun h_5 => ?_) (fun h_5 => ?_)
  · refine V.iconst (pc := 31) (v := nI 0) dX6_fitsInto_31 (by decide) ?_
    exact V.zret (pc := 32) hF dX6_fitsInto_32 (by decide) ⟨by rw [fitsB, h_5]; rfl, rfl⟩
  · refine V.aload_n (pc := 8) 0 dX6_fitsInto_8 rfl ?_
    refine V.iload_n (pc := 9) 2 dX6_fitsInto_9 rfl ?_
    refine V.aload_n (pc := 10) 0 dX6_fitsInto_10 rfl ?_
    refine gf_X6_38 (pc := 11) t ht dX6_fitsInto_11 ?_
    refine V.iload_n (pc := 14) 1 dX6_fitsInto_14 rfl ?_
    refine V.iald (pc := 15) (k := 8 * t + 4) (n := 16) (v := nI (chain S s)) (by omega) (cell_Si ht ⟨by decide, by decide⟩) s (by omega) (by decide) dX6_fitsInto_15 (hS.chain s (by omega)) ?_
    refine V.ior (pc := 16) (v := nI (set ||| (chain S s))) dX6_fitsInto_16 (nn_or _ _) ?_
    refine cp_X6_84 (pc := 17) t ht dX6_fitsInto_17 (ok_X6_lengthOf t ht S hS (set ||| (chain S s)) (by omega)) (by omega) (Nat.le_of_ble_eq_true rfl) ?_
    refine V.aload_n (pc := 20) 0 dX6_fitsInto_20 rfl ?_
    refine gf_X6_18 (pc := 21) t ht (v := nI S.B) dX6_fitsInto_21 hS.B ?_
    refine V.icmpN_gt (pc := 24) 31 dX6_fitsInto_24 (by decide) (by omega) (by omega) (fun h_24 => ?_) (fun h_24 => ?_)
    · refine V.iconst (pc := 31) (v := nI 0) dX6_fitsInto_31 (by decide) ?_
      exact V.zret (pc := 32) hF dX6_fitsInto_32 (by decide) ⟨by rw [fitsB, h_5, decide_eq_false (by omega)]; rfl, rfl⟩
    · refine V.iconst (pc := 27) (v := nI 1) dX6_fitsInto_27 (by decide) ?_
      refine V.goto (pc := 28) 32 dX6_fitsInto_28 (by decide) ?_
      exact V.zret (pc := 32) hF dX6_fitsInto_32 (by decide) ⟨by rw [fitsB, h_5, decide_eq_true h_24]; rfl, rfl⟩
theorem ok_X6_everySentence {G : Gx} {μ : Mu} (t : Nat) (ht : t < 10) (S : TS) (hS : St μ t S)  : RunsP 0 M_X6_everySentence [.ref (G.2.2 (8 * t))] G μ (.int (nI (2 ^ S.n - 1))) := by
  have hn := hS.vs.n16
  have hp := Nat.two_pow_pos S.n
  refine Runs.go RX6 rfl (by decide) [(0, .ref (G.2.2 (8 * t)))] (Nat.le_of_ble_eq_true rfl) rfl (fun X hF => ?_)
  refine V.iconst (pc := 0) (v := nI 1) dX6_everySentence_0 (by decide) ?_
  refine V.aload_n (pc := 1) 0 dX6_everySentence_1 rfl ?_
  refine gf_X6_9 (pc := 2) t ht (v := nI S.n) dX6_everySentence_2 hS.n ?_
  refine V.ishl (pc := 5) (v := nI (2 ^ S.n)) dX6_everySentence_5 (nn_shl1 (by omega)) ?_
  refine V.iconst (pc := 6) (v := nI 1) dX6_everySentence_6 (by decide) ?_
  refine V.isub (pc := 7) (v := nI ((2 ^ S.n) - 1)) dX6_everySentence_7 (pk_sub (by omega)) ?_
  exact V.iret (pc := 8) hF dX6_everySentence_8 ⟨rfl, rfl⟩
theorem ok_X6_leans {G : Gx} {μ : Mu} (t : Nat) (ht : t < 10) (L w : Nat) (hL : μ.2 (8 * t) 4 = lN L) (hLb : L < 2 ^ 63) (hw : w < 64) : RunsP 0 M_X6_leans [.ref (G.2.2 (8 * t)), .int (nI w)] G μ (.int (nI (L.testBit w).toNat)) := by
  have hsh := shr_le L w
  have ha1 : L >>> w &&& 1 ≤ 1 := Nat.and_le_right
  refine Runs.go RX6 rfl (by decide) [(0, .ref (G.2.2 (8 * t))), (1, .int (nI w))] (Nat.le_of_ble_eq_true rfl) rfl (fun X hF => ?_)
  refine V.aload_n (pc := 0) 0 dX6_leans_0 rfl ?_
  refine gf_X6_24 (pc := 1) t ht (v := lN L) dX6_leans_1 hL ?_
  refine V.iload_n (pc := 4) 1 dX6_leans_4 rfl ?_
  refine V.lushr (pc := 5) (v := lN (L >>> w)) dX6_leans_5 (ll_ushr (by omega) (by omega)) ?_
  refine V.lconst (pc := 6) (v := lN 1) dX6_leans_6 (by decide) ?_
  refine V.land (pc := 7) (v := lN ((L >>> w) &&& 1)) dX6_leans_7 (ll_and _ _) ?_
  refine V.lconst (pc := 8) (v := lN 0) dX6_leans_8 (by decide) ?_
  refine V.lcmpN_eq (pc := 9) 17 dX6_leans_9 dX6_leans_10 (by decide) (by omega) (by omega) (fun h_9 => ?_) (fun h_9 => ?_)
  · refine V.iconst (pc := 17) (v := nI 0) dX6_leans_17 (by decide) ?_
    exact V.zret (pc := 18) hF dX6_leans_18 (by decide) ⟨by rw [tb1_0 h_9]; rfl, rfl⟩
  · refine V.iconst (pc := 13) (v := nI 1) dX6_leans_13 (by decide) ?_
    refine V.goto (pc := 14) 18 dX6_leans_14 (by decide) ?_
    exact V.zret (pc := 18) hF dX6_leans_18 (by decide) ⟨by rw [tb1_1 h_9]; rfl, rfl⟩
theorem ok_X6_sentencesWith {G : Gx} {μ : Mu} (t : Nat) (ht : t < 10) (S : TS) (hS : St μ t S) (w : Nat) (hw : w < 48) : RunsP 0 M_X6_sentencesWith [.ref (G.2.2 (8 * t)), .int (nI w)] G μ (.int (nI (stands S w))) := by
  have hn := hS.vs.n16
  have hu := pow48 hS.vs
  refine Runs.go RX6 rfl (by decide) [(0, .ref (G.2.2 (8 * t))), (1, .int (nI w))] (Nat.le_of_ble_eq_true rfl) rfl (fun X hF => ?_)
  refine V.iconst (pc := 0) (v := nI 0) dX6_sentencesWith_0 (by decide) ?_
  refine V.istore_n (pc := 1) (lv' := [(0, .ref (G.2.2 (8 * t))), (1, .int (nI w)), (2, .int (nI 0))]) dX6_sentencesWith_1 (by decide) rfl ?_
  refine V.iconst (pc := 2) (v := nI 0) dX6_sentencesWith_2 (by decide) ?_
  refine V.istore_n (pc := 3) (lv' := [(0, .ref (G.2.2 (8 * t))), (1, .int (nI w)), (2, .int (nI 0)), (3, .int (nI 0))]) dX6_sentencesWith_3 (by decide) rfl ?_
  have L4 : ∀ (n_ : Nat) (i : Nat), (i ≤ S.n) → S.n - i < n_ → V G RX6 cX6_sentencesWith 4 0 X 4 [(0, .ref (G.2.2 (8 * t))), (1, .int (nI w)), (2, .int (nI (stUp S w i))), (3, .int (nI i))] [] μ := by
    intro n_
    induction n_ with
    | zero => intro i hi hm_; exact absurd hm_ (Nat.not_lt_zero _)
    | succ n_ ih4 =>
      intro i hi hm_
      refine V.iload_n (pc := 4) 3 dX6_sentencesWith_4 rfl ?_
      refine V.aload_n (pc := 5) 0 dX6_sentencesWith_5 rfl ?_
      refine gf_X6_9 (pc := 6) t ht (v := nI S.n) dX6_sentencesWith_6 hS.n ?_
      refine V.icmpN_ge (pc := 9) 32 dX6_sentencesWith_9 (by decide) (by omega) (by omega) (fun h_9 => ?_) (fun h_9 => ?_)
      · refine V.iload_n (pc := 32) 2 dX6_sentencesWith_32 rfl ?_
        exact V.iret (pc := 33) hF dX6_sentencesWith_33 ⟨by rw [show i = S.n from by omega]; rfl, rfl⟩
      · have hb := (hS.vs.sen (i := i) h_9).2.2.2.2.2
        refine V.iload_n (pc := 12) 2 dX6_sentencesWith_12 rfl ?_
        refine V.aload_n (pc := 13) 0 dX6_sentencesWith_13 rfl ?_
        refine gf_X6_41 (pc := 14) t ht dX6_sentencesWith_14 ?_
        refine V.iload_n (pc := 17) 3 dX6_sentencesWith_17 rfl ?_
        refine V.lald (pc := 18) (k := 8 * t + 5) (n := 16) (v := lN (S.bag i)) (by omega) (cell_Sj ht rfl) i (by omega) (by decide) dX6_sentencesWith_18 (hS.bag i (by omega)) ?_
        refine V.iload_n (pc := 19) 1 dX6_sentencesWith_19 rfl ?_
        refine V.lushr (pc := 20) (v := lN ((S.bag i) >>> w)) dX6_sentencesWith_20 (ll_ushr (by omega) (by omega)) ?_
        refine V.l2i (pc := 21) (v := nI ((S.bag i) >>> w)) dX6_sentencesWith_21 (lN_i _) ?_
        refine V.iconst (pc := 22) (v := nI 1) dX6_sentencesWith_22 (by decide) ?_
        refine V.iand (pc := 23) (v := nI (((S.bag i) >>> w) &&& 1)) dX6_sentencesWith_23 (nn_and _ _) ?_
        refine V.iadd (pc := 24) (v := nI (stUp S w i + (((S.bag i) >>> w) &&& 1))) dX6_sentencesWith_24 (nI_add _ _) ?_
        refine V.istore_n (pc := 25) (lv' := [(0, .ref (G.2.2 (8 * t))), (1, .int (nI w)), (2, .int (nI (stUp S w i + (((S.bag i) >>> w) &&& 1)))), (3, .int (nI i))]) dX6_sentencesWith_25 (by decide) rfl ?_
        refine V.iinc (pc := 26) (v := nI (i + 1)) (lv' := [(0, .ref (G.2.2 (8 * t))), (1, .int (nI w)), (2, .int (nI (stUp S w i + (((S.bag i) >>> w) &&& 1)))), (3, .int (nI (i + 1)))]) 3 dX6_sentencesWith_26 rfl (nn_inc _) (by decide) rfl ?_
        refine V.goto (pc := 29) 4 dX6_sentencesWith_29 (by decide) ?_
        have e_2 : nI (stUp S w i + (((S.bag i) >>> w) &&& 1)) = nI (stUp S w (i + 1)) := congrArg nI (by rw [tb1]; rfl)
        refine V.lvs (lv' := [(0, .ref (G.2.2 (8 * t))), (1, .int (nI w)), (2, .int (nI (stUp S w (i + 1)))), (3, .int (nI (i + 1)))]) (congrArg (fun z => ([(0, .ref (G.2.2 (8 * t))), (1, .int (nI w)), (2, .int z), (3, .int (nI (i + 1)))] : List (Nat × Value))) e_2) ?_
        exact ih4 (i + 1) (by omega) (by omega)
  have e_2 : nI 0 = nI (stUp S w 0) := rfl
  refine V.lvs (lv' := [(0, .ref (G.2.2 (8 * t))), (1, .int (nI w)), (2, .int (nI (stUp S w 0))), (3, .int (nI 0))]) (congrArg (fun z => ([(0, .ref (G.2.2 (8 * t))), (1, .int (nI w)), (2, .int z), (3, .int (nI 0))] : List (Nat × Value))) e_2) ?_
  exact L4 _ 0 (by omega) (Nat.lt_succ_self _)
theorem ok_X6_allThatNeed {G : Gx} {μ : Mu} (t : Nat) (ht : t < 10) (S : TS) (hS : St μ t S) (s : Nat) (hs : s < S.n) : RunsP 1 M_X6_allThatNeed [.ref (G.2.2 (8 * t)), .int (nI s)] G μ (.int (nI (anUp S s S.n))) := by
  have hn := hS.vs.n16
  have h16 := pow16 hS.vs
  refine Runs.go RX6 rfl (by decide) [(0, .ref (G.2.2 (8 * t))), (1, .int (nI s))] (Nat.le_of_ble_eq_true rfl) rfl (fun X hF => ?_)
  refine V.iconst (pc := 0) (v := nI 0) dX6_allThatNeed_0 (by decide) ?_
  refine V.istore_n (pc := 1) (lv' := [(0, .ref (G.2.2 (8 * t))), (1, .int (nI s)), (2, .int (nI 0))]) dX6_allThatNeed_1 (by decide) rfl ?_
  refine V.iconst (pc := 2) (v := nI 0) dX6_allThatNeed_2 (by decide) ?_
  refine V.istore_n (pc := 3) (lv' := [(0, .ref (G.2.2 (8 * t))), (1, .int (nI s)), (2, .int (nI 0)), (3, .int (nI 0))]) dX6_allThatNeed_3 (by decide) rfl ?_
  have L4 : ∀ (n_ : Nat) (i : Nat), (i ≤ S.n) → S.n - i < n_ → V G RX6 cX6_allThatNeed 4 1 X 4 [(0, .ref (G.2.2 (8 * t))), (1, .int (nI s)), (2, .int (nI (anUp S s i))), (3, .int (nI i))] [] μ := by
    intro n_
    induction n_ with
    | zero => intro i hi hm_; exact absurd hm_ (Nat.not_lt_zero _)
    | succ n_ ih4 =>
      intro i hi hm_
      refine V.iload_n (pc := 4) 3 dX6_allThatNeed_4 rfl ?_
      refine V.aload_n (pc := 5) 0 dX6_allThatNeed_5 rfl ?_
      refine gf_X6_9 (pc := 6) t ht (v := nI S.n) dX6_allThatNeed_6 hS.n ?_
      refine V.icmpN_ge (pc := 9) 37 dX6_allThatNeed_9 (by decide) (by omega) (by omega) (fun h_9 => ?_) (fun h_9 => ?_)
      · refine V.iload_n (pc := 37) 2 dX6_allThatNeed_37 rfl ?_
        exact V.iret (pc := 38) hF dX6_allThatNeed_38 ⟨by rw [show i = S.n from by omega], rfl⟩
      · have hc := chain_ltn h_9
        refine V.iload_n (pc := 12) 1 dX6_allThatNeed_12 rfl ?_
        refine V.aload_n (pc := 13) 0 dX6_allThatNeed_13 rfl ?_
        refine gf_X6_38 (pc := 14) t ht dX6_allThatNeed_14 ?_
        refine V.iload_n (pc := 17) 3 dX6_allThatNeed_17 rfl ?_
        refine V.iald (pc := 18) (k := 8 * t + 4) (n := 16) (v := nI (chain S i)) (by omega) (cell_Si ht ⟨by decide, by decide⟩) i (by omega) (by decide) dX6_allThatNeed_18 (hS.chain i (by omega)) ?_
        refine cp_X6_65 (pc := 19) dX6_allThatNeed_19 (ok_X8_isIn s (chain S i) (by omega) (by omega)) (by omega) (Nat.le_of_ble_eq_true rfl) ?_
        refine V.ifB_eq (pc := 22) 31 dX6_allThatNeed_22 (by decide) (fun h_22 => ?_) (fun h_22 => ?_)
        · refine V.iinc (pc := 31) (v := nI (i + 1)) (lv' := [(0, .ref (G.2.2 (8 * t))), (1, .int (nI s)), (2, .int (nI (anUp S s i))), (3, .int (nI (i + 1)))]) 3 dX6_allThatNeed_31 rfl (nn_inc _) (by decide) rfl ?_
          refine V.goto (pc := 34) 4 dX6_allThatNeed_34 (by decide) ?_
          have e_2 : nI (anUp S s i) = nI (anUp S s (i + 1)) := congrArg nI (anUp_f h_22)
          refine V.lvs (lv' := [(0, .ref (G.2.2 (8 * t))), (1, .int (nI s)), (2, .int (nI (anUp S s (i + 1)))), (3, .int (nI (i + 1)))]) (congrArg (fun z => ([(0, .ref (G.2.2 (8 * t))), (1, .int (nI s)), (2, .int z), (3, .int (nI (i + 1)))] : List (Nat × Value))) e_2) ?_
          exact ih4 (i + 1) (by omega) (by omega)
        · refine V.iload_n (pc := 25) 2 dX6_allThatNeed_25 rfl ?_
          refine V.iconst (pc := 26) (v := nI 1) dX6_allThatNeed_26 (by decide) ?_
          refine V.iload_n (pc := 27) 3 dX6_allThatNeed_27 rfl ?_
          refine V.ishl (pc := 28) (v := nI (2 ^ i)) dX6_allThatNeed_28 (nn_shl1 (by omega)) ?_
          refine V.ior (pc := 29) (v := nI ((anUp S s i) ||| (2 ^ i))) dX6_allThatNeed_29 (nn_or _ _) ?_
          refine V.istore_n (pc := 30) (lv' := [(0, .ref (G.2.2 (8 * t))), (1, .int (nI s)), (2, .int (nI ((anUp S s i) ||| (2 ^ i)))), (3, .int (nI i))]) dX6_allThatNeed_30 (by decide) rfl ?_
          refine V.iinc (pc := 31) (v := nI (i + 1)) (lv' := [(0, .ref (G.2.2 (8 * t))), (1, .int (nI s)), (2, .int (nI ((anUp S s i) ||| (2 ^ i)))), (3, .int (nI (i + 1)))]) 3 dX6_allThatNeed_31 rfl (nn_inc _) (by decide) rfl ?_
          refine V.goto (pc := 34) 4 dX6_allThatNeed_34 (by decide) ?_
          have e_2 : nI ((anUp S s i) ||| (2 ^ i)) = nI (anUp S s (i + 1)) := congrArg nI (anUp_t h_22)
          refine V.lvs (lv' := [(0, .ref (G.2.2 (8 * t))), (1, .int (nI s)), (2, .int (nI (anUp S s (i + 1)))), (3, .int (nI (i + 1)))]) (congrArg (fun z => ([(0, .ref (G.2.2 (8 * t))), (1, .int (nI s)), (2, .int z), (3, .int (nI (i + 1)))] : List (Nat × Value))) e_2) ?_
          exact ih4 (i + 1) (by omega) (by omega)
  have e_2 : nI 0 = nI (anUp S s 0) := rfl
  refine V.lvs (lv' := [(0, .ref (G.2.2 (8 * t))), (1, .int (nI s)), (2, .int (nI (anUp S s 0))), (3, .int (nI 0))]) (congrArg (fun z => ([(0, .ref (G.2.2 (8 * t))), (1, .int (nI s)), (2, .int z), (3, .int (nI 0))] : List (Nat × Value))) e_2) ?_
  exact L4 _ 0 (by omega) (Nat.lt_succ_self _)
theorem ok_X6_isWhole {G : Gx} {μ : Mu} (t : Nat) (ht : t < 10) (S : TS) (hS : St μ t S) (set : Nat) (hset : set < 2 ^ 31) : RunsP 1 M_X6_isWhole [.ref (G.2.2 (8 * t)), .int (nI set)] G μ (.int (nI (whole S set).toNat)) := by
  have hn := hS.vs.n16
  have h16 := pow16 hS.vs
  refine Runs.go RX6 rfl (by decide) [(0, .ref (G.2.2 (8 * t))), (1, .int (nI set))] (Nat.le_of_ble_eq_true rfl) rfl (fun X hF => ?_)
  refine V.iconst (pc := 0) (v := nI 0) dX6_isWhole_0 (by decide) ?_
  refine V.istore_n (pc := 1) (lv' := [(0, .ref (G.2.2 (8 * t))), (1, .int (nI set)), (2, .int (nI 0))]) dX6_isWhole_1 (by decide) rfl ?_
  have L2 : ∀ (n_ : Nat) (i : Nat), (i ≤ S.n) → (wholeUp S set i = true) → S.n - i < n_ → V G RX6 cX6_isWhole 3 1 X 2 [(0, .ref (G.2.2 (8 * t))), (1, .int (nI set)), (2, .int (nI i))] [] μ := by
    intro n_
    induction n_ with
    | zero => intro i hi hw hm_; exact absurd hm_ (Nat.not_lt_zero _)
    | succ n_ ih2 =>
      intro i hi hw hm_
      refine V.iload_n (pc := 2) 2 dX6_isWhole_2 rfl ?_
      refine V.aload_n (pc := 3) 0 dX6_isWhole_3 rfl ?_
      refine gf_X6_9 (pc := 4) t ht (v := nI S.n) dX6_isWhole_4 hS.n ?_
      refine V.icmpN_ge (pc := 7) 39 dX6_isWhole_7 (by decide) (by omega) (by omega) (fun h_7 => ?_) (fun h_7 => ?_)
      · refine V.iconst (pc := 39) (v := nI 1) dX6_isWhole_39 (by decide) ?_
        exact V.zret (pc := 40) hF dX6_isWhole_40 (by decide) ⟨by rw [whole, ← show i = S.n from by omega, hw]; rfl, rfl⟩
      · have hc := chain_ltn h_7
        have had := adn_le (chain S i) set
        refine V.iload_n (pc := 10) 2 dX6_isWhole_10 rfl ?_
        refine V.iload_n (pc := 11) 1 dX6_isWhole_11 rfl ?_
        refine cp_X6_65 (pc := 12) dX6_isWhole_12 (ok_X8_isIn i set (by omega) (by omega)) (by omega) (Nat.le_of_ble_eq_true rfl) ?_
        refine V.ifB_eq (pc := 15) 33 dX6_isWhole_15 (by decide) (fun h_15 => ?_) (fun h_15 => ?_)
        · refine V.iinc (pc := 33) (v := nI (i + 1)) (lv' := [(0, .ref (G.2.2 (8 * t))), (1, .int (nI set)), (2, .int (nI (i + 1)))]) 2 dX6_isWhole_33 rfl (nn_inc _) (by decide) rfl ?_
          refine V.goto (pc := 36) 2 dX6_isWhole_36 (by decide) ?_
          exact ih2 (i + 1) (by omega) (by rw [wholeUp, hw, h_15]; rfl) (by omega)
        · refine V.aload_n (pc := 18) 0 dX6_isWhole_18 rfl ?_
          refine gf_X6_38 (pc := 19) t ht dX6_isWhole_19 ?_
          refine V.iload_n (pc := 22) 2 dX6_isWhole_22 rfl ?_
          refine V.iald (pc := 23) (k := 8 * t + 4) (n := 16) (v := nI (chain S i)) (by omega) (cell_Si ht ⟨by decide, by decide⟩) i (by omega) (by decide) dX6_isWhole_23 (hS.chain i (by omega)) ?_
          refine V.iload_n (pc := 24) 1 dX6_isWhole_24 rfl ?_
          refine V.iconst (pc := 25) (v := (-1)) dX6_isWhole_25 (by decide) ?_
          refine V.ixor (pc := 26) (v := nI set ^^^ (-1)) dX6_isWhole_26 rfl ?_
          refine V.iand (pc := 27) (v := nI (adn (chain S i) set)) dX6_isWhole_27 (nn_adn _ _) ?_
          refine V.ifN_eq (pc := 28) 33 dX6_isWhole_28 (by decide) (by omega) (fun h_28 => ?_) (fun h_28 => ?_)
          · refine V.iinc (pc := 33) (v := nI (i + 1)) (lv' := [(0, .ref (G.2.2 (8 * t))), (1, .int (nI set)), (2, .int (nI (i + 1)))]) 2 dX6_isWhole_33 rfl (nn_inc _) (by decide) rfl ?_
            refine V.goto (pc := 36) 2 dX6_isWhole_36 (by decide) ?_
            exact ih2 (i + 1) (by omega) (by rw [wholeUp, hw, h_15, h_28]; rfl) (by omega)
          · refine V.iconst (pc := 31) (v := nI 0) dX6_isWhole_31 (by decide) ?_
            exact V.zret (pc := 32) hF dX6_isWhole_32 (by decide) ⟨by rw [whole, show S.n = i + 1 + (S.n - (i + 1)) by omega, wholeUp_no (by rw [wholeUp, hw, h_15]; simp; omega)]; rfl, rfl⟩
  exact L2 _ 0 (by omega) rfl (Nat.lt_succ_self _)
