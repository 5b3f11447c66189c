/-! sets of sentences: more of them are longer, cover more -/
theorem bagUp_bit {S : TS} (set w : Nat) : ∀ i, (bagUp S set i).testBit w = true ↔ ∃ s, s < i ∧ set.testBit s = true ∧ (S.bag s).testBit w = true
  | 0 => by rw [bagUp, Nat.zero_testBit]; exact ⟨fun h => absurd h (by decide), fun ⟨s, h, _⟩ => absurd h (by omega)⟩
  | i + 1 => by
    have ih := bagUp_bit (S := S) set w i
    cases hb : set.testBit i with
    | false =>
      rw [← bagUp_f hb, ih]
      refine ⟨fun ⟨s, h1, h2⟩ => ⟨s, by omega, h2⟩, fun ⟨s, h1, h2, h3⟩ => ⟨s, ?_, h2, h3⟩⟩
      rcases Nat.lt_or_ge s i with e | e
      · exact e
      · have : s = i := by omega
        subst this
        rw [hb] at h2
        exact absurd h2 (by decide)
    | true =>
      rw [← bagUp_t hb, Nat.testBit_or, Bool.or_eq_true, ih]
      refine ⟨fun h => ?_, fun ⟨s, h1, h2, h3⟩ => ?_⟩
      · rcases h with ⟨s, h1, h2⟩ | h
        · exact ⟨s, by omega, h2⟩
        · exact ⟨i, by omega, hb, h⟩
      · rcases Nat.lt_or_ge s i with e | e
        · exact Or.inl ⟨s, e, h2, h3⟩
        · have : s = i := by omega
          subst this
          exact Or.inr h3
theorem bagOf_bit {S : TS} (set w : Nat) : (bagOf S set).testBit w = true ↔ ∃ s, s < S.n ∧ set.testBit s = true ∧ (S.bag s).testBit w = true := bagUp_bit set w S.n
theorem wUp_mono {S : TS} {a b : Nat} (h : ∀ w, a.testBit w = true → b.testBit w = true) : ∀ i, wUp S a i ≤ wUp S b i
  | 0 => Nat.le_refl _
  | i + 1 => by
    have ih := wUp_mono (S := S) h i
    cases ha : a.testBit i with
    | false =>
      rw [← wUp_f ha]
      cases hb : b.testBit i with
      | false => rw [← wUp_f hb]; exact ih
      | true => rw [← wUp_t hb]; omega
    | true => rw [← wUp_t ha, ← wUp_t (h i ha)]; omega
theorem wOf_mono {S : TS} {a b : Nat} (h : ∀ w, a.testBit w = true → b.testBit w = true) : wOf S a ≤ wOf S b := wUp_mono h S.u
theorem wUp_cong {S : TS} {a b : Nat} (h : ∀ w, a.testBit w = b.testBit w) : ∀ i, wUp S a i = wUp S b i
  | 0 => rfl
  | i + 1 => by rw [wUp, wUp, h i, wUp_cong h i]
theorem wUp_or {S : TS} {a b : Nat} (h : ∀ w, ¬ (a.testBit w = true ∧ b.testBit w = true)) : ∀ i, wUp S (a ||| b) i = wUp S a i + wUp S b i
  | 0 => rfl
  | i + 1 => by
    have ih := wUp_or (S := S) h i
    cases ha : a.testBit i with
    | false =>
      cases hb : b.testBit i with
      | false => rw [← wUp_f ha, ← wUp_f hb, ← wUp_f (by rw [Nat.testBit_or, ha, hb]; rfl)]; exact ih
      | true => rw [← wUp_f ha, ← wUp_t hb, ← wUp_t (by rw [Nat.testBit_or, ha, hb]; rfl)]; omega
    | true =>
      cases hb : b.testBit i with
      | false => rw [← wUp_t ha, ← wUp_f hb, ← wUp_t (by rw [Nat.testBit_or, ha]; rfl)]; omega
      | true => exact absurd ⟨ha, hb⟩ (h i)
theorem wOf_or {S : TS} (a b : Nat) : wOf S (a ||| b) = wOf S a + wOf S (adn b a) := by
  have e : a ||| b = a ||| adn b a := by
    apply Nat.eq_of_testBit_eq
    intro i
    rw [Nat.testBit_or, Nat.testBit_or, adn_bit]
    cases a.testBit i <;> cases b.testBit i <;> rfl
  rw [e]
  exact wUp_or (fun w => by rw [adn_bit]; cases a.testBit w <;> simp) S.u
theorem lenUp_mono {S : TS} {a b : Nat} (h : ∀ i, a.testBit i = true → b.testBit i = true) : ∀ i, lenUp S a i ≤ lenUp S b i
  | 0 => Nat.le_refl _
  | i + 1 => by
    have ih := lenUp_mono (S := S) h i
    cases ha : a.testBit i with
    | false =>
      rw [← lenUp_f ha]
      cases hb : b.testBit i with
      | false => rw [← lenUp_f hb]; exact ih
      | true => rw [← lenUp_t hb]; omega
    | true => rw [← lenUp_t ha, ← lenUp_t (h i ha)]; omega
theorem lenOf_mono {S : TS} {a b : Nat} (h : ∀ i, a.testBit i = true → b.testBit i = true) : lenOf S a ≤ lenOf S b := lenUp_mono h S.n
theorem lenUp_new {S : TS} (hv : VS S) {a b s : Nat} (h : ∀ i, a.testBit i = true → b.testBit i = true) (ha : a.testBit s = false) (hb : b.testBit s = true) : ∀ m, m ≤ S.n → s < m → lenUp S a m + 1 ≤ lenUp S b m
  | 0, _, hs => absurd hs (by omega)
  | i + 1, hm, hs => by
    by_cases e : s = i
    · subst e
      have h1 := lenUp_mono (S := S) h s
      have h2 := (hv.sen (i := s) (by omega)).1
      rw [← lenUp_f ha, ← lenUp_t hb]
      omega
    · have ih := lenUp_new hv h ha hb i (by omega) (by omega)
      cases ha2 : a.testBit i with
      | false =>
        rw [← lenUp_f ha2]
        cases hb2 : b.testBit i with
        | false => rw [← lenUp_f hb2]; exact ih
        | true => rw [← lenUp_t hb2]; omega
      | true => rw [← lenUp_t ha2, ← lenUp_t (h i ha2)]; omega
theorem bits_eq {a b n : Nat} (ha : a < 2 ^ n) (hb : b < 2 ^ n) (h : ∀ i, i < n → a.testBit i = b.testBit i) : a = b := by
  apply Nat.eq_of_testBit_eq
  intro i
  rcases Nat.lt_or_ge i n with e | e
  · exact h i e
  · rw [Nat.testBit_lt_two_pow (Nat.lt_of_lt_of_le ha (two_le e)), Nat.testBit_lt_two_pow (Nat.lt_of_lt_of_le hb (two_le e))]
theorem bits_new {a b n : Nat} (ha : a < 2 ^ n) (hb : b < 2 ^ n) (h : ∀ i, a.testBit i = true → b.testBit i = true) (hne : b ≠ a) : ∃ s, s < n ∧ a.testBit s = false ∧ b.testBit s = true := by
  apply Classical.byContradiction
  intro hc
  apply hne
  refine bits_eq hb ha (fun i hi => ?_)
  cases h1 : a.testBit i with
  | true => exact h i h1
  | false =>
    cases h2 : b.testBit i with
    | false => rfl
    | true => exact absurd ⟨i, hi, h1, h2⟩ hc
theorem wholeUp_iff {S : TS} {set : Nat} : ∀ i, wholeUp S set i = true ↔ ∀ s, s < i → set.testBit s = true → adn (chain S s) set = 0
  | 0 => ⟨fun _ s h => absurd h (by omega), fun _ => rfl⟩
  | i + 1 => by
    rw [wholeUp, Bool.and_eq_true, wholeUp_iff i]
    refine ⟨fun ⟨h1, h2⟩ s hs hb => ?_, fun h => ⟨fun s hs => h s (by omega), ?_⟩⟩
    · rcases Nat.lt_or_ge s i with e | e
      · exact h1 s e hb
      · have : s = i := by omega
        subst this
        rw [hb] at h2
        simpa using h2
    · cases hb : set.testBit i with
      | false => rfl
      | true => simpa using h i (by omega) hb
theorem whole_iff {S : TS} {set : Nat} : whole S set = true ↔ ∀ s, s < S.n → set.testBit s = true → adn (chain S s) set = 0 := wholeUp_iff S.n
theorem adn_zero {a b : Nat} : adn a b = 0 ↔ ∀ i, a.testBit i = true → b.testBit i = true := by
  constructor
  · intro h i hi
    have h1 := adn_bit a b i
    rw [h, Nat.zero_testBit, hi] at h1
    cases hb : b.testBit i with
    | true => rfl
    | false => rw [hb] at h1; exact absurd h1 (by decide)
  · intro h
    apply Nat.eq_of_testBit_eq
    intro i
    rw [adn_bit, Nat.zero_testBit]
    cases ha : a.testBit i with
    | false => rfl
    | true => rw [h i ha]; rfl
theorem two_bit (i j : Nat) : (2 ^ i).testBit j = decide (i = j) := Nat.testBit_two_pow
/-! the orders -/
def k1 (o w c l : Nat) : Nat := if o = 0 then 50000 - c else if o = 1 then cntB w 16 else l
def k2 (o _w c l : Nat) : Nat := if o = 0 then l else if o = 1 then l else 50000 - c
def q1 (S : TS) (o x : Nat) : Nat := k1 o x (cov S x) (lenOf S x)
def q2 (S : TS) (o x : Nat) : Nat := k2 o x (cov S x) (lenOf S x)
def Bt (S : TS) (o x y : Nat) : Prop := q1 S o x < q1 S o y ∨ (q1 S o x = q1 S o y ∧ (q2 S o x < q2 S o y ∨ (q2 S o x = q2 S o y ∧ x < y)))
theorem Bt.trans {S : TS} {o x y z : Nat} (h : Bt S o x y) (h2 : Bt S o y z) : Bt S o x z := by
  unfold Bt at h h2 ⊢; omega
theorem Bt.tri (S : TS) (o x y : Nat) : Bt S o x y ∨ x = y ∨ Bt S o y x := by
  unfold Bt; omega
theorem Bt.irr {S : TS} {o x : Nat} (h : Bt S o x x) : False := by
  unfold Bt at h; omega
def cmpI (a b : Nat) : Int32 := if a < b then -1 else if a = b then 0 else 1
def lexI (a b c d : Nat) : Int32 := if cmpI a b = 0 then cmpI c d else cmpI a b
def rkI (S : TS) (o w c l b : Nat) : Int32 := if o = 0 then lexI (cov S b) c l (lenOf S b) else if o = 2 then lexI l (lenOf S b) (cov S b) c else lexI (cntB w 16) (cntB b 16) l (lenOf S b)
theorem cmpI_lt {a b : Nat} (h : a < b) : cmpI a b = -1 := by rw [cmpI, if_pos h]
theorem cmpI_eq (a : Nat) : cmpI a a = 0 := by rw [cmpI, if_neg (by omega), if_pos rfl]
theorem cmpI_gt {a b : Nat} (h : b < a) : cmpI a b = 1 := by rw [cmpI, if_neg (by omega), if_neg (by omega)]
theorem lexI_cases (a b c d : Nat) : (lexI a b c d = -1 ∧ (a < b ∨ (a = b ∧ c < d))) ∨ (lexI a b c d = 0 ∧ a = b ∧ c = d) ∨ (lexI a b c d = 1 ∧ (b < a ∨ (a = b ∧ d < c))) := by
  unfold lexI
  rcases Nat.lt_trichotomy a b with h | h | h
  · rw [cmpI_lt h, if_neg (by decide)]; exact Or.inl ⟨rfl, Or.inl h⟩
  · subst h
    rw [cmpI_eq, if_pos rfl]
    rcases Nat.lt_trichotomy c d with h | h | h
    · rw [cmpI_lt h]; exact Or.inl ⟨rfl, Or.inr ⟨rfl, h⟩⟩
    · subst h
      rw [cmpI_eq]; exact Or.inr (Or.inl ⟨rfl, rfl, rfl⟩)
    · rw [cmpI_gt h]; exact Or.inr (Or.inr ⟨rfl, Or.inr ⟨rfl, h⟩⟩)
  · rw [cmpI_gt h, if_neg (by decide)]; exact Or.inr (Or.inr ⟨rfl, Or.inl h⟩)
/-- what 'ranked' says -/
theorem rkI_cases {S : TS} (hv : VS S) {o w c l b : Nat} (ho : o < 3) (hc : c ≤ 48000) :
    (rkI S o w c l b = -1 ∧ (k1 o w c l < q1 S o b ∨ (k1 o w c l = q1 S o b ∧ k2 o w c l < q2 S o b))) ∨ (rkI S o w c l b = 0 ∧ k1 o w c l = q1 S o b ∧ k2 o w c l = q2 S o b) ∨ (rkI S o w c l b = 1 ∧ (q1 S o b < k1 o w c l ∨ (q1 S o b = k1 o w c l ∧ q2 S o b < k2 o w c l))) := by
  have hcb : cov S b ≤ 48000 := wOf_le hv _
  unfold rkI q1 q2 k1 k2
  rcases (show o = 0 ∨ o = 1 ∨ o = 2 by omega) with e | e | e
  · subst e
    simp only [if_true]
    rcases lexI_cases (cov S b) c l (lenOf S b) with ⟨h, h2⟩ | ⟨h, h2⟩ | ⟨h, h2⟩
    · exact Or.inl ⟨h, by omega⟩
    · exact Or.inr (Or.inl ⟨h, by omega, by omega⟩)
    · exact Or.inr (Or.inr ⟨h, by omega⟩)
  · subst e
    simp only [if_neg (show ¬ (1 : Nat) = 0 by decide), if_neg (show ¬ (1 : Nat) = 2 by decide), if_true]
    rcases lexI_cases (cntB w 16) (cntB b 16) l (lenOf S b) with ⟨h, h2⟩ | ⟨h, h2⟩ | ⟨h, h2⟩
    · exact Or.inl ⟨h, by omega⟩
    · exact Or.inr (Or.inl ⟨h, by omega, by omega⟩)
    · exact Or.inr (Or.inr ⟨h, by omega⟩)
  · subst e
    simp only [if_neg (show ¬ (2 : Nat) = 0 by decide), if_neg (show ¬ (2 : Nat) = 1 by decide), if_true]
    rcases lexI_cases l (lenOf S b) (cov S b) c with ⟨h, h2⟩ | ⟨h, h2⟩ | ⟨h, h2⟩
    · exact Or.inl ⟨h, by omega⟩
    · exact Or.inr (Or.inl ⟨h, by omega, by omega⟩)
    · exact Or.inr (Or.inr ⟨h, by omega⟩)
/-! candidates, and the best of them -/
def Cand (S : TS) (br mL lC x : Nat) : Prop := x < 2 ^ S.n ∧ whole S x = true ∧ (∀ s, br = s + 1 → x.testBit s = false) ∧ lenOf S x ≤ mL ∧ lC ≤ cov S x
def Best (S : TS) (o br mL lC : Nat) (C : Nat → Prop) (f : Bool) (b : Nat) : Prop := (f = false ∧ b = 0 ∧ ∀ x, C x → ¬ Cand S br mL lC x) ∨ (f = true ∧ C b ∧ Cand S br mL lC b ∧ ∀ x, C x → Cand S br mL lC x → x = b ∨ Bt S o b x)
/-- the sets that begin as w does -/
def Sub (S : TS) (at' w x : Nat) : Prop := x < 2 ^ S.n ∧ ∀ i, i < at' → x.testBit i = w.testBit i
theorem Best.skip {S : TS} {o br mL lC : Nat} {C D : Nat → Prop} {f : Bool} {b : Nat} (h : Best S o br mL lC C f b) (hd : ∀ x, D x → Cand S br mL lC x → f = true ∧ Bt S o b x) : Best S o br mL lC (fun x => C x ∨ D x) f b := by
  rcases h with ⟨h1, h2, h3⟩ | ⟨h1, h2, h3, h4⟩
  · refine Or.inl ⟨h1, h2, fun x hx hc => ?_⟩
    rcases hx with hx | hx
    · exact h3 x hx hc
    · have := (hd x hx hc).1
      rw [h1] at this
      exact absurd this (by decide)
  · refine Or.inr ⟨h1, Or.inl h2, h3, fun x hx hc => ?_⟩
    rcases hx with hx | hx
    · exact h4 x hx hc
    · exact Or.inr (hd x hx hc).2
theorem Best.take {S : TS} {o br mL lC : Nat} {C D : Nat → Prop} {f : Bool} {b w : Nat} (h : Best S o br mL lC C f b) (hw : D w) (hc : Cand S br mL lC w) (hd : ∀ x, D x → Cand S br mL lC x → x = w ∨ Bt S o w x) (hb : f = true → Bt S o w b) : Best S o br mL lC (fun x => C x ∨ D x) true w := by
  refine Or.inr ⟨rfl, Or.inr hw, hc, fun x hx hcx => ?_⟩
  rcases hx with hx | hx
  · rcases h with ⟨h1, h2, h3⟩ | ⟨h1, h2, h3, h4⟩
    · exact absurd hcx (h3 x hx)
    · rcases h4 x hx hcx with e | e
      · rw [e]; exact Or.inr (hb h1)
      · exact Or.inr ((hb h1).trans e)
  · exact hd x hx hcx
theorem Best.stay {S : TS} {o br mL lC : Nat} {C D : Nat → Prop} {f : Bool} {b w : Nat} (h : Best S o br mL lC C f b) (hw : D w) (hd : ∀ x, D x → Cand S br mL lC x → x = w ∨ Bt S o w x) (hf : f = true) (hb : w = b ∨ Bt S o b w) : Best S o br mL lC (fun x => C x ∨ D x) f b := by
  rcases h with ⟨h1, _⟩ | ⟨h1, h2, h3, h4⟩
  · rw [hf] at h1; exact absurd h1 (by decide)
  · refine Or.inr ⟨h1, Or.inl h2, h3, fun x hx hc => ?_⟩
    rcases hx with hx | hx
    · exact h4 x hx hc
    · rcases hd x hx hc with e | e
      · subst e
        rcases hb with e | e
        · exact Or.inl e
        · exact Or.inr e
      · rcases hb with e2 | e2
        · rw [← e2]; exact Or.inr e
        · exact Or.inr (e2.trans e)
theorem Best.cong {S : TS} {o br mL lC : Nat} {C D : Nat → Prop} {f : Bool} {b : Nat} (h : Best S o br mL lC C f b) (hd : ∀ x, x < 2 ^ S.n → (C x ↔ D x)) : Best S o br mL lC D f b := by
  rcases h with ⟨h1, h2, h3⟩ | ⟨h1, h2, h3, h4⟩
  · exact Or.inl ⟨h1, h2, fun x hx hc => h3 x ((hd x hc.1).mpr hx) hc⟩
  · exact Or.inr ⟨h1, (hd b h3.1).mp h2, h3, fun x hx hc => h4 x ((hd x hc.1).mpr hx) hc⟩
/-- all words of the sentences from the k-th before the end on, but the barred one's -/
def bfk (S : TS) (br : Nat) : Nat → Nat
  | 0 => 0
  | k + 1 => bfk S br k ||| (if br = S.n - (k + 1) + 1 then 0 else S.bag (S.n - (k + 1)))
def bfr (S : TS) (br s : Nat) : Nat := bfk S br (S.n - s)
theorem bfr_n (S : TS) (br : Nat) : bfr S br S.n = 0 := by rw [bfr, Nat.sub_self]; rfl
theorem bfr_s {S : TS} {br s : Nat} (hs : s < S.n) : bfr S br s = bfr S br (s + 1) ||| (if br = s + 1 then 0 else S.bag s) := by
  unfold bfr
  rw [show S.n - s = (S.n - (s + 1)) + 1 by omega, bfk, show S.n - (S.n - (s + 1) + 1) = s by omega]
theorem bfr_lt {S : TS} (hv : VS S) (br s : Nat) : bfr S br s < 2 ^ S.u := by
  unfold bfr
  have key : ∀ k, k ≤ S.n → bfk S br k < 2 ^ S.u := by
    intro k
    induction k with
    | zero => intro _; exact Nat.two_pow_pos _
    | succ k ih =>
      intro hk
      rw [bfk]
      refine or_lt (ih (by omega)) ?_
      split
      · exact Nat.two_pow_pos _
      · exact (hv.sen (i := S.n - (k + 1)) (by omega)).2.2.2.2.2
  exact key _ (by omega)
theorem bfr_bit {S : TS} {br s j w : Nat} (hj : j < S.n) (hs : s ≤ j) (hb : br ≠ j + 1) (h : (S.bag j).testBit w = true) : (bfr S br s).testBit w = true := by
  have key : ∀ d, s + d = j → (bfr S br s).testBit w = true := by
    intro d
    induction d generalizing s with
    | zero =>
      intro e
      have : s = j := by omega
      subst this
      rw [bfr_s hj, if_neg hb]
      exact bit_or_r h
    | succ d ih =>
      intro e
      rw [bfr_s (by omega)]
      exact bit_or_l (ih (by omega) (by omega))
  exact key (j - s) (by omega)
