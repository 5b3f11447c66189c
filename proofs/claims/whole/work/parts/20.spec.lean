/-! THE TEXT AS NUMBERS: n sentences, u unlike words, B budget, T taken by hand, L leaning (bits); of a sentence: len, cnt, fst, bag (bits); of a word: wt, nl letters, lt the letters -/
abbrev TS : Type := Nat × Nat × Nat × Nat × Nat × (Nat → Nat) × (Nat → Nat) × (Nat → Nat) × (Nat → Nat) × (Nat → Nat) × (Nat → Nat) × (Nat → Nat → Nat)
def TS.n (S : TS) : Nat := S.1
def TS.u (S : TS) : Nat := S.2.1
def TS.B (S : TS) : Nat := S.2.2.1
def TS.T (S : TS) : Nat := S.2.2.2.1
def TS.L (S : TS) : Nat := S.2.2.2.2.1
def TS.len (S : TS) : Nat → Nat := S.2.2.2.2.2.1
def TS.cnt (S : TS) : Nat → Nat := S.2.2.2.2.2.2.1
def TS.fst (S : TS) : Nat → Nat := S.2.2.2.2.2.2.2.1
def TS.bag (S : TS) : Nat → Nat := S.2.2.2.2.2.2.2.2.1
def TS.wt (S : TS) : Nat → Nat := S.2.2.2.2.2.2.2.2.2.1
def TS.nl (S : TS) : Nat → Nat := S.2.2.2.2.2.2.2.2.2.2.1
def TS.lt (S : TS) : Nat → Nat → Nat := S.2.2.2.2.2.2.2.2.2.2.2
def chain (S : TS) : Nat → Nat
  | 0 => 2 ^ 0
  | s + 1 => if S.L.testBit (S.fst (s + 1)) then chain S s ||| 2 ^ (s + 1) else 2 ^ (s + 1)
def spUp (S : TS) (w : Nat) : Nat → Nat
  | 0 => 0
  | k + 1 => spUp S w k ||| ((S.lt w k - 96) <<< (5 * k))
def spl (S : TS) (w : Nat) : Nat := spUp S w (S.nl w)
def bagUp (S : TS) (set : Nat) : Nat → Nat
  | 0 => 0
  | i + 1 => if set.testBit i then bagUp S set i ||| S.bag i else bagUp S set i
def bagOf (S : TS) (set : Nat) : Nat := bagUp S set S.n
def wUp (S : TS) (bg : Nat) : Nat → Nat
  | 0 => 0
  | i + 1 => if bg.testBit i then wUp S bg i + S.wt i else wUp S bg i
def wOf (S : TS) (bg : Nat) : Nat := wUp S bg S.u
def lenUp (S : TS) (set : Nat) : Nat → Nat
  | 0 => 0
  | i + 1 => if set.testBit i then lenUp S set i + S.len i else lenUp S set i
def lenOf (S : TS) (set : Nat) : Nat := lenUp S set S.n
def cov (S : TS) (set : Nat) : Nat := wOf S (bagOf S set)
def gain (S : TS) (s set : Nat) : Nat := wOf S (adn (bagOf S (chain S s)) (bagOf S set))
def cost (S : TS) (s set : Nat) : Nat := lenOf S (adn (chain S s) set)
def fitsB (S : TS) (s set : Nat) : Bool := !set.testBit s && decide (lenOf S (set ||| chain S s) ≤ S.B)
/-- all lengths together -/
def senUp (f : Nat → Nat) : Nat → Nat
  | 0 => 0
  | i + 1 => senUp f i + f i
/-- a text that can be -/
def VS (S : TS) : Prop := S.n ≤ 16 ∧ S.u ≤ 48 ∧ S.B ≤ 9999 ∧ S.T < 2 ^ S.n ∧ S.L < 2 ^ S.u ∧ (∀ i, i < S.n → 2 ≤ S.len i ∧ S.len i ≤ 330 ∧ 1 ≤ S.cnt i ∧ S.cnt i ≤ 30 ∧ S.fst i < S.u ∧ S.bag i < 2 ^ S.u) ∧ (∀ w, w < S.u → S.wt w ≤ 1000 ∧ 1 ≤ S.nl w ∧ S.nl w ≤ 10 ∧ ∀ k, k < S.nl w → 97 ≤ S.lt w k ∧ S.lt w k ≤ 122) ∧ senUp S.len S.n ≤ 600
theorem VS.n16 {S : TS} (h : VS S) : S.n ≤ 16 := h.1
theorem VS.u48 {S : TS} (h : VS S) : S.u ≤ 48 := h.2.1
theorem VS.B9 {S : TS} (h : VS S) : S.B ≤ 9999 := h.2.2.1
theorem VS.tk {S : TS} (h : VS S) : S.T < 2 ^ S.n := h.2.2.2.1
theorem VS.le {S : TS} (h : VS S) : S.L < 2 ^ S.u := h.2.2.2.2.1
theorem VS.sen {S : TS} (h : VS S) {i : Nat} (hi : i < S.n) : 2 ≤ S.len i ∧ S.len i ≤ 330 ∧ 1 ≤ S.cnt i ∧ S.cnt i ≤ 30 ∧ S.fst i < S.u ∧ S.bag i < 2 ^ S.u := h.2.2.2.2.2.1 i hi
theorem VS.wrd {S : TS} (h : VS S) {w : Nat} (hw : w < S.u) : S.wt w ≤ 1000 ∧ 1 ≤ S.nl w ∧ S.nl w ≤ 10 ∧ ∀ k, k < S.nl w → 97 ≤ S.lt w k ∧ S.lt w k ≤ 122 := h.2.2.2.2.2.2.1 w hw
theorem VS.tot {S : TS} (h : VS S) : senUp S.len S.n ≤ 600 := h.2.2.2.2.2.2.2
/-- the State block t holds the text S, but for its chains -/
def St0 (μ : Mu) (t : Nat) (S : TS) : Prop := μ.1 (8 * t) 0 = nI S.n ∧ μ.1 (8 * t) 1 = nI S.u ∧ μ.1 (8 * t) 2 = nI S.B ∧ μ.1 (8 * t) 3 = nI S.T ∧ μ.2 (8 * t) 4 = lN S.L ∧ (∀ i, i < S.n → μ.1 (8 * t + 1) i = nI (S.len i)) ∧ (∀ i, i < S.n → μ.1 (8 * t + 2) i = nI (S.cnt i)) ∧ (∀ i, i < S.n → μ.1 (8 * t + 3) i = nI (S.fst i)) ∧ (∀ i, i < S.n → μ.2 (8 * t + 5) i = lN (S.bag i)) ∧ (∀ w, w < S.u → μ.2 (8 * t + 6) w = lN (spl S w)) ∧ (∀ w, w < S.u → μ.1 (8 * t + 7) w = nI (S.wt w)) ∧ VS S
def Ch (μ : Mu) (t : Nat) (S : TS) : Prop := ∀ i, i < S.n → μ.1 (8 * t + 4) i = nI (chain S i)
def St (μ : Mu) (t : Nat) (S : TS) : Prop := St0 μ t S ∧ Ch μ t S
theorem St.n {μ : Mu} {t : Nat} {S : TS} (h : St μ t S) : μ.1 (8 * t) 0 = nI S.n := h.1.1
theorem St.u {μ : Mu} {t : Nat} {S : TS} (h : St μ t S) : μ.1 (8 * t) 1 = nI S.u := h.1.2.1
theorem St.B {μ : Mu} {t : Nat} {S : TS} (h : St μ t S) : μ.1 (8 * t) 2 = nI S.B := h.1.2.2.1
theorem St.T {μ : Mu} {t : Nat} {S : TS} (h : St μ t S) : μ.1 (8 * t) 3 = nI S.T := h.1.2.2.2.1
theorem St.L {μ : Mu} {t : Nat} {S : TS} (h : St μ t S) : μ.2 (8 * t) 4 = lN S.L := h.1.2.2.2.2.1
theorem St.len {μ : Mu} {t : Nat} {S : TS} (h : St μ t S) (i : Nat) (hi : i < S.n) : μ.1 (8 * t + 1) i = nI (S.len i) := h.1.2.2.2.2.2.1 i hi
theorem St.cnt {μ : Mu} {t : Nat} {S : TS} (h : St μ t S) (i : Nat) (hi : i < S.n) : μ.1 (8 * t + 2) i = nI (S.cnt i) := h.1.2.2.2.2.2.2.1 i hi
theorem St.fst {μ : Mu} {t : Nat} {S : TS} (h : St μ t S) (i : Nat) (hi : i < S.n) : μ.1 (8 * t + 3) i = nI (S.fst i) := h.1.2.2.2.2.2.2.2.1 i hi
theorem St.chain {μ : Mu} {t : Nat} {S : TS} (h : St μ t S) (i : Nat) (hi : i < S.n) : μ.1 (8 * t + 4) i = nI (chain S i) := h.2 i hi
theorem St.bag {μ : Mu} {t : Nat} {S : TS} (h : St μ t S) (i : Nat) (hi : i < S.n) : μ.2 (8 * t + 5) i = lN (S.bag i) := h.1.2.2.2.2.2.2.2.2.1 i hi
theorem St.sp {μ : Mu} {t : Nat} {S : TS} (h : St μ t S) (w : Nat) (hw : w < S.u) : μ.2 (8 * t + 6) w = lN (spl S w) := h.1.2.2.2.2.2.2.2.2.2.1 w hw
theorem St.wt {μ : Mu} {t : Nat} {S : TS} (h : St μ t S) (w : Nat) (hw : w < S.u) : μ.1 (8 * t + 7) w = nI (S.wt w) := h.1.2.2.2.2.2.2.2.2.2.2.1 w hw
theorem St.vs {μ : Mu} {t : Nat} {S : TS} (h : St μ t S) : VS S := h.1.2.2.2.2.2.2.2.2.2.2.2
/-! bounds -/
theorem two_le {a b : Nat} (h : a ≤ b) : 2 ^ a ≤ 2 ^ b := Nat.pow_le_pow_right (by decide) h
theorem or_lt {a b k : Nat} (ha : a < 2 ^ k) (hb : b < 2 ^ k) : a ||| b < 2 ^ k := Nat.or_lt_two_pow ha hb
theorem adn_le (a b : Nat) : adn a b ≤ a := by
  have h : adn a b ||| a = a := by
    apply Nat.eq_of_testBit_eq
    intro i
    rw [Nat.testBit_or, adn_bit]
    cases a.testBit i <;> simp
  have h2 : adn a b ≤ adn a b ||| a := Nat.left_le_or
  rw [h] at h2
  exact h2
theorem pow16 {S : TS} (h : VS S) : 2 ^ S.n ≤ 65536 := two_le (b := 16) h.n16
theorem pow48 {S : TS} (h : VS S) : 2 ^ S.u ≤ 281474976710656 := two_le (b := 48) h.u48
theorem bagUp_lt {S : TS} (h : VS S) (set : Nat) : ∀ i, i ≤ S.n → bagUp S set i < 2 ^ S.u
  | 0, _ => Nat.two_pow_pos _
  | i + 1, hi => by
    have ih := bagUp_lt h set i (by omega)
    have hb := (h.sen (i := i) (by omega)).2.2.2.2.2
    rw [bagUp]
    split
    · exact or_lt ih hb
    · exact ih
theorem bagOf_lt {S : TS} (h : VS S) (set : Nat) : bagOf S set < 2 ^ S.u := bagUp_lt h set S.n (Nat.le_refl _)
theorem wUp_le {S : TS} (h : VS S) (bg : Nat) : ∀ i, i ≤ S.u → wUp S bg i ≤ 1000 * i
  | 0, _ => Nat.le_refl _
  | i + 1, hi => by
    have ih := wUp_le h bg i (by omega)
    have hb := (h.wrd (w := i) (by omega)).1
    rw [wUp]
    split <;> omega
theorem wOf_le {S : TS} (h : VS S) (bg : Nat) : wOf S bg ≤ 48000 := by
  have h1 := wUp_le h bg S.u (Nat.le_refl _)
  have h2 := h.u48
  unfold wOf
  omega
theorem lenUp_le {S : TS} (h : VS S) (set : Nat) : ∀ i, i ≤ S.n → lenUp S set i ≤ 330 * i
  | 0, _ => Nat.le_refl _
  | i + 1, hi => by
    have ih := lenUp_le h set i (by omega)
    have hb := (h.sen (i := i) (by omega)).2.1
    rw [lenUp]
    split <;> omega
theorem lenOf_le {S : TS} (h : VS S) (set : Nat) : lenOf S set ≤ 5280 := by
  have h1 := lenUp_le h set S.n (Nat.le_refl _)
  have h2 := h.n16
  unfold lenOf
  omega
theorem lenUp_tot (S : TS) (set : Nat) : ∀ i, lenUp S set i ≤ senUp S.len i
  | 0 => Nat.le_refl _
  | i + 1 => by
    have ih := lenUp_tot S set i
    rw [lenUp, senUp]
    split <;> omega
theorem lenOf_tot {S : TS} (h : VS S) (set : Nat) : lenOf S set ≤ 600 := Nat.le_trans (lenUp_tot S set S.n) h.tot
theorem chain_lt {S : TS} : ∀ s, chain S s < 2 ^ (s + 1)
  | 0 => by rw [chain]; decide
  | s + 1 => by
    have ih := chain_lt (S := S) s
    have h1 : (2 : Nat) ^ (s + 1) < 2 ^ (s + 1 + 1) := Nat.pow_lt_pow_right (by decide) (by omega)
    rw [chain]
    split
    · exact or_lt (Nat.lt_trans ih h1) h1
    · exact h1
theorem chain_ltn {S : TS} {s : Nat} (hs : s < S.n) : chain S s < 2 ^ S.n := Nat.lt_of_lt_of_le (chain_lt s) (two_le (by omega))
theorem testBit_and1 (a k : Nat) : (a >>> k &&& 1 = 0) ↔ a.testBit k = false := by
  rw [Nat.testBit, Nat.and_comm]
  simp
