theorem sj_f1 (μ : Mu) (k i : Nat) (v : Int64) (a b : Nat) : (sj μ k i v).1 a b = μ.1 a b := rfl
theorem si_f2 (μ : Mu) (k i : Nat) (v : Int32) (a b : Nat) : (si μ k i v).2 a b = μ.2 a b := rfl
/-! READING: a machine that goes byte by byte -/
/-- the first place below m where p holds, else m -/
def fdW (p : Nat → Bool) : Nat → Nat
  | 0 => 0
  | m + 1 => if fdW p m < m then fdW p m else if p m then m else m + 1
theorem fdW_le (p : Nat → Bool) : ∀ m, fdW p m ≤ m
  | 0 => Nat.le_refl _
  | m + 1 => by
    have := fdW_le p m
    rw [fdW]
    split
    · omega
    · split <;> omega
theorem fdW_yes {p : Nat → Bool} : ∀ {m}, fdW p m < m → p (fdW p m) = true
  | 0, h => absurd h (by omega)
  | m + 1, h => by
    rw [fdW] at h ⊢
    by_cases c : fdW p m < m
    · rw [if_pos c]; exact fdW_yes c
    · rw [if_neg c] at h ⊢
      by_cases d : p m = true
      · rw [if_pos d]; exact d
      · rw [if_neg d] at h; omega
theorem fdW_no {p : Nat → Bool} : ∀ {m j}, j < fdW p m → p j = false
  | 0, j, h => absurd h (by rw [fdW]; omega)
  | m + 1, j, h => by
    rw [fdW] at h
    by_cases c : fdW p m < m
    · rw [if_pos c] at h; exact fdW_no h
    · rw [if_neg c] at h
      have hm : fdW p m = m := by have := fdW_le p m; omega
      by_cases d : p m = true
      · rw [if_pos d] at h; exact fdW_no (m := m) (by omega)
      · rw [if_neg d] at h
        rcases Nat.lt_or_ge j m with e | e
        · exact fdW_no (m := m) (by omega)
        · have : j = m := by omega
          subst this
          cases hq : p j with
          | true => exact absurd hq d
          | false => rfl
theorem fdW_eq {p : Nat → Bool} {m F : Nat} (h1 : F ≤ m) (h2 : ∀ j, j < F → p j = false) (h3 : F < m → p F = true) : fdW p m = F := by
  have hl := fdW_le p m
  rcases Nat.lt_trichotomy (fdW p m) F with e | e | e
  · have := fdW_yes (p := p) (m := m) (by omega)
    rw [h2 _ e] at this
    exact absurd this (by decide)
  · exact e
  · have := fdW_no e
    rw [h3 (by omega)] at this
    exact absurd this (by decide)
def packB (bs : Nat → Nat) (st : Nat) : Nat → Nat
  | 0 => 0
  | j + 1 => packB bs st j ||| ((bs (st + j) - 96) <<< (5 * j))
/-- a letter's code in a packed word -/
theorem pack_bit {f : Nat → Nat} {g : Nat → Nat} (hf0 : f 0 = 0) (hf : ∀ j, f (j + 1) = f j ||| (g j <<< (5 * j))) (hg : ∀ j, g j < 32) : ∀ k, f k < 2 ^ (5 * k) ∧ ∀ j, j < k → (f k >>> (5 * j)) &&& 31 = g j
  | 0 => ⟨by rw [hf0]; decide, fun j hj => absurd hj (by omega)⟩
  | k + 1 => by
    obtain ⟨h1, h2⟩ := pack_bit hf0 hf hg k
    have hk : g k <<< (5 * k) < 2 ^ (5 * (k + 1)) := by
      rw [Nat.shiftLeft_eq, show 5 * (k + 1) = 5 + 5 * k by omega, Nat.pow_add]
      exact Nat.mul_lt_mul_of_pos_right (hg k) (Nat.two_pow_pos _)
    have hlt : f k < 2 ^ (5 * (k + 1)) := Nat.lt_of_lt_of_le h1 (two_le (by omega))
    refine ⟨by rw [hf]; exact or_lt hlt hk, fun j hj => ?_⟩
    rw [hf]
    apply Nat.eq_of_testBit_eq
    intro i
    rw [Nat.testBit_and, Nat.testBit_shiftRight, Nat.testBit_or, show (31 : Nat) = 2 ^ 5 - 1 from rfl, Nat.testBit_two_pow_sub_one, Nat.testBit_shiftLeft]
    by_cases hi : i < 5
    · rcases Nat.lt_or_ge j k with e | e
      · have := congrArg (fun z => z.testBit i) (h2 j e)
        have h3 : (f k >>> (5 * j) &&& 31).testBit i = (g j).testBit i := this
        rw [Nat.testBit_and, Nat.testBit_shiftRight, show (31 : Nat) = 2 ^ 5 - 1 from rfl, Nat.testBit_two_pow_sub_one] at h3
        rw [decide_eq_false (p := 5 * j + i ≥ 5 * k) (by omega), Bool.false_and, Bool.or_false]
        exact h3
      · have : j = k := by omega
        subst this
        rw [Nat.testBit_lt_two_pow (Nat.lt_of_lt_of_le h1 (two_le (by omega))), decide_eq_true (p := 5 * j + i ≥ 5 * j) (by omega), show 5 * j + i - 5 * j = i by omega]
        simp [hi]
    · rw [decide_eq_false hi, Bool.and_false]
      have : (g j).testBit i = false := Nat.testBit_lt_two_pow (Nat.lt_of_lt_of_le (hg j) (two_le (a := 5) (by omega)))
      rw [this]
theorem pack_hi {a k j : Nat} (h : a < 2 ^ (5 * k)) (hj : k ≤ j) : (a >>> (5 * j)) &&& 31 = 0 := by
  have : a >>> (5 * j) = 0 := by
    rw [Nat.shiftRight_eq_div_pow]
    exact Nat.div_eq_of_lt (Nat.lt_of_lt_of_le h (two_le (by omega)))
  rw [this]; rfl
/-- packed words of as many letters are alike as their letters are -/
theorem pack_inj {f1 f2 g1 g2 : Nat → Nat} (a0 : f1 0 = 0) (b0 : f2 0 = 0) (a : ∀ j, f1 (j + 1) = f1 j ||| (g1 j <<< (5 * j))) (b : ∀ j, f2 (j + 1) = f2 j ||| (g2 j <<< (5 * j))) (ga : ∀ j, g1 j < 32) (gb : ∀ j, g2 j < 32) {k1 k2 : Nat} (p1 : ∀ j, j < k1 → 0 < g1 j) (p2 : ∀ j, j < k2 → 0 < g2 j) (e : f1 k1 = f2 k2) : k1 = k2 ∧ ∀ j, j < k1 → g1 j = g2 j := by
  have h1 := pack_bit a0 a ga k1
  have h2 := pack_bit b0 b gb k2
  have hk : k1 = k2 := by
    rcases Nat.lt_trichotomy k1 k2 with q | q | q
    · have z := h2.2 k1 q
      rw [← e, pack_hi h1.1 (Nat.le_refl _)] at z
      have := p2 k1 q
      omega
    · exact q
    · have z := h1.2 k2 q
      rw [e, pack_hi h2.1 (Nat.le_refl _)] at z
      have := p1 k2 q
      omega
  subst hk
  refine ⟨rfl, fun j hj => ?_⟩
  rw [← h1.2 j hj, ← h2.2 j hj, e]
def mkTS (n u B T L : Nat) (len cnt fst bag wt nl : Nat → Nat) (lt : Nat → Nat → Nat) : TS := (n, u, B, T, L, len, cnt, fst, bag, wt, nl, lt)
def eqUp (D : TS) (w : Nat) (bs : Nat → Nat) (st : Nat) : Nat → Bool
  | 0 => true
  | j + 1 => eqUp D w bs st j && (D.lt w j == bs (st + j))
def mtB (D : TS) (bs : Nat → Nat) (st k w : Nat) : Bool := (D.nl w == k) && eqUp D w bs st k
theorem eqUp_iff {D : TS} {w : Nat} {bs : Nat → Nat} {st : Nat} : ∀ k, eqUp D w bs st k = true ↔ ∀ j, j < k → D.lt w j = bs (st + j)
  | 0 => ⟨fun _ j h => absurd h (by omega), fun _ => rfl⟩
  | k + 1 => by
    rw [eqUp, Bool.and_eq_true, eqUp_iff k]
    refine ⟨fun ⟨h1, h2⟩ j hj => ?_, fun h => ⟨fun j hj => h j (by omega), by simpa using h k (by omega)⟩⟩
    rcases Nat.lt_or_ge j k with e | e
    · exact h1 j e
    · have : j = k := by omega
      subst this
      simpa using h2
theorem mtB_iff {D : TS} {bs : Nat → Nat} {st k w : Nat} : mtB D bs st k w = true ↔ D.nl w = k ∧ ∀ j, j < k → D.lt w j = bs (st + j) := by
  unfold mtB
  rw [Bool.and_eq_true, eqUp_iff]
  simp
/-- which word it is; u if it is new -/
def fndW (D : TS) (bs : Nat → Nat) (st k : Nat) : Nat := fdW (mtB D bs st k) D.u
def newW (D : TS) (bs : Nat → Nat) (st k : Nat) : TS := mkTS D.n (D.u + 1) D.B D.T D.L D.len D.cnt D.fst D.bag (updN D.wt D.u 0) (updN D.nl D.u k) (fun x j => if x = D.u then bs (st + j) else D.lt x j)
def bag0 (D : TS) (wo : Nat) : Nat := if wo = 0 then 0 else D.bag D.n
def len0 (D : TS) (wo : Nat) : Nat := if wo = 0 then 0 else D.len D.n
def putW (D : TS) (wo k w : Nat) : TS := mkTS D.n D.u D.B D.T D.L (updN D.len D.n (len0 D wo + (k + 1))) (updN D.cnt D.n (wo + 1)) (if wo = 0 then updN D.fst D.n w else D.fst) (updN D.bag D.n (bag0 D wo ||| 2 ^ w)) (if (bag0 D wo).testBit w then D.wt else updN D.wt w (D.wt w + 1)) D.nl D.lt
def endS (D : TS) : TS := mkTS (D.n + 1) D.u D.B D.T D.L D.len D.cnt D.fst D.bag D.wt D.nl D.lt
/-- the machine's state: the draft, words in the open sentence, letters of the open word, where it began, the fault, its place (0 none, i + 1) -/
abbrev RM : Type := TS × Nat × Nat × Nat × Nat × Nat
def RM.D (M : RM) : TS := M.1
def RM.wo (M : RM) : Nat := M.2.1
def RM.k (M : RM) : Nat := M.2.2.1
def RM.st (M : RM) : Nat := M.2.2.2.1
def RM.ft (M : RM) : Nat := M.2.2.2.2.1
def RM.pl (M : RM) : Nat := M.2.2.2.2.2
def rfs (M : RM) (f at' : Nat) : RM := if M.ft = 0 then (M.D, M.wo, M.k, M.st, f, at' + 1) else M
def addW (bs : Nat → Nat) (M : RM) : RM :=
  if fndW M.D bs M.st M.k < M.D.u then (putW M.D M.wo M.k (fndW M.D bs M.st M.k), M.wo + 1, M.2.2)
  else if 48 ≤ M.D.u then rfs M 3 M.st
  else (putW (newW M.D bs M.st M.k) M.wo M.k M.D.u, M.wo + 1, M.2.2)
def clrK (M : RM) : RM := (M.D, M.wo, 0, M.st, M.ft, M.pl)
def endW (bs : Nat → Nat) (M : RM) : RM :=
  if M.k = 0 then M
  else if 10 < M.k then clrK (rfs M 2 M.st)
  else if 16 ≤ M.D.n ∨ 30 ≤ M.wo then clrK (rfs M 3 M.st)
  else clrK (addW bs M)
def isLt (c : Nat) : Bool := decide (97 ≤ c) && decide (c ≤ 122)
def sgn (M : RM) (c at' : Nat) : RM :=
  if c = 46 ∧ 0 < M.wo then (endS M.D, 0, M.2.2)
  else if c = 32 then M
  else rfs M 1 at'
def ltr (M : RM) (at' : Nat) : RM := (M.D, M.wo, M.k + 1, (if M.k = 0 then at' else M.st), M.ft, M.pl)
def rstep (bs : Nat → Nat) (M : RM) (at' : Nat) : RM := if isLt (bs at') then ltr M at' else sgn (endW bs M) (bs at') at'
def T0 : TS := mkTS 0 0 0 0 0 (fun _ => 0) (fun _ => 0) (fun _ => 0) (fun _ => 0) (fun _ => 0) (fun _ => 0) (fun _ _ => 0)
def M0 : RM := (T0, 0, 0, 0, 0, 0)
def rrun (bs : Nat → Nat) : Nat → RM
  | 0 => M0
  | i + 1 => if (rrun bs i).ft = 0 then rstep bs (rrun bs i) i else rrun bs i
def rfin (bs : Nat → Nat) (n : Nat) : RM := if 0 < (endW bs (rrun bs n)).wo then rfs (endW bs (rrun bs n)) 1 n else endW bs (rrun bs n)
/-! what is true of it all the way -/
def opn (M : RM) : Nat := M.D.n + (if 0 < M.wo then 1 else 0)
def RV (bs : Nat → Nat) (M : RM) : Prop := M.D.n ≤ 16 ∧ M.D.u ≤ 48 ∧ M.wo ≤ 30 ∧ (0 < M.wo → M.D.n < 16) ∧ M.D.T = 0 ∧ M.D.L = 0 ∧
  (∀ s, s < opn M → 2 ≤ M.D.len s ∧ M.D.len s ≤ 11 * M.D.cnt s ∧ 1 ≤ M.D.cnt s ∧ M.D.cnt s ≤ 30 ∧ M.D.fst s < M.D.u ∧ M.D.bag s < 2 ^ M.D.u) ∧ (0 < M.wo → M.D.cnt M.D.n = M.wo) ∧
  (∀ w, w < M.D.u → 1 ≤ M.D.nl w ∧ M.D.nl w ≤ 10 ∧ (∀ j, j < M.D.nl w → 97 ≤ M.D.lt w j ∧ M.D.lt w j ≤ 122) ∧ M.D.wt w = stUp M.D w (opn M)) ∧
  (∀ j, j < M.k → 97 ≤ bs (M.st + j) ∧ bs (M.st + j) ≤ 122)
