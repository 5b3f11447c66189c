/-! frames; the greedy, the queue, the bound, as functions of the text -/
def Fr (μ μ' : Mu) (P : Nat → Prop) : Prop := ∀ a, ¬ P a → μ'.1 a = μ.1 a ∧ μ'.2 a = μ.2 a
theorem Fr.refl (μ : Mu) (P : Nat → Prop) : Fr μ μ P := fun _ _ => ⟨rfl, rfl⟩
theorem Fr.trans {μ μ1 μ2 : Mu} {P Q R : Nat → Prop} (h : Fr μ μ1 P) (h2 : Fr μ1 μ2 Q) (hP : ∀ a, P a → R a) (hQ : ∀ a, Q a → R a) : Fr μ μ2 R := fun a ha => ⟨(h2 a (fun q => ha (hQ a q))).1.trans (h a (fun q => ha (hP a q))).1, (h2 a (fun q => ha (hQ a q))).2.trans (h a (fun q => ha (hP a q))).2⟩
theorem Fr.si {μ μ1 : Mu} {P : Nat → Prop} (h : Fr μ μ1 P) {k : Nat} (i : Nat) (v : Int32) (hk : P k) : Fr μ (si μ1 k i v) P := fun a ha => ⟨(si_c μ1 i v (fun e => ha (by rw [e]; exact hk))).trans (h a ha).1, (h a ha).2⟩
theorem Fr.sj {μ μ1 : Mu} {P : Nat → Prop} (h : Fr μ μ1 P) {k : Nat} (i : Nat) (v : Int64) (hk : P k) : Fr μ (sj μ1 k i v) P := fun a ha => ⟨(h a ha).1, (sj_c μ1 i v (fun e => ha (by rw [e]; exact hk))).trans (h a ha).2⟩
theorem St.same {μ μ' : Mu} {t : Nat} {S : TS} (h : St μ t S) (hc : ∀ j, j < 8 → μ'.1 (8 * t + j) = μ.1 (8 * t + j) ∧ μ'.2 (8 * t + j) = μ.2 (8 * t + j)) : St μ' t S := by
  obtain ⟨⟨h0, h1, h2, h3, h4, h5, h6, h7, h8, h9, h10, h11⟩, h12⟩ := h
  have c0 := hc 0 (by decide)
  rw [Nat.add_zero] at c0
  refine ⟨⟨by rw [c0.1]; exact h0, by rw [c0.1]; exact h1, by rw [c0.1]; exact h2, by rw [c0.1]; exact h3, by rw [c0.2]; exact h4, fun i hi => ?_, fun i hi => ?_, fun i hi => ?_, fun i hi => ?_, fun i hi => ?_, fun i hi => ?_, h11⟩, fun i hi => ?_⟩
  · rw [(hc 1 (by decide)).1]; exact h5 i hi
  · rw [(hc 2 (by decide)).1]; exact h6 i hi
  · rw [(hc 3 (by decide)).1]; exact h7 i hi
  · rw [(hc 5 (by decide)).2]; exact h8 i hi
  · rw [(hc 6 (by decide)).2]; exact h9 i hi
  · rw [(hc 7 (by decide)).1]; exact h10 i hi
  · rw [(hc 4 (by decide)).1]; exact h12 i hi
theorem St.fr {μ μ' : Mu} {t : Nat} {S : TS} {P : Nat → Prop} (h : St μ t S) (hf : Fr μ μ' P) (hP : ∀ j, j < 8 → ¬ P (8 * t + j)) : St μ' t S := h.same (fun j hj => hf _ (hP j hj))
theorem St.si {μ : Mu} {t : Nat} {S : TS} (h : St μ t S) (ht : t < 10) {k i : Nat} {v : Int32} (hk : 80 ≤ k) : St (si μ k i v) t S := h.same (fun j hj => ⟨si_c μ i v (by omega), rfl⟩)
theorem St.sj {μ : Mu} {t : Nat} {S : TS} (h : St μ t S) (ht : t < 10) {k i : Nat} {v : Int64} (hk : 80 ≤ k) : St (sj μ k i v) t S := h.same (fun j hj => ⟨rfl, sj_c μ i v (by omega)⟩)
/-- a choice of sentences: 0 none, s + 1 the sentence s -/
def pv (p : Nat) : Int32 := if p = 0 then -1 else nI (p - 1)
theorem pv_s (s : Nat) : pv (s + 1) = nI s := rfl
theorem pv_0 : pv 0 = -1 := rfl
theorem pv_ne {p : Nat} (h : p < 2 ^ 31) : pv p = -1 ↔ p = 0 := by
  cases p with
  | zero => exact ⟨fun _ => rfl, fun _ => rfl⟩
  | succ s => exact ⟨fun e => absurd (show nI s = -1 from e) (nn_ne_m1 (by omega)), fun e => by omega⟩
def moreB (g c mg mc : Nat) : Bool := decide (mg * c < g * mc)
def pickUp (S : TS) (set : Nat) (fc : Bool) : Nat → Nat × Nat × Nat
  | 0 => (0, 0, 1)
  | i + 1 => if fitsB S i set && moreB (gain S i set) (if fc then cost S i set else 1) (pickUp S set fc i).2.1 (pickUp S set fc i).2.2 then (i + 1, gain S i set, if fc then cost S i set else 1) else pickUp S set fc i
def pick (S : TS) (set : Nat) (fc : Bool) : Nat := (pickUp S set fc S.n).1
theorem pickUp_t {S : TS} {set : Nat} {fc : Bool} {i c : Nat} (hc : (if fc then cost S i set else 1) = c) (h1 : fitsB S i set = true) (h2 : moreB (gain S i set) c (pickUp S set fc i).2.1 (pickUp S set fc i).2.2 = true) : pickUp S set fc (i + 1) = (i + 1, gain S i set, c) := by
  rw [pickUp, hc, h1, h2]; rfl
theorem pickUp_f {S : TS} {set : Nat} {fc : Bool} {i : Nat} (h1 : fitsB S i set = false) : pickUp S set fc (i + 1) = pickUp S set fc i := by
  rw [pickUp, h1]; rfl
theorem pickUp_g {S : TS} {set : Nat} {fc : Bool} {i c : Nat} (hc : (if fc then cost S i set else 1) = c) (h2 : moreB (gain S i set) c (pickUp S set fc i).2.1 (pickUp S set fc i).2.2 = false) : pickUp S set fc (i + 1) = pickUp S set fc i := by
  rw [pickUp, hc, h2, Bool.and_false]; rfl
theorem gain_le {S : TS} (h : VS S) (s set : Nat) : gain S s set ≤ 48000 := wOf_le h _
theorem cost_le {S : TS} (h : VS S) (s set : Nat) : cost S s set ≤ 5280 := lenOf_le h _
theorem pickUp_or (S : TS) (set : Nat) (fc : Bool) (i : Nat) : (fitsB S i set = true ∧ pickUp S set fc (i + 1) = (i + 1, gain S i set, if fc then cost S i set else 1)) ∨ pickUp S set fc (i + 1) = pickUp S set fc i := by
  rw [pickUp]
  by_cases h : (fitsB S i set && moreB (gain S i set) (if fc then cost S i set else 1) (pickUp S set fc i).2.1 (pickUp S set fc i).2.2) = true
  · rw [if_pos h]
    rw [Bool.and_eq_true] at h
    exact Or.inl ⟨h.1, rfl⟩
  · rw [if_neg h]
    exact Or.inr rfl
theorem pickUp_le {S : TS} (h : VS S) (set : Nat) (fc : Bool) : ∀ i, (pickUp S set fc i).1 ≤ i ∧ (pickUp S set fc i).2.1 ≤ 48000 ∧ (pickUp S set fc i).2.2 ≤ 5280
  | 0 => ⟨Nat.le_refl _, by rw [pickUp]; decide, by rw [pickUp]; decide⟩
  | i + 1 => by
    have ih := pickUp_le h set fc i
    rcases pickUp_or S set fc i with ⟨-, e⟩ | e
    · rw [e]
      refine ⟨Nat.le_refl _, gain_le h _ _, ?_⟩
      cases fc
      · show 1 ≤ 5280
        decide
      · exact cost_le h _ _
    · rw [e]
      exact ⟨by omega, ih.2⟩
theorem pickUp_some {S : TS} {set : Nat} {fc : Bool} : ∀ {i p : Nat}, (pickUp S set fc i).1 = p + 1 → p < i ∧ fitsB S p set = true
  | 0, p, h => by rw [pickUp] at h; exact absurd h (by simp)
  | i + 1, p, h => by
    rcases pickUp_or S set fc i with ⟨hf, e⟩ | e
    · rw [e] at h
      have e : i = p := by simpa using h
      subst e
      exact ⟨by omega, hf⟩
    · rw [e] at h
      have := pickUp_some h
      exact ⟨by omega, this.2⟩
theorem fits_bit {S : TS} {s set : Nat} (h : fitsB S s set = true) : set.testBit s = false := by
  unfold fitsB at h
  rw [Bool.and_eq_true] at h
  simpa using h.1
def fitUp (S : TS) (set : Nat) : Nat → Nat
  | 0 => 0
  | i + 1 => fitUp S set i + (fitsB S i set).toNat
def fitN (S : TS) (set : Nat) : Nat := fitUp S set S.n
theorem fitUp_le (S : TS) (set : Nat) : ∀ i, fitUp S set i ≤ i
  | 0 => Nat.le_refl _
  | i + 1 => by
    have := fitUp_le S set i
    have := b2n_le (fitsB S i set)
    rw [fitUp]; omega
/-- greedy: the set behind k steps, the step at k, what was asked ahead of the step k -/
def grSet (S : TS) (fc : Bool) : Nat → Nat
  | 0 => 0
  | k + 1 => grSet S fc k ||| chain S (pick S (grSet S fc k) fc - 1)
def grPick (S : TS) (fc : Bool) (k : Nat) : Nat := pick S (grSet S fc k) fc
def grAsk (S : TS) (fc : Bool) : Nat → Nat
  | 0 => 0
  | k + 1 => grAsk S fc k + fitN S (grSet S fc k)
/-- greedy takes just K steps -/
def GrEnd (S : TS) (fc : Bool) (K : Nat) : Prop := K ≤ S.n ∧ grPick S fc K = 0 ∧ ∀ j, j < K → grPick S fc j ≠ 0
theorem bit_or_l {a b i : Nat} (h : a.testBit i = true) : (a ||| b).testBit i = true := by rw [Nat.testBit_or, h]; rfl
theorem bit_or_r {a b i : Nat} (h : b.testBit i = true) : (a ||| b).testBit i = true := by rw [Nat.testBit_or, h]; simp
theorem chain_self (S : TS) : ∀ s, (chain S s).testBit s = true
  | 0 => by rw [chain]; decide
  | s + 1 => by
    rw [chain]
    split
    · exact bit_or_r (by simp)
    · simp
def cntB (a : Nat) : Nat → Nat
  | 0 => 0
  | i + 1 => cntB a i + (a.testBit i).toNat
theorem cntB_le (a : Nat) : ∀ i, cntB a i ≤ i
  | 0 => Nat.le_refl _
  | i + 1 => by
    have := cntB_le a i
    have := b2n_le (a.testBit i)
    rw [cntB]; omega
theorem cntB_mono {a b : Nat} (h : ∀ i, a.testBit i = true → b.testBit i = true) : ∀ n, cntB a n ≤ cntB b n
  | 0 => Nat.le_refl _
  | i + 1 => by
    have ih := cntB_mono h i
    rw [cntB, cntB]
    cases ha : a.testBit i with
    | false => show _ + 0 ≤ _; omega
    | true => rw [h i ha]; show _ + 1 ≤ _ + 1; omega
theorem cntB_new {a b s : Nat} (h : ∀ i, a.testBit i = true → b.testBit i = true) (ha : a.testBit s = false) (hb : b.testBit s = true) : ∀ n, s < n → cntB a n + 1 ≤ cntB b n
  | 0, hs => absurd hs (by omega)
  | i + 1, hs => by
    rw [cntB, cntB]
    by_cases e : s = i
    · subst e
      have := cntB_mono h s
      rw [ha, hb]
      show _ + 0 + 1 ≤ _ + 1
      omega
    · have := cntB_new h ha hb i (by omega)
      cases ha2 : a.testBit i with
      | false => show _ + 0 + 1 ≤ _; omega
      | true => rw [h i ha2]; show _ + 1 + 1 ≤ _ + 1; omega
theorem gr_bits {S : TS} {fc : Bool} : ∀ k, (∀ j, j < k → grPick S fc j ≠ 0) → k ≤ cntB (grSet S fc k) S.n
  | 0, _ => Nat.zero_le _
  | k + 1, h => by
    have ih := gr_bits k (fun j hj => h j (by omega))
    have hp := h k (by omega)
    obtain ⟨s, hs⟩ : ∃ s, grPick S fc k = s + 1 := ⟨grPick S fc k - 1, by omega⟩
    obtain ⟨h1, h2⟩ := pickUp_some (S := S) (set := grSet S fc k) (fc := fc) (i := S.n) (p := s) hs
    have hb := fits_bit h2
    have e : grSet S fc (k + 1) = grSet S fc k ||| chain S s := by
      rw [grSet]
      have : pick S (grSet S fc k) fc = s + 1 := hs
      rw [this]; rfl
    have := cntB_new (a := grSet S fc k) (b := grSet S fc (k + 1)) (s := s) (fun i hi => by rw [e]; exact bit_or_l hi) hb (by rw [e]; exact bit_or_r (chain_self S s)) S.n h1
    omega
theorem gr_ex (S : TS) (fc : Bool) : ∃ K, GrEnd S fc K := by
  have key : ∀ m, (∃ K, K < m ∧ grPick S fc K = 0 ∧ ∀ j, j < K → grPick S fc j ≠ 0) ∨ ∀ j, j < m → grPick S fc j ≠ 0 := by
    intro m
    induction m with
    | zero => exact Or.inr (fun j hj => absurd hj (by omega))
    | succ m ih =>
      rcases ih with ⟨K, h1, h2⟩ | h
      · exact Or.inl ⟨K, by omega, h2⟩
      · by_cases e : grPick S fc m = 0
        · exact Or.inl ⟨m, by omega, e, h⟩
        · refine Or.inr (fun j hj => ?_)
          by_cases hjm : j = m
          · rw [hjm]; exact e
          · exact h j (by omega)
  rcases key (S.n + 1) with ⟨K, h1, h2, h3⟩ | h
  · exact ⟨K, by omega, h2, h3⟩
  · have h1 := gr_bits (S := S) (fc := fc) (S.n + 1) h
    have h2 := cntB_le (grSet S fc (S.n + 1)) S.n
    omega
theorem grSet_lt {S : TS} (h : VS S) {fc : Bool} : ∀ k, (∀ j, j < k → grPick S fc j ≠ 0) → grSet S fc k < 2 ^ S.n
  | 0, _ => Nat.two_pow_pos _
  | k + 1, hk => by
    have ih := grSet_lt h k (fun j hj => hk j (by omega))
    have hp := hk k (by omega)
    obtain ⟨s, hs⟩ : ∃ s, grPick S fc k = s + 1 := ⟨grPick S fc k - 1, by omega⟩
    obtain ⟨h1, h2⟩ := pickUp_some (S := S) (set := grSet S fc k) (fc := fc) (i := S.n) (p := s) hs
    have e : pick S (grSet S fc k) fc = s + 1 := hs
    rw [grSet, e]
    exact or_lt ih (chain_ltn h1)
theorem gr_one {S : TS} {fc : Bool} {K J : Nat} (h : GrEnd S fc K) (h2 : GrEnd S fc J) : K = J := by
  rcases Nat.lt_trichotomy K J with e | e | e
  · exact absurd h.2.1 (h2.2.2 K e)
  · exact e
  · exact absurd h2.2.1 (h.2.2 J e)
