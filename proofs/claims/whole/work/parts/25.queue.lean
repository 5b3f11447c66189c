/-! the queue -/
abbrev QS : Type := Nat × Nat × Nat × (Nat → Nat) × (Nat → Nat)
def QS.q (x : QS) : Nat := x.1
def QS.set (x : QS) : Nat := x.2.1
def QS.ask (x : QS) : Nat := x.2.2.1
def QS.g (x : QS) : Nat → Nat := x.2.2.2.1
def QS.c (x : QS) : Nat → Nat := x.2.2.2.2
def updN (f : Nat → Nat) (s v : Nat) : Nat → Nat := fun j => if j = s then v else f j
def fmUp (q : Nat) (g c : Nat → Nat) : Nat → Nat × Nat × Nat
  | 0 => (0, 0, 1)
  | i + 1 => if q.testBit i && moreB (g i) (c i) (fmUp q g c i).2.1 (fmUp q g c i).2.2 then (i + 1, g i, c i) else fmUp q g c i
def fm (q : Nat) (g c : Nat → Nat) : Nat := (fmUp q g c 16).1
theorem fmUp_t {q : Nat} {g c : Nat → Nat} {i : Nat} (h1 : q.testBit i = true) (h2 : moreB (g i) (c i) (fmUp q g c i).2.1 (fmUp q g c i).2.2 = true) : fmUp q g c (i + 1) = (i + 1, g i, c i) := by rw [fmUp, h1, h2]; rfl
theorem fmUp_f {q : Nat} {g c : Nat → Nat} {i : Nat} (h1 : q.testBit i = false) : fmUp q g c (i + 1) = fmUp q g c i := by rw [fmUp, h1]; rfl
theorem fmUp_g {q : Nat} {g c : Nat → Nat} {i : Nat} (h2 : moreB (g i) (c i) (fmUp q g c i).2.1 (fmUp q g c i).2.2 = false) : fmUp q g c (i + 1) = fmUp q g c i := by rw [fmUp, h2, Bool.and_false]; rfl
theorem fmUp_or (q : Nat) (g c : Nat → Nat) (i : Nat) : (q.testBit i = true ∧ fmUp q g c (i + 1) = (i + 1, g i, c i)) ∨ fmUp q g c (i + 1) = fmUp q g c i := by
  rw [fmUp]
  by_cases h : (q.testBit i && moreB (g i) (c i) (fmUp q g c i).2.1 (fmUp q g c i).2.2) = true
  · rw [if_pos h]
    rw [Bool.and_eq_true] at h
    exact Or.inl ⟨h.1, rfl⟩
  · rw [if_neg h]
    exact Or.inr rfl
theorem fmUp_le {q : Nat} {g c : Nat → Nat} (h : ∀ j, q.testBit j = true → g j ≤ 48000 ∧ c j ≤ 5280) : ∀ i, (fmUp q g c i).1 ≤ i ∧ (fmUp q g c i).2.1 ≤ 48000 ∧ (fmUp q g c i).2.2 ≤ 5280
  | 0 => ⟨Nat.le_refl _, by rw [fmUp]; decide, by rw [fmUp]; decide⟩
  | i + 1 => by
    have ih := fmUp_le h i
    rcases fmUp_or q g c i with ⟨hb, e⟩ | e
    · rw [e]; exact ⟨Nat.le_refl _, (h i hb).1, (h i hb).2⟩
    · rw [e]; exact ⟨by omega, ih.2⟩
theorem fmUp_some {q : Nat} {g c : Nat → Nat} : ∀ {i p : Nat}, (fmUp q g c i).1 = p + 1 → p < i ∧ q.testBit p = true
  | 0, p, h => by rw [fmUp] at h; exact absurd h (by simp)
  | i + 1, p, h => by
    rcases fmUp_or q g c i with ⟨hf, e⟩ | e
    · rw [e] at h
      have e : i = p := by simpa using h
      subst e
      exact ⟨by omega, hf⟩
    · rw [e] at h
      have := fmUp_some h
      exact ⟨by omega, this.2⟩
theorem bit_lt {a k m : Nat} (h : a.testBit k = true) (ha : a < 2 ^ m) : k < m := by
  rcases Nat.lt_or_ge k m with e | e
  · exact e
  · have := Nat.testBit_lt_two_pow (Nat.lt_of_lt_of_le ha (two_le e))
    rw [h] at this
    exact absurd this (by decide)
def qAsk (S : TS) (x : QS) (s : Nat) : QS := (x.q, x.set, x.ask + 1, updN x.g s (gain S s x.set), updN x.c s (cost S s x.set))
def qFm (x : QS) : Nat := fm x.q x.g x.c
def qLook (S : TS) (x : QS) (s : Nat) : QS :=
  if fitsB S s x.set = false then (adn x.q (2 ^ s), x.2)
  else if gain S s x.set = 0 then (adn x.q (2 ^ s), (qAsk S x s).2)
  else if qFm (qAsk S x s) = s + 1 then (adn x.q (2 ^ s), x.set ||| chain S s, (qAsk S x s).2.2)
  else qAsk S x s
def qInit (S : TS) : Nat → QS
  | 0 => (0, 0, 0, fun _ => 0, fun _ => 0)
  | i + 1 => if 0 < gain S i 0 then ((qInit S i).q ||| 2 ^ i, (qAsk S (qInit S i) i).2) else qAsk S (qInit S i) i
def qRun (S : TS) : Nat → QS
  | 0 => qInit S S.n
  | k + 1 => qLook S (qRun S k) (qFm (qRun S k) - 1)
def QEnd (S : TS) (K : Nat) : Prop := K < 1000 ∧ qFm (qRun S K) = 0 ∧ ∀ j, j < K → qFm (qRun S j) ≠ 0
/-- bounds of a queue's state -/
def QB (S : TS) (m : Nat) (x : QS) : Prop := x.q < 2 ^ m ∧ x.set < 2 ^ S.n ∧ ∀ j, x.g j ≤ 48000 ∧ x.c j ≤ 5280
theorem QB.ask {S : TS} (hv : VS S) {m : Nat} {x : QS} (h : QB S m x) (s : Nat) : QB S m (qAsk S x s) := by
  refine ⟨h.1, h.2.1, fun j => ?_⟩
  show updN x.g s _ j ≤ _ ∧ updN x.c s _ j ≤ _
  unfold updN
  by_cases e : j = s
  · rw [if_pos e, if_pos e]; exact ⟨gain_le hv _ _, cost_le hv _ _⟩
  · rw [if_neg e, if_neg e]; exact h.2.2 j
theorem QB.look {S : TS} (hv : VS S) {m : Nat} {x : QS} (h : QB S m x) {s : Nat} (hs : s < S.n) : QB S m (qLook S x s) := by
  have h1 : adn x.q (2 ^ s) < 2 ^ m := Nat.lt_of_le_of_lt (adn_le _ _) h.1
  have h2 := h.ask hv s
  unfold qLook
  split
  · exact ⟨h1, h.2.1, h.2.2⟩
  · split
    · exact ⟨h1, h.2.1, h2.2.2⟩
    · split
      · exact ⟨h1, or_lt h.2.1 (chain_ltn hs), h2.2.2⟩
      · exact h2
theorem qInit_set (S : TS) : ∀ i, (qInit S i).set = 0
  | 0 => rfl
  | i + 1 => by
    have ih := qInit_set S i
    rw [qInit]
    split <;> exact ih
theorem QB.init {S : TS} (hv : VS S) : ∀ i, i ≤ S.n → QB S i (qInit S i)
  | 0, _ => ⟨by show (0 : Nat) < 2 ^ 0; decide, Nat.two_pow_pos _, fun j => ⟨Nat.zero_le _, Nat.zero_le _⟩⟩
  | i + 1, hi => by
    have ih := (QB.init hv i (by omega)).ask hv i
    have h1 : (2 : Nat) ^ i < 2 ^ (i + 1) := Nat.pow_lt_pow_right (by decide) (by omega)
    rw [qInit]
    split
    · exact ⟨or_lt (Nat.lt_trans ih.1 h1) h1, ih.2⟩
    · exact ⟨Nat.lt_trans ih.1 h1, ih.2⟩
theorem fm_lt {S : TS} (hv : VS S) {x : QS} (h : QB S S.n x) {s : Nat} (hs : qFm x = s + 1) : s < S.n ∧ x.q.testBit s = true := by
  have := fmUp_some hs
  exact ⟨bit_lt this.2 h.1, this.2⟩
theorem QB.run {S : TS} (hv : VS S) : ∀ k, (∀ j, j < k → qFm (qRun S j) ≠ 0) → QB S S.n (qRun S k)
  | 0, _ => QB.init hv S.n (Nat.le_refl _)
  | k + 1, h => by
    have ih := QB.run hv k (fun j hj => h j (by omega))
    have hp := h k (by omega)
    obtain ⟨s, hs⟩ : ∃ s, qFm (qRun S k) = s + 1 := ⟨qFm (qRun S k) - 1, by omega⟩
    rw [qRun, hs]
    exact ih.look hv (fm_lt hv ih hs).1
/-! the queue's cells -/
def C90 (a : Nat) : Prop := a = 88 ∨ a = 89 ∨ a = 90
theorem C90_no {t : Nat} (ht : t < 10) : ∀ j, j < 8 → ¬ C90 (8 * t + j) := fun j hj h => by unfold C90 at h; omega
def Qm (μ : Mu) (m : Nat) (x : QS) : Prop := μ.1 88 2 = nI x.q ∧ μ.1 88 3 = nI x.set ∧ μ.1 88 4 = nI x.ask ∧ ∀ j, j < m → μ.1 89 j = nI (x.g j) ∧ μ.1 90 j = nI (x.c j)
def askMem (S : TS) (μ : Mu) (x : QS) (s : Nat) : Mu := si (si (si μ 89 s (nI (gain S s x.set))) 90 s (nI (cost S s x.set))) 88 4 (nI (x.ask + 1))
theorem Qm.ask {S : TS} {μ : Mu} {m : Nat} {x : QS} (h : Qm μ m x) {s : Nat} (m' : Nat) (hm : ∀ j, j < m' → j = s ∨ j < m) : Qm (askMem S μ x s) m' (qAsk S x s) := by
  refine ⟨?_, ?_, ?_, fun j hj => ?_⟩
  · show _ = nI x.q
    simp [askMem, si, upd, h.1]
  · show _ = nI x.set
    simp [askMem, si, upd, h.2.1]
  · show _ = nI (x.ask + 1)
    simp [askMem, si, upd]
  · show _ = nI (updN x.g s _ j) ∧ _ = nI (updN x.c s _ j)
    by_cases e : j = s
    · subst e
      simp [askMem, si, upd, updN]
    · have h3 := h.2.2.2 j (by rcases hm j hj with q | q <;> omega)
      simp [askMem, si, upd, updN, e, h3.1, h3.2]
theorem Qm.q {μ : Mu} {m : Nat} {x : QS} (h : Qm μ m x) (q : Nat) : Qm (si μ 88 2 (nI q)) m (q, x.2) := by
  refine ⟨?_, ?_, ?_, fun j hj => ?_⟩
  · show _ = nI q
    simp [si, upd]
  · show _ = nI x.set
    simp [si, upd, h.2.1]
  · show _ = nI x.ask
    simp [si, upd, h.2.2.1]
  · have h3 := h.2.2.2 j hj
    show _ = nI (x.g j) ∧ _ = nI (x.c j)
    simp [si, upd, h3.1, h3.2]
theorem Qm.set {μ : Mu} {m : Nat} {x : QS} (h : Qm μ m x) (z : Nat) : Qm (si μ 88 3 (nI z)) m (x.1, z, x.2.2) := by
  refine ⟨?_, ?_, ?_, fun j hj => ?_⟩
  · show _ = nI x.q
    simp [si, upd, h.1]
  · show _ = nI z
    simp [si, upd]
  · show _ = nI x.ask
    simp [si, upd, h.2.2.1]
  · have h3 := h.2.2.2 j hj
    show _ = nI (x.g j) ∧ _ = nI (x.c j)
    simp [si, upd, h3.1, h3.2]
theorem askMem_fr {S : TS} {μ μ1 : Mu} {x : QS} {s : Nat} (h : Fr μ μ1 C90) : Fr μ (askMem S μ1 x s) C90 := ((h.si _ _ (Or.inr (Or.inl rfl))).si _ _ (Or.inr (Or.inr rfl))).si _ _ (Or.inl rfl)
theorem ok_X3_ask {G : Gx} {μ : Mu} (t : Nat) (ht : t < 10) (S : TS) (hS : St μ t S) (m : Nat) (x : QS) (hq : Qm μ m x) (hs16 : x.set < 65536) (s : Nat) (hs : s < S.n) : Runs 4 M_X3_ask [.ref (G.2.2 88), .ref (G.2.2 (8 * t)), .int (nI s)] G μ (fun r μ' => r = none ∧ μ' = askMem S μ x s) := by
  have hn := hS.vs.n16
  refine Runs.go RX3 rfl (by decide) [(0, .ref (G.2.2 88)), (1, .ref (G.2.2 (8 * t))), (2, .int (nI s))] (Nat.le_of_ble_eq_true rfl) rfl (fun X hF => ?_)
  refine V.aload_n (pc := 0) 0 dX3_ask_0 rfl ?_
  refine gf_X3_9 (pc := 1) dX3_ask_1 ?_
  refine V.iload_n (pc := 4) 2 dX3_ask_4 rfl ?_
  refine V.aload_n (pc := 5) 1 dX3_ask_5 rfl ?_
  refine V.iload_n (pc := 6) 2 dX3_ask_6 rfl ?_
  refine V.aload_n (pc := 7) 0 dX3_ask_7 rfl ?_
  refine gf_X3_22 (pc := 8) (v := nI x.set) dX3_ask_8 hq.2.1 ?_
  refine cp_X3_44 (pc := 11) t ht dX3_ask_11 (ok_X6_gainOf t ht S hS s x.set (by omega) (by omega)) (by omega) (Nat.le_of_ble_eq_true rfl) ?_
  refine V.iast (pc := 14) (k := 89) (n := 16) (v := nI (gain S s x.set)) (Nat.le_of_ble_eq_true rfl) (fun _ _ => rfl) s (by omega) (by decide) dX3_ask_14 rfl ?_
  refine V.aload_n (pc := 15) 0 dX3_ask_15 rfl ?_
  refine gf_X3_15 (pc := 16) dX3_ask_16 ?_
  refine V.iload_n (pc := 19) 2 dX3_ask_19 rfl ?_
  refine V.aload_n (pc := 20) 1 dX3_ask_20 rfl ?_
  refine V.iload_n (pc := 21) 2 dX3_ask_21 rfl ?_
  refine V.aload_n (pc := 22) 0 dX3_ask_22 rfl ?_
  refine gf_X3_22 (pc := 23) (v := nI x.set) dX3_ask_23 (Eq.trans (congrFun (si_c _ _ _ (by decide)) _) hq.2.1) ?_
  refine cp_X3_48 (pc := 26) t ht dX3_ask_26 (ok_X6_costOf t ht S (hS.si ht (by decide)) s x.set (by omega) (by omega)) (by omega) (Nat.le_of_ble_eq_true rfl) ?_
  refine V.iast (pc := 29) (k := 90) (n := 16) (v := nI (cost S s x.set)) (Nat.le_of_ble_eq_true rfl) (fun _ _ => rfl) s (by omega) (by decide) dX3_ask_29 rfl ?_
  refine V.aload_n (pc := 30) 0 dX3_ask_30 rfl ?_
  refine V.dup (pc := 31) dX3_ask_31 rfl ?_
  refine gf_X3_25 (pc := 32) (v := nI x.ask) dX3_ask_32 (Eq.trans (congrFun (si_c _ _ _ (by decide)) _) (Eq.trans (congrFun (si_c _ _ _ (by decide)) _) hq.2.2.1)) ?_
  refine V.iconst (pc := 35) (v := nI 1) dX3_ask_35 (by decide) ?_
  refine V.iadd (pc := 36) (v := nI (x.ask + 1)) dX3_ask_36 (nI_add _ _) ?_
  refine pf_X3_25 (pc := 37) dX3_ask_37 ?_
  exact V.vret (pc := 40) hF dX3_ask_40 ⟨rfl, rfl⟩
theorem ok_X3_foremost {G : Gx} {μ : Mu} (q : Nat) (g c : Nat → Nat) (hq : μ.1 88 2 = nI q) (hq16 : q < 65536) (hg : ∀ j, q.testBit j = true → μ.1 89 j = nI (g j) ∧ μ.1 90 j = nI (c j) ∧ g j ≤ 48000 ∧ c j ≤ 5280) : RunsP 1 M_X3_foremost [.ref (G.2.2 88)] G μ (.int (pv (fm q g c))) := by
  refine Runs.go RX3 rfl (by decide) [(0, .ref (G.2.2 88))] (Nat.le_of_ble_eq_true rfl) rfl (fun X hF => ?_)
  refine V.iconst (pc := 0) (v := (-1)) dX3_foremost_0 (by decide) ?_
  refine V.istore_n (pc := 1) (lv' := [(0, .ref (G.2.2 88)), (1, .int (-1))]) dX3_foremost_1 (by decide) rfl ?_
  refine V.iconst (pc := 2) (v := nI 0) dX3_foremost_2 (by decide) ?_
  refine V.istore_n (pc := 3) (lv' := [(0, .ref (G.2.2 88)), (1, .int (-1)), (2, .int (nI 0))]) dX3_foremost_3 (by decide) rfl ?_
  refine V.iconst (pc := 4) (v := nI 1) dX3_foremost_4 (by decide) ?_
  refine V.istore_n (pc := 5) (lv' := [(0, .ref (G.2.2 88)), (1, .int (-1)), (2, .int (nI 0)), (3, .int (nI 1))]) dX3_foremost_5 (by decide) rfl ?_
  refine V.iconst (pc := 6) (v := nI 0) dX3_foremost_6 (by decide) ?_
  refine V.istore (pc := 7) (lv' := [(0, .ref (G.2.2 88)), (1, .int (-1)), (2, .int (nI 0)), (3, .int (nI 1)), (4, .int (nI 0))]) dX3_foremost_7 (by decide) rfl ?_
  have L9 : ∀ (n_ : Nat) (i : Nat), (i ≤ 16) → 16 - i < n_ → V G RX3 cX3_foremost 5 1 X 9 [(0, .ref (G.2.2 88)), (1, .int (pv (fmUp q g c i).1)), (2, .int (nI ((fmUp q g c i).2.1))), (3, .int (nI ((fmUp q g c i).2.2))), (4, .int (nI i))] [] μ := by
    intro n_
    induction n_ with
    | zero => intro i hi hm_; exact absurd hm_ (Nat.not_lt_zero _)
    | succ n_ ih9 =>
      intro i hi hm_
      refine V.iload (pc := 9) 4 dX3_foremost_9 rfl ?_
      refine V.bipush (pc := 11) (v := nI 16) dX3_foremost_11 (by decide) ?_
      refine V.icmpN_ge (pc := 13) 75 dX3_foremost_13 (by decide) (by omega) (by omega) (fun h_13 => ?_) (fun h_13 => ?_)
      · refine V.iload_n (pc := 75) 1 dX3_foremost_75 rfl ?_
        exact V.iret (pc := 76) hF dX3_foremost_76 ⟨by rw [show i = 16 from by omega]; rfl, rfl⟩
      · refine V.iload (pc := 16) 4 dX3_foremost_16 rfl ?_
        refine V.aload_n (pc := 18) 0 dX3_foremost_18 rfl ?_
        refine gf_X3_18 (pc := 19) (v := nI q) dX3_foremost_19 hq ?_
        refine cp_X3_51 (pc := 22) dX3_foremost_22 (ok_X8_isIn i q (by omega) (by omega)) (by omega) (Nat.le_of_ble_eq_true rfl) ?_
        refine V.ifB_eq (pc := 25) 69 dX3_foremost_25 (by decide) (fun h_25 => ?_) (fun h_25 => ?_)
        · refine V.iinc (pc := 69) (v := nI (i + 1)) (lv' := [(0, .ref (G.2.2 88)), (1, .int (pv (fmUp q g c i).1)), (2, .int (nI ((fmUp q g c i).2.1))), (3, .int (nI ((fmUp q g c i).2.2))), (4, .int (nI (i + 1)))]) 4 dX3_foremost_69 rfl (nn_inc _) (by decide) rfl ?_
          refine V.goto (pc := 72) 9 dX3_foremost_72 (by decide) ?_
          have e_1 : pv (fmUp q g c i).1 = pv (fmUp q g c (i + 1)).1 := by rw [fmUp_f h_25]
          have e_2 : nI ((fmUp q g c i).2.1) = nI ((fmUp q g c (i + 1)).2.1) := by rw [fmUp_f h_25]
          have e_3 : nI ((fmUp q g c i).2.2) = nI ((fmUp q g c (i + 1)).2.2) := by rw [fmUp_f h_25]
          refine V.lvs (lv' := [(0, .ref (G.2.2 88)), (1, .int (pv (fmUp q g c (i + 1)).1)), (2, .int (nI ((fmUp q g c i).2.1))), (3, .int (nI ((fmUp q g c i).2.2))), (4, .int (nI (i + 1)))]) (congrArg (fun z => ([(0, .ref (G.2.2 88)), (1, .int z), (2, .int (nI ((fmUp q g c i).2.1))), (3, .int (nI ((fmUp q g c i).2.2))), (4, .int (nI (i + 1)))] : List (Nat × Value))) e_1) ?_
          refine V.lvs (lv' := [(0, .ref (G.2.2 88)), (1, .int (pv (fmUp q g c (i + 1)).1)), (2, .int (nI ((fmUp q g c (i + 1)).2.1))), (3, .int (nI ((fmUp q g c i).2.2))), (4, .int (nI (i + 1)))]) (congrArg (fun z => ([(0, .ref (G.2.2 88)), (1, .int (pv (fmUp q g c (i + 1)).1)), (2, .int z), (3, .int (nI ((fmUp q g c i).2.2))), (4, .int (nI (i + 1)))] : List (Nat × Value))) e_2) ?_
          refine V.lvs (lv' := [(0, .ref (G.2.2 88)), (1, .int (pv (fmUp q g c (i + 1)).1)), (2, .int (nI ((fmUp q g c (i + 1)).2.1))), (3, .int (nI ((fmUp q g c (i + 1)).2.2))), (4, .int (nI (i + 1)))]) (congrArg (fun z => ([(0, .ref (G.2.2 88)), (1, .int (pv (fmUp q g c (i + 1)).1)), (2, .int (nI ((fmUp q g c (i + 1)).2.1))), (3, .int z), (4, .int (nI (i + 1)))] : List (Nat × Value))) e_3) ?_
          exact ih9 (i + 1) (by omega) (by omega)
        · have hgi := (hg i h_25).2.2
          have hfl := fmUp_le (fun j hj => (hg j hj).2.2) i
          refine V.aload_n (pc := 28) 0 dX3_foremost_28 rfl ?_
          refine gf_X3_9 (pc := 29) dX3_foremost_29 ?_
          refine V.iload (pc := 32) 4 dX3_foremost_32 rfl ?_
          refine V.iald (pc := 34) (k := 89) (n := 16) (v := nI (g i)) (Nat.le_of_ble_eq_true rfl) (fun _ _ => rfl) i (by omega) (by decide) dX3_foremost_34 (hg i h_25).1 ?_
          refine V.aload_n (pc := 35) 0 dX3_foremost_35 rfl ?_
          refine gf_X3_15 (pc := 36) dX3_foremost_36 ?_
          refine V.iload (pc := 39) 4 dX3_foremost_39 rfl ?_
          refine V.iald (pc := 41) (k := 90) (n := 16) (v := nI (c i)) (Nat.le_of_ble_eq_true rfl) (fun _ _ => rfl) i (by omega) (by decide) dX3_foremost_41 (hg i h_25).2.1 ?_
          refine V.iload_n (pc := 42) 2 dX3_foremost_42 rfl ?_
          refine V.iload_n (pc := 43) 3 dX3_foremost_43 rfl ?_
          refine cp_X3_55 (pc := 44) dX3_foremost_44 (ok_X8_isMoreFor (g i) (c i) ((fmUp q g c i).2.1) ((fmUp q g c i).2.2) (by omega) (by omega) (by omega) (by omega)) (by omega) (Nat.le_of_ble_eq_true rfl) ?_
          refine V.ifB_eq (pc := 47) 69 dX3_foremost_47 (by decide) (fun h_47 => ?_) (fun h_47 => ?_)
          · refine V.iinc (pc := 69) (v := nI (i + 1)) (lv' := [(0, .ref (G.2.2 88)), (1, .int (pv (fmUp q g c i).1)), (2, .int (nI ((fmUp q g c i).2.1))), (3, .int (nI ((fmUp q g c i).2.2))), (4, .int (nI (i + 1)))]) 4 dX3_foremost_69 rfl (nn_inc _) (by decide) rfl ?_
            refine V.goto (pc := 72) 9 dX3_foremost_72 (by decide) ?_
            have e_1 : pv (fmUp q g c i).1 = pv (fmUp q g c (i + 1)).1 := by rw [fmUp_g h_47]
            have e_2 : nI ((fmUp q g c i).2.1) = nI ((fmUp q g c (i + 1)).2.1) := by rw [fmUp_g h_47]
            have e_3 : nI ((fmUp q g c i).2.2) = nI ((fmUp q g c (i + 1)).2.2) := by rw [fmUp_g h_47]
            refine V.lvs (lv' := [(0, .ref (G.2.2 88)), (1, .int (pv (fmUp q g c (i + 1)).1)), (2, .int (nI ((fmUp q g c i).2.1))), (3, .int (nI ((fmUp q g c i).2.2))), (4, .int (nI (i + 1)))]) (congrArg (fun z => ([(0, .ref (G.2.2 88)), (1, .int z), (2, .int (nI ((fmUp q g c i).2.1))), (3, .int (nI ((fmUp q g c i).2.2))), (4, .int (nI (i + 1)))] : List (Nat × Value))) e_1) ?_
            refine V.lvs (lv' := [(0, .ref (G.2.2 88)), (1, .int (pv (fmUp q g c (i + 1)).1)), (2, .int (nI ((fmUp q g c (i + 1)).2.1))), (3, .int (nI ((fmUp q g c i).2.2))), (4, .int (nI (i + 1)))]) (congrArg (fun z => ([(0, .ref (G.2.2 88)), (1, .int (pv (fmUp q g c (i + 1)).1)), (2, .int z), (3, .int (nI ((fmUp q g c i).2.2))), (4, .int (nI (i + 1)))] : List (Nat × Value))) e_2) ?_
            refine V.lvs (lv' := [(0, .ref (G.2.2 88)), (1, .int (pv (fmUp q g c (i + 1)).1)), (2, .int (nI ((fmUp q g c (i + 1)).2.1))), (3, .int (nI ((fmUp q g c (i + 1)).2.2))), (4, .int (nI (i + 1)))]) (congrArg (fun z => ([(0, .ref (G.2.2 88)), (1, .int (pv (fmUp q g c (i + 1)).1)), (2, .int (nI ((fmUp q g c (i + 1)).2.1))), (3, .int z), (4, .int (nI (i + 1)))] : List (Nat × Value))) e_3) ?_
            exact ih9 (i + 1) (by omega) (by omega)
          · refine V.iload (pc := 50) 4 dX3_foremost_50 rfl ?_
            refine V.istore_n (pc := 52) (lv' := [(0, .ref (G.2.2 88)), (1, .int (nI i)), (2, .int (nI ((fmUp q g c i).2.1))), (3, .int (nI ((fmUp q g c i).2.2))), (4, .int (nI i))]) dX3_foremost_52 (by decide) rfl ?_
            refine V.aload_n (pc := 53) 0 dX3_foremost_53 rfl ?_
            refine gf_X3_9 (pc := 54) dX3_foremost_54 ?_
            refine V.iload (pc := 57) 4 dX3_foremost_57 rfl ?_
            refine V.iald (pc := 59) (k := 89) (n := 16) (v := nI (g i)) (Nat.le_of_ble_eq_true rfl) (fun _ _ => rfl) i (by omega) (by decide) dX3_foremost_59 (hg i h_25).1 ?_
            refine V.istore_n (pc := 60) (lv' := [(0, .ref (G.2.2 88)), (1, .int (nI i)), (2, .int (nI (g i))), (3, .int (nI ((fmUp q g c i).2.2))), (4, .int (nI i))]) dX3_foremost_60 (by decide) rfl ?_
            refine V.aload_n (pc := 61) 0 dX3_foremost_61 rfl ?_
            refine gf_X3_15 (pc := 62) dX3_foremost_62 ?_
            refine V.iload (pc := 65) 4 dX3_foremost_65 rfl ?_
            refine V.iald (pc := 67) (k := 90) (n := 16) (v := nI (c i)) (Nat.le_of_ble_eq_true rfl) (fun _ _ => rfl) i (by omega) (by decide) dX3_foremost_67 (hg i h_25).2.1 ?_
            refine V.istore_n (pc := 68) (lv' := [(0, .ref (G.2.2 88)), (1, .int (nI i)), (2, .int (nI (g i))), (3, .int (nI (c i))), (4, .int (nI i))]) dX3_foremost_68 (by decide) rfl ?_
            refine V.iinc (pc := 69) (v := nI (i + 1)) (lv' := [(0, .ref (G.2.2 88)), (1, .int (nI i)), (2, .int (nI (g i))), (3, .int (nI (c i))), (4, .int (nI (i + 1)))]) 4 dX3_foremost_69 rfl (nn_inc _) (by decide) rfl ?_
            refine V.goto (pc := 72) 9 dX3_foremost_72 (by decide) ?_
            have e_1 : nI i = pv (fmUp q g c (i + 1)).1 := by rw [fmUp_t h_25 h_47]; rfl
            have e_2 : nI (g i) = nI ((fmUp q g c (i + 1)).2.1) := by rw [fmUp_t h_25 h_47]
            have e_3 : nI (c i) = nI ((fmUp q g c (i + 1)).2.2) := by rw [fmUp_t h_25 h_47]
            refine V.lvs (lv' := [(0, .ref (G.2.2 88)), (1, .int (pv (fmUp q g c (i + 1)).1)), (2, .int (nI (g i))), (3, .int (nI (c i))), (4, .int (nI (i + 1)))]) (congrArg (fun z => ([(0, .ref (G.2.2 88)), (1, .int z), (2, .int (nI (g i))), (3, .int (nI (c i))), (4, .int (nI (i + 1)))] : List (Nat × Value))) e_1) ?_
            refine V.lvs (lv' := [(0, .ref (G.2.2 88)), (1, .int (pv (fmUp q g c (i + 1)).1)), (2, .int (nI ((fmUp q g c (i + 1)).2.1))), (3, .int (nI (c i))), (4, .int (nI (i + 1)))]) (congrArg (fun z => ([(0, .ref (G.2.2 88)), (1, .int (pv (fmUp q g c (i + 1)).1)), (2, .int z), (3, .int (nI (c i))), (4, .int (nI (i + 1)))] : List (Nat × Value))) e_2) ?_
            refine V.lvs (lv' := [(0, .ref (G.2.2 88)), (1, .int (pv (fmUp q g c (i + 1)).1)), (2, .int (nI ((fmUp q g c (i + 1)).2.1))), (3, .int (nI ((fmUp q g c (i + 1)).2.2))), (4, .int (nI (i + 1)))]) (congrArg (fun z => ([(0, .ref (G.2.2 88)), (1, .int (pv (fmUp q g c (i + 1)).1)), (2, .int (nI ((fmUp q g c (i + 1)).2.1))), (3, .int z), (4, .int (nI (i + 1)))] : List (Nat × Value))) e_3) ?_
            exact ih9 (i + 1) (by omega) (by omega)
  have e_1 : (-1) = pv (fmUp q g c 0).1 := rfl
  have e_2 : nI 0 = nI ((fmUp q g c 0).2.1) := rfl
  have e_3 : nI 1 = nI ((fmUp q g c 0).2.2) := rfl
  refine V.lvs (lv' := [(0, .ref (G.2.2 88)), (1, .int (pv (fmUp q g c 0).1)), (2, .int (nI 0)), (3, .int (nI 1)), (4, .int (nI 0))]) (congrArg (fun z => ([(0, .ref (G.2.2 88)), (1, .int z), (2, .int (nI 0)), (3, .int (nI 1)), (4, .int (nI 0))] : List (Nat × Value))) e_1) ?_
  refine V.lvs (lv' := [(0, .ref (G.2.2 88)), (1, .int (pv (fmUp q g c 0).1)), (2, .int (nI ((fmUp q g c 0).2.1))), (3, .int (nI 1)), (4, .int (nI 0))]) (congrArg (fun z => ([(0, .ref (G.2.2 88)), (1, .int (pv (fmUp q g c 0).1)), (2, .int z), (3, .int (nI 1)), (4, .int (nI 0))] : List (Nat × Value))) e_2) ?_
  refine V.lvs (lv' := [(0, .ref (G.2.2 88)), (1, .int (pv (fmUp q g c 0).1)), (2, .int (nI ((fmUp q g c 0).2.1))), (3, .int (nI ((fmUp q g c 0).2.2))), (4, .int (nI 0))]) (congrArg (fun z => ([(0, .ref (G.2.2 88)), (1, .int (pv (fmUp q g c 0).1)), (2, .int (nI ((fmUp q g c 0).2.1))), (3, .int z), (4, .int (nI 0))] : List (Nat × Value))) e_3) ?_
  exact L9 _ 0 (by omega) (Nat.lt_succ_self _)
theorem ok_fmq {G : Gx} {μ : Mu} {S : TS} {m : Nat} (x : QS) (hq : Qm μ m x) (hb : QB S m x) (hm : m ≤ 16) : RunsP 1 M_X3_foremost [.ref (G.2.2 88)] G μ (.int (pv (qFm x))) :=
  ok_X3_foremost x.q x.g x.c hq.1 (Nat.lt_of_lt_of_le hb.1 (two_le (b := 16) hm)) (fun j hj => ⟨(hq.2.2.2 j (bit_lt hj hb.1)).1, (hq.2.2.2 j (bit_lt hj hb.1)).2, hb.2.2 j⟩)
theorem pv_eq {p s : Nat} (hp : p < 2 ^ 31) (hs : s < 2 ^ 31) : pv p = nI s ↔ p = s + 1 := by
  cases p with
  | zero => exact ⟨fun e => absurd (show (nI s : Int32) = -1 from e.symm) (nn_ne_m1 hs), fun e => by omega⟩
  | succ z =>
    rw [pv_s, nn_eq32 (by omega) (by omega)]
    omega
theorem fm_le (q : Nat) (g c : Nat → Nat) : ∀ i, (fmUp q g c i).1 ≤ i
  | 0 => Nat.le_refl _
  | i + 1 => by
    have ih := fm_le q g c i
    rcases fmUp_or q g c i with ⟨-, e⟩ | e
    · rw [e]; exact Nat.le_refl _
    · rw [e]; omega
theorem ok_X3_lookAt {G : Gx} {μ : Mu} (t : Nat) (ht : t < 10) (S : TS) (hS : St μ t S) (x : QS) (hq : Qm μ S.n x) (hb : QB S S.n x) (s : Nat) (hs : s < S.n) : Runs 5 M_X3_lookAt [.ref (G.2.2 88), .ref (G.2.2 (8 * t)), .int (nI s)] G μ (fun r μ' => r = none ∧ Fr μ μ' C90 ∧ Qm μ' S.n (qLook S x s)) := by
  have hn := hS.vs.n16
  have h16 := pow16 hS.vs
  have hxs := hb.2.1
  have hxq := hb.1
  have hg := gain_le hS.vs s x.set
  have hp2 : (2 : Nat) ^ s < 2 ^ 16 := Nat.pow_lt_pow_right (by decide) (by omega)
  refine Runs.go RX3 rfl (by decide) [(0, .ref (G.2.2 88)), (1, .ref (G.2.2 (8 * t))), (2, .int (nI s))] (Nat.le_of_ble_eq_true rfl) rfl (fun X hF => ?_)
  refine V.iconst (pc := 0) (v := nI 1) dX3_lookAt_0 (by decide) ?_
  refine V.iload_n (pc := 1) 2 dX3_lookAt_1 rfl ?_
  refine V.ishl (pc := 2) (v := nI (2 ^ s)) dX3_lookAt_2 (nn_shl1 (by omega)) ?_
  refine V.istore_n (pc := 3) (lv' := [(0, .ref (G.2.2 88)), (1, .ref (G.2.2 (8 * t))), (2, .int (nI s)), (3, .int (nI (2 ^ s)))]) dX3_lookAt_3 (by decide) rfl ?_
  refine V.aload_n (pc := 4) 1 dX3_lookAt_4 rfl ?_
  refine V.iload_n (pc := 5) 2 dX3_lookAt_5 rfl ?_
  refine V.aload_n (pc := 6) 0 dX3_lookAt_6 rfl ?_
  refine gf_X3_22 (pc := 7) (v := nI x.set) dX3_lookAt_7 hq.2.1 ?_
  refine cp_X3_59 (pc := 10) t ht dX3_lookAt_10 (ok_X6_fitsInto t ht S hS s x.set (by omega) (by omega)) (by omega) (Nat.le_of_ble_eq_true rfl) ?_
  refine V.ifB_ne (pc := 13) 29 dX3_lookAt_13 (by decide) (fun h_13 => ?_) (fun h_13 => ?_)
  · refine V.aload_n (pc := 29) 0 dX3_lookAt_29 rfl ?_
    refine V.aload_n (pc := 30) 1 dX3_lookAt_30 rfl ?_
    refine V.iload_n (pc := 31) 2 dX3_lookAt_31 rfl ?_
    refine cl_X3_33 (pc := 32) dX3_lookAt_32 (ok_X3_ask t ht S hS S.n x hq (by omega) s hs) (by omega) (Nat.le_of_ble_eq_true rfl) (fun r_ μ_ h_ => ?_)
    obtain ⟨rfl, rfl⟩ := h_
    show V _ _ _ _ _ _ _ _ _ (si (si (si μ 89 s (nI (gain S s x.set))) 90 s (nI (cost S s x.set))) 88 4 (nI (x.ask + 1)))
    refine V.aload_n (pc := 35) 0 dX3_lookAt_35 rfl ?_
    refine gf_X3_9 (pc := 36) dX3_lookAt_36 ?_
    refine V.iload_n (pc := 39) 2 dX3_lookAt_39 rfl ?_
    refine V.iald (pc := 40) (k := 89) (n := 16) (v := nI (gain S s x.set)) (Nat.le_of_ble_eq_true rfl) (fun _ _ => rfl) s (by omega) (by decide) dX3_lookAt_40 ((Eq.trans (congrFun (si_c _ _ _ (by decide)) _) (Eq.trans (congrFun (si_c _ _ _ (by decide)) _) (si_s _ _ _ _)))) ?_
    refine V.ifN_ne (pc := 41) 59 dX3_lookAt_41 (by decide) (by omega) (fun h_41 => ?_) (fun h_41 => ?_)
    · refine V.aload_n (pc := 59) 0 dX3_lookAt_59 rfl ?_
      refine cp_X3_37 (pc := 60) dX3_lookAt_60 (ok_fmq (qAsk S x s) (hq.ask S.n (fun j hj => Or.inr hj)) (hb.ask hS.vs s) hn) (by omega) (Nat.le_of_ble_eq_true rfl) ?_
      refine V.iload_n (pc := 63) 2 dX3_lookAt_63 rfl ?_
      refine V.icmp_ne (pc := 64) 94 dX3_lookAt_64 (by decide) (fun h_64 => ?_) (fun h_64 => ?_)
      · exact V.vret (pc := 94) hF dX3_lookAt_94 ⟨rfl, askMem_fr (Fr.refl μ C90), by rw [qLook, if_neg (by rw [h_13]; decide), if_neg (by omega), if_neg (fun e => h_64 ((pv_eq (by have := fm_le (qAsk S x s).q (qAsk S x s).g (qAsk S x s).c 16; exact Nat.lt_of_le_of_lt this (by decide)) (by omega)).mpr e))]; exact hq.ask S.n (fun j hj => Or.inr hj)⟩
      · refine V.aload_n (pc := 67) 0 dX3_lookAt_67 rfl ?_
        refine V.dup (pc := 68) dX3_lookAt_68 rfl ?_
        refine gf_X3_22 (pc := 69) (v := nI x.set) dX3_lookAt_69 (Eq.trans (si_i _ _ _ (by decide) _) (Eq.trans (congrFun (si_c _ _ _ (by decide)) _) (Eq.trans (congrFun (si_c _ _ _ (by decide)) _) hq.2.1))) ?_
        refine V.aload_n (pc := 72) 1 dX3_lookAt_72 rfl ?_
        refine gf_X3_62 (pc := 73) t ht dX3_lookAt_73 ?_
        refine V.iload_n (pc := 76) 2 dX3_lookAt_76 rfl ?_
        refine V.iald (pc := 77) (k := 8 * t + 4) (n := 16) (v := nI (chain S s)) (by omega) (cell_Si ht ⟨by decide, by decide⟩) s (by omega) (by decide) dX3_lookAt_77 (Eq.trans (congrFun (si_c _ _ _ (by omega)) _) (Eq.trans (congrFun (si_c _ _ _ (by omega)) _) (Eq.trans (congrFun (si_c _ _ _ (by omega)) _) (hS.chain s (by omega))))) ?_
        refine V.ior (pc := 78) (v := nI (x.set ||| (chain S s))) dX3_lookAt_78 (nn_or _ _) ?_
        refine pf_X3_22 (pc := 79) dX3_lookAt_79 ?_
        refine V.aload_n (pc := 82) 0 dX3_lookAt_82 rfl ?_
        refine V.dup (pc := 83) dX3_lookAt_83 rfl ?_
        refine gf_X3_18 (pc := 84) (v := nI x.q) dX3_lookAt_84 (Eq.trans (si_i _ _ _ (by decide) _) (Eq.trans (si_i _ _ _ (by decide) _) (Eq.trans (congrFun (si_c _ _ _ (by decide)) _) (Eq.trans (congrFun (si_c _ _ _ (by decide)) _) hq.1)))) ?_
        refine V.iload_n (pc := 87) 3 dX3_lookAt_87 rfl ?_
        refine V.iconst (pc := 88) (v := (-1)) dX3_lookAt_88 (by decide) ?_
        refine V.ixor (pc := 89) (v := nI (2 ^ s) ^^^ (-1)) dX3_lookAt_89 rfl ?_
        refine V.iand (pc := 90) (v := nI (adn x.q (2 ^ s))) dX3_lookAt_90 (nn_adn _ _) ?_
        refine pf_X3_18 (pc := 91) dX3_lookAt_91 ?_
        exact V.vret (pc := 94) hF dX3_lookAt_94 ⟨rfl, ((askMem_fr (Fr.refl μ C90)).si _ _ (Or.inl rfl)).si _ _ (Or.inl rfl), by rw [qLook, if_neg (by rw [h_13]; decide), if_neg (by omega), if_pos ((pv_eq (by have := fm_le (qAsk S x s).q (qAsk S x s).g (qAsk S x s).c 16; exact Nat.lt_of_le_of_lt this (by decide)) (by omega)).mp h_64)]; exact ((hq.ask (S := S) (s := s) S.n (fun j hj => Or.inr hj)).set _).q _⟩
    · refine V.aload_n (pc := 44) 0 dX3_lookAt_44 rfl ?_
      refine V.dup (pc := 45) dX3_lookAt_45 rfl ?_
      refine gf_X3_18 (pc := 46) (v := nI x.q) dX3_lookAt_46 (Eq.trans (si_i _ _ _ (by decide) _) (Eq.trans (congrFun (si_c _ _ _ (by decide)) _) (Eq.trans (congrFun (si_c _ _ _ (by decide)) _) hq.1))) ?_
      refine V.iload_n (pc := 49) 3 dX3_lookAt_49 rfl ?_
      refine V.iconst (pc := 50) (v := (-1)) dX3_lookAt_50 (by decide) ?_
      refine V.ixor (pc := 51) (v := nI (2 ^ s) ^^^ (-1)) dX3_lookAt_51 rfl ?_
      refine V.iand (pc := 52) (v := nI (adn x.q (2 ^ s))) dX3_lookAt_52 (nn_adn _ _) ?_
      refine pf_X3_18 (pc := 53) dX3_lookAt_53 ?_
      refine V.goto (pc := 56) 94 dX3_lookAt_56 (by decide) ?_
      exact V.vret (pc := 94) hF dX3_lookAt_94 ⟨rfl, (askMem_fr (Fr.refl μ C90)).si _ _ (Or.inl rfl), by rw [qLook, if_neg (by rw [h_13]; decide), if_pos h_41]; exact (hq.ask (S := S) (s := s) S.n (fun j hj => Or.inr hj)).q _⟩
  · refine V.aload_n (pc := 16) 0 dX3_lookAt_16 rfl ?_
    refine V.dup (pc := 17) dX3_lookAt_17 rfl ?_
    refine gf_X3_18 (pc := 18) (v := nI x.q) dX3_lookAt_18 hq.1 ?_
    refine V.iload_n (pc := 21) 3 dX3_lookAt_21 rfl ?_
    refine V.iconst (pc := 22) (v := (-1)) dX3_lookAt_22 (by decide) ?_
    refine V.ixor (pc := 23) (v := nI (2 ^ s) ^^^ (-1)) dX3_lookAt_23 rfl ?_
    refine V.iand (pc := 24) (v := nI (adn x.q (2 ^ s))) dX3_lookAt_24 (nn_adn _ _) ?_
    refine pf_X3_18 (pc := 25) dX3_lookAt_25 ?_
    exact V.vret (pc := 28) hF dX3_lookAt_28 ⟨rfl, (Fr.refl μ C90).si _ _ (Or.inl rfl), by rw [qLook, if_pos h_13]; exact hq.q _⟩
theorem Qm.init {S : TS} {μ : Mu} {i : Nat} (h : Qm μ i (qInit S i)) (hg : gain S i (qInit S i).set = 0) : Qm (askMem S μ (qInit S i) i) (i + 1) (qInit S (i + 1)) := by
  rw [qInit_set] at hg
  rw [qInit, if_neg (by omega)]
  exact h.ask (i + 1) (fun j hj => by omega)
theorem Qm.init2 {S : TS} {μ : Mu} {i : Nat} (h : Qm μ i (qInit S i)) (hg : 0 < gain S i (qInit S i).set) : Qm (si (askMem S μ (qInit S i) i) 88 2 (nI ((qInit S i).q ||| 2 ^ i))) (i + 1) (qInit S (i + 1)) := by
  rw [qInit_set] at hg
  rw [qInit, if_pos hg]
  exact (h.ask (S := S) (s := i) (i + 1) (fun j hj => by omega)).q _
theorem fm_zero (g c : Nat → Nat) : ∀ i, (fmUp 0 g c i).1 = 0
  | 0 => rfl
  | i + 1 => by rw [fmUp_f (Nat.zero_testBit i)]; exact fm_zero g c i
theorem ok_X3_run {G : Gx} {μ : Mu} (t : Nat) (ht : t < 10) (S : TS) (hS : St μ t S) (K : Nat) (hK : QEnd S K) : Runs 6 M_X3_run [.ref (G.2.2 88), .ref (G.2.2 (8 * t))] G μ (fun r μ' => r = none ∧ Fr μ μ' C90 ∧ μ'.1 88 3 = nI (qRun S K).set ∧ μ'.1 88 4 = nI (qRun S K).ask) := by
  have hn := hS.vs.n16
  have h16 := pow16 hS.vs
  have hK1 := hK.1
  refine Runs.go RX3 rfl (by decide) [(0, .ref (G.2.2 88)), (1, .ref (G.2.2 (8 * t)))] (Nat.le_of_ble_eq_true rfl) rfl (fun X hF => ?_)
  refine V.aload_n (pc := 0) 0 dX3_run_0 rfl ?_
  refine V.iconst (pc := 1) (v := nI 0) dX3_run_1 (by decide) ?_
  refine pf_X3_22 (pc := 2) dX3_run_2 ?_
  refine V.aload_n (pc := 5) 0 dX3_run_5 rfl ?_
  refine V.iconst (pc := 6) (v := nI 0) dX3_run_6 (by decide) ?_
  refine pf_X3_25 (pc := 7) dX3_run_7 ?_
  refine V.aload_n (pc := 10) 0 dX3_run_10 rfl ?_
  refine V.iconst (pc := 11) (v := nI 0) dX3_run_11 (by decide) ?_
  refine pf_X3_18 (pc := 12) dX3_run_12 ?_
  refine V.iconst (pc := 15) (v := nI 0) dX3_run_15 (by decide) ?_
  refine V.istore_n (pc := 16) (lv' := [(0, .ref (G.2.2 88)), (1, .ref (G.2.2 (8 * t))), (2, .int (nI 0))]) dX3_run_16 (by decide) rfl ?_
  have L17 : ∀ (n_ : Nat) (i : Nat) ( μ1 : Mu), (i ≤ S.n) → (Fr μ μ1 C90) → (Qm μ1 i (qInit S i)) → S.n - i < n_ → V G RX3 cX3_run 4 6 X 17 [(0, .ref (G.2.2 88)), (1, .ref (G.2.2 (8 * t))), (2, .int (nI i))] [] μ1 := by
    intro n_
    induction n_ with
    | zero => intro i μ1 hi hfr hq hm_; exact absurd hm_ (Nat.not_lt_zero _)
    | succ n_ ih17 =>
      intro i μ1 hi hfr hq hm_
      have hS1 := hS.fr hfr (C90_no ht)
      have hqb := QB.init hS.vs i hi
      have hqs := hqb.2.1
      have hqq : (qInit S i).q < 2 ^ S.n := Nat.lt_of_lt_of_le hqb.1 (two_le hi)
      refine V.iload_n (pc := 17) 2 dX3_run_17 rfl ?_
      refine V.aload_n (pc := 18) 1 dX3_run_18 rfl ?_
      refine gf_X3_28 (pc := 19) t ht (v := nI S.n) dX3_run_19 hS1.n ?_
      refine V.icmpN_ge (pc := 22) 58 dX3_run_22 (by decide) (by omega) (by omega) (fun h_22 => ?_) (fun h_22 => ?_)
      · refine V.iconst (pc := 58) (v := nI 0) dX3_run_58 (by decide) ?_
        refine V.istore_n (pc := 59) (lv' := [(0, .ref (G.2.2 88)), (1, .ref (G.2.2 (8 * t))), (2, .int (nI 0))]) dX3_run_59 (by decide) rfl ?_
        have L60 : ∀ (n_ : Nat) (k : Nat) ( μ1 : Mu), (k ≤ K) → (Fr μ μ1 C90) → (Qm μ1 S.n (qRun S k)) → K + 1 - k < n_ → V G RX3 cX3_run 4 6 X 60 [(0, .ref (G.2.2 88)), (1, .ref (G.2.2 (8 * t))), (2, .int (nI k))] [] μ1 := by
          intro n_
          induction n_ with
          | zero => intro k μ1 hk hfr hq hm_; exact absurd hm_ (Nat.not_lt_zero _)
          | succ n_ ih60 =>
            intro k μ1 hk hfr hq hm_
            have hS1 := hS.fr hfr (C90_no ht)
            have hqb := QB.run hS.vs k (fun j hj => hK.2.2 j (by omega))
            have hqs := hqb.2.1
            have hqq := hqb.1
            refine V.iload_n (pc := 60) 2 dX3_run_60 rfl ?_
            refine V.sipush (pc := 61) (v := nI 1000) dX3_run_61 (by decide) ?_
            refine V.icmpN_ge (pc := 64) 99 dX3_run_64 (by decide) (by omega) (by omega) (fun h_64 => ?_) (fun h_64 => ?_)
            · exact absurd h_64 (by omega)
            · refine V.aload_n (pc := 67) 0 dX3_run_67 rfl ?_
              refine gf_X3_18 (pc := 68) (v := nI ((qRun S k).q)) dX3_run_68 hq.1 ?_
              refine V.ifN_eq (pc := 71) 99 dX3_run_71 (by decide) (by omega) (fun h_71 => ?_) (fun h_71 => ?_)
              · have hz : qFm (qRun S k) = 0 := by rw [qFm, fm, h_71]; exact fm_zero _ _ _
                have hkK : k = K := by
                  rcases Nat.lt_or_ge k K with e | e
                  · exact absurd hz (hK.2.2 k e)
                  · omega
                subst hkK
                exact V.vret (pc := 99) hF dX3_run_99 ⟨rfl, hfr, hq.2.1, hq.2.2.1⟩
              · refine V.aload_n (pc := 74) 0 dX3_run_74 rfl ?_
                rcases hp : qFm (qRun S k) with _ | s
                · refine cp_X3_37 (pc := 75) dX3_run_75 (by have h := ok_fmq (G := G) (qRun S k) hq hqb hn; rw [hp] at h; exact h) (by omega) (Nat.le_of_ble_eq_true rfl) ?_
                  have hkK : k = K := by
                    rcases Nat.lt_or_ge k K with e | e
                    · exact absurd hp (hK.2.2 k e)
                    · omega
                  subst hkK
                  refine V.istore_n (pc := 78) (lv' := [(0, .ref (G.2.2 88)), (1, .ref (G.2.2 (8 * t))), (2, .int (nI k)), (3, .int (-1))]) dX3_run_78 (by decide) rfl ?_
                  refine V.iload_n (pc := 79) 3 dX3_run_79 rfl ?_
                  refine V.iconst (pc := 80) (v := (-1)) dX3_run_80 (by decide) ?_
                  refine V.icmp_ne (pc := 81) 87 dX3_run_81 (by decide) (fun h_81 => ?_) (fun h_81 => ?_)
                  · exact absurd rfl h_81
                  · refine V.goto (pc := 84) 99 dX3_run_84 (by decide) ?_
                    exact V.vret (pc := 99) hF dX3_run_99 ⟨rfl, hfr, hq.2.1, hq.2.2.1⟩
                · refine cp_X3_37 (pc := 75) dX3_run_75 (by have h := ok_fmq (G := G) (qRun S k) hq hqb hn; rw [hp] at h; exact h) (by omega) (Nat.le_of_ble_eq_true rfl) ?_
                  have hsn := (fm_lt hS.vs hqb hp).1
                  have hkK : k < K := by
                    rcases Nat.lt_or_ge k K with e | e
                    · exact e
                    · have e2 : k = K := by omega
                      rw [e2] at hp
                      exact absurd (hK.2.1.symm.trans hp) (by omega)
                  refine V.istore_n (pc := 78) (lv' := [(0, .ref (G.2.2 88)), (1, .ref (G.2.2 (8 * t))), (2, .int (nI k)), (3, .int (nI s))]) dX3_run_78 (by decide) rfl ?_
                  refine V.iload_n (pc := 79) 3 dX3_run_79 rfl ?_
                  refine V.iconst (pc := 80) (v := (-1)) dX3_run_80 (by decide) ?_
                  refine V.icmp_ne (pc := 81) 87 dX3_run_81 (by decide) (fun h_81 => ?_) (fun h_81 => ?_)
                  · refine V.aload_n (pc := 87) 0 dX3_run_87 rfl ?_
                    refine V.aload_n (pc := 88) 1 dX3_run_88 rfl ?_
                    refine V.iload_n (pc := 89) 3 dX3_run_89 rfl ?_
                    refine cl_X3_41 (pc := 90) dX3_run_90 (ok_X3_lookAt t ht S hS1 (qRun S k) hq hqb s hsn) (by omega) (Nat.le_of_ble_eq_true rfl) (fun r_ μ_ h_ => ?_)
                    obtain ⟨rfl, hfr2, hq2⟩ := h_
                    refine V.iinc (pc := 93) (v := nI (k + 1)) (lv' := [(0, .ref (G.2.2 88)), (1, .ref (G.2.2 (8 * t))), (2, .int (nI (k + 1))), (3, .int (nI s))]) 2 dX3_run_93 rfl (nn_inc _) (by decide) rfl ?_
                    refine V.goto (pc := 96) 60 dX3_run_96 (by decide) ?_
                    refine V.sub (lv' := [(0, .ref (G.2.2 88)), (1, .ref (G.2.2 (8 * t))), (2, .int (nI (k + 1)))]) [0, 1, 2] rfl ?_
                    exact ih60 (k + 1) μ_ (by omega) (hfr.trans hfr2 (fun _ h => h) (fun _ h => h)) (by rw [qRun, hp]; exact hq2) (by omega)
                  · exact absurd h_81 (nn_ne_m1 (by omega))
        exact L60 _ 0 μ1 (by omega) hfr (by rw [show i = S.n from by omega] at hq; exact hq) (Nat.lt_succ_self _)
      · have hg := gain_le hS.vs i (qInit S i).set
        refine V.aload_n (pc := 25) 0 dX3_run_25 rfl ?_
        refine V.aload_n (pc := 26) 1 dX3_run_26 rfl ?_
        refine V.iload_n (pc := 27) 2 dX3_run_27 rfl ?_
        refine cl_X3_33 (pc := 28) dX3_run_28 (ok_X3_ask t ht S hS1 i (qInit S i) hq (by omega) i (by omega)) (by omega) (Nat.le_of_ble_eq_true rfl) (fun r_ μ_ h_ => ?_)
        obtain ⟨rfl, rfl⟩ := h_
        show V _ _ _ _ _ _ _ _ _ (si (si (si μ1 89 i (nI (gain S i (qInit S i).set))) 90 i (nI (cost S i (qInit S i).set))) 88 4 (nI ((qInit S i).ask + 1)))
        refine V.aload_n (pc := 31) 0 dX3_run_31 rfl ?_
        refine gf_X3_9 (pc := 32) dX3_run_32 ?_
        refine V.iload_n (pc := 35) 2 dX3_run_35 rfl ?_
        refine V.iald (pc := 36) (k := 89) (n := 16) (v := nI (gain S i (qInit S i).set)) (Nat.le_of_ble_eq_true rfl) (fun _ _ => rfl) i (by omega) (by decide) dX3_run_36 ((Eq.trans (congrFun (si_c _ _ _ (by decide)) _) (Eq.trans (congrFun (si_c _ _ _ (by decide)) _) (si_s _ _ _ _)))) ?_
        refine V.ifN_le (pc := 37) 52 dX3_run_37 (by decide) (by omega) (fun h_37 => ?_) (fun h_37 => ?_)
        · refine V.iinc (pc := 52) (v := nI (i + 1)) (lv' := [(0, .ref (G.2.2 88)), (1, .ref (G.2.2 (8 * t))), (2, .int (nI (i + 1)))]) 2 dX3_run_52 rfl (nn_inc _) (by decide) rfl ?_
          refine V.goto (pc := 55) 17 dX3_run_55 (by decide) ?_
          exact ih17 (i + 1) (si (si (si μ1 89 i (nI (gain S i (qInit S i).set))) 90 i (nI (cost S i (qInit S i).set))) 88 4 (nI ((qInit S i).ask + 1))) (by omega) (askMem_fr hfr) (hq.init h_37) (by omega)
        · refine V.aload_n (pc := 40) 0 dX3_run_40 rfl ?_
          refine V.dup (pc := 41) dX3_run_41 rfl ?_
          refine gf_X3_18 (pc := 42) (v := nI ((qInit S i).q)) dX3_run_42 (Eq.trans (si_i _ _ _ (by decide) _) (Eq.trans (congrFun (si_c _ _ _ (by decide)) _) (Eq.trans (congrFun (si_c _ _ _ (by decide)) _) hq.1))) ?_
          refine V.iconst (pc := 45) (v := nI 1) dX3_run_45 (by decide) ?_
          refine V.iload_n (pc := 46) 2 dX3_run_46 rfl ?_
          refine V.ishl (pc := 47) (v := nI (2 ^ i)) dX3_run_47 (nn_shl1 (by omega)) ?_
          refine V.ior (pc := 48) (v := nI (((qInit S i).q) ||| (2 ^ i))) dX3_run_48 (nn_or _ _) ?_
          refine pf_X3_18 (pc := 49) dX3_run_49 ?_
          refine V.iinc (pc := 52) (v := nI (i + 1)) (lv' := [(0, .ref (G.2.2 88)), (1, .ref (G.2.2 (8 * t))), (2, .int (nI (i + 1)))]) 2 dX3_run_52 rfl (nn_inc _) (by decide) rfl ?_
          refine V.goto (pc := 55) 17 dX3_run_55 (by decide) ?_
          exact ih17 (i + 1) (si (si (si (si μ1 89 i (nI (gain S i (qInit S i).set))) 90 i (nI (cost S i (qInit S i).set))) 88 4 (nI ((qInit S i).ask + 1))) 88 2 (nI (((qInit S i).q) ||| (2 ^ i)))) (by omega) ((askMem_fr hfr).si _ _ (Or.inl rfl)) (hq.init2 h_37) (by omega)
  exact L17 _ 0 (si (si (si μ 88 3 (nI 0)) 88 4 (nI 0)) 88 2 (nI 0)) (by omega) ((((Fr.refl μ C90).si _ _ (Or.inl rfl)).si _ _ (Or.inl rfl)).si _ _ (Or.inl rfl)) (⟨by simp [si, upd]; rfl, by simp [si, upd]; rfl, by simp [si, upd]; rfl, fun j hj => absurd hj (by omega)⟩) (Nat.lt_succ_self _)
