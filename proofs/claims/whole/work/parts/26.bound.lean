/-! the bound -/
def own (S : TS) (bg s : Nat) : Nat := wOf S (adn (S.bag s) bg)
def dnUp (S : TS) (rest bg : Nat) : Nat → Nat × Nat × Nat
  | 0 => (0, 0, 1)
  | i + 1 => if rest.testBit i && moreB (own S bg i) (S.len i) (dnUp S rest bg i).2.1 (dnUp S rest bg i).2.2 then (i + 1, own S bg i, S.len i) else dnUp S rest bg i
def dn (S : TS) (rest bg : Nat) : Nat := (dnUp S rest bg S.n).1
theorem dnUp_t {S : TS} {rest bg i : Nat} (h1 : rest.testBit i = true) (h2 : moreB (own S bg i) (S.len i) (dnUp S rest bg i).2.1 (dnUp S rest bg i).2.2 = true) : dnUp S rest bg (i + 1) = (i + 1, own S bg i, S.len i) := by rw [dnUp, h1, h2]; rfl
theorem dnUp_f {S : TS} {rest bg i : Nat} (h1 : rest.testBit i = false) : dnUp S rest bg (i + 1) = dnUp S rest bg i := by rw [dnUp, h1]; rfl
theorem dnUp_g {S : TS} {rest bg i : Nat} (h2 : moreB (own S bg i) (S.len i) (dnUp S rest bg i).2.1 (dnUp S rest bg i).2.2 = false) : dnUp S rest bg (i + 1) = dnUp S rest bg i := by rw [dnUp, h2, Bool.and_false]; rfl
theorem dnUp_or (S : TS) (rest bg i : Nat) : (rest.testBit i = true ∧ dnUp S rest bg (i + 1) = (i + 1, own S bg i, S.len i)) ∨ dnUp S rest bg (i + 1) = dnUp S rest bg i := by
  rw [dnUp]
  by_cases h : (rest.testBit i && moreB (own S bg i) (S.len i) (dnUp S rest bg i).2.1 (dnUp S rest bg i).2.2) = true
  · rw [if_pos h]
    rw [Bool.and_eq_true] at h
    exact Or.inl ⟨h.1, rfl⟩
  · rw [if_neg h]
    exact Or.inr rfl
theorem own_le {S : TS} (h : VS S) (bg s : Nat) : own S bg s ≤ 48000 := wOf_le h _
theorem dnUp_le {S : TS} (h : VS S) (rest bg : Nat) : ∀ i, i ≤ S.n → (dnUp S rest bg i).1 ≤ i ∧ (dnUp S rest bg i).2.1 ≤ 48000 ∧ (dnUp S rest bg i).2.2 ≤ 330
  | 0, _ => ⟨Nat.le_refl _, by rw [dnUp]; decide, by rw [dnUp]; decide⟩
  | i + 1, hi => by
    have ih := dnUp_le h rest bg i (by omega)
    rcases dnUp_or S rest bg i with ⟨-, e⟩ | e
    · rw [e]; exact ⟨Nat.le_refl _, own_le h _ _, (h.sen (i := i) (by omega)).2.1⟩
    · rw [e]; exact ⟨by omega, ih.2⟩
theorem dnUp_some {S : TS} {rest bg : Nat} : ∀ {i p : Nat}, (dnUp S rest bg i).1 = p + 1 → p < i ∧ rest.testBit p = true
  | 0, p, h => by rw [dnUp] at h; exact absurd h (by simp)
  | i + 1, p, h => by
    rcases dnUp_or S rest bg i with ⟨hf, e⟩ | e
    · rw [e] at h
      have e : i = p := by simpa using h
      subst e
      exact ⟨by omega, hf⟩
    · rw [e] at h
      have := dnUp_some h
      exact ⟨by omega, this.2⟩
theorem dn_zero (S : TS) (bg : Nat) : ∀ i, (dnUp S 0 bg i).1 = 0
  | 0 => rfl
  | i + 1 => by rw [dnUp_f (Nat.zero_testBit i)]; exact dn_zero S bg i
def ceilGo (S : TS) (bg : Nat) : Nat → Nat → Nat → Nat → Nat
  | 0, _, _, acc => acc
  | f + 1, rest, left, acc =>
    if dn S rest bg = 0 then acc
    else if left < S.len (dn S rest bg - 1) then acc + own S bg (dn S rest bg - 1) * left / S.len (dn S rest bg - 1)
    else ceilGo S bg f (adn rest (2 ^ (dn S rest bg - 1))) (left - S.len (dn S rest bg - 1)) (acc + own S bg (dn S rest bg - 1))
def ceilBy (S : TS) (set : Nat) : Nat := ceilGo S (bagOf S set) 16 (adn (2 ^ S.n - 1) set) S.B (wOf S (bagOf S set))
theorem ceilGo_0 {S : TS} {bg f rest left acc : Nat} (h : dn S rest bg = 0) : ceilGo S bg f rest left acc = acc := by
  cases f with
  | zero => rfl
  | succ f => rw [ceilGo, if_pos h]
theorem ceilGo_c {S : TS} {bg f rest left acc s : Nat} (h : dn S rest bg = s + 1) (h2 : left < S.len s) : ceilGo S bg (f + 1) rest left acc = acc + own S bg s * left / S.len s := by
  rw [ceilGo, h, if_neg (by omega), Nat.add_sub_cancel, if_pos h2]
theorem ceilGo_s {S : TS} {bg f rest left acc s : Nat} (h : dn S rest bg = s + 1) (h2 : ¬ left < S.len s) : ceilGo S bg (f + 1) rest left acc = ceilGo S bg f (adn rest (2 ^ s)) (left - S.len s) (acc + own S bg s) := by
  rw [ceilGo, h, if_neg (by omega), Nat.add_sub_cancel, if_neg h2]
theorem ceilGo_le {S : TS} (h : VS S) (bg : Nat) : ∀ (f rest left acc : Nat), left ≤ 9999 → ceilGo S bg f rest left acc ≤ acc + 48000 * f + 479952000
  | 0, _, _, acc, _ => by rw [ceilGo]; omega
  | f + 1, rest, left, acc, hl => by
    rw [ceilGo]
    split
    · omega
    · split
      · have h1 := own_le h bg (dn S rest bg - 1)
        have h2 : own S bg (dn S rest bg - 1) * left ≤ 48000 * 9999 := Nat.mul_le_mul h1 hl
        have h3 : own S bg (dn S rest bg - 1) * left / S.len (dn S rest bg - 1) ≤ own S bg (dn S rest bg - 1) * left := Nat.div_le_self _ _
        omega
      · have h1 := own_le h bg (dn S rest bg - 1)
        have ih := ceilGo_le h bg f (adn rest (2 ^ (dn S rest bg - 1))) (left - S.len (dn S rest bg - 1)) (acc + own S bg (dn S rest bg - 1)) (by omega)
        omega
theorem ceilBy_le {S : TS} (h : VS S) (set : Nat) : ceilBy S set ≤ 480768000 := by
  have h1 := ceilGo_le h (bagOf S set) 16 (adn (2 ^ S.n - 1) set) S.B (wOf S (bagOf S set)) h.B9
  have h2 := wOf_le h (bagOf S set)
  unfold ceilBy
  omega
/-- the bound behind k steps: the set, the least, behind how many -/
def clRun (S : TS) (stp : Nat → Nat) : Nat → Nat × Nat × Nat
  | 0 => (0, ceilBy S 0, 0)
  | k + 1 => if ceilBy S ((clRun S stp k).1 ||| chain S (stp k)) < (clRun S stp k).2.1 then ((clRun S stp k).1 ||| chain S (stp k), ceilBy S ((clRun S stp k).1 ||| chain S (stp k)), k + 1) else ((clRun S stp k).1 ||| chain S (stp k), (clRun S stp k).2)
theorem clRun_t {S : TS} {stp : Nat → Nat} {k : Nat} (h : ceilBy S ((clRun S stp k).1 ||| chain S (stp k)) < (clRun S stp k).2.1) : clRun S stp (k + 1) = ((clRun S stp k).1 ||| chain S (stp k), ceilBy S ((clRun S stp k).1 ||| chain S (stp k)), k + 1) := by rw [clRun, if_pos h]
theorem clRun_f {S : TS} {stp : Nat → Nat} {k : Nat} (h : ¬ ceilBy S ((clRun S stp k).1 ||| chain S (stp k)) < (clRun S stp k).2.1) : clRun S stp (k + 1) = ((clRun S stp k).1 ||| chain S (stp k), (clRun S stp k).2) := by rw [clRun, if_neg h]
theorem clRun_lt {S : TS} {stp : Nat → Nat} (h : VS S) : ∀ k, (∀ j, j < k → stp j < S.n) → (clRun S stp k).1 < 2 ^ S.n ∧ (clRun S stp k).2.1 ≤ 480768000
  | 0, _ => ⟨Nat.two_pow_pos _, ceilBy_le h 0⟩
  | k + 1, hk => by
    have ih := clRun_lt h k (fun j hj => hk j (by omega))
    have h1 := chain_ltn (hk k (by omega))
    by_cases c : ceilBy S ((clRun S stp k).1 ||| chain S (stp k)) < (clRun S stp k).2.1
    · rw [clRun_t c]; exact ⟨or_lt ih.1 h1, ceilBy_le h _⟩
    · rw [clRun_f c]; exact ⟨or_lt ih.1 h1, ih.2⟩
theorem ok_X0_densest {G : Gx} {μ : Mu} (t : Nat) (ht : t < 10) (S : TS) (hS : St μ t S) (rest bg : Nat) (hr : rest < 65536) (hbg : bg < 2 ^ 63) : RunsP 3 M_X0_densest [.ref (G.2.2 (8 * t)), .int (nI rest), .long (lN bg)] G μ (.int (pv (dn S rest bg))) := by
  have hn := hS.vs.n16
  have hu := pow48 hS.vs
  refine Runs.go RX0 rfl (by decide) [(0, .ref (G.2.2 (8 * t))), (1, .int (nI rest)), (2, .long (lN bg))] (Nat.le_of_ble_eq_true rfl) rfl (fun X hF => ?_)
  refine V.iconst (pc := 0) (v := (-1)) dX0_densest_0 (by decide) ?_
  refine V.istore (pc := 1) (lv' := [(0, .ref (G.2.2 (8 * t))), (1, .int (nI rest)), (2, .long (lN bg)), (4, .int (-1))]) dX0_densest_1 (by decide) rfl ?_
  refine V.iconst (pc := 3) (v := nI 0) dX0_densest_3 (by decide) ?_
  refine V.istore (pc := 4) (lv' := [(0, .ref (G.2.2 (8 * t))), (1, .int (nI rest)), (2, .long (lN bg)), (4, .int (-1)), (5, .int (nI 0))]) dX0_densest_4 (by decide) rfl ?_
  refine V.iconst (pc := 6) (v := nI 1) dX0_densest_6 (by decide) ?_
  refine V.istore (pc := 7) (lv' := [(0, .ref (G.2.2 (8 * t))), (1, .int (nI rest)), (2, .long (lN bg)), (4, .int (-1)), (5, .int (nI 0)), (6, .int (nI 1))]) dX0_densest_7 (by decide) rfl ?_
  refine V.iconst (pc := 9) (v := nI 0) dX0_densest_9 (by decide) ?_
  refine V.istore (pc := 10) (lv' := [(0, .ref (G.2.2 (8 * t))), (1, .int (nI rest)), (2, .long (lN bg)), (4, .int (-1)), (5, .int (nI 0)), (6, .int (nI 1)), (7, .int (nI 0))]) dX0_densest_10 (by decide) rfl ?_
  have L12 : ∀ (n_ : Nat) (i : Nat), (i ≤ S.n) → S.n - i < n_ → V G RX0 cX0_densest 9 3 X 12 [(0, .ref (G.2.2 (8 * t))), (1, .int (nI rest)), (2, .long (lN bg)), (4, .int (pv (dnUp S rest bg i).1)), (5, .int (nI ((dnUp S rest bg i).2.1))), (6, .int (nI ((dnUp S rest bg i).2.2))), (7, .int (nI i))] [] μ := by
    intro n_
    induction n_ with
    | zero => intro i hi hm_; exact absurd hm_ (Nat.not_lt_zero _)
    | succ n_ ih12 =>
      intro i hi hm_
      refine V.iload (pc := 12) 6 dX0_densest_12 rfl ?_
      refine V.aload_n (pc := 14) 0 dX0_densest_14 rfl ?_
      refine gf_X0_64 (pc := 15) t ht (v := nI S.n) dX0_densest_15 hS.n ?_
      refine V.icmpN_ge (pc := 18) 91 dX0_densest_18 (by decide) (by omega) (by omega) (fun h_18 => ?_) (fun h_18 => ?_)
      · refine V.iload (pc := 91) 3 dX0_densest_91 rfl ?_
        exact V.iret (pc := 93) hF dX0_densest_93 ⟨by rw [show i = S.n from by omega]; rfl, rfl⟩
      · have hb := (hS.vs.sen (i := i) h_18).2.2.2.2.2
        have hln := (hS.vs.sen (i := i) h_18).2.1
        have had := adn_le (S.bag i) bg
        have hdl := dnUp_le hS.vs rest bg i (by omega)
        have hol := own_le hS.vs bg i
        refine V.iload (pc := 21) 6 dX0_densest_21 rfl ?_
        refine V.iload_n (pc := 23) 1 dX0_densest_23 rfl ?_
        refine cp_X0_67 (pc := 24) dX0_densest_24 (ok_X8_isIn i rest (by omega) (by omega)) (by omega) (Nat.le_of_ble_eq_true rfl) ?_
        refine V.ifB_eq (pc := 27) 85 dX0_densest_27 (by decide) (fun h_27 => ?_) (fun h_27 => ?_)
        · refine V.iinc (pc := 85) (v := nI (i + 1)) (lv' := [(0, .ref (G.2.2 (8 * t))), (1, .int (nI rest)), (2, .long (lN bg)), (4, .int (pv (dnUp S rest bg i).1)), (5, .int (nI ((dnUp S rest bg i).2.1))), (6, .int (nI ((dnUp S rest bg i).2.2))), (7, .int (nI (i + 1)))]) 6 dX0_densest_85 rfl (nn_inc _) (by decide) rfl ?_
          refine V.goto (pc := 88) 12 dX0_densest_88 (by decide) ?_
          have e_4 : pv (dnUp S rest bg i).1 = pv (dnUp S rest bg (i + 1)).1 := by rw [dnUp_f h_27]
          have e_5 : nI ((dnUp S rest bg i).2.1) = nI ((dnUp S rest bg (i + 1)).2.1) := by rw [dnUp_f h_27]
          have e_6 : nI ((dnUp S rest bg i).2.2) = nI ((dnUp S rest bg (i + 1)).2.2) := by rw [dnUp_f h_27]
          refine V.lvs (lv' := [(0, .ref (G.2.2 (8 * t))), (1, .int (nI rest)), (2, .long (lN bg)), (4, .int (pv (dnUp S rest bg (i + 1)).1)), (5, .int (nI ((dnUp S rest bg i).2.1))), (6, .int (nI ((dnUp S rest bg i).2.2))), (7, .int (nI (i + 1)))]) (congrArg (fun z => ([(0, .ref (G.2.2 (8 * t))), (1, .int (nI rest)), (2, .long (lN bg)), (4, .int z), (5, .int (nI ((dnUp S rest bg i).2.1))), (6, .int (nI ((dnUp S rest bg i).2.2))), (7, .int (nI (i + 1)))] : List (Nat × Value))) e_4) ?_
          refine V.lvs (lv' := [(0, .ref (G.2.2 (8 * t))), (1, .int (nI rest)), (2, .long (lN bg)), (4, .int (pv (dnUp S rest bg (i + 1)).1)), (5, .int (nI ((dnUp S rest bg (i + 1)).2.1))), (6, .int (nI ((dnUp S rest bg i).2.2))), (7, .int (nI (i + 1)))]) (congrArg (fun z => ([(0, .ref (G.2.2 (8 * t))), (1, .int (nI rest)), (2, .long (lN bg)), (4, .int (pv (dnUp S rest bg (i + 1)).1)), (5, .int z), (6, .int (nI ((dnUp S rest bg i).2.2))), (7, .int (nI (i + 1)))] : List (Nat × Value))) e_5) ?_
          refine V.lvs (lv' := [(0, .ref (G.2.2 (8 * t))), (1, .int (nI rest)), (2, .long (lN bg)), (4, .int (pv (dnUp S rest bg (i + 1)).1)), (5, .int (nI ((dnUp S rest bg (i + 1)).2.1))), (6, .int (nI ((dnUp S rest bg (i + 1)).2.2))), (7, .int (nI (i + 1)))]) (congrArg (fun z => ([(0, .ref (G.2.2 (8 * t))), (1, .int (nI rest)), (2, .long (lN bg)), (4, .int (pv (dnUp S rest bg (i + 1)).1)), (5, .int (nI ((dnUp S rest bg (i + 1)).2.1))), (6, .int z), (7, .int (nI (i + 1)))] : List (Nat × Value))) e_6) ?_
          exact ih12 (i + 1) (by omega) (by omega)
        · refine V.aload_n (pc := 30) 0 dX0_densest_30 rfl ?_
          refine V.aload_n (pc := 31) 0 dX0_densest_31 rfl ?_
          refine gf_X0_55 (pc := 32) t ht dX0_densest_32 ?_
          refine V.iload (pc := 35) 6 dX0_densest_35 rfl ?_
          refine V.lald (pc := 37) (k := 8 * t + 5) (n := 16) (v := lN (S.bag i)) (by omega) (cell_Sj ht rfl) i (by omega) (by decide) dX0_densest_37 (hS.bag i (by omega)) ?_
          refine V.lload_n (pc := 38) 2 dX0_densest_38 rfl ?_
          refine V.ldc2_w (pc := 39) (v := (-1)) mw_4_46 dX0_densest_39 ?_
          refine V.lxor (pc := 42) (v := lN bg ^^^ (-1)) dX0_densest_42 rfl ?_
          refine V.land (pc := 43) (v := lN (adn (S.bag i) bg)) dX0_densest_43 (ll_adn _ _) ?_
          refine cp_X0_40 (pc := 44) t ht dX0_densest_44 (ok_X6_weightOf t ht S hS (adn (S.bag i) bg) (by omega)) (by omega) (Nat.le_of_ble_eq_true rfl) ?_
          refine V.istore (pc := 47) (lv' := [(0, .ref (G.2.2 (8 * t))), (1, .int (nI rest)), (2, .long (lN bg)), (4, .int (pv (dnUp S rest bg i).1)), (5, .int (nI ((dnUp S rest bg i).2.1))), (6, .int (nI ((dnUp S rest bg i).2.2))), (7, .int (nI i)), (8, .int (nI (own S bg i)))]) dX0_densest_47 (by decide) rfl ?_
          refine V.iload (pc := 49) 7 dX0_densest_49 rfl ?_
          refine V.aload_n (pc := 51) 0 dX0_densest_51 rfl ?_
          refine gf_X0_61 (pc := 52) t ht dX0_densest_52 ?_
          refine V.iload (pc := 55) 6 dX0_densest_55 rfl ?_
          refine V.iald (pc := 57) (k := 8 * t + 1) (n := 16) (v := nI (S.len i)) (by omega) (cell_Si ht ⟨by decide, by decide⟩) i (by omega) (by decide) dX0_densest_57 (hS.len i (by omega)) ?_
          refine V.iload (pc := 58) 4 dX0_densest_58 rfl ?_
          refine V.iload (pc := 60) 5 dX0_densest_60 rfl ?_
          refine cp_X0_71 (pc := 62) dX0_densest_62 (ok_X8_isMoreFor (own S bg i) (S.len i) ((dnUp S rest bg i).2.1) ((dnUp S rest bg i).2.2) (by omega) (by omega) (by omega) (by omega)) (by omega) (Nat.le_of_ble_eq_true rfl) ?_
          refine V.ifB_eq (pc := 65) 85 dX0_densest_65 (by decide) (fun h_65 => ?_) (fun h_65 => ?_)
          · refine V.iinc (pc := 85) (v := nI (i + 1)) (lv' := [(0, .ref (G.2.2 (8 * t))), (1, .int (nI rest)), (2, .long (lN bg)), (4, .int (pv (dnUp S rest bg i).1)), (5, .int (nI ((dnUp S rest bg i).2.1))), (6, .int (nI ((dnUp S rest bg i).2.2))), (7, .int (nI (i + 1))), (8, .int (nI (own S bg i)))]) 6 dX0_densest_85 rfl (nn_inc _) (by decide) rfl ?_
            refine V.goto (pc := 88) 12 dX0_densest_88 (by decide) ?_
            refine V.sub (lv' := [(0, .ref (G.2.2 (8 * t))), (1, .int (nI rest)), (2, .long (lN bg)), (4, .int (pv (dnUp S rest bg i).1)), (5, .int (nI ((dnUp S rest bg i).2.1))), (6, .int (nI ((dnUp S rest bg i).2.2))), (7, .int (nI (i + 1)))]) [0, 1, 2, 3, 4, 5, 6] rfl ?_
            have e_4 : pv (dnUp S rest bg i).1 = pv (dnUp S rest bg (i + 1)).1 := by rw [dnUp_g h_65]
            have e_5 : nI ((dnUp S rest bg i).2.1) = nI ((dnUp S rest bg (i + 1)).2.1) := by rw [dnUp_g h_65]
            have e_6 : nI ((dnUp S rest bg i).2.2) = nI ((dnUp S rest bg (i + 1)).2.2) := by rw [dnUp_g h_65]
            refine V.lvs (lv' := [(0, .ref (G.2.2 (8 * t))), (1, .int (nI rest)), (2, .long (lN bg)), (4, .int (pv (dnUp S rest bg (i + 1)).1)), (5, .int (nI ((dnUp S rest bg i).2.1))), (6, .int (nI ((dnUp S rest bg i).2.2))), (7, .int (nI (i + 1)))]) (congrArg (fun z => ([(0, .ref (G.2.2 (8 * t))), (1, .int (nI rest)), (2, .long (lN bg)), (4, .int z), (5, .int (nI ((dnUp S rest bg i).2.1))), (6, .int (nI ((dnUp S rest bg i).2.2))), (7, .int (nI (i + 1)))] : List (Nat × Value))) e_4) ?_
            refine V.lvs (lv' := [(0, .ref (G.2.2 (8 * t))), (1, .int (nI rest)), (2, .long (lN bg)), (4, .int (pv (dnUp S rest bg (i + 1)).1)), (5, .int (nI ((dnUp S rest bg (i + 1)).2.1))), (6, .int (nI ((dnUp S rest bg i).2.2))), (7, .int (nI (i + 1)))]) (congrArg (fun z => ([(0, .ref (G.2.2 (8 * t))), (1, .int (nI rest)), (2, .long (lN bg)), (4, .int (pv (dnUp S rest bg (i + 1)).1)), (5, .int z), (6, .int (nI ((dnUp S rest bg i).2.2))), (7, .int (nI (i + 1)))] : List (Nat × Value))) e_5) ?_
            refine V.lvs (lv' := [(0, .ref (G.2.2 (8 * t))), (1, .int (nI rest)), (2, .long (lN bg)), (4, .int (pv (dnUp S rest bg (i + 1)).1)), (5, .int (nI ((dnUp S rest bg (i + 1)).2.1))), (6, .int (nI ((dnUp S rest bg (i + 1)).2.2))), (7, .int (nI (i + 1)))]) (congrArg (fun z => ([(0, .ref (G.2.2 (8 * t))), (1, .int (nI rest)), (2, .long (lN bg)), (4, .int (pv (dnUp S rest bg (i + 1)).1)), (5, .int (nI ((dnUp S rest bg (i + 1)).2.1))), (6, .int z), (7, .int (nI (i + 1)))] : List (Nat × Value))) e_6) ?_
            exact ih12 (i + 1) (by omega) (by omega)
          · refine V.iload (pc := 68) 6 dX0_densest_68 rfl ?_
            refine V.istore (pc := 70) (lv' := [(0, .ref (G.2.2 (8 * t))), (1, .int (nI rest)), (2, .long (lN bg)), (4, .int (nI i)), (5, .int (nI ((dnUp S rest bg i).2.1))), (6, .int (nI ((dnUp S rest bg i).2.2))), (7, .int (nI i)), (8, .int (nI (own S bg i)))]) dX0_densest_70 (by decide) rfl ?_
            refine V.iload (pc := 72) 7 dX0_densest_72 rfl ?_
            refine V.istore (pc := 74) (lv' := [(0, .ref (G.2.2 (8 * t))), (1, .int (nI rest)), (2, .long (lN bg)), (4, .int (nI i)), (5, .int (nI (own S bg i))), (6, .int (nI ((dnUp S rest bg i).2.2))), (7, .int (nI i)), (8, .int (nI (own S bg i)))]) dX0_densest_74 (by decide) rfl ?_
            refine V.aload_n (pc := 76) 0 dX0_densest_76 rfl ?_
            refine gf_X0_61 (pc := 77) t ht dX0_densest_77 ?_
            refine V.iload (pc := 80) 6 dX0_densest_80 rfl ?_
            refine V.iald (pc := 82) (k := 8 * t + 1) (n := 16) (v := nI (S.len i)) (by omega) (cell_Si ht ⟨by decide, by decide⟩) i (by omega) (by decide) dX0_densest_82 (hS.len i (by omega)) ?_
            refine V.istore (pc := 83) (lv' := [(0, .ref (G.2.2 (8 * t))), (1, .int (nI rest)), (2, .long (lN bg)), (4, .int (nI i)), (5, .int (nI (own S bg i))), (6, .int (nI (S.len i))), (7, .int (nI i)), (8, .int (nI (own S bg i)))]) dX0_densest_83 (by decide) rfl ?_
            refine V.iinc (pc := 85) (v := nI (i + 1)) (lv' := [(0, .ref (G.2.2 (8 * t))), (1, .int (nI rest)), (2, .long (lN bg)), (4, .int (nI i)), (5, .int (nI (own S bg i))), (6, .int (nI (S.len i))), (7, .int (nI (i + 1))), (8, .int (nI (own S bg i)))]) 6 dX0_densest_85 rfl (nn_inc _) (by decide) rfl ?_
            refine V.goto (pc := 88) 12 dX0_densest_88 (by decide) ?_
            refine V.sub (lv' := [(0, .ref (G.2.2 (8 * t))), (1, .int (nI rest)), (2, .long (lN bg)), (4, .int (nI i)), (5, .int (nI (own S bg i))), (6, .int (nI (S.len i))), (7, .int (nI (i + 1)))]) [0, 1, 2, 3, 4, 5, 6] rfl ?_
            have e_4 : nI i = pv (dnUp S rest bg (i + 1)).1 := by rw [dnUp_t h_27 h_65]; rfl
            have e_5 : nI (own S bg i) = nI ((dnUp S rest bg (i + 1)).2.1) := by rw [dnUp_t h_27 h_65]
            have e_6 : nI (S.len i) = nI ((dnUp S rest bg (i + 1)).2.2) := by rw [dnUp_t h_27 h_65]
            refine V.lvs (lv' := [(0, .ref (G.2.2 (8 * t))), (1, .int (nI rest)), (2, .long (lN bg)), (4, .int (pv (dnUp S rest bg (i + 1)).1)), (5, .int (nI (own S bg i))), (6, .int (nI (S.len i))), (7, .int (nI (i + 1)))]) (congrArg (fun z => ([(0, .ref (G.2.2 (8 * t))), (1, .int (nI rest)), (2, .long (lN bg)), (4, .int z), (5, .int (nI (own S bg i))), (6, .int (nI (S.len i))), (7, .int (nI (i + 1)))] : List (Nat × Value))) e_4) ?_
            refine V.lvs (lv' := [(0, .ref (G.2.2 (8 * t))), (1, .int (nI rest)), (2, .long (lN bg)), (4, .int (pv (dnUp S rest bg (i + 1)).1)), (5, .int (nI ((dnUp S rest bg (i + 1)).2.1))), (6, .int (nI (S.len i))), (7, .int (nI (i + 1)))]) (congrArg (fun z => ([(0, .ref (G.2.2 (8 * t))), (1, .int (nI rest)), (2, .long (lN bg)), (4, .int (pv (dnUp S rest bg (i + 1)).1)), (5, .int z), (6, .int (nI (S.len i))), (7, .int (nI (i + 1)))] : List (Nat × Value))) e_5) ?_
            refine V.lvs (lv' := [(0, .ref (G.2.2 (8 * t))), (1, .int (nI rest)), (2, .long (lN bg)), (4, .int (pv (dnUp S rest bg (i + 1)).1)), (5, .int (nI ((dnUp S rest bg (i + 1)).2.1))), (6, .int (nI ((dnUp S rest bg (i + 1)).2.2))), (7, .int (nI (i + 1)))]) (congrArg (fun z => ([(0, .ref (G.2.2 (8 * t))), (1, .int (nI rest)), (2, .long (lN bg)), (4, .int (pv (dnUp S rest bg (i + 1)).1)), (5, .int (nI ((dnUp S rest bg (i + 1)).2.1))), (6, .int z), (7, .int (nI (i + 1)))] : List (Nat × Value))) e_6) ?_
            exact ih12 (i + 1) (by omega) (by omega)
  have e_4 : (-1) = pv (dnUp S rest bg 0).1 := rfl
  have e_5 : nI 0 = nI ((dnUp S rest bg 0).2.1) := rfl
  have e_6 : nI 1 = nI ((dnUp S rest bg 0).2.2) := rfl
  refine V.lvs (lv' := [(0, .ref (G.2.2 (8 * t))), (1, .int (nI rest)), (2, .long (lN bg)), (4, .int (pv (dnUp S rest bg 0).1)), (5, .int (nI 0)), (6, .int (nI 1)), (7, .int (nI 0))]) (congrArg (fun z => ([(0, .ref (G.2.2 (8 * t))), (1, .int (nI rest)), (2, .long (lN bg)), (4, .int z), (5, .int (nI 0)), (6, .int (nI 1)), (7, .int (nI 0))] : List (Nat × Value))) e_4) ?_
  refine V.lvs (lv' := [(0, .ref (G.2.2 (8 * t))), (1, .int (nI rest)), (2, .long (lN bg)), (4, .int (pv (dnUp S rest bg 0).1)), (5, .int (nI ((dnUp S rest bg 0).2.1))), (6, .int (nI 1)), (7, .int (nI 0))]) (congrArg (fun z => ([(0, .ref (G.2.2 (8 * t))), (1, .int (nI rest)), (2, .long (lN bg)), (4, .int (pv (dnUp S rest bg 0).1)), (5, .int z), (6, .int (nI 1)), (7, .int (nI 0))] : List (Nat × Value))) e_5) ?_
  refine V.lvs (lv' := [(0, .ref (G.2.2 (8 * t))), (1, .int (nI rest)), (2, .long (lN bg)), (4, .int (pv (dnUp S rest bg 0).1)), (5, .int (nI ((dnUp S rest bg 0).2.1))), (6, .int (nI ((dnUp S rest bg 0).2.2))), (7, .int (nI 0))]) (congrArg (fun z => ([(0, .ref (G.2.2 (8 * t))), (1, .int (nI rest)), (2, .long (lN bg)), (4, .int (pv (dnUp S rest bg 0).1)), (5, .int (nI ((dnUp S rest bg 0).2.1))), (6, .int z), (7, .int (nI 0))] : List (Nat × Value))) e_6) ?_
  exact L12 _ 0 (by omega) (Nat.lt_succ_self _)
theorem ok_X0_ceilingBy {G : Gx} {μ : Mu} (t : Nat) (ht : t < 10) (S : TS) (hS : St μ t S) (set : Nat) (hset : set < 65536) : RunsP 4 M_X0_ceilingBy [.ref (G.2.2 (8 * t)), .int (nI set)] G μ (.int (nI (ceilBy S set))) := by
  have hn := hS.vs.n16
  have hu := pow48 hS.vs
  have h16 := pow16 hS.vs
  have hB := hS.vs.B9
  have hbl := bagOf_lt hS.vs set
  have hp := Nat.two_pow_pos S.n
  have had := adn_le (2 ^ S.n - 1) set
  have hcb := ceilBy_le hS.vs set
  refine Runs.go RX0 rfl (by decide) [(0, .ref (G.2.2 (8 * t))), (1, .int (nI set))] (Nat.le_of_ble_eq_true rfl) rfl (fun X hF => ?_)
  refine V.aload_n (pc := 0) 0 dX0_ceilingBy_0 rfl ?_
  refine V.iload_n (pc := 1) 1 dX0_ceilingBy_1 rfl ?_
  refine cp_X0_36 (pc := 2) t ht dX0_ceilingBy_2 (ok_X6_bagOf t ht S hS set (by omega)) (by omega) (Nat.le_of_ble_eq_true rfl) ?_
  refine V.lstore_n (pc := 5) (lv' := [(0, .ref (G.2.2 (8 * t))), (1, .int (nI set)), (2, .long (lN (bagOf S set)))]) dX0_ceilingBy_5 (by decide) rfl ?_
  refine V.aload_n (pc := 6) 0 dX0_ceilingBy_6 rfl ?_
  refine V.lload_n (pc := 7) 2 dX0_ceilingBy_7 rfl ?_
  refine cp_X0_40 (pc := 8) t ht dX0_ceilingBy_8 (ok_X6_weightOf t ht S hS (bagOf S set) (by omega)) (by omega) (Nat.le_of_ble_eq_true rfl) ?_
  refine V.istore (pc := 11) (lv' := [(0, .ref (G.2.2 (8 * t))), (1, .int (nI set)), (2, .long (lN (bagOf S set))), (4, .int (nI (wOf S (bagOf S set))))]) dX0_ceilingBy_11 (by decide) rfl ?_
  refine V.aload_n (pc := 13) 0 dX0_ceilingBy_13 rfl ?_
  refine gf_X0_44 (pc := 14) t ht (v := nI S.B) dX0_ceilingBy_14 hS.B ?_
  refine V.istore (pc := 17) (lv' := [(0, .ref (G.2.2 (8 * t))), (1, .int (nI set)), (2, .long (lN (bagOf S set))), (4, .int (nI (wOf S (bagOf S set)))), (5, .int (nI S.B))]) dX0_ceilingBy_17 (by decide) rfl ?_
  refine V.aload_n (pc := 19) 0 dX0_ceilingBy_19 rfl ?_
  refine cp_X0_47 (pc := 20) t ht dX0_ceilingBy_20 (ok_X6_everySentence t ht S hS) (by omega) (Nat.le_of_ble_eq_true rfl) ?_
  refine V.iload_n (pc := 23) 1 dX0_ceilingBy_23 rfl ?_
  refine V.iconst (pc := 24) (v := (-1)) dX0_ceilingBy_24 (by decide) ?_
  refine V.ixor (pc := 25) (v := nI set ^^^ (-1)) dX0_ceilingBy_25 rfl ?_
  refine V.iand (pc := 26) (v := nI (adn (2 ^ S.n - 1) set)) dX0_ceilingBy_26 (nn_adn _ _) ?_
  refine V.istore (pc := 27) (lv' := [(0, .ref (G.2.2 (8 * t))), (1, .int (nI set)), (2, .long (lN (bagOf S set))), (4, .int (nI (wOf S (bagOf S set)))), (5, .int (nI S.B)), (6, .int (nI (adn (2 ^ S.n - 1) set)))]) dX0_ceilingBy_27 (by decide) rfl ?_
  refine V.iconst (pc := 29) (v := nI 0) dX0_ceilingBy_29 (by decide) ?_
  refine V.istore (pc := 30) (lv' := [(0, .ref (G.2.2 (8 * t))), (1, .int (nI set)), (2, .long (lN (bagOf S set))), (4, .int (nI (wOf S (bagOf S set)))), (5, .int (nI S.B)), (6, .int (nI (adn (2 ^ S.n - 1) set))), (7, .int (nI 0))]) dX0_ceilingBy_30 (by decide) rfl ?_
  have L32 : ∀ (n_ : Nat) (i rest left acc : Nat), (i ≤ 16) → (rest < 65536) → (left ≤ 9999) → (acc ≤ 48000 + 48000 * i) → (ceilGo S (bagOf S set) (16 - i) rest left acc = ceilBy S set) → 16 - i < n_ → V G RX0 cX0_ceilingBy 11 4 X 32 [(0, .ref (G.2.2 (8 * t))), (1, .int (nI set)), (2, .long (lN (bagOf S set))), (4, .int (nI acc)), (5, .int (nI left)), (6, .int (nI rest)), (7, .int (nI i))] [] μ := by
    intro n_
    induction n_ with
    | zero => intro i rest left acc hi hr hl hac hg hm_; exact absurd hm_ (Nat.not_lt_zero _)
    | succ n_ ih32 =>
      intro i rest left acc hi hr hl hac hg hm_
      refine V.iload (pc := 32) 6 dX0_ceilingBy_32 rfl ?_
      refine V.bipush (pc := 34) (v := nI 16) dX0_ceilingBy_34 (by decide) ?_
      refine V.icmpN_ge (pc := 36) 145 dX0_ceilingBy_36 (by decide) (by omega) (by omega) (fun h_36 => ?_) (fun h_36 => ?_)
      · refine V.iload (pc := 145) 3 dX0_ceilingBy_145 rfl ?_
        exact V.iret (pc := 147) hF dX0_ceilingBy_147 ⟨nn_self_eq (by rw [show 16 - i = 0 by omega] at hg; exact hg), rfl⟩
      · refine V.iload (pc := 39) 5 dX0_ceilingBy_39 rfl ?_
        refine V.ifN_eq (pc := 41) 145 dX0_ceilingBy_41 (by decide) (by omega) (fun h_41 => ?_) (fun h_41 => ?_)
        · refine V.iload (pc := 145) 3 dX0_ceilingBy_145 rfl ?_
          exact V.iret (pc := 147) hF dX0_ceilingBy_147 ⟨nn_self_eq (by rw [ceilGo_0 (by rw [h_41]; exact dn_zero S _ _)] at hg; exact hg), rfl⟩
        · refine V.aload_n (pc := 44) 0 dX0_ceilingBy_44 rfl ?_
          refine V.iload (pc := 45) 5 dX0_ceilingBy_45 rfl ?_
          refine V.lload_n (pc := 47) 2 dX0_ceilingBy_47 rfl ?_
          rcases hd : dn S rest (bagOf S set) with _ | s
          · refine cp_X0_51 (pc := 48) dX0_ceilingBy_48 (by have h := ok_X0_densest (G := G) t ht S hS rest (bagOf S set) (by omega) (by omega); rw [hd] at h; exact h) (by omega) (Nat.le_of_ble_eq_true rfl) ?_
            refine V.istore (pc := 51) (lv' := [(0, .ref (G.2.2 (8 * t))), (1, .int (nI set)), (2, .long (lN (bagOf S set))), (4, .int (nI acc)), (5, .int (nI left)), (6, .int (nI rest)), (7, .int (nI i)), (8, .int (-1))]) dX0_ceilingBy_51 (by decide) rfl ?_
            refine V.iload (pc := 53) 7 dX0_ceilingBy_53 rfl ?_
            refine V.iconst (pc := 55) (v := (-1)) dX0_ceilingBy_55 (by decide) ?_
            refine V.icmp_ne (pc := 56) 62 dX0_ceilingBy_56 (by decide) (fun h_56 => ?_) (fun h_56 => ?_)
            · exact absurd rfl h_56
            · refine V.goto (pc := 59) 145 dX0_ceilingBy_59 (by decide) ?_
              refine V.iload (pc := 145) 3 dX0_ceilingBy_145 rfl ?_
              exact V.iret (pc := 147) hF dX0_ceilingBy_147 ⟨nn_self_eq (by rw [ceilGo_0 hd] at hg; exact hg), rfl⟩
          · refine cp_X0_51 (pc := 48) dX0_ceilingBy_48 (by have h := ok_X0_densest (G := G) t ht S hS rest (bagOf S set) (by omega) (by omega); rw [hd] at h; exact h) (by omega) (Nat.le_of_ble_eq_true rfl) ?_
            obtain ⟨hsn, hsr⟩ := dnUp_some hd
            have hb := (hS.vs.sen (i := s) hsn).2.2.2.2.2
            have hln := (hS.vs.sen (i := s) hsn).2.1
            have hln1 := (hS.vs.sen (i := s) hsn).1
            have ha2 := adn_le (S.bag s) (bagOf S set)
            have hol := own_le hS.vs (bagOf S set) s
            have hml : own S (bagOf S set) s * left ≤ 48000 * 9999 := Nat.mul_le_mul hol hl
            have hdv : own S (bagOf S set) s * left / S.len s ≤ own S (bagOf S set) s * left := Nat.div_le_self _ _
            have har := adn_le rest (2 ^ s)
            have hp2 : (2 : Nat) ^ s < 2 ^ 16 := Nat.pow_lt_pow_right (by decide) (by omega)
            refine V.istore (pc := 51) (lv' := [(0, .ref (G.2.2 (8 * t))), (1, .int (nI set)), (2, .long (lN (bagOf S set))), (4, .int (nI acc)), (5, .int (nI left)), (6, .int (nI rest)), (7, .int (nI i)), (8, .int (nI s))]) dX0_ceilingBy_51 (by decide) rfl ?_
            refine V.iload (pc := 53) 7 dX0_ceilingBy_53 rfl ?_
            refine V.iconst (pc := 55) (v := (-1)) dX0_ceilingBy_55 (by decide) ?_
            refine V.icmp_ne (pc := 56) 62 dX0_ceilingBy_56 (by decide) (fun h_56 => ?_) (fun h_56 => ?_)
            · refine V.aload_n (pc := 62) 0 dX0_ceilingBy_62 rfl ?_
              refine V.aload_n (pc := 63) 0 dX0_ceilingBy_63 rfl ?_
              refine gf_X0_55 (pc := 64) t ht dX0_ceilingBy_64 ?_
              refine V.iload (pc := 67) 7 dX0_ceilingBy_67 rfl ?_
              refine V.lald (pc := 69) (k := 8 * t + 5) (n := 16) (v := lN (S.bag s)) (by omega) (cell_Sj ht rfl) s (by omega) (by decide) dX0_ceilingBy_69 (hS.bag s (by omega)) ?_
              refine V.lload_n (pc := 70) 2 dX0_ceilingBy_70 rfl ?_
              refine V.ldc2_w (pc := 71) (v := (-1)) mw_4_46 dX0_ceilingBy_71 ?_
              refine V.lxor (pc := 74) (v := lN (bagOf S set) ^^^ (-1)) dX0_ceilingBy_74 rfl ?_
              refine V.land (pc := 75) (v := lN (adn (S.bag s) (bagOf S set))) dX0_ceilingBy_75 (ll_adn _ _) ?_
              refine cp_X0_40 (pc := 76) t ht dX0_ceilingBy_76 (ok_X6_weightOf t ht S hS (adn (S.bag s) (bagOf S set)) (by omega)) (by omega) (Nat.le_of_ble_eq_true rfl) ?_
              refine V.istore (pc := 79) (lv' := [(0, .ref (G.2.2 (8 * t))), (1, .int (nI set)), (2, .long (lN (bagOf S set))), (4, .int (nI acc)), (5, .int (nI left)), (6, .int (nI rest)), (7, .int (nI i)), (8, .int (nI s)), (9, .int (nI (own S (bagOf S set) s)))]) dX0_ceilingBy_79 (by decide) rfl ?_
              refine V.aload_n (pc := 81) 0 dX0_ceilingBy_81 rfl ?_
              refine gf_X0_61 (pc := 82) t ht dX0_ceilingBy_82 ?_
              refine V.iload (pc := 85) 7 dX0_ceilingBy_85 rfl ?_
              refine V.iald (pc := 87) (k := 8 * t + 1) (n := 16) (v := nI (S.len s)) (by omega) (cell_Si ht ⟨by decide, by decide⟩) s (by omega) (by decide) dX0_ceilingBy_87 (hS.len s (by omega)) ?_
              refine V.istore (pc := 88) (lv' := [(0, .ref (G.2.2 (8 * t))), (1, .int (nI set)), (2, .long (lN (bagOf S set))), (4, .int (nI acc)), (5, .int (nI left)), (6, .int (nI rest)), (7, .int (nI i)), (8, .int (nI s)), (9, .int (nI (own S (bagOf S set) s))), (10, .int (nI (S.len s)))]) dX0_ceilingBy_88 (by decide) rfl ?_
              refine V.iload (pc := 90) 9 dX0_ceilingBy_90 rfl ?_
              refine V.ifN_le (pc := 92) 114 dX0_ceilingBy_92 (by decide) (by omega) (fun h_92 => ?_) (fun h_92 => ?_)
              · exact absurd h_92 (by omega)
              · refine V.iload (pc := 95) 9 dX0_ceilingBy_95 rfl ?_
                refine V.iload (pc := 97) 4 dX0_ceilingBy_97 rfl ?_
                refine V.icmpN_le (pc := 99) 114 dX0_ceilingBy_99 (by decide) (by omega) (by omega) (fun h_99 => ?_) (fun h_99 => ?_)
                · refine V.iload (pc := 114) 3 dX0_ceilingBy_114 rfl ?_
                  refine V.iload (pc := 116) 8 dX0_ceilingBy_116 rfl ?_
                  refine V.iadd (pc := 118) (v := nI (acc + (own S (bagOf S set) s))) dX0_ceilingBy_118 (nI_add _ _) ?_
                  refine V.istore (pc := 119) (lv' := [(0, .ref (G.2.2 (8 * t))), (1, .int (nI set)), (2, .long (lN (bagOf S set))), (4, .int (nI (acc + (own S (bagOf S set) s)))), (5, .int (nI left)), (6, .int (nI rest)), (7, .int (nI i)), (8, .int (nI s)), (9, .int (nI (own S (bagOf S set) s))), (10, .int (nI (S.len s)))]) dX0_ceilingBy_119 (by decide) rfl ?_
                  refine V.iload (pc := 121) 4 dX0_ceilingBy_121 rfl ?_
                  refine V.iload (pc := 123) 9 dX0_ceilingBy_123 rfl ?_
                  refine V.isub (pc := 125) (v := nI (left - (S.len s))) dX0_ceilingBy_125 (pk_sub (by omega)) ?_
                  refine V.istore (pc := 126) (lv' := [(0, .ref (G.2.2 (8 * t))), (1, .int (nI set)), (2, .long (lN (bagOf S set))), (4, .int (nI (acc + (own S (bagOf S set) s)))), (5, .int (nI (left - (S.len s)))), (6, .int (nI rest)), (7, .int (nI i)), (8, .int (nI s)), (9, .int (nI (own S (bagOf S set) s))), (10, .int (nI (S.len s)))]) dX0_ceilingBy_126 (by decide) rfl ?_
                  refine V.iload (pc := 128) 5 dX0_ceilingBy_128 rfl ?_
                  refine V.iconst (pc := 130) (v := nI 1) dX0_ceilingBy_130 (by decide) ?_
                  refine V.iload (pc := 131) 7 dX0_ceilingBy_131 rfl ?_
                  refine V.ishl (pc := 133) (v := nI (2 ^ s)) dX0_ceilingBy_133 (nn_shl1 (by omega)) ?_
                  refine V.iconst (pc := 134) (v := (-1)) dX0_ceilingBy_134 (by decide) ?_
                  refine V.ixor (pc := 135) (v := nI (2 ^ s) ^^^ (-1)) dX0_ceilingBy_135 rfl ?_
                  refine V.iand (pc := 136) (v := nI (adn rest (2 ^ s))) dX0_ceilingBy_136 (nn_adn _ _) ?_
                  refine V.istore (pc := 137) (lv' := [(0, .ref (G.2.2 (8 * t))), (1, .int (nI set)), (2, .long (lN (bagOf S set))), (4, .int (nI (acc + (own S (bagOf S set) s)))), (5, .int (nI (left - (S.len s)))), (6, .int (nI (adn rest (2 ^ s)))), (7, .int (nI i)), (8, .int (nI s)), (9, .int (nI (own S (bagOf S set) s))), (10, .int (nI (S.len s)))]) dX0_ceilingBy_137 (by decide) rfl ?_
                  refine V.iinc (pc := 139) (v := nI (i + 1)) (lv' := [(0, .ref (G.2.2 (8 * t))), (1, .int (nI set)), (2, .long (lN (bagOf S set))), (4, .int (nI (acc + (own S (bagOf S set) s)))), (5, .int (nI (left - (S.len s)))), (6, .int (nI (adn rest (2 ^ s)))), (7, .int (nI (i + 1))), (8, .int (nI s)), (9, .int (nI (own S (bagOf S set) s))), (10, .int (nI (S.len s)))]) 6 dX0_ceilingBy_139 rfl (nn_inc _) (by decide) rfl ?_
                  refine V.goto (pc := 142) 32 dX0_ceilingBy_142 (by decide) ?_
                  refine V.sub (lv' := [(0, .ref (G.2.2 (8 * t))), (1, .int (nI set)), (2, .long (lN (bagOf S set))), (4, .int (nI (acc + (own S (bagOf S set) s)))), (5, .int (nI (left - (S.len s)))), (6, .int (nI (adn rest (2 ^ s)))), (7, .int (nI (i + 1)))]) [0, 1, 2, 3, 4, 5, 6] rfl ?_
                  have e_4 : nI (acc + (own S (bagOf S set) s)) = nI (acc + own S (bagOf S set) s) := congrArg nI (by omega)
                  have e_5 : nI (left - (S.len s)) = nI (left - S.len s) := congrArg nI (by omega)
                  refine V.lvs (lv' := [(0, .ref (G.2.2 (8 * t))), (1, .int (nI set)), (2, .long (lN (bagOf S set))), (4, .int (nI (acc + own S (bagOf S set) s))), (5, .int (nI (left - (S.len s)))), (6, .int (nI (adn rest (2 ^ s)))), (7, .int (nI (i + 1)))]) (congrArg (fun z => ([(0, .ref (G.2.2 (8 * t))), (1, .int (nI set)), (2, .long (lN (bagOf S set))), (4, .int z), (5, .int (nI (left - (S.len s)))), (6, .int (nI (adn rest (2 ^ s)))), (7, .int (nI (i + 1)))] : List (Nat × Value))) e_4) ?_
                  refine V.lvs (lv' := [(0, .ref (G.2.2 (8 * t))), (1, .int (nI set)), (2, .long (lN (bagOf S set))), (4, .int (nI (acc + own S (bagOf S set) s))), (5, .int (nI (left - S.len s))), (6, .int (nI (adn rest (2 ^ s)))), (7, .int (nI (i + 1)))]) (congrArg (fun z => ([(0, .ref (G.2.2 (8 * t))), (1, .int (nI set)), (2, .long (lN (bagOf S set))), (4, .int (nI (acc + own S (bagOf S set) s))), (5, .int z), (6, .int (nI (adn rest (2 ^ s)))), (7, .int (nI (i + 1)))] : List (Nat × Value))) e_5) ?_
                  exact ih32 (i + 1) (adn rest (2 ^ s)) (left - S.len s) (acc + own S (bagOf S set) s) (by omega) (by omega) (by omega) (by omega) (by rw [show 16 - i = (16 - (i + 1)) + 1 by omega, ceilGo_s hd (by omega)] at hg; exact hg) (by omega)
                · refine V.iload (pc := 102) 3 dX0_ceilingBy_102 rfl ?_
                  refine V.iload (pc := 104) 8 dX0_ceilingBy_104 rfl ?_
                  refine V.iload (pc := 106) 4 dX0_ceilingBy_106 rfl ?_
                  refine V.imul (pc := 108) (v := nI ((own S (bagOf S set) s) * left)) dX0_ceilingBy_108 (pk_mul _ _) ?_
                  refine V.iload (pc := 109) 9 dX0_ceilingBy_109 rfl ?_
                  refine V.idiv (pc := 111) (v := nI (((own S (bagOf S set) s) * left) / (S.len s))) dX0_ceilingBy_111 (nn_div0 (by omega) (by omega)) (pk_div (by omega) (by omega) (by omega)) ?_
                  refine V.iadd (pc := 112) (v := nI (acc + (((own S (bagOf S set) s) * left) / (S.len s)))) dX0_ceilingBy_112 (nI_add _ _) ?_
                  exact V.iret (pc := 113) hF dX0_ceilingBy_113 ⟨nn_self_eq (by rw [show 16 - i = (16 - (i + 1)) + 1 by omega, ceilGo_c hd (by omega)] at hg; exact hg), rfl⟩
            · exact absurd h_56 (nn_ne_m1 (by omega))
  exact L32 _ 0 (adn (2 ^ S.n - 1) set) S.B (wOf S (bagOf S set)) (by omega) (by omega) (by omega) (by have := wOf_le hS.vs (bagOf S set); omega) rfl (Nat.lt_succ_self _)
def C91 (a : Nat) : Prop := a = 91
theorem C91_no {t : Nat} (ht : t < 10) : ∀ j, j < 8 → ¬ C91 (8 * t + j) := fun j hj h => by unfold C91 at h; omega
theorem ok_X0_run {G : Gx} {μ : Mu} (t : Nat) (ht : t < 10) (S : TS) (hS : St μ t S) (sset cnt ask : Nat) (stp : Nat → Nat) (hcl : Cl μ sset cnt ask stp) (hc : cnt ≤ 16) (hst : ∀ j, j < cnt → stp j < S.n) : Runs 5 M_X0_run [.ref (G.2.2 91), .ref (G.2.2 (8 * t)), .ref (G.2.2 86)] G μ (fun r μ' => r = none ∧ Fr μ μ' C91 ∧ μ'.1 91 0 = nI (clRun S stp cnt).2.1 ∧ μ'.1 91 1 = nI (clRun S stp cnt).2.2) := by
  have hn := hS.vs.n16
  have h16 := pow16 hS.vs
  refine Runs.go RX0 rfl (by decide) [(0, .ref (G.2.2 91)), (1, .ref (G.2.2 (8 * t))), (2, .ref (G.2.2 86))] (Nat.le_of_ble_eq_true rfl) rfl (fun X hF => ?_)
  refine V.iconst (pc := 0) (v := nI 0) dX0_run_0 (by decide) ?_
  refine V.istore_n (pc := 1) (lv' := [(0, .ref (G.2.2 91)), (1, .ref (G.2.2 (8 * t))), (2, .ref (G.2.2 86)), (3, .int (nI 0))]) dX0_run_1 (by decide) rfl ?_
  refine V.aload_n (pc := 2) 0 dX0_run_2 rfl ?_
  refine V.aload_n (pc := 3) 1 dX0_run_3 rfl ?_
  refine V.iload_n (pc := 4) 3 dX0_run_4 rfl ?_
  refine cp_X0_18 (pc := 5) dX0_run_5 (ok_X0_ceilingBy t ht S hS 0 (by omega)) (by omega) (Nat.le_of_ble_eq_true rfl) ?_
  refine pf_X0_9 (pc := 8) dX0_run_8 ?_
  refine V.aload_n (pc := 11) 0 dX0_run_11 rfl ?_
  refine V.iconst (pc := 12) (v := nI 0) dX0_run_12 (by decide) ?_
  refine pf_X0_15 (pc := 13) dX0_run_13 ?_
  refine V.iconst (pc := 16) (v := nI 0) dX0_run_16 (by decide) ?_
  refine V.istore (pc := 17) (lv' := [(0, .ref (G.2.2 91)), (1, .ref (G.2.2 (8 * t))), (2, .ref (G.2.2 86)), (3, .int (nI 0)), (4, .int (nI 0))]) dX0_run_17 (by decide) rfl ?_
  have L19 : ∀ (n_ : Nat) (k : Nat) ( μ1 : Mu), (k ≤ cnt) → (Fr μ μ1 C91) → (μ1.1 91 0 = nI (clRun S stp k).2.1) → (μ1.1 91 1 = nI (clRun S stp k).2.2) → cnt - k < n_ → V G RX0 cX0_run 6 5 X 19 [(0, .ref (G.2.2 91)), (1, .ref (G.2.2 (8 * t))), (2, .ref (G.2.2 86)), (3, .int (nI ((clRun S stp k).1))), (4, .int (nI k))] [] μ1 := by
    intro n_
    induction n_ with
    | zero => intro k μ1 hk hfr hc0 hc1 hm_; exact absurd hm_ (Nat.not_lt_zero _)
    | succ n_ ih19 =>
      intro k μ1 hk hfr hc0 hc1 hm_
      have hS1 := hS.fr hfr (C91_no ht)
      refine V.iload (pc := 19) 4 dX0_run_19 rfl ?_
      refine V.aload_n (pc := 21) 2 dX0_run_21 rfl ?_
      refine gf_X0_22 (pc := 22) (v := nI cnt) dX0_run_22 ((congrFun (hfr 86 (by unfold C91; decide)).1 1).trans hcl.2.1) ?_
      refine V.icmpN_ge (pc := 25) 86 dX0_run_25 (by decide) (by omega) (by omega) (fun h_25 => ?_) (fun h_25 => ?_)
      · exact V.vret (pc := 86) hF dX0_run_86 ⟨rfl, hfr, by rw [show cnt = k from by omega]; exact hc0, by rw [show cnt = k from by omega]; exact hc1⟩
      · refine V.iload (pc := 28) 4 dX0_run_28 rfl ?_
        refine V.bipush (pc := 30) (v := nI 16) dX0_run_30 (by decide) ?_
        refine V.icmpN_ge (pc := 32) 86 dX0_run_32 (by decide) (by omega) (by omega) (fun h_32 => ?_) (fun h_32 => ?_)
        · exact absurd h_32 (by omega)
        · have hsk := hst k (by omega)
          have hch := chain_ltn hsk
          have hcr := clRun_lt (stp := stp) hS.vs k (fun j hj => hst j (by omega))
          have hor := or_lt hcr.1 hch
          have hcb := ceilBy_le hS.vs ((clRun S stp k).1 ||| chain S (stp k))
          refine V.iload_n (pc := 35) 3 dX0_run_35 rfl ?_
          refine V.aload_n (pc := 36) 1 dX0_run_36 rfl ?_
          refine gf_X0_27 (pc := 37) t ht dX0_run_37 ?_
          refine V.aload_n (pc := 40) 2 dX0_run_40 rfl ?_
          refine gf_X0_33 (pc := 41) dX0_run_41 ?_
          refine V.iload (pc := 44) 4 dX0_run_44 rfl ?_
          refine V.iald (pc := 46) (k := 87) (n := 16) (v := nI (stp k)) (Nat.le_of_ble_eq_true rfl) (fun _ _ => rfl) k (by omega) (by decide) dX0_run_46 ((congrFun (hfr 87 (by unfold C91; decide)).1 k).trans (hcl.2.2.2 k (by omega))) ?_
          refine V.iald (pc := 47) (k := 8 * t + 4) (n := 16) (v := nI (chain S (stp k))) (by omega) (cell_Si ht ⟨by decide, by decide⟩) (stp k) (by omega) (by decide) dX0_run_47 (hS1.chain (stp k) (by omega)) ?_
          refine V.ior (pc := 48) (v := nI (((clRun S stp k).1) ||| (chain S (stp k)))) dX0_run_48 (nn_or _ _) ?_
          refine V.istore_n (pc := 49) (lv' := [(0, .ref (G.2.2 91)), (1, .ref (G.2.2 (8 * t))), (2, .ref (G.2.2 86)), (3, .int (nI (((clRun S stp k).1) ||| (chain S (stp k))))), (4, .int (nI k))]) dX0_run_49 (by decide) rfl ?_
          refine V.aload_n (pc := 50) 1 dX0_run_50 rfl ?_
          refine V.iload_n (pc := 51) 3 dX0_run_51 rfl ?_
          refine cp_X0_18 (pc := 52) dX0_run_52 (ok_X0_ceilingBy t ht S hS1 (((clRun S stp k).1) ||| (chain S (stp k))) (by omega)) (by omega) (Nat.le_of_ble_eq_true rfl) ?_
          refine V.istore (pc := 55) (lv' := [(0, .ref (G.2.2 91)), (1, .ref (G.2.2 (8 * t))), (2, .ref (G.2.2 86)), (3, .int (nI (((clRun S stp k).1) ||| (chain S (stp k))))), (4, .int (nI k)), (5, .int (nI (ceilBy S (((clRun S stp k).1) ||| (chain S (stp k))))))]) dX0_run_55 (by decide) rfl ?_
          refine V.iload (pc := 57) 5 dX0_run_57 rfl ?_
          refine V.aload_n (pc := 59) 0 dX0_run_59 rfl ?_
          refine gf_X0_9 (pc := 60) (v := nI ((clRun S stp k).2.1)) dX0_run_60 hc0 ?_
          refine V.icmpN_ge (pc := 63) 80 dX0_run_63 (by decide) (by omega) (by omega) (fun h_63 => ?_) (fun h_63 => ?_)
          · refine V.iinc (pc := 80) (v := nI (k + 1)) (lv' := [(0, .ref (G.2.2 91)), (1, .ref (G.2.2 (8 * t))), (2, .ref (G.2.2 86)), (3, .int (nI (((clRun S stp k).1) ||| (chain S (stp k))))), (4, .int (nI (k + 1))), (5, .int (nI (ceilBy S (((clRun S stp k).1) ||| (chain S (stp k))))))]) 4 dX0_run_80 rfl (nn_inc _) (by decide) rfl ?_
            refine V.goto (pc := 83) 19 dX0_run_83 (by decide) ?_
            refine V.sub (lv' := [(0, .ref (G.2.2 91)), (1, .ref (G.2.2 (8 * t))), (2, .ref (G.2.2 86)), (3, .int (nI (((clRun S stp k).1) ||| (chain S (stp k))))), (4, .int (nI (k + 1)))]) [0, 1, 2, 3, 4] rfl ?_
            have e_3 : nI (((clRun S stp k).1) ||| (chain S (stp k))) = nI ((clRun S stp (k + 1)).1) := by rw [clRun_f (by omega)]
            refine V.lvs (lv' := [(0, .ref (G.2.2 91)), (1, .ref (G.2.2 (8 * t))), (2, .ref (G.2.2 86)), (3, .int (nI ((clRun S stp (k + 1)).1))), (4, .int (nI (k + 1)))]) (congrArg (fun z => ([(0, .ref (G.2.2 91)), (1, .ref (G.2.2 (8 * t))), (2, .ref (G.2.2 86)), (3, .int z), (4, .int (nI (k + 1)))] : List (Nat × Value))) e_3) ?_
            exact ih19 (k + 1) μ1 (by omega) hfr (by rw [clRun_f (by omega)]; exact hc0) (by rw [clRun_f (by omega)]; exact hc1) (by omega)
          · refine V.aload_n (pc := 66) 0 dX0_run_66 rfl ?_
            refine V.iload (pc := 67) 5 dX0_run_67 rfl ?_
            refine pf_X0_9 (pc := 69) dX0_run_69 ?_
            refine V.aload_n (pc := 72) 0 dX0_run_72 rfl ?_
            refine V.iload (pc := 73) 4 dX0_run_73 rfl ?_
            refine V.iconst (pc := 75) (v := nI 1) dX0_run_75 (by decide) ?_
            refine V.iadd (pc := 76) (v := nI (k + 1)) dX0_run_76 (nI_add _ _) ?_
            refine pf_X0_15 (pc := 77) dX0_run_77 ?_
            refine V.iinc (pc := 80) (v := nI (k + 1)) (lv' := [(0, .ref (G.2.2 91)), (1, .ref (G.2.2 (8 * t))), (2, .ref (G.2.2 86)), (3, .int (nI (((clRun S stp k).1) ||| (chain S (stp k))))), (4, .int (nI (k + 1))), (5, .int (nI (ceilBy S (((clRun S stp k).1) ||| (chain S (stp k))))))]) 4 dX0_run_80 rfl (nn_inc _) (by decide) rfl ?_
            refine V.goto (pc := 83) 19 dX0_run_83 (by decide) ?_
            refine V.sub (lv' := [(0, .ref (G.2.2 91)), (1, .ref (G.2.2 (8 * t))), (2, .ref (G.2.2 86)), (3, .int (nI (((clRun S stp k).1) ||| (chain S (stp k))))), (4, .int (nI (k + 1)))]) [0, 1, 2, 3, 4] rfl ?_
            have e_3 : nI (((clRun S stp k).1) ||| (chain S (stp k))) = nI ((clRun S stp (k + 1)).1) := by rw [clRun_t h_63]
            refine V.lvs (lv' := [(0, .ref (G.2.2 91)), (1, .ref (G.2.2 (8 * t))), (2, .ref (G.2.2 86)), (3, .int (nI ((clRun S stp (k + 1)).1))), (4, .int (nI (k + 1)))]) (congrArg (fun z => ([(0, .ref (G.2.2 91)), (1, .ref (G.2.2 (8 * t))), (2, .ref (G.2.2 86)), (3, .int z), (4, .int (nI (k + 1)))] : List (Nat × Value))) e_3) ?_
            exact ih19 (k + 1) (si (si μ1 91 0 (nI (ceilBy S (((clRun S stp k).1) ||| (chain S (stp k)))))) 91 1 (nI (k + 1))) (by omega) ((hfr.si _ _ rfl).si _ _ rfl) (by rw [clRun_t h_63]; simp [si, upd]) (by rw [clRun_t h_63]; simp [si, upd]) (by omega)
  have e_3 : nI 0 = nI ((clRun S stp 0).1) := rfl
  refine V.lvs (lv' := [(0, .ref (G.2.2 91)), (1, .ref (G.2.2 (8 * t))), (2, .ref (G.2.2 86)), (3, .int (nI ((clRun S stp 0).1))), (4, .int (nI 0))]) (congrArg (fun z => ([(0, .ref (G.2.2 91)), (1, .ref (G.2.2 (8 * t))), (2, .ref (G.2.2 86)), (3, .int z), (4, .int (nI 0))] : List (Nat × Value))) e_3) ?_
  exact L19 _ 0 (si (si μ 91 0 (nI (ceilBy S 0))) 91 1 (nI 0)) (by omega) (((Fr.refl μ C91).si _ _ rfl).si _ _ rfl) (by simp [si, upd]; rfl) (by simp [si, upd]; rfl) (Nat.lt_succ_self _)
/-! the exchange -/
def swSet (S : TS) (a b : Nat) : Nat := adn S.T (2 ^ a) ||| 2 ^ b
abbrev swOk (S : TS) (cv a b : Nat) : Prop := cv < cov S (swSet S a b) ∧ lenOf S (swSet S a b) ≤ S.B ∧ whole S (swSet S a b) = true
abbrev SW : Type := Nat × Nat × Nat
def swStep (S : TS) (x : SW) (a b : Nat) : SW := if S.T.testBit a = true ∧ S.T.testBit b = false ∧ swOk S x.2.2 a b then (a + 1, b + 1, cov S (swSet S a b)) else x
def swB (S : TS) (x : SW) (a : Nat) : Nat → SW
  | 0 => x
  | b + 1 => swStep S (swB S x a b) a b
def swA (S : TS) : Nat → SW
  | 0 => (0, 0, cov S S.T)
  | a + 1 => swB S (swA S a) a S.n
def Sw (μ : Mu) (x : SW) : Prop := μ.1 94 0 = pv x.1 ∧ μ.1 94 1 = pv x.2.1 ∧ μ.1 94 2 = nI x.2.2
def C94 (a : Nat) : Prop := a = 94
theorem C94_no {t : Nat} (ht : t < 10) : ∀ j, j < 8 → ¬ C94 (8 * t + j) := fun j hj h => by unfold C94 at h; omega
theorem swStep_le {S : TS} (h : VS S) {x : SW} (hx : x.2.2 ≤ 48000) (a b : Nat) : (swStep S x a b).2.2 ≤ 48000 := by
  unfold swStep
  split
  · exact wOf_le h _
  · exact hx
theorem swB_le {S : TS} (h : VS S) {x : SW} (hx : x.2.2 ≤ 48000) (a : Nat) : ∀ b, (swB S x a b).2.2 ≤ 48000
  | 0 => hx
  | b + 1 => swStep_le h (swB_le h hx a b) a b
theorem swA_le {S : TS} (h : VS S) : ∀ a, (swA S a).2.2 ≤ 48000
  | 0 => wOf_le h _
  | a + 1 => swB_le h (swA_le h a) a S.n
theorem swSet_lt {S : TS} (h : VS S) {a b : Nat} (hb : b < S.n) : swSet S a b < 2 ^ S.n :=
  or_lt (Nat.lt_of_le_of_lt (adn_le _ _) h.tk) (Nat.pow_lt_pow_right (by decide) hb)
theorem Sw.put (μ : Mu) (a b c : Nat) : Sw (si (si (si μ 94 0 (nI a)) 94 1 (nI b)) 94 2 (nI c)) (a + 1, b + 1, c) := ⟨by simp [si, upd, pv], by simp [si, upd, pv], by simp [si, upd]⟩
theorem ok_X7_offer {G : Gx} {μ : Mu} (t : Nat) (ht : t < 10) (S : TS) (hS : St μ t S) (x : SW) (hx : Sw μ x) (hxl : x.2.2 ≤ 48000) (a b : Nat) (ha : a < S.n) (hb : b < S.n) (hta : S.T.testBit a = true) (htb : S.T.testBit b = false) : Runs 4 M_X7_offer [.ref (G.2.2 94), .ref (G.2.2 (8 * t)), .int (nI a), .int (nI b)] G μ (fun r μ' => r = none ∧ Fr μ μ' C94 ∧ Sw μ' (swStep S x a b)) := by
  have hn := hS.vs.n16
  have h16 := pow16 hS.vs
  have hsw := swSet_lt hS.vs (a := a) hb
  have hB := hS.vs.B9
  have hll := lenOf_le hS.vs (swSet S a b)
  have hcv : cov S (swSet S a b) ≤ 48000 := wOf_le hS.vs _
  have htk := hS.vs.tk
  refine Runs.go RX7 rfl (by decide) [(0, .ref (G.2.2 94)), (1, .ref (G.2.2 (8 * t))), (2, .int (nI a)), (3, .int (nI b))] (Nat.le_of_ble_eq_true rfl) rfl (fun X hF => ?_)
  refine V.aload_n (pc := 0) 1 dX7_offer_0 rfl ?_
  refine gf_X7_21 (pc := 1) t ht (v := nI S.T) dX7_offer_1 hS.T ?_
  refine V.iconst (pc := 4) (v := nI 1) dX7_offer_4 (by decide) ?_
  refine V.iload_n (pc := 5) 2 dX7_offer_5 rfl ?_
  refine V.ishl (pc := 6) (v := nI (2 ^ a)) dX7_offer_6 (nn_shl1 (by omega)) ?_
  refine V.iconst (pc := 7) (v := (-1)) dX7_offer_7 (by decide) ?_
  refine V.ixor (pc := 8) (v := nI (2 ^ a) ^^^ (-1)) dX7_offer_8 rfl ?_
  refine V.iand (pc := 9) (v := nI (adn S.T (2 ^ a))) dX7_offer_9 (nn_adn _ _) ?_
  refine V.iconst (pc := 10) (v := nI 1) dX7_offer_10 (by decide) ?_
  refine V.iload_n (pc := 11) 3 dX7_offer_11 rfl ?_
  refine V.ishl (pc := 12) (v := nI (2 ^ b)) dX7_offer_12 (nn_shl1 (by omega)) ?_
  refine V.ior (pc := 13) (v := nI (swSet S a b)) dX7_offer_13 ((nn_or _ _).trans (congrArg nI rfl)) ?_
  refine V.istore (pc := 14) (lv' := [(0, .ref (G.2.2 94)), (1, .ref (G.2.2 (8 * t))), (2, .int (nI a)), (3, .int (nI b)), (4, .int (nI (swSet S a b)))]) dX7_offer_14 (by decide) rfl ?_
  refine V.aload_n (pc := 16) 1 dX7_offer_16 rfl ?_
  refine V.iload (pc := 17) 4 dX7_offer_17 rfl ?_
  refine cp_X7_26 (pc := 19) t ht dX7_offer_19 (ok_X6_coveredBy t ht S hS (swSet S a b) (by omega)) (by omega) (Nat.le_of_ble_eq_true rfl) ?_
  refine V.istore (pc := 22) (lv' := [(0, .ref (G.2.2 94)), (1, .ref (G.2.2 (8 * t))), (2, .int (nI a)), (3, .int (nI b)), (4, .int (nI (swSet S a b))), (5, .int (nI (cov S (swSet S a b))))]) dX7_offer_22 (by decide) rfl ?_
  refine V.iload (pc := 24) 5 dX7_offer_24 rfl ?_
  refine V.aload_n (pc := 26) 0 dX7_offer_26 rfl ?_
  refine gf_X7_18 (pc := 27) (v := nI x.2.2) dX7_offer_27 hx.2.2 ?_
  refine V.icmpN_le (pc := 30) 71 dX7_offer_30 (by decide) (by omega) (by omega) (fun h_30 => ?_) (fun h_30 => ?_)
  · exact V.vret (pc := 71) hF dX7_offer_71 ⟨rfl, Fr.refl μ C94, by rw [swStep, if_neg (fun h => absurd h.2.2.1 (by omega))]; exact hx⟩
  · refine V.aload_n (pc := 33) 1 dX7_offer_33 rfl ?_
    refine V.iload (pc := 34) 4 dX7_offer_34 rfl ?_
    refine cp_X7_41 (pc := 36) t ht dX7_offer_36 (ok_X6_lengthOf t ht S hS (swSet S a b) (by omega)) (by omega) (Nat.le_of_ble_eq_true rfl) ?_
    refine V.aload_n (pc := 39) 1 dX7_offer_39 rfl ?_
    refine gf_X7_44 (pc := 40) t ht (v := nI S.B) dX7_offer_40 hS.B ?_
    refine V.icmpN_gt (pc := 43) 71 dX7_offer_43 (by decide) (by omega) (by omega) (fun h_43 => ?_) (fun h_43 => ?_)
    · exact V.vret (pc := 71) hF dX7_offer_71 ⟨rfl, Fr.refl μ C94, by rw [swStep, if_neg (fun h => absurd h.2.2.2.1 (by omega))]; exact hx⟩
    · refine V.aload_n (pc := 46) 1 dX7_offer_46 rfl ?_
      refine V.iload (pc := 47) 4 dX7_offer_47 rfl ?_
      refine cp_X7_47 (pc := 49) t ht dX7_offer_49 (ok_X6_isWhole t ht S hS (swSet S a b) (by omega)) (by omega) (Nat.le_of_ble_eq_true rfl) ?_
      refine V.ifB_eq (pc := 52) 71 dX7_offer_52 (by decide) (fun h_52 => ?_) (fun h_52 => ?_)
      · exact V.vret (pc := 71) hF dX7_offer_71 ⟨rfl, Fr.refl μ C94, by rw [swStep, if_neg (fun h => absurd h.2.2.2.2 (by rw [h_52]; decide))]; exact hx⟩
      · refine V.aload_n (pc := 55) 0 dX7_offer_55 rfl ?_
        refine V.iload_n (pc := 56) 2 dX7_offer_56 rfl ?_
        refine pf_X7_9 (pc := 57) dX7_offer_57 ?_
        refine V.aload_n (pc := 60) 0 dX7_offer_60 rfl ?_
        refine V.iload_n (pc := 61) 3 dX7_offer_61 rfl ?_
        refine pf_X7_15 (pc := 62) dX7_offer_62 ?_
        refine V.aload_n (pc := 65) 0 dX7_offer_65 rfl ?_
        refine V.iload (pc := 66) 5 dX7_offer_66 rfl ?_
        refine pf_X7_18 (pc := 68) dX7_offer_68 ?_
        exact V.vret (pc := 71) hF dX7_offer_71 ⟨rfl, (((Fr.refl μ C94).si _ _ rfl).si _ _ rfl).si _ _ rfl, by rw [swStep, if_pos ⟨hta, htb, by omega, by omega, h_52⟩]; exact Sw.put μ a b _⟩
theorem ok_X7_run {G : Gx} {μ : Mu} (t : Nat) (ht : t < 10) (S : TS) (hS : St μ t S)  : Runs 5 M_X7_run [.ref (G.2.2 94), .ref (G.2.2 (8 * t))] G μ (fun r μ' => r = none ∧ Fr μ μ' C94 ∧ Sw μ' (swA S S.n)) := by
  have hn := hS.vs.n16
  have h16 := pow16 hS.vs
  have htk := hS.vs.tk
  refine Runs.go RX7 rfl (by decide) [(0, .ref (G.2.2 94)), (1, .ref (G.2.2 (8 * t)))] (Nat.le_of_ble_eq_true rfl) rfl (fun X hF => ?_)
  refine V.aload_n (pc := 0) 0 dX7_run_0 rfl ?_
  refine V.iconst (pc := 1) (v := (-1)) dX7_run_1 (by decide) ?_
  refine pf_X7_9 (pc := 2) dX7_run_2 ?_
  refine V.aload_n (pc := 5) 0 dX7_run_5 rfl ?_
  refine V.iconst (pc := 6) (v := (-1)) dX7_run_6 (by decide) ?_
  refine pf_X7_15 (pc := 7) dX7_run_7 ?_
  refine V.aload_n (pc := 10) 0 dX7_run_10 rfl ?_
  refine V.aload_n (pc := 11) 1 dX7_run_11 rfl ?_
  refine V.aload_n (pc := 12) 1 dX7_run_12 rfl ?_
  refine gf_X7_21 (pc := 13) t ht (v := nI S.T) dX7_run_13 ((congrFun (si_c _ _ _ (by omega)) _).trans ((congrFun (si_c _ _ _ (by omega)) _).trans hS.T)) ?_
  refine cp_X7_26 (pc := 16) t ht dX7_run_16 (ok_X6_coveredBy t ht S ((hS.si ht (by decide)).si ht (by decide)) S.T (by omega)) (by omega) (Nat.le_of_ble_eq_true rfl) ?_
  refine pf_X7_18 (pc := 19) dX7_run_19 ?_
  refine V.iconst (pc := 22) (v := nI 0) dX7_run_22 (by decide) ?_
  refine V.istore_n (pc := 23) (lv' := [(0, .ref (G.2.2 94)), (1, .ref (G.2.2 (8 * t))), (2, .int (nI 0))]) dX7_run_23 (by decide) rfl ?_
  have L24 : ∀ (n_ : Nat) (a : Nat) ( μ1 : Mu), (a ≤ S.n) → (Fr μ μ1 C94) → (Sw μ1 (swA S a)) → S.n - a < n_ → V G RX7 cX7_run 4 5 X 24 [(0, .ref (G.2.2 94)), (1, .ref (G.2.2 (8 * t))), (2, .int (nI a))] [] μ1 := by
    intro n_
    induction n_ with
    | zero => intro a μ1 ha hfr hx hm_; exact absurd hm_ (Nat.not_lt_zero _)
    | succ n_ ih24 =>
      intro a μ1 ha hfr hx hm_
      have hS1 := hS.fr hfr (C94_no ht)
      refine V.iload_n (pc := 24) 2 dX7_run_24 rfl ?_
      refine V.aload_n (pc := 25) 1 dX7_run_25 rfl ?_
      refine gf_X7_30 (pc := 26) t ht (v := nI S.n) dX7_run_26 hS1.n ?_
      refine V.icmpN_ge (pc := 29) 83 dX7_run_29 (by decide) (by omega) (by omega) (fun h_29 => ?_) (fun h_29 => ?_)
      · exact V.vret (pc := 83) hF dX7_run_83 ⟨rfl, hfr, by rw [show a = S.n from by omega] at hx; exact hx⟩
      · refine V.iconst (pc := 32) (v := nI 0) dX7_run_32 (by decide) ?_
        refine V.istore_n (pc := 33) (lv' := [(0, .ref (G.2.2 94)), (1, .ref (G.2.2 (8 * t))), (2, .int (nI a)), (3, .int (nI 0))]) dX7_run_33 (by decide) rfl ?_
        have L34 : ∀ (n_ : Nat) (b : Nat) ( μ1 : Mu), (b ≤ S.n) → (Fr μ μ1 C94) → (Sw μ1 (swB S (swA S a) a b)) → S.n - b < n_ → V G RX7 cX7_run 4 5 X 34 [(0, .ref (G.2.2 94)), (1, .ref (G.2.2 (8 * t))), (2, .int (nI a)), (3, .int (nI b))] [] μ1 := by
          intro n_
          induction n_ with
          | zero => intro b μ1 hb hfr hx hm_; exact absurd hm_ (Nat.not_lt_zero _)
          | succ n_ ih34 =>
            intro b μ1 hb hfr hx hm_
            have hS1 := hS.fr hfr (C94_no ht)
            refine V.iload_n (pc := 34) 3 dX7_run_34 rfl ?_
            refine V.aload_n (pc := 35) 1 dX7_run_35 rfl ?_
            refine gf_X7_30 (pc := 36) t ht (v := nI S.n) dX7_run_36 hS1.n ?_
            refine V.icmpN_ge (pc := 39) 77 dX7_run_39 (by decide) (by omega) (by omega) (fun h_39 => ?_) (fun h_39 => ?_)
            · refine V.iinc (pc := 77) (v := nI (a + 1)) (lv' := [(0, .ref (G.2.2 94)), (1, .ref (G.2.2 (8 * t))), (2, .int (nI (a + 1))), (3, .int (nI b))]) 2 dX7_run_77 rfl (nn_inc _) (by decide) rfl ?_
              refine V.goto (pc := 80) 24 dX7_run_80 (by decide) ?_
              refine V.sub (lv' := [(0, .ref (G.2.2 94)), (1, .ref (G.2.2 (8 * t))), (2, .int (nI (a + 1)))]) [0, 1, 2] rfl ?_
              exact ih24 (a + 1) μ1 (by omega) hfr (by rw [show b = S.n from by omega] at hx; exact hx) (by omega)
            · refine V.iload_n (pc := 42) 2 dX7_run_42 rfl ?_
              refine V.aload_n (pc := 43) 1 dX7_run_43 rfl ?_
              refine gf_X7_21 (pc := 44) t ht (v := nI S.T) dX7_run_44 hS1.T ?_
              refine cp_X7_33 (pc := 47) dX7_run_47 (ok_X8_isIn a S.T (by omega) (by omega)) (by omega) (Nat.le_of_ble_eq_true rfl) ?_
              refine V.ifB_eq (pc := 50) 71 dX7_run_50 (by decide) (fun h_50 => ?_) (fun h_50 => ?_)
              · refine V.iinc (pc := 71) (v := nI (b + 1)) (lv' := [(0, .ref (G.2.2 94)), (1, .ref (G.2.2 (8 * t))), (2, .int (nI a)), (3, .int (nI (b + 1)))]) 3 dX7_run_71 rfl (nn_inc _) (by decide) rfl ?_
                refine V.goto (pc := 74) 34 dX7_run_74 (by decide) ?_
                exact ih34 (b + 1) μ1 (by omega) hfr (by rw [swB, swStep, if_neg (fun h => absurd h.1 (by rw [h_50]; decide))]; exact hx) (by omega)
              · refine V.iload_n (pc := 53) 3 dX7_run_53 rfl ?_
                refine V.aload_n (pc := 54) 1 dX7_run_54 rfl ?_
                refine gf_X7_21 (pc := 55) t ht (v := nI S.T) dX7_run_55 hS1.T ?_
                refine cp_X7_33 (pc := 58) dX7_run_58 (ok_X8_isIn b S.T (by omega) (by omega)) (by omega) (Nat.le_of_ble_eq_true rfl) ?_
                refine V.ifB_ne (pc := 61) 71 dX7_run_61 (by decide) (fun h_61 => ?_) (fun h_61 => ?_)
                · refine V.iinc (pc := 71) (v := nI (b + 1)) (lv' := [(0, .ref (G.2.2 94)), (1, .ref (G.2.2 (8 * t))), (2, .int (nI a)), (3, .int (nI (b + 1)))]) 3 dX7_run_71 rfl (nn_inc _) (by decide) rfl ?_
                  refine V.goto (pc := 74) 34 dX7_run_74 (by decide) ?_
                  exact ih34 (b + 1) μ1 (by omega) hfr (by rw [swB, swStep, if_neg (fun h => absurd h.2.1 (by rw [h_61]; decide))]; exact hx) (by omega)
                · refine V.aload_n (pc := 64) 0 dX7_run_64 rfl ?_
                  refine V.aload_n (pc := 65) 1 dX7_run_65 rfl ?_
                  refine V.iload_n (pc := 66) 2 dX7_run_66 rfl ?_
                  refine V.iload_n (pc := 67) 3 dX7_run_67 rfl ?_
                  refine cl_X7_37 (pc := 68) dX7_run_68 (ok_X7_offer t ht S hS1 (swB S (swA S a) a b) hx (swB_le hS.vs (swA_le hS.vs a) a b) a b (by omega) (by omega) h_50 h_61) (by omega) (Nat.le_of_ble_eq_true rfl) (fun r_ μ_ h_ => ?_)
                  obtain ⟨rfl, hfr2, hx2⟩ := h_
                  refine V.iinc (pc := 71) (v := nI (b + 1)) (lv' := [(0, .ref (G.2.2 94)), (1, .ref (G.2.2 (8 * t))), (2, .int (nI a)), (3, .int (nI (b + 1)))]) 3 dX7_run_71 rfl (nn_inc _) (by decide) rfl ?_
                  refine V.goto (pc := 74) 34 dX7_run_74 (by decide) ?_
                  exact ih34 (b + 1) μ_ (by omega) (hfr.trans hfr2 (fun _ h => h) (fun _ h => h)) hx2 (by omega)
        exact L34 _ 0 μ1 (by omega) hfr hx (Nat.lt_succ_self _)
  exact L24 _ 0 (si (si (si μ 94 0 (-1)) 94 1 (-1)) 94 2 (nI (cov S S.T))) (by omega) ((((Fr.refl μ C94).si _ _ rfl).si _ _ rfl).si _ _ rfl) (⟨by simp [si, upd]; rfl, by simp [si, upd]; rfl, by simp [si, upd]; rfl⟩) (Nat.lt_succ_self _)
