set_option maxHeartbeats 2000000 in
theorem lq_loop {G : Gx} {b L : Nat} {y : Nat → Nat} (hL : L ≤ 3072) (hy : ∀ j, y j < 2 ^ 32) : ∀ (f k i : Nat) (X : Cx) (μ : Mu) (a : AS), L + 6 ≤ i + 6 * f → 6 * k ≤ i → i ≤ 3078 → FinW G X b L y k → Kl μ a → Rf μ a → V G RL cL_law 8 100 X 23 (lv0 G b i) [] μ := by
  intro f
  induction f with
  | zero =>
    intro k i X μ a hf hk hi hF hKl hRf
    refine V.iload (pc := 23) 4 dL_law_23 rfl ?_
    refine V.aload_n (pc := 25) 0 dL_law_25 rfl ?_
    refine V.slen (pc := 26) hF dL_law_26 ?_
    refine V.bipush (pc := 27) (v := nI 6) dL_law_27 (by decide) ?_
    refine V.isub (pc := 29) (v := nI L - nI 6) dL_law_29 rfl ?_
    refine V.icmp_gt (pc := 30) 1687 dL_law_30 (by decide) (fun _ => ?_) (fun h => ?_)
    · refine V.iconst (pc := 1687) (v := 1) dL_law_1687 (by decide) ?_
      exact V.lawEnd hF dL_law_1688
    · have := lawIn hL hi h
      exact absurd this (by omega)
  | succ f ih =>
    intro k i X μ a hf hk hi hF hKl hRf
    refine V.iload (pc := 23) 4 dL_law_23 rfl ?_
    refine V.aload_n (pc := 25) 0 dL_law_25 rfl ?_
    refine V.slen (pc := 26) hF dL_law_26 ?_
    refine V.bipush (pc := 27) (v := nI 6) dL_law_27 (by decide) ?_
    refine V.isub (pc := 29) (v := nI L - nI 6) dL_law_29 rfl ?_
    refine V.icmp_gt (pc := 30) 1687 dL_law_30 (by decide) (fun _ => ?_) (fun h => ?_)
    · refine V.iconst (pc := 1687) (v := 1) dL_law_1687 (by decide) ?_
      exact V.lawEnd hF dL_law_1688
    · have hi6 := lawIn hL hi h
      have hk5 : k < 512 := by omega
      have nx : Nx G b L i k y := by
        intro X' k' μ' a' hk' hF' hK' hR'
        refine V.iinc (pc := 1681) (v := nI (i + 6)) (lv' := lv0 G b (i + 6)) 4 dL_law_1681 rfl (by rw [show Int32.ofInt 6 = nI 6 from by decide]; exact nI_add i 6) (by decide) rfl ?_
        refine V.goto (pc := 1684) 23 dL_law_1684 (by decide) ?_
        exact ih k' (i + 6) X' μ' a' (by omega) (by omega) (by omega) hF' hK' hR'
      clear ih
      refine V.aload_n (pc := 33) 0 dL_law_33 rfl ?_
      refine V.iload (pc := 34) 4 dL_law_34 rfl ?_
      refine V.sld (pc := 36) hF i (by omega) hL dL_law_36 ?_
      refine V.bipush (pc := 37) (v := nI 31) dL_law_37 (by decide) ?_
      refine V.iand (pc := 39) (v := nI (y i % 32)) dL_law_39 ((nn_and _ _).trans (congrArg nI (Nat.and_two_pow_sub_one_eq_mod (y i) 5))) ?_
      have hc : y i % 32 < 32 := Nat.mod_lt _ (by decide)
      generalize y i % 32 = cq at hc ⊢
      by_cases hd : 26 < cq
      · refine V.tsOut (pc := 40) 1681 (by omega) (by omega) dL_law_40 (by decide) ?_
        exact nx _ _ _ _ (Nat.le_succ _) hF hKl hRf
      · rcases (show cq = 0 ∨ cq = 1 ∨ cq = 2 ∨ cq = 3 ∨ cq = 4 ∨ cq = 5 ∨ cq = 6 ∨ cq = 7 ∨ cq = 8 ∨ cq = 9 ∨ cq = 10 ∨ cq = 11 ∨ cq = 12 ∨ cq = 13 ∨ cq = 14 ∨ cq = 15 ∨ cq = 16 ∨ cq = 17 ∨ cq = 18 ∨ cq = 19 ∨ cq = 20 ∨ cq = 21 ∨ cq = 22 ∨ cq = 23 ∨ cq = 24 ∨ cq = 25 ∨ cq = 26 by omega) with h0 | h1 | h2 | h3 | h4 | h5 | h6 | h7 | h8 | h9 | h10 | h11 | h12 | h13 | h14 | h15 | h16 | h17 | h18 | h19 | h20 | h21 | h22 | h23 | h24 | h25 | h26
        · exact V.tsIn (pc := 40) 0 164 h0 (by decide) dL_law_40 (by decide) rfl (by decide) (lc_feed hF hk5 hL hi6 hy hKl hRf nx)
        · exact V.tsIn (pc := 40) 1 237 h1 (by decide) dL_law_40 (by decide) rfl (by decide) (lc_text hF hk5 hL hi6 hy hKl hRf nx)
        · exact V.tsIn (pc := 40) 2 293 h2 (by decide) dL_law_40 (by decide) rfl (by decide) (lc_fault hF hk5 hL hi6 hy hKl hRf nx)
        · exact V.tsIn (pc := 40) 3 306 h3 (by decide) dL_law_40 (by decide) rfl (by decide) (lc_weigh hF hk5 hL hi6 hy hKl hRf nx)
        · exact V.tsIn (pc := 40) 4 374 h4 (by decide) dL_law_40 (by decide) rfl (by decide) (lc_lean hF hk5 hL hi6 hy hKl hRf nx)
        · exact V.tsIn (pc := 40) 5 458 h5 (by decide) dL_law_40 (by decide) rfl (by decide) (lc_budget hF hk5 hL hi6 hy hKl hRf nx)
        · exact V.tsIn (pc := 40) 6 514 h6 (by decide) dL_law_40 (by decide) rfl (by decide) (lc_take hF hk5 hL hi6 hy hKl hRf nx)
        · exact V.tsIn (pc := 40) 7 570 h7 (by decide) dL_law_40 (by decide) rfl (by decide) (lc_drop hF hk5 hL hi6 hy hKl hRf nx)
        · exact V.tsIn (pc := 40) 8 626 h8 (by decide) dL_law_40 (by decide) rfl (by decide) (lc_undo hF hk5 hL hi6 hy hKl hRf nx)
        · exact V.tsIn (pc := 40) 9 639 h9 (by decide) dL_law_40 (by decide) rfl (by decide) (lc_told hF hk5 hL hi6 hy hKl hRf nx)
        · exact V.tsIn (pc := 40) 10 695 h10 (by decide) dL_law_40 (by decide) rfl (by decide) (lc_sentence hF hk5 hL hi6 hy hKl hRf nx)
        · exact V.tsIn (pc := 40) 11 763 h11 (by decide) dL_law_40 (by decide) rfl (by decide) (lc_words hF hk5 hL hi6 hy hKl hRf nx)
        · exact V.tsIn (pc := 40) 12 818 h12 (by decide) dL_law_40 (by decide) rfl (by decide) (lc_word hF hk5 hL hi6 hy hKl hRf nx)
        · exact V.tsIn (pc := 40) 13 886 h13 (by decide) dL_law_40 (by decide) rfl (by decide) (lc_letter hF hk5 hL hi6 hy hKl hRf nx)
        · exact V.tsIn (pc := 40) 14 954 h14 (by decide) dL_law_40 (by decide) rfl (by decide) (lc_greedy hF hk5 hL hi6 hy hKl hRf nx)
        · exact V.tsIn (pc := 40) 15 1022 h15 (by decide) dL_law_40 (by decide) rfl (by decide) (lc_step hF hk5 hL hi6 hy hKl hRf nx)
        · exact V.tsIn (pc := 40) 16 1090 h16 (by decide) dL_law_40 (by decide) rfl (by decide) (lc_lazy hF hk5 hL hi6 hy hKl hRf nx)
        · exact V.tsIn (pc := 40) 17 1146 h17 (by decide) dL_law_40 (by decide) rfl (by decide) (lc_bound hF hk5 hL hi6 hy hKl hRf nx)
        · exact V.tsIn (pc := 40) 18 1202 h18 (by decide) dL_law_40 (by decide) rfl (by decide) (lc_best hF hk5 hL hi6 hy hKl hRf nx)
        · exact V.tsIn (pc := 40) 19 1270 h19 (by decide) dL_law_40 (by decide) rfl (by decide) (lc_fewest hF hk5 hL hi6 hy hKl hRf nx)
        · exact V.tsIn (pc := 40) 20 1326 h20 (by decide) dL_law_40 (by decide) rfl (by decide) (lc_shortest hF hk5 hL hi6 hy hKl hRf nx)
        · exact V.tsIn (pc := 40) 21 1394 h21 (by decide) dL_law_40 (by decide) rfl (by decide) (lc_worth hF hk5 hL hi6 hy hKl hRf nx)
        · exact V.tsIn (pc := 40) 22 1450 h22 (by decide) dL_law_40 (by decide) rfl (by decide) (lc_exchange hF hk5 hL hi6 hy hKl hRf nx)
        · exact V.tsIn (pc := 40) 23 1506 h23 (by decide) dL_law_40 (by decide) rfl (by decide) (lc_next hF hk5 hL hi6 hy hKl hRf nx)
        · exact V.tsIn (pc := 40) 24 1562 h24 (by decide) dL_law_40 (by decide) rfl (by decide) (lc_likeness hF hk5 hL hi6 hy hKl hRf nx)
        · exact V.tsIn (pc := 40) 25 1642 h25 (by decide) dL_law_40 (by decide) rfl (by decide) (lc_print hF hk5 hL hi6 hy hKl hRf nx)
        · exact V.tsIn (pc := 40) 26 1656 h26 (by decide) dL_law_40 (by decide) rfl (by decide) (lc_status hF hk5 hL hi6 hy hKl hRf nx)
