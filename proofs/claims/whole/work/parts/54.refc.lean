/-! scratch: what a search may change -/
def Kp (μ μ' : Mu) : Prop := (∀ i, i ≠ 15 → i ≠ 16 → i ≠ 17 → i ≠ 21 → i ≠ 22 → μ'.1 96 i = μ.1 96 i) ∧ (∀ c, c ≠ 96 → c ≠ 110 → c ≠ 111 → c ≠ 112 → c ≠ 113 → μ'.1 c = μ.1 c) ∧ μ'.2 = μ.2
theorem Kp.refl (μ : Mu) : Kp μ μ := ⟨fun _ _ _ _ _ _ => rfl, fun _ _ _ _ _ _ => rfl, rfl⟩
theorem Kp.trans {μ μ1 μ2 : Mu} (h : Kp μ μ1) (h2 : Kp μ1 μ2) : Kp μ μ2 := ⟨fun i a b c d e => (h2.1 i a b c d e).trans (h.1 i a b c d e), fun i a b c d e => (h2.2.1 i a b c d e).trans (h.2.1 i a b c d e), h2.2.2.trans h.2.2⟩
theorem Kp.fld {μ μ1 : Mu} (h : Kp μ μ1) {i : Nat} (v : Int32) (hi : i = 15 ∨ i = 16 ∨ i = 17 ∨ i = 21 ∨ i = 22) : Kp μ (si μ1 96 i v) := h.trans ⟨fun j a b c d e => si_i _ _ _ (by omega) _, fun c a _ _ _ _ => si_c _ _ _ a, rfl⟩
theorem Kp.arr {μ μ1 : Mu} (h : Kp μ μ1) {c : Nat} (i : Nat) (v : Int32) (hc : c = 110 ∨ c = 111 ∨ c = 112 ∨ c = 113) : Kp μ (si μ1 c i v) := h.trans ⟨fun j _ _ _ _ _ => congrFun (si_c _ _ _ (by omega)) j, fun d a _ _ _ _ => si_c _ _ _ (by omega), rfl⟩
theorem Kp.rw {μ μ' : Mu} {S : TS} (h : Kp μ μ') (hR : Rw μ 99 S) : Rw μ' 99 S := hR.row (by rw [h.2.2])
theorem Kp.rf {μ μ' : Mu} {a : AS} (h : Kp μ μ') (hR : Rf μ a) : Rf μ' a := hR.keep (fun i hi => h.1 i (by omega) (by omega) (by omega) (by omega) (by omega)) (fun c hc => h.2.1 c (by omega) (by omega) (by omega) (by omega) (by omega)) (fun c _ => by rw [h.2.2])
theorem Kp.th {μ μ' : Mu} (h : Kp μ μ') : μ'.1 96 0 = μ.1 96 0 := h.1 0 (by decide) (by decide) (by decide) (by decide) (by decide)
theorem Kp.fr {μ0 μ μ' : Mu} (h : Kp μ μ') (h0 : Fr μ0 μ RK) : Fr μ0 μ' RK := h0.trans (Q := RK) (fun c hc => ⟨h.2.1 c (by unfold RK at hc; omega) (by unfold RK at hc; omega) (by unfold RK at hc; omega) (by unfold RK at hc; omega) (by unfold RK at hc; omega), by rw [h.2.2]⟩) (fun _ z => z) (fun _ z => z)
theorem Rw.sx {μ : Mu} {c k i : Nat} {v : Int32} {S : TS} (h : Rw μ c S) : Rw (si μ k i v) c S := h
theorem si_self {μ : Mu} {c i : Nat} {v : Int32} (h : μ.1 c i = v) : μ = si μ c i v := by
  subst h
  obtain ⟨f, g⟩ := μ
  show (f, g) = (fun a => if a = c then upd (f a) i (f c i) else f a, g)
  have : f = fun a => if a = c then upd (f a) i (f c i) else f a := by
    funext a
    split
    · rename_i e; subst e; funext j; unfold upd; split
      · rename_i e; subst e; rfl
      · rfl
    · rfl
  rw [← this]
theorem si_si (μ : Mu) (c i : Nat) (v w : Int32) : si (si μ c i v) c i w = si μ c i w := by
  unfold si
  have : (fun a => if a = c then upd (if a = c then upd (μ.1 a) i v else μ.1 a) i w else if a = c then upd (μ.1 a) i v else μ.1 a) = fun a => if a = c then upd (μ.1 a) i w else μ.1 a := by
    funext a
    by_cases e : a = c
    · simp only [e, if_true]
      funext j
      unfold upd
      split <;> rfl
    · simp only [if_neg e]
  exact congrArg (fun f => (f, μ.2)) this
theorem pickUp_nz {S : TS} {set : Nat} {fc : Bool} : ∀ i, ((pickUp S set fc i).1 = 0 → (pickUp S set fc i).2 = (0, 1)) ∧ ((pickUp S set fc i).1 ≠ 0 → 0 < (pickUp S set fc i).2.1 ∧ (pickUp S set fc i).2.1 = gain S ((pickUp S set fc i).1 - 1) set ∧ (pickUp S set fc i).2.2 = (if fc then cost S ((pickUp S set fc i).1 - 1) set else 1) ∧ (pickUp S set fc i).1 - 1 < i)
  | 0 => ⟨fun _ => rfl, fun h => absurd rfl h⟩
  | i + 1 => by
    have ih := pickUp_nz (S := S) (set := set) (fc := fc) i
    rw [pickUp]
    by_cases h : (fitsB S i set && moreB (gain S i set) (if fc then cost S i set else 1) (pickUp S set fc i).2.1 (pickUp S set fc i).2.2) = true
    · rw [if_pos h]
      refine ⟨fun z => absurd z (by show ¬ i + 1 = 0; omega), fun _ => ⟨?_, rfl, rfl, by show i + 1 - 1 < i + 1; omega⟩⟩
      rw [Bool.and_eq_true] at h
      have h2 := of_decide_eq_true h.2
      show 0 < gain S i set
      rcases Nat.eq_zero_or_pos (gain S i set) with e | e
      · rw [e] at h2; omega
      · exact e
    · rw [if_neg h]
      exact ⟨ih.1, fun z => ⟨(ih.2 z).1, (ih.2 z).2.1, (ih.2 z).2.2.1, by have := (ih.2 z).2.2.2; omega⟩⟩
/-- one more is taken, or not -/
theorem ch_no {S : TS} {set i kind bc g c : Nat} {fc : Bool} (hfc : fc = decide (kind ≠ 0)) (hg : g = gain S i set) (hc : c = cost S i set) (hb : fc = true → bc = (pickUp S set fc i).2.2) (h : g = 0 ∨ ((pickUp S set fc i).1 ≠ 0 ∧ isMr kind g c (pickUp S set fc i).2.1 bc = false)) : pickUp S set fc (i + 1) = pickUp S set fc i := by
  subst hg; subst hc
  apply pickUp_g rfl
  rw [moreB]
  apply decide_eq_false
  rcases h with h | ⟨h1, h2⟩
  · rw [h]; omega
  · unfold isMr at h2
    by_cases k0 : kind = 0
    · rw [if_pos k0] at h2
      have h3 := of_decide_eq_false h2
      have hf : fc = false := by rw [hfc, k0]; rfl
      subst hf
      have h4 := ((pickUp_nz (S := S) (set := set) (fc := false) i).2 h1).2.2.1
      rw [h4]
      show ¬ _ * 1 < _ * 1
      omega
    · rw [if_neg k0] at h2
      have hf : fc = true := by rw [hfc]; exact decide_eq_true k0
      rw [hb hf] at h2
      rw [hf] at h2 ⊢
      exact of_decide_eq_false h2
theorem ch_yes {S : TS} {set i kind bc g c : Nat} {fc : Bool} (hfc : fc = decide (kind ≠ 0)) (hg : g = gain S i set) (hc : c = cost S i set) (hb : fc = true → bc = (pickUp S set fc i).2.2) (hf : fitsB S i set = true) (h0 : 0 < g) (h : (pickUp S set fc i).1 = 0 ∨ isMr kind g c (pickUp S set fc i).2.1 bc = true) : pickUp S set fc (i + 1) = (i + 1, g, if fc then c else 1) := by
  subst hg; subst hc
  apply pickUp_t rfl hf
  rw [moreB]
  apply decide_eq_true
  rcases Nat.eq_zero_or_pos (pickUp S set fc i).1 with z | z
  · rw [(pickUp_nz i).1 z]
    show 0 * _ < _ * 1
    omega
  · have h2 : isMr kind (gain S i set) (cost S i set) (pickUp S set fc i).2.1 bc = true := by
      rcases h with h | h
      · omega
      · exact h
    unfold isMr at h2
    by_cases k0 : kind = 0
    · rw [if_pos k0] at h2
      have h3 := of_decide_eq_true h2
      have hff : fc = false := by rw [hfc, k0]; rfl
      subst hff
      have h4 := ((pickUp_nz (S := S) (set := set) (fc := false) i).2 (by omega)).2.2.1
      rw [h4]
      show _ * 1 < _ * 1
      omega
    · rw [if_neg k0] at h2
      have hff : fc = true := by rw [hfc]; exact decide_eq_true k0
      rw [hb hff] at h2
      rw [hff] at h2 ⊢
      exact of_decide_eq_true h2
theorem ok_X9_chosen {G : Gx} {μ : Mu} (S : TS) (hR : Rw μ 99 S) (kind set wa : Nat) (fc : Bool) (hfc : fc = decide (kind ≠ 0)) (hk : kind < 2 ^ 31) (hs : set < 65536) (hwa : μ.1 96 17 = nI wa) : Runs 6 M_X9_chosen [.ref (G.2.2 96), .int (nI kind), .int (nI set)] G μ (fun r μ' => r = some (.int (pv (pick S set fc))) ∧ μ' = si μ 96 17 (nI (wa + fitN S set))) := by
  have hvs := hR.vs
  have hn16 := hvs.n16
  have hu48 := hvs.u48
  have hT2 := hvs.tk
  have hp16 := pow16 hvs
  have hB9 := hvs.B9
  have hp48 := pow48 hvs
  have hLL := hvs.le
  refine Runs.go RX9 rfl (by decide) [(0, .ref (G.2.2 96)), (1, .int (nI kind)), (2, .int (nI set))] (Nat.le_of_ble_eq_true rfl) rfl (fun X hF => ?_)
  refine V.iconst (pc := 0) (v := (-1)) dX9_chosen_0 (by decide) ?_
  refine V.istore_n (pc := 1) (lv' := [(0, .ref (G.2.2 96)), (1, .int (nI kind)), (2, .int (nI set)), (3, .int (-1))]) dX9_chosen_1 (by decide) rfl ?_
  refine V.iconst (pc := 2) (v := nI 0) dX9_chosen_2 (by decide) ?_
  refine V.istore (pc := 3) (lv' := [(0, .ref (G.2.2 96)), (1, .int (nI kind)), (2, .int (nI set)), (3, .int (-1)), (4, .int (nI 0))]) dX9_chosen_3 (by decide) rfl ?_
  refine V.iconst (pc := 5) (v := nI 1) dX9_chosen_5 (by decide) ?_
  refine V.istore (pc := 6) (lv' := [(0, .ref (G.2.2 96)), (1, .int (nI kind)), (2, .int (nI set)), (3, .int (-1)), (4, .int (nI 0)), (5, .int (nI 1))]) dX9_chosen_6 (by decide) rfl ?_
  refine V.iconst (pc := 8) (v := nI 0) dX9_chosen_8 (by decide) ?_
  refine V.istore (pc := 9) (lv' := [(0, .ref (G.2.2 96)), (1, .int (nI kind)), (2, .int (nI set)), (3, .int (-1)), (4, .int (nI 0)), (5, .int (nI 1)), (6, .int (nI 0))]) dX9_chosen_9 (by decide) rfl ?_
  have L11 : ∀ (n_ : Nat) (i bc : Nat) ( μ1 : Mu), (i ≤ S.n) → (bc ≤ 5280) → (fc = true → bc = (pickUp S set fc i).2.2) → (μ1 = si μ 96 17 (nI (wa + fitUp S set i))) → S.n - i < n_ → V G RX9 cX9_chosen 9 6 X 11 [(0, .ref (G.2.2 96)), (1, .int (nI kind)), (2, .int (nI set)), (3, .int (pv (pickUp S set fc i).1)), (4, .int (nI ((pickUp S set fc i).2.1))), (5, .int (nI bc)), (6, .int (nI i))] [] μ1 := by
    intro n_
    induction n_ with
    | zero => intro i bc μ1 hi hbc hb hμ hm_; exact absurd hm_ (Nat.not_lt_zero _)
    | succ n_ ih11 =>
      intro i bc μ1 hi hbc hb hμ hm_
      have hR1 : Rw μ1 99 S := by rw [hμ]; exact hR
      have hpl := pickUp_le hvs set fc i
      have hfl := fitUp_le S set i
      refine V.iload (pc := 11) 6 dX9_chosen_11 rfl ?_
      refine V.aload_n (pc := 13) 0 dX9_chosen_13 rfl ?_
      refine cp_X9_133 (pc := 14) dX9_chosen_14 (ok_X9_many S hR1) (by omega) (Nat.le_of_ble_eq_true rfl) ?_
      refine V.icmpN_ge (pc := 17) 106 dX9_chosen_17 (by decide) (by omega) (by omega) (fun h_17 => ?_) (fun h_17 => ?_)
      · refine V.iload_n (pc := 106) 3 dX9_chosen_106 rfl ?_
        exact V.iret (pc := 107) hF dX9_chosen_107 ⟨by rw [show i = S.n by omega]; rfl, by rw [hμ, show i = S.n by omega]; rfl⟩
      · refine V.aload_n (pc := 20) 0 dX9_chosen_20 rfl ?_
        refine V.iload_n (pc := 21) 2 dX9_chosen_21 rfl ?_
        refine V.iload (pc := 22) 6 dX9_chosen_22 rfl ?_
        refine cp_X9_189 (pc := 24) dX9_chosen_24 (ok_X9_fits S hR1 set i (by omega) hs) (by omega) (Nat.le_of_ble_eq_true rfl) ?_
        refine V.ifB_ne (pc := 27) 33 dX9_chosen_27 (by decide) (fun h_27 => ?_) (fun h_27 => ?_)
        · refine V.aload_n (pc := 33) 0 dX9_chosen_33 rfl ?_
          refine V.dup (pc := 34) dX9_chosen_34 rfl ?_
          refine gf_X9_202 (pc := 35) (v := nI (wa + fitUp S set i)) dX9_chosen_35 (by rw [hμ, si_s]) ?_
          refine V.iconst (pc := 38) (v := nI 1) dX9_chosen_38 (by decide) ?_
          refine V.iadd (pc := 39) (v := nI (wa + fitUp S set i + 1)) dX9_chosen_39 (nI_add _ _) ?_
          refine pf_X9_202 (pc := 40) dX9_chosen_40 ?_
          have hR2 : Rw (si μ1 96 17 (nI (wa + fitUp S set i + 1))) 99 S := hR1
          have hgb := gain_le hvs i set
          have hcb := cost_le hvs i set
          refine V.aload_n (pc := 43) 0 dX9_chosen_43 rfl ?_
          refine V.iload_n (pc := 44) 2 dX9_chosen_44 rfl ?_
          refine V.iload (pc := 45) 6 dX9_chosen_45 rfl ?_
          refine cp_X9_193 (pc := 47) dX9_chosen_47 (ok_X9_gain S hR2 set i (by omega) hs) (by omega) (Nat.le_of_ble_eq_true rfl) ?_
          refine V.istore (pc := 50) (lv' := [(0, .ref (G.2.2 96)), (1, .int (nI kind)), (2, .int (nI set)), (3, .int (pv (pickUp S set fc i).1)), (4, .int (nI ((pickUp S set fc i).2.1))), (5, .int (nI bc)), (6, .int (nI i)), (7, .int (nI (gain S i set)))]) dX9_chosen_50 (by decide) rfl ?_
          refine V.aload_n (pc := 52) 0 dX9_chosen_52 rfl ?_
          refine V.iload_n (pc := 53) 2 dX9_chosen_53 rfl ?_
          refine V.iload (pc := 54) 6 dX9_chosen_54 rfl ?_
          refine cp_X9_169 (pc := 56) dX9_chosen_56 (ok_X9_cost S hR2 set i (by omega) hs) (by omega) (Nat.le_of_ble_eq_true rfl) ?_
          refine V.istore (pc := 59) (lv' := [(0, .ref (G.2.2 96)), (1, .int (nI kind)), (2, .int (nI set)), (3, .int (pv (pickUp S set fc i).1)), (4, .int (nI ((pickUp S set fc i).2.1))), (5, .int (nI bc)), (6, .int (nI i)), (7, .int (nI (gain S i set))), (8, .int (nI (cost S i set)))]) dX9_chosen_59 (by decide) rfl ?_
          refine V.iload (pc := 61) 7 dX9_chosen_61 rfl ?_
          refine V.ifN_eq (pc := 63) 100 dX9_chosen_63 (by decide) (by omega) (fun h_63 => ?_) (fun h_63 => ?_)
          · refine V.iinc (pc := 100) (v := nI (i + 1)) (lv' := [(0, .ref (G.2.2 96)), (1, .int (nI kind)), (2, .int (nI set)), (3, .int (pv (pickUp S set fc i).1)), (4, .int (nI ((pickUp S set fc i).2.1))), (5, .int (nI bc)), (6, .int (nI (i + 1))), (7, .int (nI (gain S i set))), (8, .int (nI (cost S i set)))]) 6 dX9_chosen_100 rfl (nn_inc _) (by decide) rfl ?_
            refine V.goto (pc := 103) 11 dX9_chosen_103 (by decide) ?_
            refine V.sub (lv' := [(0, .ref (G.2.2 96)), (1, .int (nI kind)), (2, .int (nI set)), (3, .int (pv (pickUp S set fc i).1)), (4, .int (nI ((pickUp S set fc i).2.1))), (5, .int (nI bc)), (6, .int (nI (i + 1)))]) [0, 1, 2, 3, 4, 5, 6] rfl ?_
            have e_3 : pv (pickUp S set fc i).1 = pv (pickUp S set fc (i + 1)).1 := by rw [ch_no hfc rfl rfl hb (Or.inl h_63)]
            have e_4 : nI ((pickUp S set fc i).2.1) = nI ((pickUp S set fc (i + 1)).2.1) := by rw [ch_no hfc rfl rfl hb (Or.inl h_63)]
            refine V.lvs (lv' := [(0, .ref (G.2.2 96)), (1, .int (nI kind)), (2, .int (nI set)), (3, .int (pv (pickUp S set fc (i + 1)).1)), (4, .int (nI ((pickUp S set fc i).2.1))), (5, .int (nI bc)), (6, .int (nI (i + 1)))]) (congrArg (fun z => ([(0, .ref (G.2.2 96)), (1, .int (nI kind)), (2, .int (nI set)), (3, .int z), (4, .int (nI ((pickUp S set fc i).2.1))), (5, .int (nI bc)), (6, .int (nI (i + 1)))] : List (Nat × Value))) e_3) ?_
            refine V.lvs (lv' := [(0, .ref (G.2.2 96)), (1, .int (nI kind)), (2, .int (nI set)), (3, .int (pv (pickUp S set fc (i + 1)).1)), (4, .int (nI ((pickUp S set fc (i + 1)).2.1))), (5, .int (nI bc)), (6, .int (nI (i + 1)))]) (congrArg (fun z => ([(0, .ref (G.2.2 96)), (1, .int (nI kind)), (2, .int (nI set)), (3, .int (pv (pickUp S set fc (i + 1)).1)), (4, .int z), (5, .int (nI bc)), (6, .int (nI (i + 1)))] : List (Nat × Value))) e_4) ?_
            exact ih11 (i + 1) bc (si μ1 96 17 (nI (wa + fitUp S set i + 1))) (by omega) hbc (fun q => by rw [ch_no hfc rfl rfl hb (Or.inl h_63)]; exact hb q) (by rw [hμ, si_si, fitUp, h_27]; rfl) (by omega)
          · refine V.iload_n (pc := 66) 3 dX9_chosen_66 rfl ?_
            refine V.iconst (pc := 67) (v := (-1)) dX9_chosen_67 (by decide) ?_
            refine V.icmp_eq (pc := 68) 89 dX9_chosen_68 (by decide) (fun h_68 => ?_) (fun h_68 => ?_)
            · refine V.iload (pc := 89) 6 dX9_chosen_89 rfl ?_
              refine V.istore_n (pc := 91) (lv' := [(0, .ref (G.2.2 96)), (1, .int (nI kind)), (2, .int (nI set)), (3, .int (nI i)), (4, .int (nI ((pickUp S set fc i).2.1))), (5, .int (nI bc)), (6, .int (nI i)), (7, .int (nI (gain S i set))), (8, .int (nI (cost S i set)))]) dX9_chosen_91 (by decide) rfl ?_
              refine V.iload (pc := 92) 7 dX9_chosen_92 rfl ?_
              refine V.istore (pc := 94) (lv' := [(0, .ref (G.2.2 96)), (1, .int (nI kind)), (2, .int (nI set)), (3, .int (nI i)), (4, .int (nI (gain S i set))), (5, .int (nI bc)), (6, .int (nI i)), (7, .int (nI (gain S i set))), (8, .int (nI (cost S i set)))]) dX9_chosen_94 (by decide) rfl ?_
              refine V.iload (pc := 96) 8 dX9_chosen_96 rfl ?_
              refine V.istore (pc := 98) (lv' := [(0, .ref (G.2.2 96)), (1, .int (nI kind)), (2, .int (nI set)), (3, .int (nI i)), (4, .int (nI (gain S i set))), (5, .int (nI (cost S i set))), (6, .int (nI i)), (7, .int (nI (gain S i set))), (8, .int (nI (cost S i set)))]) dX9_chosen_98 (by decide) rfl ?_
              refine V.iinc (pc := 100) (v := nI (i + 1)) (lv' := [(0, .ref (G.2.2 96)), (1, .int (nI kind)), (2, .int (nI set)), (3, .int (nI i)), (4, .int (nI (gain S i set))), (5, .int (nI (cost S i set))), (6, .int (nI (i + 1))), (7, .int (nI (gain S i set))), (8, .int (nI (cost S i set)))]) 6 dX9_chosen_100 rfl (nn_inc _) (by decide) rfl ?_
              refine V.goto (pc := 103) 11 dX9_chosen_103 (by decide) ?_
              refine V.sub (lv' := [(0, .ref (G.2.2 96)), (1, .int (nI kind)), (2, .int (nI set)), (3, .int (nI i)), (4, .int (nI (gain S i set))), (5, .int (nI (cost S i set))), (6, .int (nI (i + 1)))]) [0, 1, 2, 3, 4, 5, 6] rfl ?_
              have e_3 : nI i = pv (pickUp S set fc (i + 1)).1 := by rw [ch_yes hfc rfl rfl hb h_27 h_63 (Or.inl ((pv_ne (by omega)).mp h_68))]; rfl
              have e_4 : nI (gain S i set) = nI ((pickUp S set fc (i + 1)).2.1) := by rw [ch_yes hfc rfl rfl hb h_27 h_63 (Or.inl ((pv_ne (by omega)).mp h_68))]
              refine V.lvs (lv' := [(0, .ref (G.2.2 96)), (1, .int (nI kind)), (2, .int (nI set)), (3, .int (pv (pickUp S set fc (i + 1)).1)), (4, .int (nI (gain S i set))), (5, .int (nI (cost S i set))), (6, .int (nI (i + 1)))]) (congrArg (fun z => ([(0, .ref (G.2.2 96)), (1, .int (nI kind)), (2, .int (nI set)), (3, .int z), (4, .int (nI (gain S i set))), (5, .int (nI (cost S i set))), (6, .int (nI (i + 1)))] : List (Nat × Value))) e_3) ?_
              refine V.lvs (lv' := [(0, .ref (G.2.2 96)), (1, .int (nI kind)), (2, .int (nI set)), (3, .int (pv (pickUp S set fc (i + 1)).1)), (4, .int (nI ((pickUp S set fc (i + 1)).2.1))), (5, .int (nI (cost S i set))), (6, .int (nI (i + 1)))]) (congrArg (fun z => ([(0, .ref (G.2.2 96)), (1, .int (nI kind)), (2, .int (nI set)), (3, .int (pv (pickUp S set fc (i + 1)).1)), (4, .int z), (5, .int (nI (cost S i set))), (6, .int (nI (i + 1)))] : List (Nat × Value))) e_4) ?_
              exact ih11 (i + 1) (cost S i set) (si μ1 96 17 (nI (wa + fitUp S set i + 1))) (by omega) hcb (fun q => by rw [ch_yes hfc rfl rfl hb h_27 h_63 (Or.inl ((pv_ne (by omega)).mp h_68)), q]; rfl) (by rw [hμ, si_si, fitUp, h_27]; rfl) (by omega)
            · refine V.iload_n (pc := 71) 1 dX9_chosen_71 rfl ?_
              refine V.iload (pc := 72) 7 dX9_chosen_72 rfl ?_
              refine V.iload (pc := 74) 8 dX9_chosen_74 rfl ?_
              refine V.iload (pc := 76) 4 dX9_chosen_76 rfl ?_
              refine V.iload (pc := 78) 5 dX9_chosen_78 rfl ?_
              refine cp_X9_205 (pc := 80) dX9_chosen_80 (ok_X9_isMore kind (gain S i set) (cost S i set) (pickUp S set fc i).2.1 bc hk (by omega) (by omega) (by omega) (by omega)) (by omega) (Nat.le_of_ble_eq_true rfl) ?_
              refine V.ifB_ne (pc := 83) 89 dX9_chosen_83 (by decide) (fun h_83 => ?_) (fun h_83 => ?_)
              · refine V.iload (pc := 89) 6 dX9_chosen_89 rfl ?_
                refine V.istore_n (pc := 91) (lv' := [(0, .ref (G.2.2 96)), (1, .int (nI kind)), (2, .int (nI set)), (3, .int (nI i)), (4, .int (nI ((pickUp S set fc i).2.1))), (5, .int (nI bc)), (6, .int (nI i)), (7, .int (nI (gain S i set))), (8, .int (nI (cost S i set)))]) dX9_chosen_91 (by decide) rfl ?_
                refine V.iload (pc := 92) 7 dX9_chosen_92 rfl ?_
                refine V.istore (pc := 94) (lv' := [(0, .ref (G.2.2 96)), (1, .int (nI kind)), (2, .int (nI set)), (3, .int (nI i)), (4, .int (nI (gain S i set))), (5, .int (nI bc)), (6, .int (nI i)), (7, .int (nI (gain S i set))), (8, .int (nI (cost S i set)))]) dX9_chosen_94 (by decide) rfl ?_
                refine V.iload (pc := 96) 8 dX9_chosen_96 rfl ?_
                refine V.istore (pc := 98) (lv' := [(0, .ref (G.2.2 96)), (1, .int (nI kind)), (2, .int (nI set)), (3, .int (nI i)), (4, .int (nI (gain S i set))), (5, .int (nI (cost S i set))), (6, .int (nI i)), (7, .int (nI (gain S i set))), (8, .int (nI (cost S i set)))]) dX9_chosen_98 (by decide) rfl ?_
                refine V.iinc (pc := 100) (v := nI (i + 1)) (lv' := [(0, .ref (G.2.2 96)), (1, .int (nI kind)), (2, .int (nI set)), (3, .int (nI i)), (4, .int (nI (gain S i set))), (5, .int (nI (cost S i set))), (6, .int (nI (i + 1))), (7, .int (nI (gain S i set))), (8, .int (nI (cost S i set)))]) 6 dX9_chosen_100 rfl (nn_inc _) (by decide) rfl ?_
                refine V.goto (pc := 103) 11 dX9_chosen_103 (by decide) ?_
                refine V.sub (lv' := [(0, .ref (G.2.2 96)), (1, .int (nI kind)), (2, .int (nI set)), (3, .int (nI i)), (4, .int (nI (gain S i set))), (5, .int (nI (cost S i set))), (6, .int (nI (i + 1)))]) [0, 1, 2, 3, 4, 5, 6] rfl ?_
                have e_3 : nI i = pv (pickUp S set fc (i + 1)).1 := by rw [ch_yes hfc rfl rfl hb h_27 h_63 (Or.inr h_83)]; rfl
                have e_4 : nI (gain S i set) = nI ((pickUp S set fc (i + 1)).2.1) := by rw [ch_yes hfc rfl rfl hb h_27 h_63 (Or.inr h_83)]
                refine V.lvs (lv' := [(0, .ref (G.2.2 96)), (1, .int (nI kind)), (2, .int (nI set)), (3, .int (pv (pickUp S set fc (i + 1)).1)), (4, .int (nI (gain S i set))), (5, .int (nI (cost S i set))), (6, .int (nI (i + 1)))]) (congrArg (fun z => ([(0, .ref (G.2.2 96)), (1, .int (nI kind)), (2, .int (nI set)), (3, .int z), (4, .int (nI (gain S i set))), (5, .int (nI (cost S i set))), (6, .int (nI (i + 1)))] : List (Nat × Value))) e_3) ?_
                refine V.lvs (lv' := [(0, .ref (G.2.2 96)), (1, .int (nI kind)), (2, .int (nI set)), (3, .int (pv (pickUp S set fc (i + 1)).1)), (4, .int (nI ((pickUp S set fc (i + 1)).2.1))), (5, .int (nI (cost S i set))), (6, .int (nI (i + 1)))]) (congrArg (fun z => ([(0, .ref (G.2.2 96)), (1, .int (nI kind)), (2, .int (nI set)), (3, .int (pv (pickUp S set fc (i + 1)).1)), (4, .int z), (5, .int (nI (cost S i set))), (6, .int (nI (i + 1)))] : List (Nat × Value))) e_4) ?_
                exact ih11 (i + 1) (cost S i set) (si μ1 96 17 (nI (wa + fitUp S set i + 1))) (by omega) hcb (fun q => by rw [ch_yes hfc rfl rfl hb h_27 h_63 (Or.inr h_83), q]; rfl) (by rw [hμ, si_si, fitUp, h_27]; rfl) (by omega)
              · refine V.goto (pc := 86) 100 dX9_chosen_86 (by decide) ?_
                refine V.iinc (pc := 100) (v := nI (i + 1)) (lv' := [(0, .ref (G.2.2 96)), (1, .int (nI kind)), (2, .int (nI set)), (3, .int (pv (pickUp S set fc i).1)), (4, .int (nI ((pickUp S set fc i).2.1))), (5, .int (nI bc)), (6, .int (nI (i + 1))), (7, .int (nI (gain S i set))), (8, .int (nI (cost S i set)))]) 6 dX9_chosen_100 rfl (nn_inc _) (by decide) rfl ?_
                refine V.goto (pc := 103) 11 dX9_chosen_103 (by decide) ?_
                refine V.sub (lv' := [(0, .ref (G.2.2 96)), (1, .int (nI kind)), (2, .int (nI set)), (3, .int (pv (pickUp S set fc i).1)), (4, .int (nI ((pickUp S set fc i).2.1))), (5, .int (nI bc)), (6, .int (nI (i + 1)))]) [0, 1, 2, 3, 4, 5, 6] rfl ?_
                have e_3 : pv (pickUp S set fc i).1 = pv (pickUp S set fc (i + 1)).1 := by rw [ch_no hfc rfl rfl hb (Or.inr ⟨fun z => h_68 ((pv_ne (by omega)).mpr z), h_83⟩)]
                have e_4 : nI ((pickUp S set fc i).2.1) = nI ((pickUp S set fc (i + 1)).2.1) := by rw [ch_no hfc rfl rfl hb (Or.inr ⟨fun z => h_68 ((pv_ne (by omega)).mpr z), h_83⟩)]
                refine V.lvs (lv' := [(0, .ref (G.2.2 96)), (1, .int (nI kind)), (2, .int (nI set)), (3, .int (pv (pickUp S set fc (i + 1)).1)), (4, .int (nI ((pickUp S set fc i).2.1))), (5, .int (nI bc)), (6, .int (nI (i + 1)))]) (congrArg (fun z => ([(0, .ref (G.2.2 96)), (1, .int (nI kind)), (2, .int (nI set)), (3, .int z), (4, .int (nI ((pickUp S set fc i).2.1))), (5, .int (nI bc)), (6, .int (nI (i + 1)))] : List (Nat × Value))) e_3) ?_
                refine V.lvs (lv' := [(0, .ref (G.2.2 96)), (1, .int (nI kind)), (2, .int (nI set)), (3, .int (pv (pickUp S set fc (i + 1)).1)), (4, .int (nI ((pickUp S set fc (i + 1)).2.1))), (5, .int (nI bc)), (6, .int (nI (i + 1)))]) (congrArg (fun z => ([(0, .ref (G.2.2 96)), (1, .int (nI kind)), (2, .int (nI set)), (3, .int (pv (pickUp S set fc (i + 1)).1)), (4, .int z), (5, .int (nI bc)), (6, .int (nI (i + 1)))] : List (Nat × Value))) e_4) ?_
                exact ih11 (i + 1) bc (si μ1 96 17 (nI (wa + fitUp S set i + 1))) (by omega) hbc (fun q => by rw [ch_no hfc rfl rfl hb (Or.inr ⟨fun z => h_68 ((pv_ne (by omega)).mpr z), h_83⟩)]; exact hb q) (by rw [hμ, si_si, fitUp, h_27]; rfl) (by omega)
        · refine V.goto (pc := 30) 100 dX9_chosen_30 (by decide) ?_
          refine V.iinc (pc := 100) (v := nI (i + 1)) (lv' := [(0, .ref (G.2.2 96)), (1, .int (nI kind)), (2, .int (nI set)), (3, .int (pv (pickUp S set fc i).1)), (4, .int (nI ((pickUp S set fc i).2.1))), (5, .int (nI bc)), (6, .int (nI (i + 1)))]) 6 dX9_chosen_100 rfl (nn_inc _) (by decide) rfl ?_
          refine V.goto (pc := 103) 11 dX9_chosen_103 (by decide) ?_
          have e_3 : pv (pickUp S set fc i).1 = pv (pickUp S set fc (i + 1)).1 := by rw [pickUp_f h_27]
          have e_4 : nI ((pickUp S set fc i).2.1) = nI ((pickUp S set fc (i + 1)).2.1) := by rw [pickUp_f h_27]
          refine V.lvs (lv' := [(0, .ref (G.2.2 96)), (1, .int (nI kind)), (2, .int (nI set)), (3, .int (pv (pickUp S set fc (i + 1)).1)), (4, .int (nI ((pickUp S set fc i).2.1))), (5, .int (nI bc)), (6, .int (nI (i + 1)))]) (congrArg (fun z => ([(0, .ref (G.2.2 96)), (1, .int (nI kind)), (2, .int (nI set)), (3, .int z), (4, .int (nI ((pickUp S set fc i).2.1))), (5, .int (nI bc)), (6, .int (nI (i + 1)))] : List (Nat × Value))) e_3) ?_
          refine V.lvs (lv' := [(0, .ref (G.2.2 96)), (1, .int (nI kind)), (2, .int (nI set)), (3, .int (pv (pickUp S set fc (i + 1)).1)), (4, .int (nI ((pickUp S set fc (i + 1)).2.1))), (5, .int (nI bc)), (6, .int (nI (i + 1)))]) (congrArg (fun z => ([(0, .ref (G.2.2 96)), (1, .int (nI kind)), (2, .int (nI set)), (3, .int (pv (pickUp S set fc (i + 1)).1)), (4, .int z), (5, .int (nI bc)), (6, .int (nI (i + 1)))] : List (Nat × Value))) e_4) ?_
          exact ih11 (i + 1) bc μ1 (by omega) hbc (fun q => by rw [pickUp_f h_27]; exact hb q) (by rw [hμ, fitUp, h_27]; rfl) (by omega)
  have e_3 : (-1) = pv (pickUp S set fc 0).1 := rfl
  have e_4 : nI 0 = nI ((pickUp S set fc 0).2.1) := rfl
  refine V.lvs (lv' := [(0, .ref (G.2.2 96)), (1, .int (nI kind)), (2, .int (nI set)), (3, .int (pv (pickUp S set fc 0).1)), (4, .int (nI 0)), (5, .int (nI 1)), (6, .int (nI 0))]) (congrArg (fun z => ([(0, .ref (G.2.2 96)), (1, .int (nI kind)), (2, .int (nI set)), (3, .int z), (4, .int (nI 0)), (5, .int (nI 1)), (6, .int (nI 0))] : List (Nat × Value))) e_3) ?_
  refine V.lvs (lv' := [(0, .ref (G.2.2 96)), (1, .int (nI kind)), (2, .int (nI set)), (3, .int (pv (pickUp S set fc 0).1)), (4, .int (nI ((pickUp S set fc 0).2.1))), (5, .int (nI 1)), (6, .int (nI 0))]) (congrArg (fun z => ([(0, .ref (G.2.2 96)), (1, .int (nI kind)), (2, .int (nI set)), (3, .int (pv (pickUp S set fc 0).1)), (4, .int z), (5, .int (nI 1)), (6, .int (nI 0))] : List (Nat × Value))) e_4) ?_
  exact L11 _ 0 1 μ (by omega) (by decide) (fun _ => rfl) (si_self (by rw [hwa]; rfl)) (Nat.lt_succ_self _)
def Gl (μ : Mu) (set cnt ask : Nat) (stp : Nat → Nat) : Prop := μ.1 96 16 = nI set ∧ μ.1 96 15 = nI cnt ∧ μ.1 96 17 = nI ask ∧ ∀ j, j < cnt → μ.1 110 j = nI (stp j)
theorem gr_k {S : TS} {fc : Bool} {K k : Nat} (hK : GrEnd S fc K) (hk : k ≤ K) (h : grPick S fc k = 0) : k = K := by
  rcases Nat.lt_or_ge k K with e | e
  · exact absurd h (hK.2.2 k e)
  · omega
theorem Gl.step {μ : Mu} {S : TS} {fc : Bool} {k : Nat} (h : Gl μ (grSet S fc k) k (grAsk S fc (k + 1)) (fun j => grPick S fc j - 1)) (hp : grPick S fc k ≠ 0) {A : Nat} (hA : A = grAsk S fc (k + 1) + fitN S (grSet S fc (k + 1))) : Gl (si (si (si (si μ 110 k (nI (grPick S fc k - 1))) 96 15 (nI (k + 1))) 96 16 (nI (grSet S fc (k + 1)))) 96 17 (nI A)) (grSet S fc (k + 1)) (k + 1) (grAsk S fc (k + 1 + 1)) (fun j => grPick S fc j - 1) := by
  refine ⟨by simp [si, upd], by simp [si, upd], by rw [si_s, hA]; rfl, fun j hj => ?_⟩
  by_cases e : j = k
  · subst e; simp [si, upd]
  · have := h.2.2.2 j (by omega)
    simp [si, upd, e, this]
theorem gr_lt {S : TS} {fc : Bool} {K k : Nat} (hK : GrEnd S fc K) (hk : k ≤ K) (h : grPick S fc k ≠ 0) : k < K := by
  rcases Nat.lt_or_ge k K with e | e
  · exact e
  · have : k = K := by omega
    subst this; exact absurd hK.2.1 h
theorem ok_X9_goes {G : Gx} {μ : Mu} (S : TS) (hR : Rw μ 99 S) (kind : Nat) (fc : Bool) (hfc : fc = decide (kind ≠ 0)) (hk : kind < 2 ^ 31) (K : Nat) (hK : GrEnd S fc K) : Runs 7 M_X9_goes [.ref (G.2.2 96), .int (nI kind)] G μ (fun r μ' => r = none ∧ Kp μ μ' ∧ (μ'.1 96 21 = μ.1 96 21 ∧ μ'.1 96 22 = μ.1 96 22) ∧ Gl μ' (grSet S fc K) K (grAsk S fc (K + 1)) (fun j => grPick S fc j - 1)) := by
  have hvs := hR.vs
  have hn16 := hvs.n16
  have hu48 := hvs.u48
  have hT2 := hvs.tk
  have hp16 := pow16 hvs
  have hB9 := hvs.B9
  have hp48 := pow48 hvs
  have hLL := hvs.le
  refine Runs.go RX9 rfl (by decide) [(0, .ref (G.2.2 96)), (1, .int (nI kind))] (Nat.le_of_ble_eq_true rfl) rfl (fun X hF => ?_)
  refine V.aload_n (pc := 0) 0 dX9_goes_0 rfl ?_
  refine V.iconst (pc := 1) (v := nI 0) dX9_goes_1 (by decide) ?_
  refine pf_X9_209 (pc := 2) dX9_goes_2 ?_
  refine V.aload_n (pc := 5) 0 dX9_goes_5 rfl ?_
  refine V.iconst (pc := 6) (v := nI 0) dX9_goes_6 (by decide) ?_
  refine pf_X9_212 (pc := 7) dX9_goes_7 ?_
  refine V.aload_n (pc := 10) 0 dX9_goes_10 rfl ?_
  refine V.iconst (pc := 11) (v := nI 0) dX9_goes_11 (by decide) ?_
  refine pf_X9_202 (pc := 12) dX9_goes_12 ?_
  refine V.aload_n (pc := 15) 0 dX9_goes_15 rfl ?_
  refine V.iload_n (pc := 16) 1 dX9_goes_16 rfl ?_
  refine V.iconst (pc := 17) (v := nI 0) dX9_goes_17 (by decide) ?_
  refine cl_X9_215 (pc := 18) dX9_goes_18 (ok_X9_chosen S hR.sx.sx.sx kind 0 0 fc hfc hk (by decide) (si_s _ _ _ _)) (by omega) (Nat.le_of_ble_eq_true rfl) (fun r_ μ_ h_ => ?_)
  obtain ⟨rfl, rfl⟩ := h_
  refine V.istore_n (pc := 21) (lv' := [(0, .ref (G.2.2 96)), (1, .int (nI kind)), (2, .int (pv (pick S 0 fc)))]) dX9_goes_21 (by decide) rfl ?_
  have L22 : ∀ (n_ : Nat) (k : Nat) ( μ1 : Mu), (k ≤ K) → (Kp μ μ1) → (μ1.1 96 21 = μ.1 96 21 ∧ μ1.1 96 22 = μ.1 96 22) → (Gl μ1 (grSet S fc k) k (grAsk S fc (k + 1)) (fun j => grPick S fc j - 1)) → K - k < n_ → V G RX9 cX9_goes 3 7 X 22 [(0, .ref (G.2.2 96)), (1, .int (nI kind)), (2, .int (pv (grPick S fc k)))] [] μ1 := by
    intro n_
    induction n_ with
    | zero => intro k μ1 hkK0 hkp h21 hG hm_; exact absurd hm_ (Nat.not_lt_zero _)
    | succ n_ ih22 =>
      intro k μ1 hkK0 hkp h21 hG hm_
      have hR1 := hkp.rw hR
      have hKn := hK.1
      have hpp : grPick S fc k ≤ S.n := (pickUp_le hvs (grSet S fc k) fc S.n).1
      refine V.iload_n (pc := 22) 2 dX9_goes_22 rfl ?_
      refine V.iconst (pc := 23) (v := (-1)) dX9_goes_23 (by decide) ?_
      refine V.icmp_eq (pc := 24) 74 dX9_goes_24 (by decide) (fun h_24 => ?_) (fun h_24 => ?_)
      · have hkE : k = K := gr_k hK hkK0 ((pv_ne (by omega)).mp h_24)
        subst hkE
        exact V.vret (pc := 74) hF dX9_goes_74 ⟨rfl, hkp, h21, hG⟩
      · have hpz : grPick S fc k ≠ 0 := fun z => h_24 ((pv_ne (by omega)).mpr z)
        have hpn := grPick_lt hpz
        have hkK : k < K := gr_lt hK hkK0 hpz
        · refine V.lvs (lv' := [(0, .ref (G.2.2 96)), (1, .int (nI kind)), (2, .int (nI (grPick S fc k - 1)))]) (by rw [show pv (grPick S fc k) = nI (grPick S fc k - 1) from if_neg hpz]) ?_
          refine V.aload_n (pc := 27) 0 dX9_goes_27 rfl ?_
          refine gf_X9_32 (pc := 28) dX9_goes_28 ?_
          refine V.aload_n (pc := 31) 0 dX9_goes_31 rfl ?_
          refine gf_X9_209 (pc := 32) (v := nI k) dX9_goes_32 hG.2.1 ?_
          refine V.iload_n (pc := 35) 2 dX9_goes_35 rfl ?_
          refine V.iast (pc := 36) (k := 110) (n := 16) (v := nI (grPick S fc k - 1)) (Nat.le_of_ble_eq_true rfl) (fun _ _ => rfl) k (by omega) (by decide) dX9_goes_36 rfl ?_
          refine V.aload_n (pc := 37) 0 dX9_goes_37 rfl ?_
          refine V.dup (pc := 38) dX9_goes_38 rfl ?_
          refine gf_X9_209 (pc := 39) (v := nI k) dX9_goes_39 (Eq.trans (congrFun (si_c _ _ _ (by decide)) _) hG.2.1) ?_
          refine V.iconst (pc := 42) (v := nI 1) dX9_goes_42 (by decide) ?_
          refine V.iadd (pc := 43) (v := nI (k + 1)) dX9_goes_43 (nI_add _ _) ?_
          refine pf_X9_209 (pc := 44) dX9_goes_44 ?_
          have hR3 : Rw (si (si μ1 110 k (nI (grPick S fc k - 1))) 96 15 (nI (k + 1))) 99 S := hR1
          refine V.aload_n (pc := 47) 0 dX9_goes_47 rfl ?_
          refine V.dup (pc := 48) dX9_goes_48 rfl ?_
          refine gf_X9_212 (pc := 49) (v := nI (grSet S fc k)) dX9_goes_49 (Eq.trans (si_i _ _ _ (by decide) _) (Eq.trans (congrFun (si_c _ _ _ (by decide)) _) hG.1)) ?_
          refine V.aload_n (pc := 52) 0 dX9_goes_52 rfl ?_
          refine V.iload_n (pc := 53) 2 dX9_goes_53 rfl ?_
          refine cp_X9_163 (pc := 54) dX9_goes_54 (ok_X9_chain S hR3 (grPick S fc k - 1) hpn) (by omega) (Nat.le_of_ble_eq_true rfl) ?_
          refine V.ior (pc := 57) (v := nI (grSet S fc (k + 1))) dX9_goes_57 ((nn_or _ _).trans (congrArg nI rfl)) ?_
          refine pf_X9_212 (pc := 58) dX9_goes_58 ?_
          have hR4 : Rw (si (si (si μ1 110 k (nI (grPick S fc k - 1))) 96 15 (nI (k + 1))) 96 16 (nI (grSet S fc (k + 1)))) 99 S := hR1
          have hgl2 : grSet S fc (k + 1) < 2 ^ S.n := grSet_lt hvs (k + 1) (fun j hj => hK.2.2 j (by omega))
          refine V.aload_n (pc := 61) 0 dX9_goes_61 rfl ?_
          refine V.iload_n (pc := 62) 1 dX9_goes_62 rfl ?_
          refine V.aload_n (pc := 63) 0 dX9_goes_63 rfl ?_
          refine gf_X9_212 (pc := 64) (v := nI (grSet S fc (k + 1))) dX9_goes_64 (si_s _ _ _ _) ?_
          refine cl_X9_215 (pc := 67) dX9_goes_67 (ok_X9_chosen S hR4 kind (grSet S fc (k + 1)) (grAsk S fc (k + 1)) fc hfc hk (by omega) ((si_i _ _ _ (by decide) _).trans ((si_i _ _ _ (by decide) _).trans ((congrFun (si_c _ _ _ (by decide)) _).trans hG.2.2.1)))) (by omega) (Nat.le_of_ble_eq_true rfl) (fun r_ μ_ h_ => ?_)
          obtain ⟨rfl, rfl⟩ := h_
          refine V.istore_n (pc := 70) (lv' := [(0, .ref (G.2.2 96)), (1, .int (nI kind)), (2, .int (pv (pick S (grSet S fc (k + 1)) fc)))]) dX9_goes_70 (by decide) rfl ?_
          refine V.goto (pc := 71) 22 dX9_goes_71 (by decide) ?_
          have e_2 : pv (pick S (grSet S fc (k + 1)) fc) = pv (grPick S fc (k + 1)) := rfl
          refine V.lvs (lv' := [(0, .ref (G.2.2 96)), (1, .int (nI kind)), (2, .int (pv (grPick S fc (k + 1))))]) (congrArg (fun z => ([(0, .ref (G.2.2 96)), (1, .int (nI kind)), (2, .int z)] : List (Nat × Value))) e_2) ?_
          exact ih22 (k + 1) (si (si (si (si μ1 110 k (nI (grPick S fc k - 1))) 96 15 (nI (k + 1))) 96 16 (nI (grSet S fc (k + 1)))) 96 17 (nI (grAsk S fc (k + 1) + fitN S (grSet S fc (k + 1))))) (by omega) ((((hkp.arr _ _ (by decide)).fld _ (by decide)).fld _ (by decide)).fld _ (by decide)) (⟨by simp [si, upd]; exact h21.1, by simp [si, upd]; exact h21.2⟩) (hG.step hpz rfl) (by omega)
  have e_2 : pv (pick S 0 fc) = pv (grPick S fc 0) := rfl
  refine V.lvs (lv' := [(0, .ref (G.2.2 96)), (1, .int (nI kind)), (2, .int (pv (grPick S fc 0)))]) (congrArg (fun z => ([(0, .ref (G.2.2 96)), (1, .int (nI kind)), (2, .int z)] : List (Nat × Value))) e_2) ?_
  exact L22 _ 0 (si (si (si (si μ 96 15 (nI 0)) 96 16 (nI 0)) 96 17 (nI 0)) 96 17 (nI (0 + fitN S 0))) (by omega) (((((Kp.refl μ).fld _ (by decide)).fld _ (by decide)).fld _ (by decide)).fld _ (by decide)) (⟨by simp [si, upd], by simp [si, upd]⟩) (⟨by simp [si, upd]; rfl, by simp [si, upd], by rw [si_s]; rfl, fun j hj => absurd hj (by omega)⟩) (Nat.lt_succ_self _)
theorem sg_t {S : TS} {i : Nat} (hf : fitsB S i 0 = true) (h : (pickUp S 0 false i).2.1 < gain S i 0) : pickUp S 0 false (i + 1) = (i + 1, gain S i 0, 1) := by
  apply pickUp_t rfl hf
  rw [moreB]
  apply decide_eq_true
  have h4 : (pickUp S 0 false i).2.2 = 1 := by
    rcases Nat.eq_zero_or_pos (pickUp S 0 false i).1 with z | z
    · rw [(pickUp_nz i).1 z]
    · exact ((pickUp_nz (S := S) (set := 0) (fc := false) i).2 (by omega)).2.2.1
  rw [h4]
  show _ * 1 < _ * 1
  omega
theorem sg_f {S : TS} {i : Nat} (h : ¬ (pickUp S 0 false i).2.1 < gain S i 0) : pickUp S 0 false (i + 1) = pickUp S 0 false i := by
  apply pickUp_g rfl
  rw [moreB]
  apply decide_eq_false
  have h4 : (pickUp S 0 false i).2.2 = 1 := by
    rcases Nat.eq_zero_or_pos (pickUp S 0 false i).1 with z | z
    · rw [(pickUp_nz i).1 z]
    · exact ((pickUp_nz (S := S) (set := 0) (fc := false) i).2 (by omega)).2.2.1
  rw [h4]
  show ¬ _ * 1 < _ * 1
  omega
theorem ok_X9_single {G : Gx} {μ : Mu} (S : TS) (hR : Rw μ 99 S)  : RunsP 6 M_X9_single [.ref (G.2.2 96)] G μ (.int (pv (pick S 0 false))) := by
  have hvs := hR.vs
  have hn16 := hvs.n16
  have hu48 := hvs.u48
  have hT2 := hvs.tk
  have hp16 := pow16 hvs
  have hB9 := hvs.B9
  have hp48 := pow48 hvs
  have hLL := hvs.le
  refine Runs.go RX9 rfl (by decide) [(0, .ref (G.2.2 96))] (Nat.le_of_ble_eq_true rfl) rfl (fun X hF => ?_)
  refine V.iconst (pc := 0) (v := (-1)) dX9_single_0 (by decide) ?_
  refine V.istore_n (pc := 1) (lv' := [(0, .ref (G.2.2 96)), (1, .int (-1))]) dX9_single_1 (by decide) rfl ?_
  refine V.iconst (pc := 2) (v := nI 0) dX9_single_2 (by decide) ?_
  refine V.istore_n (pc := 3) (lv' := [(0, .ref (G.2.2 96)), (1, .int (-1)), (2, .int (nI 0))]) dX9_single_3 (by decide) rfl ?_
  have L4 : ∀ (n_ : Nat) (i : Nat), (i ≤ S.n) → S.n - i < n_ → V G RX9 cX9_single 3 6 X 4 [(0, .ref (G.2.2 96)), (1, .int (pv (pickUp S 0 false i).1)), (2, .int (nI i))] [] μ := by
    intro n_
    induction n_ with
    | zero => intro i hi hm_; exact absurd hm_ (Nat.not_lt_zero _)
    | succ n_ ih4 =>
      intro i hi hm_
      have hpl := pickUp_le hvs 0 false i
      refine V.iload_n (pc := 4) 2 dX9_single_4 rfl ?_
      refine V.aload_n (pc := 5) 0 dX9_single_5 rfl ?_
      refine cp_X9_133 (pc := 6) dX9_single_6 (ok_X9_many S hR) (by omega) (Nat.le_of_ble_eq_true rfl) ?_
      refine V.icmpN_ge (pc := 9) 53 dX9_single_9 (by decide) (by omega) (by omega) (fun h_9 => ?_) (fun h_9 => ?_)
      · refine V.iload_n (pc := 53) 1 dX9_single_53 rfl ?_
        exact V.iret (pc := 54) hF dX9_single_54 ⟨by rw [show i = S.n by omega]; rfl, rfl⟩
      · refine V.aload_n (pc := 12) 0 dX9_single_12 rfl ?_
        refine V.iconst (pc := 13) (v := nI 0) dX9_single_13 (by decide) ?_
        refine V.iload_n (pc := 14) 2 dX9_single_14 rfl ?_
        refine cp_X9_189 (pc := 15) dX9_single_15 (ok_X9_fits S hR 0 i (by omega) (by decide)) (by omega) (Nat.le_of_ble_eq_true rfl) ?_
        refine V.ifB_eq (pc := 18) 47 dX9_single_18 (by decide) (fun h_18 => ?_) (fun h_18 => ?_)
        · refine V.iinc (pc := 47) (v := nI (i + 1)) (lv' := [(0, .ref (G.2.2 96)), (1, .int (pv (pickUp S 0 false i).1)), (2, .int (nI (i + 1)))]) 2 dX9_single_47 rfl (nn_inc _) (by decide) rfl ?_
          refine V.goto (pc := 50) 4 dX9_single_50 (by decide) ?_
          have e_1 : pv (pickUp S 0 false i).1 = pv (pickUp S 0 false (i + 1)).1 := by rw [pickUp_f h_18]
          refine V.lvs (lv' := [(0, .ref (G.2.2 96)), (1, .int (pv (pickUp S 0 false (i + 1)).1)), (2, .int (nI (i + 1)))]) (congrArg (fun z => ([(0, .ref (G.2.2 96)), (1, .int z), (2, .int (nI (i + 1)))] : List (Nat × Value))) e_1) ?_
          exact ih4 (i + 1) (by omega) (by omega)
        · refine V.aload_n (pc := 21) 0 dX9_single_21 rfl ?_
          refine V.iconst (pc := 22) (v := nI 0) dX9_single_22 (by decide) ?_
          refine V.iload_n (pc := 23) 2 dX9_single_23 rfl ?_
          refine cp_X9_193 (pc := 24) dX9_single_24 (ok_X9_gain S hR 0 i (by omega) (by decide)) (by omega) (Nat.le_of_ble_eq_true rfl) ?_
          have hgb := gain_le hvs i 0
          have hgb2 := gain_le hvs ((pickUp S 0 false i).1 - 1) 0
          refine V.iload_n (pc := 27) 1 dX9_single_27 rfl ?_
          refine V.iconst (pc := 28) (v := (-1)) dX9_single_28 (by decide) ?_
          refine V.icmp_ne (pc := 29) 36 dX9_single_29 (by decide) (fun h_29 => ?_) (fun h_29 => ?_)
          · have hz : (pickUp S 0 false i).1 ≠ 0 := fun z => h_29 ((pv_ne (by omega)).mpr z)
            refine V.aload_n (pc := 36) 0 dX9_single_36 rfl ?_
            refine V.iconst (pc := 37) (v := nI 0) dX9_single_37 (by decide) ?_
            refine V.iload_n (pc := 38) 1 dX9_single_38 rfl ?_
            refine V.st (st' := [.int (nI ((pickUp S 0 false i).1 - 1)), .int (nI 0), .ref (G.2.2 96), .int (nI (gain S i 0))]) (by rw [show pv (pickUp S 0 false i).1 = nI ((pickUp S 0 false i).1 - 1) from if_neg hz]) ?_
            refine cp_X9_193 (pc := 39) dX9_single_39 (ok_X9_gain S hR 0 ((pickUp S 0 false i).1 - 1) (by have := ((pickUp_nz (S := S) (set := 0) (fc := false) i).2 hz).2.2.2; omega) (by decide)) (by omega) (Nat.le_of_ble_eq_true rfl) ?_
            refine V.icmpN_le (pc := 42) 47 dX9_single_42 (by decide) (by omega) (by omega) (fun h_42 => ?_) (fun h_42 => ?_)
            · refine V.iinc (pc := 47) (v := nI (i + 1)) (lv' := [(0, .ref (G.2.2 96)), (1, .int (pv (pickUp S 0 false i).1)), (2, .int (nI (i + 1)))]) 2 dX9_single_47 rfl (nn_inc _) (by decide) rfl ?_
              refine V.goto (pc := 50) 4 dX9_single_50 (by decide) ?_
              have e_1 : pv (pickUp S 0 false i).1 = pv (pickUp S 0 false (i + 1)).1 := by rw [sg_f (by rw [((pickUp_nz i).2 hz).2.1]; omega)]
              refine V.lvs (lv' := [(0, .ref (G.2.2 96)), (1, .int (pv (pickUp S 0 false (i + 1)).1)), (2, .int (nI (i + 1)))]) (congrArg (fun z => ([(0, .ref (G.2.2 96)), (1, .int z), (2, .int (nI (i + 1)))] : List (Nat × Value))) e_1) ?_
              exact ih4 (i + 1) (by omega) (by omega)
            · refine V.iload_n (pc := 45) 2 dX9_single_45 rfl ?_
              refine V.istore_n (pc := 46) (lv' := [(0, .ref (G.2.2 96)), (1, .int (nI i)), (2, .int (nI i))]) dX9_single_46 (by decide) rfl ?_
              refine V.iinc (pc := 47) (v := nI (i + 1)) (lv' := [(0, .ref (G.2.2 96)), (1, .int (nI i)), (2, .int (nI (i + 1)))]) 2 dX9_single_47 rfl (nn_inc _) (by decide) rfl ?_
              refine V.goto (pc := 50) 4 dX9_single_50 (by decide) ?_
              have e_1 : nI i = pv (pickUp S 0 false (i + 1)).1 := by rw [sg_t h_18 (by rw [((pickUp_nz i).2 hz).2.1]; omega)]; rfl
              refine V.lvs (lv' := [(0, .ref (G.2.2 96)), (1, .int (pv (pickUp S 0 false (i + 1)).1)), (2, .int (nI (i + 1)))]) (congrArg (fun z => ([(0, .ref (G.2.2 96)), (1, .int z), (2, .int (nI (i + 1)))] : List (Nat × Value))) e_1) ?_
              exact ih4 (i + 1) (by omega) (by omega)
          · have hz : (pickUp S 0 false i).1 = 0 := (pv_ne (by omega)).mp h_29
            refine V.iconst (pc := 32) (v := nI 0) dX9_single_32 (by decide) ?_
            refine V.goto (pc := 33) 42 dX9_single_33 (by decide) ?_
            refine V.icmpN_le (pc := 42) 47 dX9_single_42 (by decide) (by omega) (by omega) (fun h_42 => ?_) (fun h_42 => ?_)
            · refine V.iinc (pc := 47) (v := nI (i + 1)) (lv' := [(0, .ref (G.2.2 96)), (1, .int (pv (pickUp S 0 false i).1)), (2, .int (nI (i + 1)))]) 2 dX9_single_47 rfl (nn_inc _) (by decide) rfl ?_
              refine V.goto (pc := 50) 4 dX9_single_50 (by decide) ?_
              have e_1 : pv (pickUp S 0 false i).1 = pv (pickUp S 0 false (i + 1)).1 := by rw [sg_f (by rw [(pickUp_nz i).1 hz]; show ¬ 0 < _; omega)]
              refine V.lvs (lv' := [(0, .ref (G.2.2 96)), (1, .int (pv (pickUp S 0 false (i + 1)).1)), (2, .int (nI (i + 1)))]) (congrArg (fun z => ([(0, .ref (G.2.2 96)), (1, .int z), (2, .int (nI (i + 1)))] : List (Nat × Value))) e_1) ?_
              exact ih4 (i + 1) (by omega) (by omega)
            · refine V.iload_n (pc := 45) 2 dX9_single_45 rfl ?_
              refine V.istore_n (pc := 46) (lv' := [(0, .ref (G.2.2 96)), (1, .int (nI i)), (2, .int (nI i))]) dX9_single_46 (by decide) rfl ?_
              refine V.iinc (pc := 47) (v := nI (i + 1)) (lv' := [(0, .ref (G.2.2 96)), (1, .int (nI i)), (2, .int (nI (i + 1)))]) 2 dX9_single_47 rfl (nn_inc _) (by decide) rfl ?_
              refine V.goto (pc := 50) 4 dX9_single_50 (by decide) ?_
              have e_1 : nI i = pv (pickUp S 0 false (i + 1)).1 := by rw [sg_t h_18 (by rw [(pickUp_nz i).1 hz]; show 0 < _; omega)]; rfl
              refine V.lvs (lv' := [(0, .ref (G.2.2 96)), (1, .int (pv (pickUp S 0 false (i + 1)).1)), (2, .int (nI (i + 1)))]) (congrArg (fun z => ([(0, .ref (G.2.2 96)), (1, .int z), (2, .int (nI (i + 1)))] : List (Nat × Value))) e_1) ?_
              exact ih4 (i + 1) (by omega) (by omega)
  have e_1 : (-1) = pv (pickUp S 0 false 0).1 := rfl
  refine V.lvs (lv' := [(0, .ref (G.2.2 96)), (1, .int (pv (pickUp S 0 false 0).1)), (2, .int (nI 0))]) (congrArg (fun z => ([(0, .ref (G.2.2 96)), (1, .int z), (2, .int (nI 0))] : List (Nat × Value))) e_1) ?_
  exact L4 _ 0 (by omega) (Nat.lt_succ_self _)
theorem bagZ (S : TS) : ∀ i, bagUp S 0 i = 0
  | 0 => rfl
  | i + 1 => by rw [bagUp, Nat.zero_testBit, bagZ S i]; rfl
theorem gain0 (S : TS) (s : Nat) : gain S s 0 = cov S (chain S s) := by
  unfold gain cov bagOf
  rw [bagZ, ← adn_00]
theorem Gl.cl {μ : Mu} {S : TS} {kind K A : Nat} {fc : Bool} (hfc : fc = decide (kind ≠ 0)) (h : Gl μ (grSet S fc K) K A (fun j => grPick S fc j - 1)) (hn : ¬ alt S kind K) : Gl μ (clSet S kind K) (clCnt S kind K) A (clStp S kind K) := by
  subst hfc
  refine ⟨?_, ?_, h.2.2.1, fun j hj => ?_⟩
  · rw [clSet, if_neg hn]; exact h.1
  · rw [clCnt, if_neg hn]; exact h.2.1
  · rw [clCnt, if_neg hn] at hj
    rw [clStp, if_neg hn]; exact h.2.2.2 j hj
theorem Gl.alt_ {μ : Mu} {S : TS} {K A : Nat} {set cnt : Nat} {stp : Nat → Nat} (h : Gl μ set cnt A stp) (ha : alt S 2 K) : Gl (si (si (si μ 96 15 (nI 1)) 110 0 (nI (pick S 0 false - 1))) 96 16 (nI (chain S (pick S 0 false - 1)))) (clSet S 2 K) (clCnt S 2 K) A (clStp S 2 K) := by
  refine ⟨?_, ?_, ?_, fun j hj => ?_⟩
  · rw [clSet, if_pos ha]; simp [si, upd]
  · rw [clCnt, if_pos ha]; simp [si, upd]
  · have := h.2.2.1; simp [si, upd]; exact this
  · rw [clCnt, if_pos ha] at hj
    have : j = 0 := by omega
    subst this
    rw [clStp, if_pos ha]; simp [si, upd]
theorem ok_X9_lays {G : Gx} {μ : Mu} (S : TS) (hR : Rw μ 99 S) (kind : Nat) (hk : kind < 3) (K : Nat) (hK : GrEnd S (decide (kind ≠ 0)) K) : Runs 8 M_X9_lays [.ref (G.2.2 96), .int (nI kind)] G μ (fun r μ' => r = none ∧ Kp μ μ' ∧ Gl μ' (clSet S kind K) (clCnt S kind K) (grAsk S (decide (kind ≠ 0)) (K + 1)) (clStp S kind K)) := by
  have hvs := hR.vs
  have hn16 := hvs.n16
  have hu48 := hvs.u48
  have hT2 := hvs.tk
  have hp16 := pow16 hvs
  have hB9 := hvs.B9
  have hp48 := pow48 hvs
  have hLL := hvs.le
  obtain ⟨fc, hfc⟩ : ∃ fc, fc = decide (kind ≠ 0) := ⟨_, rfl⟩
  rw [← hfc] at hK ⊢
  have hgl := grSet_lt hvs K hK.2.2
  have hpkl : pick S 0 false ≤ S.n := (pickUp_le hvs 0 false S.n).1
  refine Runs.go RX9 rfl (by decide) [(0, .ref (G.2.2 96)), (1, .int (nI kind))] (Nat.le_of_ble_eq_true rfl) rfl (fun X hF => ?_)
  refine V.aload_n (pc := 0) 0 dX9_lays_0 rfl ?_
  refine V.iload_n (pc := 1) 1 dX9_lays_1 rfl ?_
  refine V.ifN_ne (pc := 2) 9 dX9_lays_2 (by decide) (by omega) (fun h_2 => ?_) (fun h_2 => ?_)
  · refine V.iconst (pc := 9) (v := nI 1) dX9_lays_9 (by decide) ?_
    refine cl_X9_218 (pc := 10) dX9_lays_10 (ok_X9_goes S hR 1 fc (by rw [hfc, decide_eq_true (show kind ≠ 0 by omega)]; rfl) (by decide) K hK) (by omega) (Nat.le_of_ble_eq_true rfl) (fun r_ μ_ h_ => ?_)
    obtain ⟨rfl, hkp, -, hG⟩ := h_
    have hR1 := hkp.rw hR
    refine V.iload_n (pc := 13) 1 dX9_lays_13 rfl ?_
    refine V.iconst (pc := 14) (v := nI 2) dX9_lays_14 (by decide) ?_
    refine V.icmpN_ge (pc := 15) 19 dX9_lays_15 (by decide) (by omega) (by omega) (fun h_15 => ?_) (fun h_15 => ?_)
    · have hk2 : kind = 2 := by omega
      have hft : fc = true := by rw [hfc, hk2]; rfl
      refine V.aload_n (pc := 19) 0 dX9_lays_19 rfl ?_
      refine cp_X9_221 (pc := 20) dX9_lays_20 (ok_X9_single S hR1) (by omega) (Nat.le_of_ble_eq_true rfl) ?_
      refine V.istore_n (pc := 23) (lv' := [(0, .ref (G.2.2 96)), (1, .int (nI kind)), (2, .int (pv (pick S 0 false)))]) dX9_lays_23 (by decide) rfl ?_
      refine V.iload_n (pc := 24) 2 dX9_lays_24 rfl ?_
      refine V.iconst (pc := 25) (v := (-1)) dX9_lays_25 (by decide) ?_
      refine V.icmp_eq (pc := 26) 49 dX9_lays_26 (by decide) (fun h_26 => ?_) (fun h_26 => ?_)
      · have hpz : pick S 0 false = 0 := (pv_ne (by omega)).mp h_26
        exact V.vret (pc := 49) hF dX9_lays_49 ⟨rfl, hkp, hG.cl hfc (fun z => z.2.1 hpz)⟩
      · have hpz : pick S 0 false ≠ 0 := fun z => h_26 ((pv_ne (by omega)).mpr z)
        have hpn : pick S 0 false - 1 < S.n := by omega
        have hcl := chain_ltn hpn
        have hc1 : cov S (chain S (pick S 0 false - 1)) ≤ 48000 := wOf_le hvs _
        have hc2 : cov S (grSet S fc K) ≤ 48000 := wOf_le hvs _
        have hz2 := hpz
        · refine V.lvs (lv' := [(0, .ref (G.2.2 96)), (1, .int (nI kind)), (2, .int (nI (pick S 0 false - 1)))]) (by rw [show pv (pick S 0 false) = nI (pick S 0 false - 1) from if_neg hpz]) ?_
          refine V.aload_n (pc := 29) 0 dX9_lays_29 rfl ?_
          refine V.aload_n (pc := 30) 0 dX9_lays_30 rfl ?_
          refine V.iload_n (pc := 31) 2 dX9_lays_31 rfl ?_
          refine cp_X9_163 (pc := 32) dX9_lays_32 (ok_X9_chain S hR1 (pick S 0 false - 1) hpn) (by omega) (Nat.le_of_ble_eq_true rfl) ?_
          refine cp_X9_196 (pc := 35) dX9_lays_35 (ok_X9_covered S hR1 (chain S (pick S 0 false - 1)) (by omega)) (by omega) (Nat.le_of_ble_eq_true rfl) ?_
          refine V.aload_n (pc := 38) 0 dX9_lays_38 rfl ?_
          refine V.aload_n (pc := 39) 0 dX9_lays_39 rfl ?_
          refine gf_X9_212 (pc := 40) (v := nI (grSet S fc K)) dX9_lays_40 hG.1 ?_
          refine cp_X9_196 (pc := 43) dX9_lays_43 (ok_X9_covered S hR1 (grSet S fc K) (by omega)) (by omega) (Nat.le_of_ble_eq_true rfl) ?_
          refine V.icmpN_gt (pc := 46) 50 dX9_lays_46 (by decide) (by omega) (by omega) (fun h_46 => ?_) (fun h_46 => ?_)
          · refine V.aload_n (pc := 50) 0 dX9_lays_50 rfl ?_
            refine V.iconst (pc := 51) (v := nI 1) dX9_lays_51 (by decide) ?_
            refine pf_X9_209 (pc := 52) dX9_lays_52 ?_
            refine V.aload_n (pc := 55) 0 dX9_lays_55 rfl ?_
            refine gf_X9_32 (pc := 56) dX9_lays_56 ?_
            refine V.iconst (pc := 59) (v := nI 0) dX9_lays_59 (by decide) ?_
            refine V.iload_n (pc := 60) 2 dX9_lays_60 rfl ?_
            refine V.iast (pc := 61) (k := 110) (n := 16) (v := nI (pick S 0 false - 1)) (Nat.le_of_ble_eq_true rfl) (fun _ _ => rfl) 0 (by omega) (by decide) dX9_lays_61 rfl ?_
            refine V.aload_n (pc := 62) 0 dX9_lays_62 rfl ?_
            refine V.aload_n (pc := 63) 0 dX9_lays_63 rfl ?_
            refine V.iload_n (pc := 64) 2 dX9_lays_64 rfl ?_
            refine cp_X9_163 (pc := 65) dX9_lays_65 (ok_X9_chain S hR1.sx.sx (pick S 0 false - 1) hpn) (by omega) (Nat.le_of_ble_eq_true rfl) ?_
            refine pf_X9_212 (pc := 68) dX9_lays_68 ?_
            exact V.vret (pc := 71) hF dX9_lays_71 ⟨rfl, ((hkp.fld _ (by decide)).arr _ _ (by decide)).fld _ (by decide), by rw [hk2]; exact hG.alt_ ⟨rfl, hpz, by rw [gain0, ← hft]; omega⟩⟩
          · exact V.vret (pc := 49) hF dX9_lays_49 ⟨rfl, hkp, hG.cl hfc (fun z => by have := z.2.2; rw [gain0, ← hft] at this; omega)⟩
    · exact V.vret (pc := 18) hF dX9_lays_18 ⟨rfl, hkp, hG.cl hfc (fun z => by have := z.1; omega)⟩
  · refine V.iconst (pc := 5) (v := nI 0) dX9_lays_5 (by decide) ?_
    refine V.goto (pc := 6) 10 dX9_lays_6 (by decide) ?_
    refine cl_X9_218 (pc := 10) dX9_lays_10 (ok_X9_goes S hR 0 fc (by rw [hfc, h_2]) (by decide) K hK) (by omega) (Nat.le_of_ble_eq_true rfl) (fun r_ μ_ h_ => ?_)
    obtain ⟨rfl, hkp, -, hG⟩ := h_
    have hR1 := hkp.rw hR
    refine V.iload_n (pc := 13) 1 dX9_lays_13 rfl ?_
    refine V.iconst (pc := 14) (v := nI 2) dX9_lays_14 (by decide) ?_
    refine V.icmpN_ge (pc := 15) 19 dX9_lays_15 (by decide) (by omega) (by omega) (fun h_15 => ?_) (fun h_15 => ?_)
    · have hk2 : kind = 2 := by omega
      have hft : fc = true := by rw [hfc, hk2]; rfl
      refine V.aload_n (pc := 19) 0 dX9_lays_19 rfl ?_
      refine cp_X9_221 (pc := 20) dX9_lays_20 (ok_X9_single S hR1) (by omega) (Nat.le_of_ble_eq_true rfl) ?_
      refine V.istore_n (pc := 23) (lv' := [(0, .ref (G.2.2 96)), (1, .int (nI kind)), (2, .int (pv (pick S 0 false)))]) dX9_lays_23 (by decide) rfl ?_
      refine V.iload_n (pc := 24) 2 dX9_lays_24 rfl ?_
      refine V.iconst (pc := 25) (v := (-1)) dX9_lays_25 (by decide) ?_
      refine V.icmp_eq (pc := 26) 49 dX9_lays_26 (by decide) (fun h_26 => ?_) (fun h_26 => ?_)
      · have hpz : pick S 0 false = 0 := (pv_ne (by omega)).mp h_26
        exact V.vret (pc := 49) hF dX9_lays_49 ⟨rfl, hkp, hG.cl hfc (fun z => z.2.1 hpz)⟩
      · have hpz : pick S 0 false ≠ 0 := fun z => h_26 ((pv_ne (by omega)).mpr z)
        have hpn : pick S 0 false - 1 < S.n := by omega
        have hcl := chain_ltn hpn
        have hc1 : cov S (chain S (pick S 0 false - 1)) ≤ 48000 := wOf_le hvs _
        have hc2 : cov S (grSet S fc K) ≤ 48000 := wOf_le hvs _
        have hz2 := hpz
        · refine V.lvs (lv' := [(0, .ref (G.2.2 96)), (1, .int (nI kind)), (2, .int (nI (pick S 0 false - 1)))]) (by rw [show pv (pick S 0 false) = nI (pick S 0 false - 1) from if_neg hpz]) ?_
          refine V.aload_n (pc := 29) 0 dX9_lays_29 rfl ?_
          refine V.aload_n (pc := 30) 0 dX9_lays_30 rfl ?_
          refine V.iload_n (pc := 31) 2 dX9_lays_31 rfl ?_
          refine cp_X9_163 (pc := 32) dX9_lays_32 (ok_X9_chain S hR1 (pick S 0 false - 1) hpn) (by omega) (Nat.le_of_ble_eq_true rfl) ?_
          refine cp_X9_196 (pc := 35) dX9_lays_35 (ok_X9_covered S hR1 (chain S (pick S 0 false - 1)) (by omega)) (by omega) (Nat.le_of_ble_eq_true rfl) ?_
          refine V.aload_n (pc := 38) 0 dX9_lays_38 rfl ?_
          refine V.aload_n (pc := 39) 0 dX9_lays_39 rfl ?_
          refine gf_X9_212 (pc := 40) (v := nI (grSet S fc K)) dX9_lays_40 hG.1 ?_
          refine cp_X9_196 (pc := 43) dX9_lays_43 (ok_X9_covered S hR1 (grSet S fc K) (by omega)) (by omega) (Nat.le_of_ble_eq_true rfl) ?_
          refine V.icmpN_gt (pc := 46) 50 dX9_lays_46 (by decide) (by omega) (by omega) (fun h_46 => ?_) (fun h_46 => ?_)
          · refine V.aload_n (pc := 50) 0 dX9_lays_50 rfl ?_
            refine V.iconst (pc := 51) (v := nI 1) dX9_lays_51 (by decide) ?_
            refine pf_X9_209 (pc := 52) dX9_lays_52 ?_
            refine V.aload_n (pc := 55) 0 dX9_lays_55 rfl ?_
            refine gf_X9_32 (pc := 56) dX9_lays_56 ?_
            refine V.iconst (pc := 59) (v := nI 0) dX9_lays_59 (by decide) ?_
            refine V.iload_n (pc := 60) 2 dX9_lays_60 rfl ?_
            refine V.iast (pc := 61) (k := 110) (n := 16) (v := nI (pick S 0 false - 1)) (Nat.le_of_ble_eq_true rfl) (fun _ _ => rfl) 0 (by omega) (by decide) dX9_lays_61 rfl ?_
            refine V.aload_n (pc := 62) 0 dX9_lays_62 rfl ?_
            refine V.aload_n (pc := 63) 0 dX9_lays_63 rfl ?_
            refine V.iload_n (pc := 64) 2 dX9_lays_64 rfl ?_
            refine cp_X9_163 (pc := 65) dX9_lays_65 (ok_X9_chain S hR1.sx.sx (pick S 0 false - 1) hpn) (by omega) (Nat.le_of_ble_eq_true rfl) ?_
            refine pf_X9_212 (pc := 68) dX9_lays_68 ?_
            exact V.vret (pc := 71) hF dX9_lays_71 ⟨rfl, ((hkp.fld _ (by decide)).arr _ _ (by decide)).fld _ (by decide), by rw [hk2]; exact hG.alt_ ⟨rfl, hpz, by rw [gain0, ← hft]; omega⟩⟩
          · exact V.vret (pc := 49) hF dX9_lays_49 ⟨rfl, hkp, hG.cl hfc (fun z => by have := z.2.2; rw [gain0, ← hft] at this; omega)⟩
    · exact V.vret (pc := 18) hF dX9_lays_18 ⟨rfl, hkp, hG.cl hfc (fun z => by have := z.1; omega)⟩
