theorem mul_62 {a b : Nat} (ha : a < 2 ^ 31) (hb : b < 2 ^ 31) : a * b < 2 ^ 63 := by
  have h1 : a * b ≤ 2 ^ 31 * 2 ^ 31 := Nat.mul_le_mul (Nat.le_of_lt ha) (Nat.le_of_lt hb)
  have h2 : (2 : Nat) ^ 31 * 2 ^ 31 < 2 ^ 63 := by decide
  omega
theorem ok_X8_isMoreFor {G : Gx} {μ : Mu} (g c og oc : Nat) (hg : g < 2 ^ 31) (hc : c < 2 ^ 31) (hog : og < 2 ^ 31) (hoc : oc < 2 ^ 31) : RunsP 0 M_X8_isMoreFor [.int (nI g), .int (nI c), .int (nI og), .int (nI oc)] G μ (.int (nI (moreB g c og oc).toNat)) := by
  refine Runs.go RX8 rfl (by decide) [(0, .int (nI g)), (1, .int (nI c)), (2, .int (nI og)), (3, .int (nI oc))] (Nat.le_of_ble_eq_true rfl) rfl (fun X hF => ?_)
  refine V.iload_n (pc := 0) 0 dX8_isMoreFor_0 rfl ?_
  refine V.i2l (pc := 1) (v := lN g) dX8_isMoreFor_1 (nI_l (by omega)) ?_
  refine V.iload_n (pc := 2) 3 dX8_isMoreFor_2 rfl ?_
  refine V.i2l (pc := 3) (v := lN oc) dX8_isMoreFor_3 (nI_l (by omega)) ?_
  refine V.lmul (pc := 4) (v := lN (g * oc)) dX8_isMoreFor_4 (lN_mul _ _) ?_
  refine V.iload_n (pc := 5) 2 dX8_isMoreFor_5 rfl ?_
  refine V.i2l (pc := 6) (v := lN og) dX8_isMoreFor_6 (nI_l (by omega)) ?_
  refine V.iload_n (pc := 7) 1 dX8_isMoreFor_7 rfl ?_
  refine V.i2l (pc := 8) (v := lN c) dX8_isMoreFor_8 (nI_l (by omega)) ?_
  refine V.lmul (pc := 9) (v := lN (og * c)) dX8_isMoreFor_9 (lN_mul _ _) ?_
  refine V.lcmpN_le (pc := 10) 18 dX8_isMoreFor_10 dX8_isMoreFor_11 (by decide) (mul_62 hg hoc) (mul_62 hog hc) (fun h_10 => ?_) (fun h_10 => ?_)
  · refine V.iconst (pc := 18) (v := nI 0) dX8_isMoreFor_18 (by decide) ?_
    exact V.zret (pc := 19) hF dX8_isMoreFor_19 (by decide) ⟨by rw [moreB, decide_eq_false (by omega)]; rfl, rfl⟩
  · refine V.iconst (pc := 14) (v := nI 1) dX8_isMoreFor_14 (by decide) ?_
    refine V.goto (pc := 15) 19 dX8_isMoreFor_15 (by decide) ?_
    exact V.zret (pc := 19) hF dX8_isMoreFor_19 (by decide) ⟨by rw [moreB, decide_eq_true h_10]; rfl, rfl⟩
theorem ok_X1_fitting {G : Gx} {μ : Mu} (t : Nat) (ht : t < 10) (S : TS) (hS : St μ t S) (set : Nat) (hset : μ.1 86 2 = nI set) (hs : set < 65536) : RunsP 3 M_X1_fitting [.ref (G.2.2 86), .ref (G.2.2 (8 * t))] G μ (.int (nI (fitN S set))) := by
  have hn := hS.vs.n16
  refine Runs.go RX1 rfl (by decide) [(0, .ref (G.2.2 86)), (1, .ref (G.2.2 (8 * t)))] (Nat.le_of_ble_eq_true rfl) rfl (fun X hF => ?_)
  refine V.iconst (pc := 0) (v := nI 0) dX1_fitting_0 (by decide) ?_
  refine V.istore_n (pc := 1) (lv' := [(0, .ref (G.2.2 86)), (1, .ref (G.2.2 (8 * t))), (2, .int (nI 0))]) dX1_fitting_1 (by decide) rfl ?_
  refine V.iconst (pc := 2) (v := nI 0) dX1_fitting_2 (by decide) ?_
  refine V.istore_n (pc := 3) (lv' := [(0, .ref (G.2.2 86)), (1, .ref (G.2.2 (8 * t))), (2, .int (nI 0)), (3, .int (nI 0))]) dX1_fitting_3 (by decide) rfl ?_
  have L4 : ∀ (n_ : Nat) (i : Nat), (i ≤ S.n) → S.n - i < n_ → V G RX1 cX1_fitting 4 3 X 4 [(0, .ref (G.2.2 86)), (1, .ref (G.2.2 (8 * t))), (2, .int (nI (fitUp S set i))), (3, .int (nI i))] [] μ := by
    intro n_
    induction n_ with
    | zero => intro i hi hm_; exact absurd hm_ (Nat.not_lt_zero _)
    | succ n_ ih4 =>
      intro i hi hm_
      refine V.iload_n (pc := 4) 3 dX1_fitting_4 rfl ?_
      refine V.aload_n (pc := 5) 1 dX1_fitting_5 rfl ?_
      refine gf_X1_25 (pc := 6) t ht (v := nI S.n) dX1_fitting_6 hS.n ?_
      refine V.icmpN_ge (pc := 9) 33 dX1_fitting_9 (by decide) (by omega) (by omega) (fun h_9 => ?_) (fun h_9 => ?_)
      · refine V.iload_n (pc := 33) 2 dX1_fitting_33 rfl ?_
        exact V.iret (pc := 34) hF dX1_fitting_34 ⟨by rw [show i = S.n from by omega]; rfl, rfl⟩
      · refine V.aload_n (pc := 12) 1 dX1_fitting_12 rfl ?_
        refine V.iload_n (pc := 13) 3 dX1_fitting_13 rfl ?_
        refine V.aload_n (pc := 14) 0 dX1_fitting_14 rfl ?_
        refine gf_X1_19 (pc := 15) (v := nI set) dX1_fitting_15 hset ?_
        refine cp_X1_53 (pc := 18) t ht dX1_fitting_18 (ok_X6_fitsInto t ht S hS i set (by omega) (by omega)) (by omega) (Nat.le_of_ble_eq_true rfl) ?_
        refine V.ifB_eq (pc := 21) 27 dX1_fitting_21 (by decide) (fun h_21 => ?_) (fun h_21 => ?_)
        · refine V.iinc (pc := 27) (v := nI (i + 1)) (lv' := [(0, .ref (G.2.2 86)), (1, .ref (G.2.2 (8 * t))), (2, .int (nI (fitUp S set i))), (3, .int (nI (i + 1)))]) 3 dX1_fitting_27 rfl (nn_inc _) (by decide) rfl ?_
          refine V.goto (pc := 30) 4 dX1_fitting_30 (by decide) ?_
          have e_2 : nI (fitUp S set i) = nI (fitUp S set (i + 1)) := congrArg nI (by rw [fitUp, h_21]; rfl)
          refine V.lvs (lv' := [(0, .ref (G.2.2 86)), (1, .ref (G.2.2 (8 * t))), (2, .int (nI (fitUp S set (i + 1)))), (3, .int (nI (i + 1)))]) (congrArg (fun z => ([(0, .ref (G.2.2 86)), (1, .ref (G.2.2 (8 * t))), (2, .int z), (3, .int (nI (i + 1)))] : List (Nat × Value))) e_2) ?_
          exact ih4 (i + 1) (by omega) (by omega)
        · refine V.iinc (pc := 24) (v := nI (fitUp S set i + 1)) (lv' := [(0, .ref (G.2.2 86)), (1, .ref (G.2.2 (8 * t))), (2, .int (nI (fitUp S set i + 1))), (3, .int (nI i))]) 2 dX1_fitting_24 rfl (nn_inc _) (by decide) rfl ?_
          refine V.iinc (pc := 27) (v := nI (i + 1)) (lv' := [(0, .ref (G.2.2 86)), (1, .ref (G.2.2 (8 * t))), (2, .int (nI (fitUp S set i + 1))), (3, .int (nI (i + 1)))]) 3 dX1_fitting_27 rfl (nn_inc _) (by decide) rfl ?_
          refine V.goto (pc := 30) 4 dX1_fitting_30 (by decide) ?_
          have e_2 : nI (fitUp S set i + 1) = nI (fitUp S set (i + 1)) := congrArg nI (by rw [fitUp, h_21]; rfl)
          refine V.lvs (lv' := [(0, .ref (G.2.2 86)), (1, .ref (G.2.2 (8 * t))), (2, .int (nI (fitUp S set (i + 1)))), (3, .int (nI (i + 1)))]) (congrArg (fun z => ([(0, .ref (G.2.2 86)), (1, .ref (G.2.2 (8 * t))), (2, .int z), (3, .int (nI (i + 1)))] : List (Nat × Value))) e_2) ?_
          exact ih4 (i + 1) (by omega) (by omega)
  have e_2 : nI 0 = nI (fitUp S set 0) := rfl
  refine V.lvs (lv' := [(0, .ref (G.2.2 86)), (1, .ref (G.2.2 (8 * t))), (2, .int (nI (fitUp S set 0))), (3, .int (nI 0))]) (congrArg (fun z => ([(0, .ref (G.2.2 86)), (1, .ref (G.2.2 (8 * t))), (2, .int z), (3, .int (nI 0))] : List (Nat × Value))) e_2) ?_
  exact L4 _ 0 (by omega) (Nat.lt_succ_self _)
theorem ok_X1_pickFor {G : Gx} {μ : Mu} (t : Nat) (ht : t < 10) (S : TS) (hS : St μ t S) (set : Nat) (fc : Bool) (hs : set < 65536) : RunsP 4 M_X1_pickFor [.ref (G.2.2 (8 * t)), .int (nI set), .int (nI fc.toNat)] G μ (.int (pv (pick S set fc))) := by
  have hn := hS.vs.n16
  refine Runs.go RX1 rfl (by decide) [(0, .ref (G.2.2 (8 * t))), (1, .int (nI set)), (2, .int (nI fc.toNat))] (Nat.le_of_ble_eq_true rfl) rfl (fun X hF => ?_)
  refine V.iconst (pc := 0) (v := (-1)) dX1_pickFor_0 (by decide) ?_
  refine V.istore_n (pc := 1) (lv' := [(0, .ref (G.2.2 (8 * t))), (1, .int (nI set)), (2, .int (nI fc.toNat)), (3, .int (-1))]) dX1_pickFor_1 (by decide) rfl ?_
  refine V.iconst (pc := 2) (v := nI 0) dX1_pickFor_2 (by decide) ?_
  refine V.istore (pc := 3) (lv' := [(0, .ref (G.2.2 (8 * t))), (1, .int (nI set)), (2, .int (nI fc.toNat)), (3, .int (-1)), (4, .int (nI 0))]) dX1_pickFor_3 (by decide) rfl ?_
  refine V.iconst (pc := 5) (v := nI 1) dX1_pickFor_5 (by decide) ?_
  refine V.istore (pc := 6) (lv' := [(0, .ref (G.2.2 (8 * t))), (1, .int (nI set)), (2, .int (nI fc.toNat)), (3, .int (-1)), (4, .int (nI 0)), (5, .int (nI 1))]) dX1_pickFor_6 (by decide) rfl ?_
  refine V.iconst (pc := 8) (v := nI 0) dX1_pickFor_8 (by decide) ?_
  refine V.istore (pc := 9) (lv' := [(0, .ref (G.2.2 (8 * t))), (1, .int (nI set)), (2, .int (nI fc.toNat)), (3, .int (-1)), (4, .int (nI 0)), (5, .int (nI 1)), (6, .int (nI 0))]) dX1_pickFor_9 (by decide) rfl ?_
  have L11 : ∀ (n_ : Nat) (i : Nat), (i ≤ S.n) → S.n - i < n_ → V G RX1 cX1_pickFor 9 4 X 11 [(0, .ref (G.2.2 (8 * t))), (1, .int (nI set)), (2, .int (nI fc.toNat)), (3, .int (pv (pickUp S set fc i).1)), (4, .int (nI ((pickUp S set fc i).2.1))), (5, .int (nI ((pickUp S set fc i).2.2))), (6, .int (nI i))] [] μ := by
    intro n_
    induction n_ with
    | zero => intro i hi hm_; exact absurd hm_ (Nat.not_lt_zero _)
    | succ n_ ih11 =>
      intro i hi hm_
      refine V.iload (pc := 11) 6 dX1_pickFor_11 rfl ?_
      refine V.aload_n (pc := 13) 0 dX1_pickFor_13 rfl ?_
      refine gf_X1_25 (pc := 14) t ht (v := nI S.n) dX1_pickFor_14 hS.n ?_
      refine V.icmpN_ge (pc := 17) 87 dX1_pickFor_17 (by decide) (by omega) (by omega) (fun h_17 => ?_) (fun h_17 => ?_)
      · refine V.iload_n (pc := 87) 3 dX1_pickFor_87 rfl ?_
        exact V.iret (pc := 88) hF dX1_pickFor_88 ⟨by rw [show i = S.n from by omega]; rfl, rfl⟩
      · have hpl := pickUp_le hS.vs set fc i
        have hg := gain_le hS.vs i set
        have hcst := cost_le hS.vs i set
        refine V.aload_n (pc := 20) 0 dX1_pickFor_20 rfl ?_
        refine V.iload (pc := 21) 6 dX1_pickFor_21 rfl ?_
        refine V.iload_n (pc := 23) 1 dX1_pickFor_23 rfl ?_
        refine cp_X1_53 (pc := 24) t ht dX1_pickFor_24 (ok_X6_fitsInto t ht S hS i set (by omega) (by omega)) (by omega) (Nat.le_of_ble_eq_true rfl) ?_
        refine V.ifB_eq (pc := 27) 81 dX1_pickFor_27 (by decide) (fun h_27 => ?_) (fun h_27 => ?_)
        · refine V.iinc (pc := 81) (v := nI (i + 1)) (lv' := [(0, .ref (G.2.2 (8 * t))), (1, .int (nI set)), (2, .int (nI fc.toNat)), (3, .int (pv (pickUp S set fc i).1)), (4, .int (nI ((pickUp S set fc i).2.1))), (5, .int (nI ((pickUp S set fc i).2.2))), (6, .int (nI (i + 1)))]) 6 dX1_pickFor_81 rfl (nn_inc _) (by decide) rfl ?_
          refine V.goto (pc := 84) 11 dX1_pickFor_84 (by decide) ?_
          have e_3 : pv (pickUp S set fc i).1 = pv (pickUp S set fc (i + 1)).1 := by rw [pickUp_f h_27]
          have e_4 : nI ((pickUp S set fc i).2.1) = nI ((pickUp S set fc (i + 1)).2.1) := by rw [pickUp_f h_27]
          have e_5 : nI ((pickUp S set fc i).2.2) = nI ((pickUp S set fc (i + 1)).2.2) := by rw [pickUp_f h_27]
          refine V.lvs (lv' := [(0, .ref (G.2.2 (8 * t))), (1, .int (nI set)), (2, .int (nI fc.toNat)), (3, .int (pv (pickUp S set fc (i + 1)).1)), (4, .int (nI ((pickUp S set fc i).2.1))), (5, .int (nI ((pickUp S set fc i).2.2))), (6, .int (nI (i + 1)))]) (congrArg (fun z => ([(0, .ref (G.2.2 (8 * t))), (1, .int (nI set)), (2, .int (nI fc.toNat)), (3, .int z), (4, .int (nI ((pickUp S set fc i).2.1))), (5, .int (nI ((pickUp S set fc i).2.2))), (6, .int (nI (i + 1)))] : List (Nat × Value))) e_3) ?_
          refine V.lvs (lv' := [(0, .ref (G.2.2 (8 * t))), (1, .int (nI set)), (2, .int (nI fc.toNat)), (3, .int (pv (pickUp S set fc (i + 1)).1)), (4, .int (nI ((pickUp S set fc (i + 1)).2.1))), (5, .int (nI ((pickUp S set fc i).2.2))), (6, .int (nI (i + 1)))]) (congrArg (fun z => ([(0, .ref (G.2.2 (8 * t))), (1, .int (nI set)), (2, .int (nI fc.toNat)), (3, .int (pv (pickUp S set fc (i + 1)).1)), (4, .int z), (5, .int (nI ((pickUp S set fc i).2.2))), (6, .int (nI (i + 1)))] : List (Nat × Value))) e_4) ?_
          refine V.lvs (lv' := [(0, .ref (G.2.2 (8 * t))), (1, .int (nI set)), (2, .int (nI fc.toNat)), (3, .int (pv (pickUp S set fc (i + 1)).1)), (4, .int (nI ((pickUp S set fc (i + 1)).2.1))), (5, .int (nI ((pickUp S set fc (i + 1)).2.2))), (6, .int (nI (i + 1)))]) (congrArg (fun z => ([(0, .ref (G.2.2 (8 * t))), (1, .int (nI set)), (2, .int (nI fc.toNat)), (3, .int (pv (pickUp S set fc (i + 1)).1)), (4, .int (nI ((pickUp S set fc (i + 1)).2.1))), (5, .int z), (6, .int (nI (i + 1)))] : List (Nat × Value))) e_5) ?_
          exact ih11 (i + 1) (by omega) (by omega)
        · refine V.aload_n (pc := 30) 0 dX1_pickFor_30 rfl ?_
          refine V.iload (pc := 31) 6 dX1_pickFor_31 rfl ?_
          refine V.iload_n (pc := 33) 1 dX1_pickFor_33 rfl ?_
          refine cp_X1_45 (pc := 34) t ht dX1_pickFor_34 (ok_X6_gainOf t ht S hS i set (by omega) (by omega)) (by omega) (Nat.le_of_ble_eq_true rfl) ?_
          refine V.istore (pc := 37) (lv' := [(0, .ref (G.2.2 (8 * t))), (1, .int (nI set)), (2, .int (nI fc.toNat)), (3, .int (pv (pickUp S set fc i).1)), (4, .int (nI ((pickUp S set fc i).2.1))), (5, .int (nI ((pickUp S set fc i).2.2))), (6, .int (nI i)), (7, .int (nI (gain S i set)))]) dX1_pickFor_37 (by decide) rfl ?_
          refine V.iload_n (pc := 39) 2 dX1_pickFor_39 rfl ?_
          refine V.ifB_eq (pc := 40) 53 dX1_pickFor_40 (by decide) (fun h_40 => ?_) (fun h_40 => ?_)
          · refine V.iconst (pc := 53) (v := nI 1) dX1_pickFor_53 (by decide) ?_
            refine V.istore (pc := 54) (lv' := [(0, .ref (G.2.2 (8 * t))), (1, .int (nI set)), (2, .int (nI fc.toNat)), (3, .int (pv (pickUp S set fc i).1)), (4, .int (nI ((pickUp S set fc i).2.1))), (5, .int (nI ((pickUp S set fc i).2.2))), (6, .int (nI i)), (7, .int (nI (gain S i set))), (8, .int (nI 1))]) dX1_pickFor_54 (by decide) rfl ?_
            refine V.iload (pc := 56) 7 dX1_pickFor_56 rfl ?_
            refine V.iload (pc := 58) 8 dX1_pickFor_58 rfl ?_
            refine V.iload (pc := 60) 4 dX1_pickFor_60 rfl ?_
            refine V.iload (pc := 62) 5 dX1_pickFor_62 rfl ?_
            refine cp_X1_60 (pc := 64) dX1_pickFor_64 (ok_X8_isMoreFor (gain S i set) 1 ((pickUp S set fc i).2.1) ((pickUp S set fc i).2.2) (by omega) (by omega) (by omega) (by omega)) (by omega) (Nat.le_of_ble_eq_true rfl) ?_
            refine V.ifB_eq (pc := 67) 81 dX1_pickFor_67 (by decide) (fun h_67 => ?_) (fun h_67 => ?_)
            · refine V.iinc (pc := 81) (v := nI (i + 1)) (lv' := [(0, .ref (G.2.2 (8 * t))), (1, .int (nI set)), (2, .int (nI fc.toNat)), (3, .int (pv (pickUp S set fc i).1)), (4, .int (nI ((pickUp S set fc i).2.1))), (5, .int (nI ((pickUp S set fc i).2.2))), (6, .int (nI (i + 1))), (7, .int (nI (gain S i set))), (8, .int (nI 1))]) 6 dX1_pickFor_81 rfl (nn_inc _) (by decide) rfl ?_
              refine V.goto (pc := 84) 11 dX1_pickFor_84 (by decide) ?_
              refine V.sub (lv' := [(0, .ref (G.2.2 (8 * t))), (1, .int (nI set)), (2, .int (nI fc.toNat)), (3, .int (pv (pickUp S set fc i).1)), (4, .int (nI ((pickUp S set fc i).2.1))), (5, .int (nI ((pickUp S set fc i).2.2))), (6, .int (nI (i + 1)))]) [0, 1, 2, 3, 4, 5, 6] rfl ?_
              have e_3 : pv (pickUp S set fc i).1 = pv (pickUp S set fc (i + 1)).1 := by rw [pickUp_g (by rw [h_40]; rfl) h_67]
              have e_4 : nI ((pickUp S set fc i).2.1) = nI ((pickUp S set fc (i + 1)).2.1) := by rw [pickUp_g (by rw [h_40]; rfl) h_67]
              have e_5 : nI ((pickUp S set fc i).2.2) = nI ((pickUp S set fc (i + 1)).2.2) := by rw [pickUp_g (by rw [h_40]; rfl) h_67]
              refine V.lvs (lv' := [(0, .ref (G.2.2 (8 * t))), (1, .int (nI set)), (2, .int (nI fc.toNat)), (3, .int (pv (pickUp S set fc (i + 1)).1)), (4, .int (nI ((pickUp S set fc i).2.1))), (5, .int (nI ((pickUp S set fc i).2.2))), (6, .int (nI (i + 1)))]) (congrArg (fun z => ([(0, .ref (G.2.2 (8 * t))), (1, .int (nI set)), (2, .int (nI fc.toNat)), (3, .int z), (4, .int (nI ((pickUp S set fc i).2.1))), (5, .int (nI ((pickUp S set fc i).2.2))), (6, .int (nI (i + 1)))] : List (Nat × Value))) e_3) ?_
              refine V.lvs (lv' := [(0, .ref (G.2.2 (8 * t))), (1, .int (nI set)), (2, .int (nI fc.toNat)), (3, .int (pv (pickUp S set fc (i + 1)).1)), (4, .int (nI ((pickUp S set fc (i + 1)).2.1))), (5, .int (nI ((pickUp S set fc i).2.2))), (6, .int (nI (i + 1)))]) (congrArg (fun z => ([(0, .ref (G.2.2 (8 * t))), (1, .int (nI set)), (2, .int (nI fc.toNat)), (3, .int (pv (pickUp S set fc (i + 1)).1)), (4, .int z), (5, .int (nI ((pickUp S set fc i).2.2))), (6, .int (nI (i + 1)))] : List (Nat × Value))) e_4) ?_
              refine V.lvs (lv' := [(0, .ref (G.2.2 (8 * t))), (1, .int (nI set)), (2, .int (nI fc.toNat)), (3, .int (pv (pickUp S set fc (i + 1)).1)), (4, .int (nI ((pickUp S set fc (i + 1)).2.1))), (5, .int (nI ((pickUp S set fc (i + 1)).2.2))), (6, .int (nI (i + 1)))]) (congrArg (fun z => ([(0, .ref (G.2.2 (8 * t))), (1, .int (nI set)), (2, .int (nI fc.toNat)), (3, .int (pv (pickUp S set fc (i + 1)).1)), (4, .int (nI ((pickUp S set fc (i + 1)).2.1))), (5, .int z), (6, .int (nI (i + 1)))] : List (Nat × Value))) e_5) ?_
              exact ih11 (i + 1) (by omega) (by omega)
            · refine V.iload (pc := 70) 6 dX1_pickFor_70 rfl ?_
              refine V.istore_n (pc := 72) (lv' := [(0, .ref (G.2.2 (8 * t))), (1, .int (nI set)), (2, .int (nI fc.toNat)), (3, .int (nI i)), (4, .int (nI ((pickUp S set fc i).2.1))), (5, .int (nI ((pickUp S set fc i).2.2))), (6, .int (nI i)), (7, .int (nI (gain S i set))), (8, .int (nI 1))]) dX1_pickFor_72 (by decide) rfl ?_
              refine V.iload (pc := 73) 7 dX1_pickFor_73 rfl ?_
              refine V.istore (pc := 75) (lv' := [(0, .ref (G.2.2 (8 * t))), (1, .int (nI set)), (2, .int (nI fc.toNat)), (3, .int (nI i)), (4, .int (nI (gain S i set))), (5, .int (nI ((pickUp S set fc i).2.2))), (6, .int (nI i)), (7, .int (nI (gain S i set))), (8, .int (nI 1))]) dX1_pickFor_75 (by decide) rfl ?_
              refine V.iload (pc := 77) 8 dX1_pickFor_77 rfl ?_
              refine V.istore (pc := 79) (lv' := [(0, .ref (G.2.2 (8 * t))), (1, .int (nI set)), (2, .int (nI fc.toNat)), (3, .int (nI i)), (4, .int (nI (gain S i set))), (5, .int (nI 1)), (6, .int (nI i)), (7, .int (nI (gain S i set))), (8, .int (nI 1))]) dX1_pickFor_79 (by decide) rfl ?_
              refine V.iinc (pc := 81) (v := nI (i + 1)) (lv' := [(0, .ref (G.2.2 (8 * t))), (1, .int (nI set)), (2, .int (nI fc.toNat)), (3, .int (nI i)), (4, .int (nI (gain S i set))), (5, .int (nI 1)), (6, .int (nI (i + 1))), (7, .int (nI (gain S i set))), (8, .int (nI 1))]) 6 dX1_pickFor_81 rfl (nn_inc _) (by decide) rfl ?_
              refine V.goto (pc := 84) 11 dX1_pickFor_84 (by decide) ?_
              refine V.sub (lv' := [(0, .ref (G.2.2 (8 * t))), (1, .int (nI set)), (2, .int (nI fc.toNat)), (3, .int (nI i)), (4, .int (nI (gain S i set))), (5, .int (nI 1)), (6, .int (nI (i + 1)))]) [0, 1, 2, 3, 4, 5, 6] rfl ?_
              have e_3 : nI i = pv (pickUp S set fc (i + 1)).1 := by rw [pickUp_t (by rw [h_40]; rfl) h_27 h_67]; rfl
              have e_4 : nI (gain S i set) = nI ((pickUp S set fc (i + 1)).2.1) := by rw [pickUp_t (by rw [h_40]; rfl) h_27 h_67]
              have e_5 : nI 1 = nI ((pickUp S set fc (i + 1)).2.2) := by rw [pickUp_t (by rw [h_40]; rfl) h_27 h_67]
              refine V.lvs (lv' := [(0, .ref (G.2.2 (8 * t))), (1, .int (nI set)), (2, .int (nI fc.toNat)), (3, .int (pv (pickUp S set fc (i + 1)).1)), (4, .int (nI (gain S i set))), (5, .int (nI 1)), (6, .int (nI (i + 1)))]) (congrArg (fun z => ([(0, .ref (G.2.2 (8 * t))), (1, .int (nI set)), (2, .int (nI fc.toNat)), (3, .int z), (4, .int (nI (gain S i set))), (5, .int (nI 1)), (6, .int (nI (i + 1)))] : List (Nat × Value))) e_3) ?_
              refine V.lvs (lv' := [(0, .ref (G.2.2 (8 * t))), (1, .int (nI set)), (2, .int (nI fc.toNat)), (3, .int (pv (pickUp S set fc (i + 1)).1)), (4, .int (nI ((pickUp S set fc (i + 1)).2.1))), (5, .int (nI 1)), (6, .int (nI (i + 1)))]) (congrArg (fun z => ([(0, .ref (G.2.2 (8 * t))), (1, .int (nI set)), (2, .int (nI fc.toNat)), (3, .int (pv (pickUp S set fc (i + 1)).1)), (4, .int z), (5, .int (nI 1)), (6, .int (nI (i + 1)))] : List (Nat × Value))) e_4) ?_
              refine V.lvs (lv' := [(0, .ref (G.2.2 (8 * t))), (1, .int (nI set)), (2, .int (nI fc.toNat)), (3, .int (pv (pickUp S set fc (i + 1)).1)), (4, .int (nI ((pickUp S set fc (i + 1)).2.1))), (5, .int (nI ((pickUp S set fc (i + 1)).2.2))), (6, .int (nI (i + 1)))]) (congrArg (fun z => ([(0, .ref (G.2.2 (8 * t))), (1, .int (nI set)), (2, .int (nI fc.toNat)), (3, .int (pv (pickUp S set fc (i + 1)).1)), (4, .int (nI ((pickUp S set fc (i + 1)).2.1))), (5, .int z), (6, .int (nI (i + 1)))] : List (Nat × Value))) e_5) ?_
              exact ih11 (i + 1) (by omega) (by omega)
          · refine V.aload_n (pc := 43) 0 dX1_pickFor_43 rfl ?_
            refine V.iload (pc := 44) 6 dX1_pickFor_44 rfl ?_
            refine V.iload_n (pc := 46) 1 dX1_pickFor_46 rfl ?_
            refine cp_X1_57 (pc := 47) t ht dX1_pickFor_47 (ok_X6_costOf t ht S hS i set (by omega) (by omega)) (by omega) (Nat.le_of_ble_eq_true rfl) ?_
            refine V.goto (pc := 50) 54 dX1_pickFor_50 (by decide) ?_
            refine V.istore (pc := 54) (lv' := [(0, .ref (G.2.2 (8 * t))), (1, .int (nI set)), (2, .int (nI fc.toNat)), (3, .int (pv (pickUp S set fc i).1)), (4, .int (nI ((pickUp S set fc i).2.1))), (5, .int (nI ((pickUp S set fc i).2.2))), (6, .int (nI i)), (7, .int (nI (gain S i set))), (8, .int (nI (cost S i set)))]) dX1_pickFor_54 (by decide) rfl ?_
            refine V.iload (pc := 56) 7 dX1_pickFor_56 rfl ?_
            refine V.iload (pc := 58) 8 dX1_pickFor_58 rfl ?_
            refine V.iload (pc := 60) 4 dX1_pickFor_60 rfl ?_
            refine V.iload (pc := 62) 5 dX1_pickFor_62 rfl ?_
            refine cp_X1_60 (pc := 64) dX1_pickFor_64 (ok_X8_isMoreFor (gain S i set) (cost S i set) ((pickUp S set fc i).2.1) ((pickUp S set fc i).2.2) (by omega) (by omega) (by omega) (by omega)) (by omega) (Nat.le_of_ble_eq_true rfl) ?_
            refine V.ifB_eq (pc := 67) 81 dX1_pickFor_67 (by decide) (fun h_67 => ?_) (fun h_67 => ?_)
            · refine V.iinc (pc := 81) (v := nI (i + 1)) (lv' := [(0, .ref (G.2.2 (8 * t))), (1, .int (nI set)), (2, .int (nI fc.toNat)), (3, .int (pv (pickUp S set fc i).1)), (4, .int (nI ((pickUp S set fc i).2.1))), (5, .int (nI ((pickUp S set fc i).2.2))), (6, .int (nI (i + 1))), (7, .int (nI (gain S i set))), (8, .int (nI (cost S i set)))]) 6 dX1_pickFor_81 rfl (nn_inc _) (by decide) rfl ?_
              refine V.goto (pc := 84) 11 dX1_pickFor_84 (by decide) ?_
              refine V.sub (lv' := [(0, .ref (G.2.2 (8 * t))), (1, .int (nI set)), (2, .int (nI fc.toNat)), (3, .int (pv (pickUp S set fc i).1)), (4, .int (nI ((pickUp S set fc i).2.1))), (5, .int (nI ((pickUp S set fc i).2.2))), (6, .int (nI (i + 1)))]) [0, 1, 2, 3, 4, 5, 6] rfl ?_
              have e_3 : pv (pickUp S set fc i).1 = pv (pickUp S set fc (i + 1)).1 := by rw [pickUp_g (by rw [h_40]; rfl) h_67]
              have e_4 : nI ((pickUp S set fc i).2.1) = nI ((pickUp S set fc (i + 1)).2.1) := by rw [pickUp_g (by rw [h_40]; rfl) h_67]
              have e_5 : nI ((pickUp S set fc i).2.2) = nI ((pickUp S set fc (i + 1)).2.2) := by rw [pickUp_g (by rw [h_40]; rfl) h_67]
              refine V.lvs (lv' := [(0, .ref (G.2.2 (8 * t))), (1, .int (nI set)), (2, .int (nI fc.toNat)), (3, .int (pv (pickUp S set fc (i + 1)).1)), (4, .int (nI ((pickUp S set fc i).2.1))), (5, .int (nI ((pickUp S set fc i).2.2))), (6, .int (nI (i + 1)))]) (congrArg (fun z => ([(0, .ref (G.2.2 (8 * t))), (1, .int (nI set)), (2, .int (nI fc.toNat)), (3, .int z), (4, .int (nI ((pickUp S set fc i).2.1))), (5, .int (nI ((pickUp S set fc i).2.2))), (6, .int (nI (i + 1)))] : List (Nat × Value))) e_3) ?_
              refine V.lvs (lv' := [(0, .ref (G.2.2 (8 * t))), (1, .int (nI set)), (2, .int (nI fc.toNat)), (3, .int (pv (pickUp S set fc (i + 1)).1)), (4, .int (nI ((pickUp S set fc (i + 1)).2.1))), (5, .int (nI ((pickUp S set fc i).2.2))), (6, .int (nI (i + 1)))]) (congrArg (fun z => ([(0, .ref (G.2.2 (8 * t))), (1, .int (nI set)), (2, .int (nI fc.toNat)), (3, .int (pv (pickUp S set fc (i + 1)).1)), (4, .int z), (5, .int (nI ((pickUp S set fc i).2.2))), (6, .int (nI (i + 1)))] : List (Nat × Value))) e_4) ?_
              refine V.lvs (lv' := [(0, .ref (G.2.2 (8 * t))), (1, .int (nI set)), (2, .int (nI fc.toNat)), (3, .int (pv (pickUp S set fc (i + 1)).1)), (4, .int (nI ((pickUp S set fc (i + 1)).2.1))), (5, .int (nI ((pickUp S set fc (i + 1)).2.2))), (6, .int (nI (i + 1)))]) (congrArg (fun z => ([(0, .ref (G.2.2 (8 * t))), (1, .int (nI set)), (2, .int (nI fc.toNat)), (3, .int (pv (pickUp S set fc (i + 1)).1)), (4, .int (nI ((pickUp S set fc (i + 1)).2.1))), (5, .int z), (6, .int (nI (i + 1)))] : List (Nat × Value))) e_5) ?_
              exact ih11 (i + 1) (by omega) (by omega)
            · refine V.iload (pc := 70) 6 dX1_pickFor_70 rfl ?_
              refine V.istore_n (pc := 72) (lv' := [(0, .ref (G.2.2 (8 * t))), (1, .int (nI set)), (2, .int (nI fc.toNat)), (3, .int (nI i)), (4, .int (nI ((pickUp S set fc i).2.1))), (5, .int (nI ((pickUp S set fc i).2.2))), (6, .int (nI i)), (7, .int (nI (gain S i set))), (8, .int (nI (cost S i set)))]) dX1_pickFor_72 (by decide) rfl ?_
              refine V.iload (pc := 73) 7 dX1_pickFor_73 rfl ?_
              refine V.istore (pc := 75) (lv' := [(0, .ref (G.2.2 (8 * t))), (1, .int (nI set)), (2, .int (nI fc.toNat)), (3, .int (nI i)), (4, .int (nI (gain S i set))), (5, .int (nI ((pickUp S set fc i).2.2))), (6, .int (nI i)), (7, .int (nI (gain S i set))), (8, .int (nI (cost S i set)))]) dX1_pickFor_75 (by decide) rfl ?_
              refine V.iload (pc := 77) 8 dX1_pickFor_77 rfl ?_
              refine V.istore (pc := 79) (lv' := [(0, .ref (G.2.2 (8 * t))), (1, .int (nI set)), (2, .int (nI fc.toNat)), (3, .int (nI i)), (4, .int (nI (gain S i set))), (5, .int (nI (cost S i set))), (6, .int (nI i)), (7, .int (nI (gain S i set))), (8, .int (nI (cost S i set)))]) dX1_pickFor_79 (by decide) rfl ?_
              refine V.iinc (pc := 81) (v := nI (i + 1)) (lv' := [(0, .ref (G.2.2 (8 * t))), (1, .int (nI set)), (2, .int (nI fc.toNat)), (3, .int (nI i)), (4, .int (nI (gain S i set))), (5, .int (nI (cost S i set))), (6, .int (nI (i + 1))), (7, .int (nI (gain S i set))), (8, .int (nI (cost S i set)))]) 6 dX1_pickFor_81 rfl (nn_inc _) (by decide) rfl ?_
              refine V.goto (pc := 84) 11 dX1_pickFor_84 (by decide) ?_
              refine V.sub (lv' := [(0, .ref (G.2.2 (8 * t))), (1, .int (nI set)), (2, .int (nI fc.toNat)), (3, .int (nI i)), (4, .int (nI (gain S i set))), (5, .int (nI (cost S i set))), (6, .int (nI (i + 1)))]) [0, 1, 2, 3, 4, 5, 6] rfl ?_
              have e_3 : nI i = pv (pickUp S set fc (i + 1)).1 := by rw [pickUp_t (by rw [h_40]; rfl) h_27 h_67]; rfl
              have e_4 : nI (gain S i set) = nI ((pickUp S set fc (i + 1)).2.1) := by rw [pickUp_t (by rw [h_40]; rfl) h_27 h_67]
              have e_5 : nI (cost S i set) = nI ((pickUp S set fc (i + 1)).2.2) := by rw [pickUp_t (by rw [h_40]; rfl) h_27 h_67]
              refine V.lvs (lv' := [(0, .ref (G.2.2 (8 * t))), (1, .int (nI set)), (2, .int (nI fc.toNat)), (3, .int (pv (pickUp S set fc (i + 1)).1)), (4, .int (nI (gain S i set))), (5, .int (nI (cost S i set))), (6, .int (nI (i + 1)))]) (congrArg (fun z => ([(0, .ref (G.2.2 (8 * t))), (1, .int (nI set)), (2, .int (nI fc.toNat)), (3, .int z), (4, .int (nI (gain S i set))), (5, .int (nI (cost S i set))), (6, .int (nI (i + 1)))] : List (Nat × Value))) e_3) ?_
              refine V.lvs (lv' := [(0, .ref (G.2.2 (8 * t))), (1, .int (nI set)), (2, .int (nI fc.toNat)), (3, .int (pv (pickUp S set fc (i + 1)).1)), (4, .int (nI ((pickUp S set fc (i + 1)).2.1))), (5, .int (nI (cost S i set))), (6, .int (nI (i + 1)))]) (congrArg (fun z => ([(0, .ref (G.2.2 (8 * t))), (1, .int (nI set)), (2, .int (nI fc.toNat)), (3, .int (pv (pickUp S set fc (i + 1)).1)), (4, .int z), (5, .int (nI (cost S i set))), (6, .int (nI (i + 1)))] : List (Nat × Value))) e_4) ?_
              refine V.lvs (lv' := [(0, .ref (G.2.2 (8 * t))), (1, .int (nI set)), (2, .int (nI fc.toNat)), (3, .int (pv (pickUp S set fc (i + 1)).1)), (4, .int (nI ((pickUp S set fc (i + 1)).2.1))), (5, .int (nI ((pickUp S set fc (i + 1)).2.2))), (6, .int (nI (i + 1)))]) (congrArg (fun z => ([(0, .ref (G.2.2 (8 * t))), (1, .int (nI set)), (2, .int (nI fc.toNat)), (3, .int (pv (pickUp S set fc (i + 1)).1)), (4, .int (nI ((pickUp S set fc (i + 1)).2.1))), (5, .int z), (6, .int (nI (i + 1)))] : List (Nat × Value))) e_5) ?_
              exact ih11 (i + 1) (by omega) (by omega)
  have e_3 : (-1) = pv (pickUp S set fc 0).1 := rfl
  have e_4 : nI 0 = nI ((pickUp S set fc 0).2.1) := rfl
  have e_5 : nI 1 = nI ((pickUp S set fc 0).2.2) := rfl
  refine V.lvs (lv' := [(0, .ref (G.2.2 (8 * t))), (1, .int (nI set)), (2, .int (nI fc.toNat)), (3, .int (pv (pickUp S set fc 0).1)), (4, .int (nI 0)), (5, .int (nI 1)), (6, .int (nI 0))]) (congrArg (fun z => ([(0, .ref (G.2.2 (8 * t))), (1, .int (nI set)), (2, .int (nI fc.toNat)), (3, .int z), (4, .int (nI 0)), (5, .int (nI 1)), (6, .int (nI 0))] : List (Nat × Value))) e_3) ?_
  refine V.lvs (lv' := [(0, .ref (G.2.2 (8 * t))), (1, .int (nI set)), (2, .int (nI fc.toNat)), (3, .int (pv (pickUp S set fc 0).1)), (4, .int (nI ((pickUp S set fc 0).2.1))), (5, .int (nI 1)), (6, .int (nI 0))]) (congrArg (fun z => ([(0, .ref (G.2.2 (8 * t))), (1, .int (nI set)), (2, .int (nI fc.toNat)), (3, .int (pv (pickUp S set fc 0).1)), (4, .int z), (5, .int (nI 1)), (6, .int (nI 0))] : List (Nat × Value))) e_4) ?_
  refine V.lvs (lv' := [(0, .ref (G.2.2 (8 * t))), (1, .int (nI set)), (2, .int (nI fc.toNat)), (3, .int (pv (pickUp S set fc 0).1)), (4, .int (nI ((pickUp S set fc 0).2.1))), (5, .int (nI ((pickUp S set fc 0).2.2))), (6, .int (nI 0))]) (congrArg (fun z => ([(0, .ref (G.2.2 (8 * t))), (1, .int (nI set)), (2, .int (nI fc.toNat)), (3, .int (pv (pickUp S set fc 0).1)), (4, .int (nI ((pickUp S set fc 0).2.1))), (5, .int z), (6, .int (nI 0))] : List (Nat × Value))) e_5) ?_
  exact L11 _ 0 (by omega) (Nat.lt_succ_self _)
theorem ok_pick0 {G : Gx} {μ : Mu} (t : Nat) (ht : t < 10) (S : TS) (hS : St μ t S) (set : Nat) (fc : Bool) (hs : set < 65536) (hp : pick S set fc = 0) : RunsP 4 M_X1_pickFor [.ref (G.2.2 (8 * t)), .int (nI set), .int (nI fc.toNat)] G μ (.int (-1)) := by
  have h := ok_X1_pickFor (G := G) t ht S hS set fc hs
  rw [hp] at h
  exact h
theorem ok_picks {G : Gx} {μ : Mu} (t : Nat) (ht : t < 10) (S : TS) (hS : St μ t S) (set : Nat) (fc : Bool) (hs : set < 65536) (s : Nat) (hp : pick S set fc = s + 1) : RunsP 4 M_X1_pickFor [.ref (G.2.2 (8 * t)), .int (nI set), .int (nI fc.toNat)] G μ (.int (nI s)) := by
  have h := ok_X1_pickFor (G := G) t ht S hS set fc hs
  rw [hp] at h
  exact h
/-- the single one is better than the greedy set -/
abbrev sgl (S : TS) (set : Nat) : Prop := pick S 0 false ≠ 0 ∧ cov S set < gain S (pick S 0 false - 1) 0
def csMem (S : TS) (μ : Mu) (set : Nat) : Mu := if sgl S set then si (si (si μ 86 2 (nI (chain S (pick S 0 false - 1)))) 87 0 (nI (pick S 0 false - 1))) 86 1 (nI 1) else μ
theorem ok_X1_compareWithSingle {G : Gx} {μ : Mu} (t : Nat) (ht : t < 10) (S : TS) (hS : St μ t S) (set : Nat) (hset : μ.1 86 2 = nI set) (hs : set < 65536) : Runs 5 M_X1_compareWithSingle [.ref (G.2.2 86), .ref (G.2.2 (8 * t))] G μ (fun r μ' => r = none ∧ μ' = csMem S μ set) := by
  have hn := hS.vs.n16
  have hcv : cov S set ≤ 48000 := wOf_le hS.vs _
  refine Runs.go RX1 rfl (by decide) [(0, .ref (G.2.2 86)), (1, .ref (G.2.2 (8 * t)))] (Nat.le_of_ble_eq_true rfl) rfl (fun X hF => ?_)
  refine V.aload_n (pc := 0) 1 dX1_compareWithSingle_0 rfl ?_
  refine V.iconst (pc := 1) (v := nI 0) dX1_compareWithSingle_1 (by decide) ?_
  refine V.iconst (pc := 2) (v := nI 0) dX1_compareWithSingle_2 (by decide) ?_
  rcases hp : pick S 0 false with _ | s
  · refine cp_X1_34 (pc := 3) dX1_compareWithSingle_3 (ok_pick0 t ht S hS 0 false (by omega) hp) (by omega) (Nat.le_of_ble_eq_true rfl) ?_
    refine V.istore_n (pc := 6) (lv' := [(0, .ref (G.2.2 86)), (1, .ref (G.2.2 (8 * t))), (2, .int (-1))]) dX1_compareWithSingle_6 (by decide) rfl ?_
    refine V.iload_n (pc := 7) 2 dX1_compareWithSingle_7 rfl ?_
    refine V.iconst (pc := 8) (v := (-1)) dX1_compareWithSingle_8 (by decide) ?_
    refine V.icmp_eq (pc := 9) 51 dX1_compareWithSingle_9 (by decide) (fun h_9 => ?_) (fun h_9 => ?_)
    · exact V.vret (pc := 51) hF dX1_compareWithSingle_51 ⟨rfl, by rw [csMem, if_neg (fun h => h.1 hp)]⟩
    · exact absurd rfl h_9
  · refine cp_X1_34 (pc := 3) dX1_compareWithSingle_3 (ok_picks t ht S hS 0 false (by omega) s hp) (by omega) (Nat.le_of_ble_eq_true rfl) ?_
    have hsn := (pickUp_some hp).1
    have hg := gain_le hS.vs s 0
    refine V.istore_n (pc := 6) (lv' := [(0, .ref (G.2.2 86)), (1, .ref (G.2.2 (8 * t))), (2, .int (nI s))]) dX1_compareWithSingle_6 (by decide) rfl ?_
    refine V.iload_n (pc := 7) 2 dX1_compareWithSingle_7 rfl ?_
    refine V.iconst (pc := 8) (v := (-1)) dX1_compareWithSingle_8 (by decide) ?_
    refine V.icmp_eq (pc := 9) 51 dX1_compareWithSingle_9 (by decide) (fun h_9 => ?_) (fun h_9 => ?_)
    · exact absurd h_9 (nn_ne_m1 (by omega))
    · refine V.aload_n (pc := 12) 1 dX1_compareWithSingle_12 rfl ?_
      refine V.iload_n (pc := 13) 2 dX1_compareWithSingle_13 rfl ?_
      refine V.iconst (pc := 14) (v := nI 0) dX1_compareWithSingle_14 (by decide) ?_
      refine cp_X1_45 (pc := 15) t ht dX1_compareWithSingle_15 (ok_X6_gainOf t ht S hS s 0 (by omega) (by omega)) (by omega) (Nat.le_of_ble_eq_true rfl) ?_
      refine V.aload_n (pc := 18) 1 dX1_compareWithSingle_18 rfl ?_
      refine V.aload_n (pc := 19) 0 dX1_compareWithSingle_19 rfl ?_
      refine gf_X1_19 (pc := 20) (v := nI set) dX1_compareWithSingle_20 hset ?_
      refine cp_X1_49 (pc := 23) t ht dX1_compareWithSingle_23 (ok_X6_coveredBy t ht S hS set (by omega)) (by omega) (Nat.le_of_ble_eq_true rfl) ?_
      refine V.icmpN_le (pc := 26) 51 dX1_compareWithSingle_26 (by decide) (by omega) (by omega) (fun h_26 => ?_) (fun h_26 => ?_)
      · exact V.vret (pc := 51) hF dX1_compareWithSingle_51 ⟨rfl, by rw [csMem, if_neg (fun h => by have := h.2; rw [hp] at this; exact absurd this (by show ¬ _ < gain S s 0; omega))]⟩
      · refine V.aload_n (pc := 29) 0 dX1_compareWithSingle_29 rfl ?_
        refine V.aload_n (pc := 30) 1 dX1_compareWithSingle_30 rfl ?_
        refine gf_X1_38 (pc := 31) t ht dX1_compareWithSingle_31 ?_
        refine V.iload_n (pc := 34) 2 dX1_compareWithSingle_34 rfl ?_
        refine V.iald (pc := 35) (k := 8 * t + 4) (n := 16) (v := nI (chain S s)) (by omega) (cell_Si ht ⟨by decide, by decide⟩) s (by omega) (by decide) dX1_compareWithSingle_35 (hS.chain s (by omega)) ?_
        refine pf_X1_19 (pc := 36) dX1_compareWithSingle_36 ?_
        refine V.aload_n (pc := 39) 0 dX1_compareWithSingle_39 rfl ?_
        refine gf_X1_9 (pc := 40) dX1_compareWithSingle_40 ?_
        refine V.iconst (pc := 43) (v := nI 0) dX1_compareWithSingle_43 (by decide) ?_
        refine V.iload_n (pc := 44) 2 dX1_compareWithSingle_44 rfl ?_
        refine V.iast (pc := 45) (k := 87) (n := 16) (v := nI s) (Nat.le_of_ble_eq_true rfl) (fun _ _ => rfl) 0 (by omega) (by decide) dX1_compareWithSingle_45 rfl ?_
        refine V.aload_n (pc := 46) 0 dX1_compareWithSingle_46 rfl ?_
        refine V.iconst (pc := 47) (v := nI 1) dX1_compareWithSingle_47 (by decide) ?_
        refine pf_X1_15 (pc := 48) dX1_compareWithSingle_48 ?_
        exact V.vret (pc := 51) hF dX1_compareWithSingle_51 ⟨rfl, by rw [csMem, if_pos ⟨by rw [hp]; exact Nat.succ_ne_zero s, by rw [hp]; exact h_26⟩, hp]; rfl⟩
def Cl (μ : Mu) (set cnt ask : Nat) (stp : Nat → Nat) : Prop := μ.1 86 2 = nI set ∧ μ.1 86 1 = nI cnt ∧ μ.1 86 3 = nI ask ∧ ∀ j, j < cnt → μ.1 87 j = nI (stp j)
def C87 (a : Nat) : Prop := a = 86 ∨ a = 87
theorem C87_no {t : Nat} (ht : t < 10) : ∀ j, j < 8 → ¬ C87 (8 * t + j) := fun j hj h => by unfold C87 at h; omega
theorem Cl.step {μ : Mu} {set k ask : Nat} {stp : Nat → Nat} (h : Cl μ set k ask stp) (A s T : Nat) (hs : stp k = s) : Cl (si (si (si (si μ 86 3 (nI A)) 87 k (nI s)) 86 1 (nI (k + 1))) 86 2 (nI T)) T (k + 1) A stp := by
  refine ⟨by simp [si, upd], by simp [si, upd], by simp [si, upd], fun j hj => ?_⟩
  by_cases e : j = k
  · subst e
    simp [si, upd, hs]
  · have := h.2.2.2 j (by omega)
    simp [si, upd, e, this]
abbrev alt (S : TS) (kind K : Nat) : Prop := kind = 2 ∧ sgl S (grSet S true K)
def clSet (S : TS) (kind K : Nat) : Nat := if alt S kind K then chain S (pick S 0 false - 1) else grSet S (decide (kind ≠ 0)) K
def clCnt (S : TS) (kind K : Nat) : Nat := if alt S kind K then 1 else K
def clStp (S : TS) (kind K j : Nat) : Nat := if alt S kind K then pick S 0 false - 1 else grPick S (decide (kind ≠ 0)) j - 1
theorem Cl.fin {μ : Mu} {S : TS} {kind K A : Nat} {fc : Bool} (hfc : fc = decide (kind ≠ 0)) (hk : ¬ kind = 2) {ask : Nat} (h : Cl μ (grSet S fc K) K ask (fun j => grPick S fc j - 1)) : Cl (si μ 86 3 (nI A)) (clSet S kind K) (clCnt S kind K) A (clStp S kind K) := by
  have hn : ¬ alt S kind K := fun q => hk q.1
  subst hfc
  refine ⟨?_, ?_, by simp [si, upd], fun j hj => ?_⟩
  · rw [clSet, if_neg hn]; simp [si, upd, h.1]
  · rw [clCnt, if_neg hn]; simp [si, upd, h.2.1]
  · rw [clCnt, if_neg hn] at hj
    rw [clStp, if_neg hn]
    simp [si, upd, h.2.2.2 j hj]
theorem Cl.fin2 {μ : Mu} {S : TS} {K A : Nat} {ask : Nat} (h : Cl μ (grSet S true K) K ask (fun j => grPick S true j - 1)) : Cl (csMem S (si μ 86 3 (nI A)) (grSet S true K)) (clSet S 2 K) (clCnt S 2 K) A (clStp S 2 K) := by
  by_cases hs : sgl S (grSet S true K)
  · have ha : alt S 2 K := ⟨rfl, hs⟩
    rw [csMem, if_pos hs]
    refine ⟨?_, ?_, by simp [si, upd], fun j hj => ?_⟩
    · rw [clSet, if_pos ha]; simp [si, upd]
    · rw [clCnt, if_pos ha]; simp [si, upd]
    · rw [clCnt, if_pos ha] at hj
      have : j = 0 := by omega
      subst this
      rw [clStp, if_pos ha]; simp [si, upd]
  · have hn : ¬ alt S 2 K := fun q => hs q.2
    rw [csMem, if_neg hs]
    refine ⟨?_, ?_, by simp [si, upd], fun j hj => ?_⟩
    · rw [clSet, if_neg hn]; simp [si, upd, h.1]
    · rw [clCnt, if_neg hn]; simp [si, upd, h.2.1]
    · rw [clCnt, if_neg hn] at hj
      rw [clStp, if_neg hn]
      simp [si, upd, h.2.2.2 j hj]
theorem csMem_fr {S : TS} {μ μ1 : Mu} {set : Nat} (h : Fr μ μ1 C87) : Fr μ (csMem S μ1 set) C87 := by
  unfold csMem
  split
  · exact ((h.si _ _ (Or.inl rfl)).si _ _ (Or.inr rfl)).si _ _ (Or.inl rfl)
  · exact h
theorem ok_X1_run {G : Gx} {μ : Mu} (t : Nat) (ht : t < 10) (S : TS) (hS : St μ t S) (kind : Nat) (hkind : kind < 3) (K : Nat) (hK : GrEnd S (decide (kind ≠ 0)) K) : Runs 6 M_X1_run [.ref (G.2.2 86), .ref (G.2.2 (8 * t)), .int (nI kind)] G μ (fun r μ' => r = none ∧ Fr μ μ' C87 ∧ Cl μ' (clSet S kind K) (clCnt S kind K) (grAsk S (decide (kind ≠ 0)) (K + 1)) (clStp S kind K)) := by
  have hn := hS.vs.n16
  have h16 := pow16 hS.vs
  obtain ⟨fc, hfc⟩ : ∃ fc, fc = decide (kind ≠ 0) := ⟨_, rfl⟩
  rw [← hfc] at hK ⊢
  have hKn := hK.1
  refine Runs.go RX1 rfl (by decide) [(0, .ref (G.2.2 86)), (1, .ref (G.2.2 (8 * t))), (2, .int (nI kind))] (Nat.le_of_ble_eq_true rfl) rfl (fun X hF => ?_)
  refine V.aload_n (pc := 0) 0 dX1_run_0 rfl ?_
  refine V.iconst (pc := 1) (v := nI 0) dX1_run_1 (by decide) ?_
  refine pf_X1_19 (pc := 2) dX1_run_2 ?_
  refine V.aload_n (pc := 5) 0 dX1_run_5 rfl ?_
  refine V.iconst (pc := 6) (v := nI 0) dX1_run_6 (by decide) ?_
  refine pf_X1_15 (pc := 7) dX1_run_7 ?_
  refine V.aload_n (pc := 10) 0 dX1_run_10 rfl ?_
  refine V.iconst (pc := 11) (v := nI 0) dX1_run_11 (by decide) ?_
  refine pf_X1_22 (pc := 12) dX1_run_12 ?_
  refine V.iconst (pc := 15) (v := nI 0) dX1_run_15 (by decide) ?_
  refine V.istore_n (pc := 16) (lv' := [(0, .ref (G.2.2 86)), (1, .ref (G.2.2 (8 * t))), (2, .int (nI kind)), (3, .int (nI 0))]) dX1_run_16 (by decide) rfl ?_
  have L17 : ∀ (n_ : Nat) (k : Nat) ( μ1 : Mu), (k ≤ K) → (Fr μ μ1 C87) → (Cl μ1 (grSet S fc k) k (grAsk S fc k) (fun j => grPick S fc j - 1)) → K + 1 - k < n_ → V G RX1 cX1_run 5 6 X 17 [(0, .ref (G.2.2 86)), (1, .ref (G.2.2 (8 * t))), (2, .int (nI kind)), (3, .int (nI k))] [] μ1 := by
    intro n_
    induction n_ with
    | zero => intro k μ1 hk hfr hcl hm_; exact absurd hm_ (Nat.not_lt_zero _)
    | succ n_ ih17 =>
      intro k μ1 hk hfr hcl hm_
      have hS1 := hS.fr hfr (C87_no ht)
      have hgs := grSet_lt hS.vs (fc := fc) k (fun j hj => hK.2.2 j (by omega))
      refine V.iload_n (pc := 17) 3 dX1_run_17 rfl ?_
      refine V.aload_n (pc := 18) 1 dX1_run_18 rfl ?_
      refine gf_X1_25 (pc := 19) t ht (v := nI S.n) dX1_run_19 hS1.n ?_
      refine V.icmpN_gt (pc := 22) 119 dX1_run_22 (by decide) (by omega) (by omega) (fun h_22 => ?_) (fun h_22 => ?_)
      · exact absurd h_22 (by omega)
      · refine V.aload_n (pc := 25) 0 dX1_run_25 rfl ?_
        refine V.dup (pc := 26) dX1_run_26 rfl ?_
        refine gf_X1_22 (pc := 27) (v := nI (grAsk S fc k)) dX1_run_27 hcl.2.2.1 ?_
        refine V.aload_n (pc := 30) 0 dX1_run_30 rfl ?_
        refine V.aload_n (pc := 31) 1 dX1_run_31 rfl ?_
        refine cp_X1_30 (pc := 32) dX1_run_32 (ok_X1_fitting t ht S hS1 (grSet S fc k) hcl.1 (by omega)) (by omega) (Nat.le_of_ble_eq_true rfl) ?_
        refine V.iadd (pc := 35) (v := nI (grAsk S fc (k + 1))) dX1_run_35 ((nI_add _ _).trans (congrArg nI rfl)) ?_
        refine pf_X1_22 (pc := 36) dX1_run_36 ?_
        refine V.aload_n (pc := 39) 1 dX1_run_39 rfl ?_
        refine V.aload_n (pc := 40) 0 dX1_run_40 rfl ?_
        refine gf_X1_19 (pc := 41) (v := nI (grSet S fc k)) dX1_run_41 (Eq.trans (si_i _ _ _ (by decide) _) hcl.1) ?_
        refine V.iload_n (pc := 44) 2 dX1_run_44 rfl ?_
        refine V.ifN_eq (pc := 45) 52 dX1_run_45 (by decide) (by omega) (fun h_45 => ?_) (fun h_45 => ?_)
        · have hfcv : fc = false := by rw [hfc, h_45]; rfl
          refine V.iconst (pc := 52) (v := nI 0) dX1_run_52 (by decide) ?_
          rcases hp : pick S (grSet S fc k) fc with _ | s
          · refine V.st (st' := [.int (nI fc.toNat), .int (nI (grSet S fc k)), .ref (G.2.2 (8 * t))]) (by rw [hfcv]; rfl) ?_
            refine cp_X1_34 (pc := 53) dX1_run_53 (ok_pick0 t ht S (hS1.si ht (by decide)) (grSet S fc k) fc (by omega) hp) (by omega) (Nat.le_of_ble_eq_true rfl) ?_
            have hkK : k = K := by
              rcases Nat.lt_or_ge k K with e | e
              · exact absurd hp (hK.2.2 k e)
              · omega
            subst hkK
            refine V.istore (pc := 56) (lv' := [(0, .ref (G.2.2 86)), (1, .ref (G.2.2 (8 * t))), (2, .int (nI kind)), (3, .int (nI k)), (4, .int (-1))]) dX1_run_56 (by decide) rfl ?_
            refine V.iload (pc := 58) 4 dX1_run_58 rfl ?_
            refine V.iconst (pc := 60) (v := (-1)) dX1_run_60 (by decide) ?_
            refine V.icmp_eq (pc := 61) 119 dX1_run_61 (by decide) (fun h_61 => ?_) (fun h_61 => ?_)
            · refine V.iload_n (pc := 119) 2 dX1_run_119 rfl ?_
              refine V.iconst (pc := 120) (v := nI 2) dX1_run_120 (by decide) ?_
              refine V.icmpN_ne (pc := 121) 129 dX1_run_121 (by decide) (by omega) (by omega) (fun h_121 => ?_) (fun h_121 => ?_)
              · exact V.vret (pc := 129) hF dX1_run_129 ⟨rfl, hfr.si _ _ (Or.inl rfl), Cl.fin hfc h_121 hcl⟩
              · refine V.aload_n (pc := 124) 0 dX1_run_124 rfl ?_
                refine V.aload_n (pc := 125) 1 dX1_run_125 rfl ?_
                refine cl_X1_41 (pc := 126) dX1_run_126 (ok_X1_compareWithSingle t ht S (hS1.si ht (by decide)) (grSet S fc k) (by simp [si, upd, hcl.1]) (by omega)) (by omega) (Nat.le_of_ble_eq_true rfl) (fun r_ μ_ h_ => ?_)
                obtain ⟨rfl, rfl⟩ := h_
                exact V.vret (pc := 129) hF dX1_run_129 ⟨rfl, csMem_fr (hfr.si _ _ (Or.inl rfl)), by subst h_121; subst hfc; exact Cl.fin2 hcl⟩
            · exact absurd rfl h_61
          · refine V.st (st' := [.int (nI fc.toNat), .int (nI (grSet S fc k)), .ref (G.2.2 (8 * t))]) (by rw [hfcv]; rfl) ?_
            refine cp_X1_34 (pc := 53) dX1_run_53 (ok_picks t ht S (hS1.si ht (by decide)) (grSet S fc k) fc (by omega) s hp) (by omega) (Nat.le_of_ble_eq_true rfl) ?_
            have hsn := (pickUp_some hp).1
            have hkK : k < K := by
              rcases Nat.lt_or_ge k K with e | e
              · exact e
              · have e2 : k = K := by omega
                rw [e2] at hp
                exact absurd (hK.2.1.symm.trans hp) (by omega)
            refine V.istore (pc := 56) (lv' := [(0, .ref (G.2.2 86)), (1, .ref (G.2.2 (8 * t))), (2, .int (nI kind)), (3, .int (nI k)), (4, .int (nI s))]) dX1_run_56 (by decide) rfl ?_
            refine V.iload (pc := 58) 4 dX1_run_58 rfl ?_
            refine V.iconst (pc := 60) (v := (-1)) dX1_run_60 (by decide) ?_
            refine V.icmp_eq (pc := 61) 119 dX1_run_61 (by decide) (fun h_61 => ?_) (fun h_61 => ?_)
            · exact absurd h_61 (nn_ne_m1 (by omega))
            · refine V.aload_n (pc := 64) 0 dX1_run_64 rfl ?_
              refine gf_X1_15 (pc := 65) (v := nI k) dX1_run_65 (Eq.trans (si_i _ _ _ (by decide) _) hcl.2.1) ?_
              refine V.bipush (pc := 68) (v := nI 16) dX1_run_68 (by decide) ?_
              refine V.icmpN_lt (pc := 70) 76 dX1_run_70 (by decide) (by omega) (by omega) (fun h_70 => ?_) (fun h_70 => ?_)
              · refine V.aload_n (pc := 76) 0 dX1_run_76 rfl ?_
                refine gf_X1_9 (pc := 77) dX1_run_77 ?_
                refine V.aload_n (pc := 80) 0 dX1_run_80 rfl ?_
                refine gf_X1_15 (pc := 81) (v := nI k) dX1_run_81 (Eq.trans (si_i _ _ _ (by decide) _) hcl.2.1) ?_
                refine V.iload (pc := 84) 4 dX1_run_84 rfl ?_
                refine V.iast (pc := 86) (k := 87) (n := 16) (v := nI s) (Nat.le_of_ble_eq_true rfl) (fun _ _ => rfl) k (by omega) (by decide) dX1_run_86 rfl ?_
                refine V.aload_n (pc := 87) 0 dX1_run_87 rfl ?_
                refine V.dup (pc := 88) dX1_run_88 rfl ?_
                refine gf_X1_15 (pc := 89) (v := nI k) dX1_run_89 (Eq.trans (congrFun (si_c _ _ _ (by decide)) _) (Eq.trans (si_i _ _ _ (by decide) _) hcl.2.1)) ?_
                refine V.iconst (pc := 92) (v := nI 1) dX1_run_92 (by decide) ?_
                refine V.iadd (pc := 93) (v := nI (k + 1)) dX1_run_93 (nI_add _ _) ?_
                refine pf_X1_15 (pc := 94) dX1_run_94 ?_
                refine V.aload_n (pc := 97) 0 dX1_run_97 rfl ?_
                refine V.dup (pc := 98) dX1_run_98 rfl ?_
                refine gf_X1_19 (pc := 99) (v := nI (grSet S fc k)) dX1_run_99 (Eq.trans (si_i _ _ _ (by decide) _) (Eq.trans (congrFun (si_c _ _ _ (by decide)) _) (Eq.trans (si_i _ _ _ (by decide) _) hcl.1))) ?_
                refine V.aload_n (pc := 102) 1 dX1_run_102 rfl ?_
                refine gf_X1_38 (pc := 103) t ht dX1_run_103 ?_
                refine V.iload (pc := 106) 4 dX1_run_106 rfl ?_
                refine V.iald (pc := 108) (k := 8 * t + 4) (n := 16) (v := nI (chain S s)) (by omega) (cell_Si ht ⟨by decide, by decide⟩) s (by omega) (by decide) dX1_run_108 (Eq.trans (congrFun (si_c _ _ _ (by omega)) _) (Eq.trans (congrFun (si_c _ _ _ (by omega)) _) (Eq.trans (congrFun (si_c _ _ _ (by omega)) _) (hS1.chain s (by omega))))) ?_
                refine V.ior (pc := 109) (v := nI (grSet S fc (k + 1))) dX1_run_109 ((nn_or _ _).trans (congrArg nI (by rw [grSet, hp]; rfl))) ?_
                refine pf_X1_19 (pc := 110) dX1_run_110 ?_
                refine V.iinc (pc := 113) (v := nI (k + 1)) (lv' := [(0, .ref (G.2.2 86)), (1, .ref (G.2.2 (8 * t))), (2, .int (nI kind)), (3, .int (nI (k + 1))), (4, .int (nI s))]) 3 dX1_run_113 rfl (nn_inc _) (by decide) rfl ?_
                refine V.goto (pc := 116) 17 dX1_run_116 (by decide) ?_
                refine V.sub (lv' := [(0, .ref (G.2.2 86)), (1, .ref (G.2.2 (8 * t))), (2, .int (nI kind)), (3, .int (nI (k + 1)))]) [0, 1, 2, 3] rfl ?_
                exact ih17 (k + 1) (si (si (si (si μ1 86 3 (nI (grAsk S fc (k + 1)))) 87 k (nI s)) 86 1 (nI (k + 1))) 86 2 (nI (grSet S fc (k + 1)))) (by omega) ((((hfr.si _ _ (Or.inl rfl)).si _ _ (Or.inr rfl)).si _ _ (Or.inl rfl)).si _ _ (Or.inl rfl)) (hcl.step _ _ _ (by show grPick S fc k - 1 = s; rw [grPick, hp]; rfl)) (by omega)
              · exact absurd h_70 (by omega)
        · have hfcv : fc = true := by rw [hfc]; exact decide_eq_true (by omega)
          refine V.iconst (pc := 48) (v := nI 1) dX1_run_48 (by decide) ?_
          refine V.goto (pc := 49) 53 dX1_run_49 (by decide) ?_
          rcases hp : pick S (grSet S fc k) fc with _ | s
          · refine V.st (st' := [.int (nI fc.toNat), .int (nI (grSet S fc k)), .ref (G.2.2 (8 * t))]) (by rw [hfcv]; rfl) ?_
            refine cp_X1_34 (pc := 53) dX1_run_53 (ok_pick0 t ht S (hS1.si ht (by decide)) (grSet S fc k) fc (by omega) hp) (by omega) (Nat.le_of_ble_eq_true rfl) ?_
            have hkK : k = K := by
              rcases Nat.lt_or_ge k K with e | e
              · exact absurd hp (hK.2.2 k e)
              · omega
            subst hkK
            refine V.istore (pc := 56) (lv' := [(0, .ref (G.2.2 86)), (1, .ref (G.2.2 (8 * t))), (2, .int (nI kind)), (3, .int (nI k)), (4, .int (-1))]) dX1_run_56 (by decide) rfl ?_
            refine V.iload (pc := 58) 4 dX1_run_58 rfl ?_
            refine V.iconst (pc := 60) (v := (-1)) dX1_run_60 (by decide) ?_
            refine V.icmp_eq (pc := 61) 119 dX1_run_61 (by decide) (fun h_61 => ?_) (fun h_61 => ?_)
            · refine V.iload_n (pc := 119) 2 dX1_run_119 rfl ?_
              refine V.iconst (pc := 120) (v := nI 2) dX1_run_120 (by decide) ?_
              refine V.icmpN_ne (pc := 121) 129 dX1_run_121 (by decide) (by omega) (by omega) (fun h_121 => ?_) (fun h_121 => ?_)
              · exact V.vret (pc := 129) hF dX1_run_129 ⟨rfl, hfr.si _ _ (Or.inl rfl), Cl.fin hfc h_121 hcl⟩
              · refine V.aload_n (pc := 124) 0 dX1_run_124 rfl ?_
                refine V.aload_n (pc := 125) 1 dX1_run_125 rfl ?_
                refine cl_X1_41 (pc := 126) dX1_run_126 (ok_X1_compareWithSingle t ht S (hS1.si ht (by decide)) (grSet S fc k) (by simp [si, upd, hcl.1]) (by omega)) (by omega) (Nat.le_of_ble_eq_true rfl) (fun r_ μ_ h_ => ?_)
                obtain ⟨rfl, rfl⟩ := h_
                exact V.vret (pc := 129) hF dX1_run_129 ⟨rfl, csMem_fr (hfr.si _ _ (Or.inl rfl)), by subst h_121; subst hfc; exact Cl.fin2 hcl⟩
            · exact absurd rfl h_61
          · refine V.st (st' := [.int (nI fc.toNat), .int (nI (grSet S fc k)), .ref (G.2.2 (8 * t))]) (by rw [hfcv]; rfl) ?_
            refine cp_X1_34 (pc := 53) dX1_run_53 (ok_picks t ht S (hS1.si ht (by decide)) (grSet S fc k) fc (by omega) s hp) (by omega) (Nat.le_of_ble_eq_true rfl) ?_
            have hsn := (pickUp_some hp).1
            have hkK : k < K := by
              rcases Nat.lt_or_ge k K with e | e
              · exact e
              · have e2 : k = K := by omega
                rw [e2] at hp
                exact absurd (hK.2.1.symm.trans hp) (by omega)
            refine V.istore (pc := 56) (lv' := [(0, .ref (G.2.2 86)), (1, .ref (G.2.2 (8 * t))), (2, .int (nI kind)), (3, .int (nI k)), (4, .int (nI s))]) dX1_run_56 (by decide) rfl ?_
            refine V.iload (pc := 58) 4 dX1_run_58 rfl ?_
            refine V.iconst (pc := 60) (v := (-1)) dX1_run_60 (by decide) ?_
            refine V.icmp_eq (pc := 61) 119 dX1_run_61 (by decide) (fun h_61 => ?_) (fun h_61 => ?_)
            · exact absurd h_61 (nn_ne_m1 (by omega))
            · refine V.aload_n (pc := 64) 0 dX1_run_64 rfl ?_
              refine gf_X1_15 (pc := 65) (v := nI k) dX1_run_65 (Eq.trans (si_i _ _ _ (by decide) _) hcl.2.1) ?_
              refine V.bipush (pc := 68) (v := nI 16) dX1_run_68 (by decide) ?_
              refine V.icmpN_lt (pc := 70) 76 dX1_run_70 (by decide) (by omega) (by omega) (fun h_70 => ?_) (fun h_70 => ?_)
              · refine V.aload_n (pc := 76) 0 dX1_run_76 rfl ?_
                refine gf_X1_9 (pc := 77) dX1_run_77 ?_
                refine V.aload_n (pc := 80) 0 dX1_run_80 rfl ?_
                refine gf_X1_15 (pc := 81) (v := nI k) dX1_run_81 (Eq.trans (si_i _ _ _ (by decide) _) hcl.2.1) ?_
                refine V.iload (pc := 84) 4 dX1_run_84 rfl ?_
                refine V.iast (pc := 86) (k := 87) (n := 16) (v := nI s) (Nat.le_of_ble_eq_true rfl) (fun _ _ => rfl) k (by omega) (by decide) dX1_run_86 rfl ?_
                refine V.aload_n (pc := 87) 0 dX1_run_87 rfl ?_
                refine V.dup (pc := 88) dX1_run_88 rfl ?_
                refine gf_X1_15 (pc := 89) (v := nI k) dX1_run_89 (Eq.trans (congrFun (si_c _ _ _ (by decide)) _) (Eq.trans (si_i _ _ _ (by decide) _) hcl.2.1)) ?_
                refine V.iconst (pc := 92) (v := nI 1) dX1_run_92 (by decide) ?_
                refine V.iadd (pc := 93) (v := nI (k + 1)) dX1_run_93 (nI_add _ _) ?_
                refine pf_X1_15 (pc := 94) dX1_run_94 ?_
                refine V.aload_n (pc := 97) 0 dX1_run_97 rfl ?_
                refine V.dup (pc := 98) dX1_run_98 rfl ?_
                refine gf_X1_19 (pc := 99) (v := nI (grSet S fc k)) dX1_run_99 (Eq.trans (si_i _ _ _ (by decide) _) (Eq.trans (congrFun (si_c _ _ _ (by decide)) _) (Eq.trans (si_i _ _ _ (by decide) _) hcl.1))) ?_
                refine V.aload_n (pc := 102) 1 dX1_run_102 rfl ?_
                refine gf_X1_38 (pc := 103) t ht dX1_run_103 ?_
                refine V.iload (pc := 106) 4 dX1_run_106 rfl ?_
                refine V.iald (pc := 108) (k := 8 * t + 4) (n := 16) (v := nI (chain S s)) (by omega) (cell_Si ht ⟨by decide, by decide⟩) s (by omega) (by decide) dX1_run_108 (Eq.trans (congrFun (si_c _ _ _ (by omega)) _) (Eq.trans (congrFun (si_c _ _ _ (by omega)) _) (Eq.trans (congrFun (si_c _ _ _ (by omega)) _) (hS1.chain s (by omega))))) ?_
                refine V.ior (pc := 109) (v := nI (grSet S fc (k + 1))) dX1_run_109 ((nn_or _ _).trans (congrArg nI (by rw [grSet, hp]; rfl))) ?_
                refine pf_X1_19 (pc := 110) dX1_run_110 ?_
                refine V.iinc (pc := 113) (v := nI (k + 1)) (lv' := [(0, .ref (G.2.2 86)), (1, .ref (G.2.2 (8 * t))), (2, .int (nI kind)), (3, .int (nI (k + 1))), (4, .int (nI s))]) 3 dX1_run_113 rfl (nn_inc _) (by decide) rfl ?_
                refine V.goto (pc := 116) 17 dX1_run_116 (by decide) ?_
                refine V.sub (lv' := [(0, .ref (G.2.2 86)), (1, .ref (G.2.2 (8 * t))), (2, .int (nI kind)), (3, .int (nI (k + 1)))]) [0, 1, 2, 3] rfl ?_
                exact ih17 (k + 1) (si (si (si (si μ1 86 3 (nI (grAsk S fc (k + 1)))) 87 k (nI s)) 86 1 (nI (k + 1))) 86 2 (nI (grSet S fc (k + 1)))) (by omega) ((((hfr.si _ _ (Or.inl rfl)).si _ _ (Or.inr rfl)).si _ _ (Or.inl rfl)).si _ _ (Or.inl rfl)) (hcl.step _ _ _ (by show grPick S fc k - 1 = s; rw [grPick, hp]; rfl)) (by omega)
              · exact absurd h_70 (by omega)
  exact L17 _ 0 (si (si (si μ 86 2 (nI 0)) 86 1 (nI 0)) 86 3 (nI 0)) (by omega) (((Fr.refl μ C87).si _ _ (Or.inl rfl) |>.si _ _ (Or.inl rfl)).si _ _ (Or.inl rfl)) (⟨by simp [si, upd]; rfl, by simp [si, upd]; try rfl, by simp [si, upd]; try rfl, fun j hj => absurd hj (by omega)⟩) (Nat.lt_succ_self _)
