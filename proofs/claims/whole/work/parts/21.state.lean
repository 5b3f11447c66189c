theorem ok_X8_isIn {G : Gx} {μ : Mu} (s set : Nat) (hs : s < 32) (hset : set < 2 ^ 32) : RunsP 0 M_X8_isIn [.int (nI s), .int (nI set)] G μ (.int (nI (set.testBit s).toNat)) := by
  have hle : set >>> s ≤ set := by rw [Nat.shiftRight_eq_div_pow]; exact Nat.div_le_self _ _
  have ha : set >>> s &&& 1 ≤ 1 := Nat.and_le_right
  refine Runs.go RX8 rfl (by decide) [(0, .int (nI s)), (1, .int (nI set))] (Nat.le_of_ble_eq_true rfl) rfl (fun X hF => ?_)
  refine V.iload_n (pc := 0) 1 dX8_isIn_0 rfl ?_
  refine V.iload_n (pc := 1) 0 dX8_isIn_1 rfl ?_
  refine V.iushr (pc := 2) (v := nI (set >>> s)) dX8_isIn_2 (nn_ushr (by omega) (by omega)) ?_
  refine V.iconst (pc := 3) (v := nI 1) dX8_isIn_3 (by decide) ?_
  refine V.iand (pc := 4) (v := nI ((set >>> s) &&& 1)) dX8_isIn_4 (nn_and _ _) ?_
  refine V.ifN_eq (pc := 5) 12 dX8_isIn_5 (by decide) (by omega) (fun h_5 => ?_) (fun h_5 => ?_)
  · refine V.iconst (pc := 12) (v := nI 0) dX8_isIn_12 (by decide) ?_
    exact V.zret (pc := 13) hF dX8_isIn_13 (by decide) ⟨by rw [(testBit_and1 set s).mp h_5]; rfl, rfl⟩
  · refine V.iconst (pc := 8) (v := nI 1) dX8_isIn_8 (by decide) ?_
    refine V.goto (pc := 9) 13 dX8_isIn_9 (by decide) ?_
    exact V.zret (pc := 13) hF dX8_isIn_13 (by decide) ⟨by rw [show set.testBit s = true from by cases hq : set.testBit s with | true => rfl | false => exact absurd ((testBit_and1 set s).mpr hq) (by omega)]; rfl, rfl⟩
theorem ok_X6_lengthOf {G : Gx} {μ : Mu} (t : Nat) (ht : t < 10) (S : TS) (hS : St μ t S) (set : Nat) (hset : set < 2 ^ 31) : RunsP 1 M_X6_lengthOf [.ref (G.2.2 (8 * t)), .int (nI set)] G μ (.int (nI (lenOf S set))) := by
  have hn := hS.vs.n16
  refine Runs.go RX6 rfl (by decide) [(0, .ref (G.2.2 (8 * t))), (1, .int (nI set))] (Nat.le_of_ble_eq_true rfl) rfl (fun X hF => ?_)
  refine V.iconst (pc := 0) (v := nI 0) dX6_lengthOf_0 (by decide) ?_
  refine V.istore_n (pc := 1) (lv' := [(0, .ref (G.2.2 (8 * t))), (1, .int (nI set)), (2, .int (nI 0))]) dX6_lengthOf_1 (by decide) rfl ?_
  refine V.iconst (pc := 2) (v := nI 0) dX6_lengthOf_2 (by decide) ?_
  refine V.istore_n (pc := 3) (lv' := [(0, .ref (G.2.2 (8 * t))), (1, .int (nI set)), (2, .int (nI 0)), (3, .int (nI 0))]) dX6_lengthOf_3 (by decide) rfl ?_
  have L4 : ∀ (n_ : Nat) (i : Nat), (i ≤ S.n) → S.n - i < n_ → V G RX6 cX6_lengthOf 4 1 X 4 [(0, .ref (G.2.2 (8 * t))), (1, .int (nI set)), (2, .int (nI (lenUp S set i))), (3, .int (nI i))] [] μ := by
    intro n_
    induction n_ with
    | zero => intro i hi hm_; exact absurd hm_ (Nat.not_lt_zero _)
    | succ n_ ih4 =>
      intro i hi hm_
      refine V.iload_n (pc := 4) 3 dX6_lengthOf_4 rfl ?_
      refine V.aload_n (pc := 5) 0 dX6_lengthOf_5 rfl ?_
      refine gf_X6_9 (pc := 6) t ht (v := nI S.n) dX6_lengthOf_6 hS.n ?_
      refine V.icmpN_ge (pc := 9) 35 dX6_lengthOf_9 (by decide) (by omega) (by omega) (fun h_9 => ?_) (fun h_9 => ?_)
      · refine V.iload_n (pc := 35) 2 dX6_lengthOf_35 rfl ?_
        exact V.iret (pc := 36) hF dX6_lengthOf_36 ⟨by rw [show i = S.n from by omega]; rfl, rfl⟩
      · have hsl := (hS.vs.sen (i := i) h_9).2.1
        have hup := lenUp_le hS.vs set i (by omega)
        refine V.iload_n (pc := 12) 3 dX6_lengthOf_12 rfl ?_
        refine V.iload_n (pc := 13) 1 dX6_lengthOf_13 rfl ?_
        refine cp_X6_65 (pc := 14) dX6_lengthOf_14 (ok_X8_isIn i set (by omega) (by omega)) (by omega) (Nat.le_of_ble_eq_true rfl) ?_
        refine V.ifB_eq (pc := 17) 29 dX6_lengthOf_17 (by decide) (fun h_17 => ?_) (fun h_17 => ?_)
        · refine V.iinc (pc := 29) (v := nI (i + 1)) (lv' := [(0, .ref (G.2.2 (8 * t))), (1, .int (nI set)), (2, .int (nI (lenUp S set i))), (3, .int (nI (i + 1)))]) 3 dX6_lengthOf_29 rfl (nn_inc _) (by decide) rfl ?_
          refine V.goto (pc := 32) 4 dX6_lengthOf_32 (by decide) ?_
          have e_2 : nI (lenUp S set i) = nI (lenUp S set (i + 1)) := congrArg nI (by rw [lenUp, h_17]; rfl)
          refine V.lvs (lv' := [(0, .ref (G.2.2 (8 * t))), (1, .int (nI set)), (2, .int (nI (lenUp S set (i + 1)))), (3, .int (nI (i + 1)))]) (congrArg (fun z => ([(0, .ref (G.2.2 (8 * t))), (1, .int (nI set)), (2, .int z), (3, .int (nI (i + 1)))] : List (Nat × Value))) e_2) ?_
          exact ih4 (i + 1) (by omega) (by omega)
        · refine V.iload_n (pc := 20) 2 dX6_lengthOf_20 rfl ?_
          refine V.aload_n (pc := 21) 0 dX6_lengthOf_21 rfl ?_
          refine gf_X6_28 (pc := 22) t ht dX6_lengthOf_22 ?_
          refine V.iload_n (pc := 25) 3 dX6_lengthOf_25 rfl ?_
          refine V.iald (pc := 26) (k := 8 * t + 1) (n := 16) (v := nI (S.len i)) (by omega) (cell_Si ht ⟨by decide, by decide⟩) i (by omega) (by decide) dX6_lengthOf_26 (hS.len i (by omega)) ?_
          refine V.iadd (pc := 27) (v := nI (lenUp S set i + (S.len i))) dX6_lengthOf_27 (nI_add _ _) ?_
          refine V.istore_n (pc := 28) (lv' := [(0, .ref (G.2.2 (8 * t))), (1, .int (nI set)), (2, .int (nI (lenUp S set i + (S.len i)))), (3, .int (nI i))]) dX6_lengthOf_28 (by decide) rfl ?_
          refine V.iinc (pc := 29) (v := nI (i + 1)) (lv' := [(0, .ref (G.2.2 (8 * t))), (1, .int (nI set)), (2, .int (nI (lenUp S set i + (S.len i)))), (3, .int (nI (i + 1)))]) 3 dX6_lengthOf_29 rfl (nn_inc _) (by decide) rfl ?_
          refine V.goto (pc := 32) 4 dX6_lengthOf_32 (by decide) ?_
          have e_2 : nI (lenUp S set i + (S.len i)) = nI (lenUp S set (i + 1)) := congrArg nI (by rw [lenUp, h_17]; rfl)
          refine V.lvs (lv' := [(0, .ref (G.2.2 (8 * t))), (1, .int (nI set)), (2, .int (nI (lenUp S set (i + 1)))), (3, .int (nI (i + 1)))]) (congrArg (fun z => ([(0, .ref (G.2.2 (8 * t))), (1, .int (nI set)), (2, .int z), (3, .int (nI (i + 1)))] : List (Nat × Value))) e_2) ?_
          exact ih4 (i + 1) (by omega) (by omega)
  have e_2 : nI 0 = nI (lenUp S set 0) := rfl
  refine V.lvs (lv' := [(0, .ref (G.2.2 (8 * t))), (1, .int (nI set)), (2, .int (nI (lenUp S set 0))), (3, .int (nI 0))]) (congrArg (fun z => ([(0, .ref (G.2.2 (8 * t))), (1, .int (nI set)), (2, .int z), (3, .int (nI 0))] : List (Nat × Value))) e_2) ?_
  exact L4 _ 0 (by omega) (Nat.lt_succ_self _)
