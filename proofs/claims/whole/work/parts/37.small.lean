theorem spUp_pk {S : TS} {w : Nat} (h : ∀ j, j < S.nl w → 97 ≤ S.lt w j ∧ S.lt w j ≤ 122) : spl S w < 2 ^ (5 * S.nl w) ∧ ∀ j, j < S.nl w → (spl S w >>> (5 * j)) &&& 31 = S.lt w j - 96 := by
  have e1 : ∀ m, m ≤ S.nl w → spUp S w m = spUp (mkTS 0 0 0 0 0 (fun _ => 0) (fun _ => 0) (fun _ => 0) (fun _ => 0) (fun _ => 0) (fun _ => 0) (fun x j => if j < S.nl w then S.lt x j else 96)) w m := by
    intro m
    induction m with
    | zero => intro _; rfl
    | succ m ih =>
      intro hm
      rw [spUp, spUp, ih (by omega)]
      show _ ||| _ = _ ||| ((if m < S.nl w then S.lt w m else 96) - 96) <<< (5 * m)
      rw [if_pos (by omega)]
  have := pack_bit (f := spUp (mkTS 0 0 0 0 0 (fun _ => 0) (fun _ => 0) (fun _ => 0) (fun _ => 0) (fun _ => 0) (fun _ => 0) (fun x j => if j < S.nl w then S.lt x j else 96)) w) (g := fun j => (if j < S.nl w then S.lt w j else 96) - 96) rfl (fun _ => rfl) (fun j => by
    by_cases q : j < S.nl w
    · have := h j q; show (if j < S.nl w then _ else _) - 96 < 32; rw [if_pos q]; omega
    · show (if j < S.nl w then _ else _) - 96 < 32; rw [if_neg q]; omega) (S.nl w)
  unfold spl
  rw [e1 _ (Nat.le_refl _)]
  refine ⟨this.1, fun j hj => (this.2 j hj).trans ?_⟩
  show (if j < S.nl w then S.lt w j else 96) - 96 = _
  rw [if_pos hj]
def cdA (S : TS) (w j : Nat) : Nat := (spl S w >>> (5 * j)) &&& 31
theorem cdA_le (S : TS) (w j : Nat) : cdA S w j ≤ 31 := Nat.and_le_right
theorem cdA_lt {S : TS} (h : VS S) {w j : Nat} (hw : w < S.u) (hj : j < S.nl w) : cdA S w j = S.lt w j - 96 := (spUp_pk (h.wrd hw).2.2.2).2 j hj
theorem cdA_ge {S : TS} (h : VS S) {w j : Nat} (hw : w < S.u) (hj : S.nl w ≤ j) : cdA S w j = 0 := pack_hi (spUp_pk (h.wrd hw).2.2.2).1 hj
theorem ok_X6_codeAt {G : Gx} {μ : Mu} (t : Nat) (ht : t < 10) (S : TS) (hS : St μ t S) (w j : Nat) (hw : w < S.u) (hj : j < 10) : RunsP 0 M_X6_codeAt [.ref (G.2.2 (8 * t)), .int (nI w), .int (nI j)] G μ (.int (nI (cdA S w j))) := by
  have hv : VS S := hS.1.2.2.2.2.2.2.2.2.2.2.2
  have hsp : spl S w < 2 ^ 50 := spl_lt (hv.wrd hw).2.2.2 (hv.wrd hw).2.2.1
  have hu := hv.u48
  refine Runs.go RX6 rfl (by decide) [(0, .ref (G.2.2 (8 * t))), (1, .int (nI w)), (2, .int (nI j))] (Nat.le_of_ble_eq_true rfl) rfl (fun X hF => ?_)
  refine V.aload_n (pc := 0) 0 dX6_codeAt_0 rfl ?_
  refine gf_X6_45 (pc := 1) t ht dX6_codeAt_1 ?_
  refine V.iload_n (pc := 4) 1 dX6_codeAt_4 rfl ?_
  refine V.lald (pc := 5) (k := 8 * t + 6) (n := 48) (v := lN (spl S w)) (by omega) (cell_Sp ht rfl) w (by omega) (by decide) dX6_codeAt_5 (hS.sp w (by omega)) ?_
  refine V.iconst (pc := 6) (v := nI 5) dX6_codeAt_6 (by decide) ?_
  refine V.iload_n (pc := 7) 2 dX6_codeAt_7 rfl ?_
  refine V.imul (pc := 8) (v := nI (5 * j)) dX6_codeAt_8 (pk_mul _ _) ?_
  refine V.lushr (pc := 9) (v := lN ((spl S w) >>> (5 * j))) dX6_codeAt_9 (ll_ushr (by omega) (by omega)) ?_
  refine V.l2i (pc := 10) (v := nI ((spl S w) >>> (5 * j))) dX6_codeAt_10 (lN_i _) ?_
  refine V.bipush (pc := 11) (v := nI 31) dX6_codeAt_11 (by decide) ?_
  refine V.iand (pc := 13) (v := nI (((spl S w) >>> (5 * j)) &&& 31)) dX6_codeAt_13 (nn_and _ _) ?_
  exact V.iret (pc := 14) hF dX6_codeAt_14 ⟨rfl, rfl⟩
theorem ok_X6_letterAt {G : Gx} {μ : Mu} (t : Nat) (ht : t < 10) (S : TS) (hS : St μ t S) (w j : Nat) (hw : w < S.u) (hj : j < S.nl w) : RunsP 1 M_X6_letterAt [.ref (G.2.2 (8 * t)), .int (nI w), .int (nI j)] G μ (.int (nI (S.lt w j))) := by
  have hv : VS S := hS.1.2.2.2.2.2.2.2.2.2.2.2
  have hnl := (hv.wrd hw).2.2.1
  have hlt := (hv.wrd hw).2.2.2 j hj
  have hcd := cdA_lt hv hw hj
  refine Runs.go RX6 rfl (by decide) [(0, .ref (G.2.2 (8 * t))), (1, .int (nI w)), (2, .int (nI j))] (Nat.le_of_ble_eq_true rfl) rfl (fun X hF => ?_)
  refine V.aload_n (pc := 0) 0 dX6_letterAt_0 rfl ?_
  refine V.iload_n (pc := 1) 1 dX6_letterAt_1 rfl ?_
  refine V.iload_n (pc := 2) 2 dX6_letterAt_2 rfl ?_
  refine cp_X6_57 (pc := 3) t ht dX6_letterAt_3 (ok_X6_codeAt t ht S hS w j hw (by omega)) (by omega) (Nat.le_of_ble_eq_true rfl) ?_
  refine V.bipush (pc := 6) (v := nI 96) dX6_letterAt_6 (by decide) ?_
  refine V.iadd (pc := 8) (v := nI (S.lt w j)) dX6_letterAt_8 ((nI_add _ _).trans (congrArg nI (by omega))) ?_
  exact V.iret (pc := 9) hF dX6_letterAt_9 ⟨rfl, rfl⟩
theorem ok_X6_lettersOf {G : Gx} {μ : Mu} (t : Nat) (ht : t < 10) (S : TS) (hS : St μ t S) (w : Nat) (hw : w < S.u) : RunsP 1 M_X6_lettersOf [.ref (G.2.2 (8 * t)), .int (nI w)] G μ (.int (nI (S.nl w))) := by
  have hv : VS S := hS.1.2.2.2.2.2.2.2.2.2.2.2
  have hnl := (hv.wrd hw).2.2.1
  have hu := hv.u48
  refine Runs.go RX6 rfl (by decide) [(0, .ref (G.2.2 (8 * t))), (1, .int (nI w))] (Nat.le_of_ble_eq_true rfl) rfl (fun X hF => ?_)
  refine V.iconst (pc := 0) (v := nI 0) dX6_lettersOf_0 (by decide) ?_
  refine V.istore_n (pc := 1) (lv' := [(0, .ref (G.2.2 (8 * t))), (1, .int (nI w)), (2, .int (nI 0))]) dX6_lettersOf_1 (by decide) rfl ?_
  refine V.iconst (pc := 2) (v := nI 0) dX6_lettersOf_2 (by decide) ?_
  refine V.istore_n (pc := 3) (lv' := [(0, .ref (G.2.2 (8 * t))), (1, .int (nI w)), (2, .int (nI 0)), (3, .int (nI 0))]) dX6_lettersOf_3 (by decide) rfl ?_
  have L4 : ∀ (n_ : Nat) (i : Nat), (i ≤ 10) → 10 - i < n_ → V G RX6 cX6_lettersOf 4 1 X 4 [(0, .ref (G.2.2 (8 * t))), (1, .int (nI w)), (2, .int (nI (min i (S.nl w)))), (3, .int (nI i))] [] μ := by
    intro n_
    induction n_ with
    | zero => intro i hi hm_; exact absurd hm_ (Nat.not_lt_zero _)
    | succ n_ ih4 =>
      intro i hi hm_
      refine V.iload_n (pc := 4) 3 dX6_lettersOf_4 rfl ?_
      refine V.bipush (pc := 5) (v := nI 10) dX6_lettersOf_5 (by decide) ?_
      refine V.icmpN_ge (pc := 7) 28 dX6_lettersOf_7 (by decide) (by omega) (by omega) (fun h_7 => ?_) (fun h_7 => ?_)
      · refine V.iload_n (pc := 28) 2 dX6_lettersOf_28 rfl ?_
        exact V.iret (pc := 29) hF dX6_lettersOf_29 ⟨by rw [show min i (S.nl w) = S.nl w by omega], rfl⟩
      · refine V.aload_n (pc := 10) 0 dX6_lettersOf_10 rfl ?_
        refine V.iload_n (pc := 11) 1 dX6_lettersOf_11 rfl ?_
        refine V.iload_n (pc := 12) 3 dX6_lettersOf_12 rfl ?_
        refine cp_X6_57 (pc := 13) t ht dX6_lettersOf_13 (ok_X6_codeAt t ht S hS w i hw (by omega)) (by omega) (Nat.le_of_ble_eq_true rfl) ?_
        have hcl := cdA_le S w i
        refine V.ifN_eq (pc := 16) 22 dX6_lettersOf_16 (by decide) (by omega) (fun h_16 => ?_) (fun h_16 => ?_)
        · have hge : S.nl w ≤ i := by
            rcases Nat.lt_or_ge i (S.nl w) with q | q
            · have q1 := cdA_lt hv hw q
              have q2 := (hv.wrd hw).2.2.2 i q
              omega
            · exact q
          refine V.iinc (pc := 22) (v := nI (i + 1)) (lv' := [(0, .ref (G.2.2 (8 * t))), (1, .int (nI w)), (2, .int (nI (min i (S.nl w)))), (3, .int (nI (i + 1)))]) 3 dX6_lettersOf_22 rfl (nn_inc _) (by decide) rfl ?_
          refine V.goto (pc := 25) 4 dX6_lettersOf_25 (by decide) ?_
          have e_2 : nI (min i (S.nl w)) = nI (min (i + 1) (S.nl w)) := congrArg nI (by omega)
          refine V.lvs (lv' := [(0, .ref (G.2.2 (8 * t))), (1, .int (nI w)), (2, .int (nI (min (i + 1) (S.nl w)))), (3, .int (nI (i + 1)))]) (congrArg (fun z => ([(0, .ref (G.2.2 (8 * t))), (1, .int (nI w)), (2, .int z), (3, .int (nI (i + 1)))] : List (Nat × Value))) e_2) ?_
          exact ih4 (i + 1) (by omega) (by omega)
        · have hge : i < S.nl w := by
            rcases Nat.lt_or_ge i (S.nl w) with q | q
            · exact q
            · have q1 := cdA_ge hv hw q
              omega
          refine V.iinc (pc := 19) (v := nI (min i (S.nl w) + 1)) (lv' := [(0, .ref (G.2.2 (8 * t))), (1, .int (nI w)), (2, .int (nI (min i (S.nl w) + 1))), (3, .int (nI i))]) 2 dX6_lettersOf_19 rfl (nn_inc _) (by decide) rfl ?_
          refine V.iinc (pc := 22) (v := nI (i + 1)) (lv' := [(0, .ref (G.2.2 (8 * t))), (1, .int (nI w)), (2, .int (nI (min i (S.nl w) + 1))), (3, .int (nI (i + 1)))]) 3 dX6_lettersOf_22 rfl (nn_inc _) (by decide) rfl ?_
          refine V.goto (pc := 25) 4 dX6_lettersOf_25 (by decide) ?_
          have e_2 : nI (min i (S.nl w) + 1) = nI (min (i + 1) (S.nl w)) := congrArg nI (by omega)
          refine V.lvs (lv' := [(0, .ref (G.2.2 (8 * t))), (1, .int (nI w)), (2, .int (nI (min (i + 1) (S.nl w)))), (3, .int (nI (i + 1)))]) (congrArg (fun z => ([(0, .ref (G.2.2 (8 * t))), (1, .int (nI w)), (2, .int z), (3, .int (nI (i + 1)))] : List (Nat × Value))) e_2) ?_
          exact ih4 (i + 1) (by omega) (by omega)
  have e_2 : nI 0 = nI (min 0 (S.nl w)) := congrArg nI (by omega)
  refine V.lvs (lv' := [(0, .ref (G.2.2 (8 * t))), (1, .int (nI w)), (2, .int (nI (min 0 (S.nl w)))), (3, .int (nI 0))]) (congrArg (fun z => ([(0, .ref (G.2.2 (8 * t))), (1, .int (nI w)), (2, .int z), (3, .int (nI 0))] : List (Nat × Value))) e_2) ?_
  exact L4 _ 0 (by omega) (Nat.lt_succ_self _)
theorem tt_48 {m : Nat} (hm : m < 2 ^ 48) : ∃ a b c d e f, a ≤ 8 ∧ b ≤ 8 ∧ c ≤ 8 ∧ d ≤ 8 ∧ e ≤ 8 ∧ f ≤ 8 ∧ tt 8 m = a + 256 * (b + 256 * (c + 256 * (d + 256 * (e + 256 * f)))) ∧ cntB m 48 = a + b + c + d + e + f := by
  have hl : ∀ x, x % 256 < 256 := fun x => Nat.mod_lt _ (by decide)
  have es : ∀ x : Nat, x = x % 256 + 256 * (x / 256) := fun x => by omega
  have st : ∀ k x : Nat, tt (k + 1) x = cntB (x % 256) 8 + 256 * tt k (x / 256) := fun k x => by
    have h := tt_s (hl x) k (x / 256)
    rw [← es x] at h
    exact h
  have sc : ∀ n x : Nat, cntB x (8 + n) = cntB (x % 256) 8 + cntB (x / 256) n := fun n x => by
    have h := cntB_split (hl x) (y := x / 256) n
    rw [← es x] at h
    exact h
  refine ⟨cntB (m % 256) 8, cntB (m / 256 % 256) 8, cntB (m / 256 / 256 % 256) 8, cntB (m / 256 / 256 / 256 % 256) 8, cntB (m / 256 / 256 / 256 / 256 % 256) 8, cntB (m / 256 / 256 / 256 / 256 / 256 % 256) 8, cnt8_le _ (hl _), cnt8_le _ (hl _), cnt8_le _ (hl _), cnt8_le _ (hl _), cnt8_le _ (hl _), cnt8_le _ (hl _), ?_, ?_⟩
  · rw [st, st, st, st, st, st, show m / 256 / 256 / 256 / 256 / 256 / 256 = 0 by omega, tt_0]
    omega
  · rw [show (48 : Nat) = 8 + (8 + (8 + (8 + (8 + (8 + 0))))) from rfl, sc, sc, sc, sc, sc, sc]
    show _ + (_ + (_ + (_ + (_ + (_ + 0))))) = _
    omega
theorem bc_long {m : Nat} (hm : m < 2 ^ 48) : h32 (h16' (h8 (tt 8 m))) &&& 127 = cntB m 48 := by
  obtain ⟨a, b, c, d, e, f, ha, hb, hc, hd, he, hf, q, q2⟩ := tt_48 hm
  rw [q, q2, and127]
  unfold h32 h16' h8
  rw [Nat.shiftRight_eq_div_pow, Nat.shiftRight_eq_div_pow, Nat.shiftRight_eq_div_pow]
  rw [show (a + 256 * (b + 256 * (c + 256 * (d + 256 * (e + 256 * f))))) / 2 ^ 8 = b + 256 * (c + 256 * (d + 256 * (e + 256 * f))) by omega]
  generalize hx : a + 256 * (b + 256 * (c + 256 * (d + 256 * (e + 256 * f)))) + (b + 256 * (c + 256 * (d + 256 * (e + 256 * f)))) = x
  have h1 : x / 2 ^ 16 = (c + d) + 256 * ((d + e) + 256 * ((e + f) + 256 * f)) := by omega
  rw [h1]
  have h2 : (x + ((c + d) + 256 * ((d + e) + 256 * ((e + f) + 256 * f)))) / 2 ^ 32 = (e + f) + 256 * f := by omega
  rw [h2]
  omega
theorem m33_8 : m33 8 = 3689348814741910323 := by decide
theorem m55_8 : m55 8 = 6148914691236517205 := by decide
theorem m0f_8 : m0f 8 = 1085102592571150095 := by decide
theorem ok_bitCountL {G : Gx} {μ : Mu} (m : Nat) (hm : m < 2 ^ 48) : RunsP 0 M_J13_bitCount_95d88 [.long (lN m)] G μ (.int (nI (cntB m 48))) := by
  have ha1 : (m >>> 1) &&& 6148914691236517205 ≤ m >>> 1 := Nat.and_le_left
  have hs1 := shr_le m 1
  have hb1 := t1_le 8 m
  have hb2 : t2 8 (t1 8 m) ≤ t1 8 m + t1 8 m := Nat.add_le_add Nat.and_le_left (Nat.le_trans Nat.and_le_left (shr_le _ _))
  have hb3 : tt 8 m ≤ t2 8 (t1 8 m) + t2 8 (t1 8 m) := Nat.le_trans Nat.and_le_left (Nat.add_le_add (Nat.le_refl _) (shr_le _ _))
  have hb4 : h8 (tt 8 m) ≤ tt 8 m + tt 8 m := Nat.add_le_add (Nat.le_refl _) (shr_le _ _)
  have hb5 : h16' (h8 (tt 8 m)) ≤ h8 (tt 8 m) + h8 (tt 8 m) := Nat.add_le_add (Nat.le_refl _) (shr_le _ _)
  have hb6 : h32 (h16' (h8 (tt 8 m))) ≤ h16' (h8 (tt 8 m)) + h16' (h8 (tt 8 m)) := Nat.add_le_add (Nat.le_refl _) (shr_le _ _)
  refine Runs.go RJ13 rfl (by decide) [(0, .long (lN m))] (Nat.le_of_ble_eq_true rfl) rfl (fun X hF => ?_)
  refine V.lload_n (pc := 0) 0 dJ13_bitCount_95d88_0 rfl ?_
  refine V.lload_n (pc := 1) 0 dJ13_bitCount_95d88_1 rfl ?_
  refine V.iconst (pc := 2) (v := nI 1) dJ13_bitCount_95d88_2 (by decide) ?_
  refine V.lushr (pc := 3) (v := lN (m >>> 1)) dJ13_bitCount_95d88_3 (ll_ushr (by omega) (by omega)) ?_
  refine V.ldc2_w (pc := 4) (v := lN 6148914691236517205) mw_3_156 dJ13_bitCount_95d88_4 ?_
  refine V.land (pc := 7) (v := lN ((m >>> 1) &&& 6148914691236517205)) dJ13_bitCount_95d88_7 (ll_and _ _) ?_
  refine V.lsub (pc := 8) (v := lN (t1 8 m)) dJ13_bitCount_95d88_8 ((lN_sub (by omega)).trans (congrArg lN (by rw [t1, m55_8]))) ?_
  refine V.lstore_n (pc := 9) (lv' := [(0, .long (lN (t1 8 m)))]) dJ13_bitCount_95d88_9 (by decide) rfl ?_
  refine V.lload_n (pc := 10) 0 dJ13_bitCount_95d88_10 rfl ?_
  refine V.ldc2_w (pc := 11) (v := lN 3689348814741910323) mw_3_157 dJ13_bitCount_95d88_11 ?_
  refine V.land (pc := 14) (v := lN ((t1 8 m) &&& 3689348814741910323)) dJ13_bitCount_95d88_14 (ll_and _ _) ?_
  refine V.lload_n (pc := 15) 0 dJ13_bitCount_95d88_15 rfl ?_
  refine V.iconst (pc := 16) (v := nI 2) dJ13_bitCount_95d88_16 (by decide) ?_
  refine V.lushr (pc := 17) (v := lN ((t1 8 m) >>> 2)) dJ13_bitCount_95d88_17 (ll_ushr (by omega) (by omega)) ?_
  refine V.ldc2_w (pc := 18) (v := lN 3689348814741910323) mw_3_157 dJ13_bitCount_95d88_18 ?_
  refine V.land (pc := 21) (v := lN (((t1 8 m) >>> 2) &&& 3689348814741910323)) dJ13_bitCount_95d88_21 (ll_and _ _) ?_
  refine V.ladd (pc := 22) (v := lN (t2 8 (t1 8 m))) dJ13_bitCount_95d88_22 ((lN_add _ _).trans (congrArg lN (by rw [t2, m33_8]))) ?_
  refine V.lstore_n (pc := 23) (lv' := [(0, .long (lN (t2 8 (t1 8 m))))]) dJ13_bitCount_95d88_23 (by decide) rfl ?_
  refine V.lload_n (pc := 24) 0 dJ13_bitCount_95d88_24 rfl ?_
  refine V.lload_n (pc := 25) 0 dJ13_bitCount_95d88_25 rfl ?_
  refine V.iconst (pc := 26) (v := nI 4) dJ13_bitCount_95d88_26 (by decide) ?_
  refine V.lushr (pc := 27) (v := lN ((t2 8 (t1 8 m)) >>> 4)) dJ13_bitCount_95d88_27 (ll_ushr (by omega) (by omega)) ?_
  refine V.ladd (pc := 28) (v := lN (t2 8 (t1 8 m) + ((t2 8 (t1 8 m)) >>> 4))) dJ13_bitCount_95d88_28 (lN_add _ _) ?_
  refine V.ldc2_w (pc := 29) (v := lN 1085102592571150095) mw_3_158 dJ13_bitCount_95d88_29 ?_
  refine V.land (pc := 32) (v := lN (tt 8 m)) dJ13_bitCount_95d88_32 ((ll_and _ _).trans (congrArg lN (by rw [tt, t3, m0f_8]))) ?_
  refine V.lstore_n (pc := 33) (lv' := [(0, .long (lN (tt 8 m)))]) dJ13_bitCount_95d88_33 (by decide) rfl ?_
  refine V.lload_n (pc := 34) 0 dJ13_bitCount_95d88_34 rfl ?_
  refine V.lload_n (pc := 35) 0 dJ13_bitCount_95d88_35 rfl ?_
  refine V.bipush (pc := 36) (v := nI 8) dJ13_bitCount_95d88_36 (by decide) ?_
  refine V.lushr (pc := 38) (v := lN ((tt 8 m) >>> 8)) dJ13_bitCount_95d88_38 (ll_ushr (by omega) (by omega)) ?_
  refine V.ladd (pc := 39) (v := lN (h8 (tt 8 m))) dJ13_bitCount_95d88_39 ((lN_add _ _).trans (congrArg lN rfl)) ?_
  refine V.lstore_n (pc := 40) (lv' := [(0, .long (lN (h8 (tt 8 m))))]) dJ13_bitCount_95d88_40 (by decide) rfl ?_
  refine V.lload_n (pc := 41) 0 dJ13_bitCount_95d88_41 rfl ?_
  refine V.lload_n (pc := 42) 0 dJ13_bitCount_95d88_42 rfl ?_
  refine V.bipush (pc := 43) (v := nI 16) dJ13_bitCount_95d88_43 (by decide) ?_
  refine V.lushr (pc := 45) (v := lN ((h8 (tt 8 m)) >>> 16)) dJ13_bitCount_95d88_45 (ll_ushr (by omega) (by omega)) ?_
  refine V.ladd (pc := 46) (v := lN (h16' (h8 (tt 8 m)))) dJ13_bitCount_95d88_46 ((lN_add _ _).trans (congrArg lN rfl)) ?_
  refine V.lstore_n (pc := 47) (lv' := [(0, .long (lN (h16' (h8 (tt 8 m)))))]) dJ13_bitCount_95d88_47 (by decide) rfl ?_
  refine V.lload_n (pc := 48) 0 dJ13_bitCount_95d88_48 rfl ?_
  refine V.lload_n (pc := 49) 0 dJ13_bitCount_95d88_49 rfl ?_
  refine V.bipush (pc := 50) (v := nI 32) dJ13_bitCount_95d88_50 (by decide) ?_
  refine V.lushr (pc := 52) (v := lN ((h16' (h8 (tt 8 m))) >>> 32)) dJ13_bitCount_95d88_52 (ll_ushr (by omega) (by omega)) ?_
  refine V.ladd (pc := 53) (v := lN (h32 (h16' (h8 (tt 8 m))))) dJ13_bitCount_95d88_53 ((lN_add _ _).trans (congrArg lN rfl)) ?_
  refine V.lstore_n (pc := 54) (lv' := [(0, .long (lN (h32 (h16' (h8 (tt 8 m))))))]) dJ13_bitCount_95d88_54 (by decide) rfl ?_
  refine V.lload_n (pc := 55) 0 dJ13_bitCount_95d88_55 rfl ?_
  refine V.l2i (pc := 56) (v := nI (h32 (h16' (h8 (tt 8 m))))) dJ13_bitCount_95d88_56 (lN_i _) ?_
  refine V.bipush (pc := 57) (v := nI 127) dJ13_bitCount_95d88_57 (by decide) ?_
  refine V.iand (pc := 59) (v := nI (cntB m 48)) dJ13_bitCount_95d88_59 ((nn_and _ _).trans (congrArg nI (bc_long hm))) ?_
  exact V.iret (pc := 60) hF dJ13_bitCount_95d88_60 ⟨rfl, rfl⟩
theorem gcd_half {a b : Nat} (hb : 0 < b) (h : b ≤ a) : b * (a % b) * 2 ≤ a * b := by
  have h1 : a % b < b := Nat.mod_lt _ hb
  have h2 : a % b ≤ a - b := by rw [Nat.mod_eq_sub_mod h]; exact Nat.mod_le _ _
  have h3 : a % b * 2 ≤ a := by omega
  rw [Nat.mul_assoc, Nat.mul_comm a b]
  exact Nat.mul_le_mul_left _ h3
def gInv (a b r : Nat) : Prop := a ≤ 48000 ∧ b ≤ 48000 ∧ (r = 0 ∨ (b ≤ a ∧ a * b * 2 ^ r ≤ 2 * (48000 * 48000)))
theorem gInv_0 {a b : Nat} (ha : a ≤ 48000) (hb : b ≤ 48000) : gInv a b 0 := ⟨ha, hb, Or.inl rfl⟩
theorem gInv_s {a b r : Nat} (h : gInv a b r) (hb : 0 < b) : gInv b (a % b) (r + 1) := by
  have h1 : a % b < b := Nat.mod_lt _ hb
  refine ⟨h.2.1, by have := h.2.1; omega, Or.inr ⟨by omega, ?_⟩⟩
  rcases h.2.2 with e | e
  · subst e
    have : b * (a % b) ≤ 48000 * 48000 := Nat.mul_le_mul h.2.1 (by have := h.2.1; omega)
    show b * (a % b) * 2 ≤ _
    omega
  · have := gcd_half hb e.1
    rw [Nat.pow_succ, Nat.mul_comm (2 ^ r) 2, ← Nat.mul_assoc]
    exact Nat.le_trans (Nat.mul_le_mul_right _ this) e.2
theorem gInv_r {a b r : Nat} (h : gInv a b r) (hb : 0 < b) : r < 34 := by
  rcases h.2.2 with e | e
  · omega
  · rcases Nat.lt_or_ge r 34 with q | q
    · exact q
    · have h1 : 1 ≤ a * b := Nat.mul_pos (by omega) hb
      have h2 : (2 : Nat) ^ 34 ≤ 2 ^ r := two_le q
      have h3 : 1 * 2 ^ 34 ≤ a * b * 2 ^ r := Nat.mul_le_mul h1 h2
      have := e.2
      omega
theorem gcd_stp {a b : Nat} : Nat.gcd b (a % b) = Nat.gcd a b := by
  rw [Nat.gcd_comm b, ← Nat.gcd_rec, Nat.gcd_comm]
theorem ok_X8_commonDivisor {G : Gx} {μ : Mu} (x y : Nat) (hx : x ≤ 48000) (hy : y ≤ 48000) : RunsP 0 M_X8_commonDivisor [.int (nI x), .int (nI y)] G μ (.int (nI (Nat.gcd x y))) := by
  refine Runs.go RX8 rfl (by decide) [(0, .int (nI x)), (1, .int (nI y))] (Nat.le_of_ble_eq_true rfl) rfl (fun X hF => ?_)
  refine V.iload_n (pc := 0) 0 dX8_commonDivisor_0 rfl ?_
  refine V.istore_n (pc := 1) (lv' := [(0, .int (nI x)), (1, .int (nI y)), (2, .int (nI x))]) dX8_commonDivisor_1 (by decide) rfl ?_
  refine V.iload_n (pc := 2) 1 dX8_commonDivisor_2 rfl ?_
  refine V.istore_n (pc := 3) (lv' := [(0, .int (nI x)), (1, .int (nI y)), (2, .int (nI x)), (3, .int (nI y))]) dX8_commonDivisor_3 (by decide) rfl ?_
  refine V.iconst (pc := 4) (v := nI 0) dX8_commonDivisor_4 (by decide) ?_
  refine V.istore (pc := 5) (lv' := [(0, .int (nI x)), (1, .int (nI y)), (2, .int (nI x)), (3, .int (nI y)), (4, .int (nI 0))]) dX8_commonDivisor_5 (by decide) rfl ?_
  have L7 : ∀ (n_ : Nat) (a b r : Nat), (r ≤ 100) → (gInv a b r) → (Nat.gcd a b = Nat.gcd x y) → b < n_ → V G RX8 cX8_commonDivisor 6 0 X 7 [(0, .int (nI x)), (1, .int (nI y)), (2, .int (nI a)), (3, .int (nI b)), (4, .int (nI r))] [] μ := by
    intro n_
    induction n_ with
    | zero => intro a b r hr hg he hm_; exact absurd hm_ (Nat.not_lt_zero _)
    | succ n_ ih7 =>
      intro a b r hr hg he hm_
      have hab : a ≤ 48000 ∧ b ≤ 48000 := ⟨hg.1, hg.2.1⟩
      refine V.iload (pc := 7) 4 dX8_commonDivisor_7 rfl ?_
      refine V.bipush (pc := 9) (v := nI 100) dX8_commonDivisor_9 (by decide) ?_
      refine V.icmpN_ge (pc := 11) 34 dX8_commonDivisor_11 (by decide) (by omega) (by omega) (fun h_11 => ?_) (fun h_11 => ?_)
      · have hb0 : b = 0 := by
          rcases Nat.eq_zero_or_pos b with q | q
          · exact q
          · have := gInv_r hg q; omega
        refine V.iload_n (pc := 34) 2 dX8_commonDivisor_34 rfl ?_
        exact V.iret (pc := 35) hF dX8_commonDivisor_35 ⟨by rw [← he, hb0, Nat.gcd_zero_right], rfl⟩
      · refine V.iload_n (pc := 14) 3 dX8_commonDivisor_14 rfl ?_
        refine V.ifN_eq (pc := 15) 34 dX8_commonDivisor_15 (by decide) (by omega) (fun h_15 => ?_) (fun h_15 => ?_)
        · have hb0 : b = 0 := h_15
          refine V.iload_n (pc := 34) 2 dX8_commonDivisor_34 rfl ?_
          exact V.iret (pc := 35) hF dX8_commonDivisor_35 ⟨by rw [← he, hb0, Nat.gcd_zero_right], rfl⟩
        · refine V.iload_n (pc := 18) 2 dX8_commonDivisor_18 rfl ?_
          refine V.iload_n (pc := 19) 3 dX8_commonDivisor_19 rfl ?_
          refine V.irem (pc := 20) (v := nI (a % b)) dX8_commonDivisor_20 (nn_div0 (by omega) (by omega)) (pk_rem (by omega) (by omega) (by omega)) ?_
          refine V.istore (pc := 21) (lv' := [(0, .int (nI x)), (1, .int (nI y)), (2, .int (nI a)), (3, .int (nI b)), (4, .int (nI r)), (5, .int (nI (a % b)))]) dX8_commonDivisor_21 (by decide) rfl ?_
          refine V.iload_n (pc := 23) 3 dX8_commonDivisor_23 rfl ?_
          refine V.istore_n (pc := 24) (lv' := [(0, .int (nI x)), (1, .int (nI y)), (2, .int (nI b)), (3, .int (nI b)), (4, .int (nI r)), (5, .int (nI (a % b)))]) dX8_commonDivisor_24 (by decide) rfl ?_
          refine V.iload (pc := 25) 5 dX8_commonDivisor_25 rfl ?_
          refine V.istore_n (pc := 27) (lv' := [(0, .int (nI x)), (1, .int (nI y)), (2, .int (nI b)), (3, .int (nI (a % b))), (4, .int (nI r)), (5, .int (nI (a % b)))]) dX8_commonDivisor_27 (by decide) rfl ?_
          refine V.iinc (pc := 28) (v := nI (r + 1)) (lv' := [(0, .int (nI x)), (1, .int (nI y)), (2, .int (nI b)), (3, .int (nI (a % b))), (4, .int (nI (r + 1))), (5, .int (nI (a % b)))]) 4 dX8_commonDivisor_28 rfl (nn_inc _) (by decide) rfl ?_
          refine V.goto (pc := 31) 7 dX8_commonDivisor_31 (by decide) ?_
          refine V.sub (lv' := [(0, .int (nI x)), (1, .int (nI y)), (2, .int (nI b)), (3, .int (nI (a % b))), (4, .int (nI (r + 1)))]) [0, 1, 2, 3, 4] rfl ?_
          exact ih7 b (a % b) (r + 1) (by omega) (gInv_s hg h_15) (gcd_stp.trans he) (by have := Nat.mod_lt a h_15; omega)
  exact L7 _ x y 0 (by omega) (gInv_0 hx hy) rfl (Nat.lt_succ_self _)
