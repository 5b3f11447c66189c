/-! counting bits by halves -/
theorem and_split {a m : Nat} (ha : a < 256) (hm : m < 256) (y M : Nat) : (a + 256 * y) &&& (m + 256 * M) = (a &&& m) + 256 * (y &&& M) := by
  have ham : a &&& m < 256 := Nat.lt_of_le_of_lt Nat.and_le_left ha
  apply Nat.eq_of_testBit_eq
  intro j
  rw [Nat.testBit_and, Nat.add_comm a, Nat.add_comm m, Nat.add_comm (a &&& m), show (256 : Nat) = 2 ^ 8 from rfl, Nat.testBit_two_pow_mul_add _ ha, Nat.testBit_two_pow_mul_add _ hm, Nat.testBit_two_pow_mul_add _ ham]
  by_cases h : j < 8
  · simp [h]
  · simp [h]
theorem cntB_low {a n : Nat} : ∀ k, k ≤ 8 → a < 256 → cntB (a + 256 * n) k = cntB a k
  | 0, _, _ => rfl
  | k + 1, hk, ha => by
    rw [cntB, cntB, cntB_low k (by omega) ha, Nat.add_comm a, show (256 : Nat) = 2 ^ 8 from rfl, Nat.testBit_two_pow_mul_add _ ha, if_pos (by omega)]
theorem cntB_split {a y : Nat} (ha : a < 256) : ∀ n, cntB (a + 256 * y) (8 + n) = cntB a 8 + cntB y n
  | 0 => cntB_low 8 (by decide) ha
  | n + 1 => by
    rw [← Nat.add_assoc, cntB, cntB_split ha n, Nat.add_comm a, show (256 : Nat) = 2 ^ 8 from rfl, Nat.testBit_two_pow_mul_add _ ha, if_neg (by omega), show 8 + n - 8 = n by omega]
    show _ = _ + (cntB y n + _)
    omega
def m55 : Nat → Nat
  | 0 => 0
  | k + 1 => 85 + 256 * m55 k
def m33 : Nat → Nat
  | 0 => 0
  | k + 1 => 51 + 256 * m33 k
def m0f : Nat → Nat
  | 0 => 0
  | k + 1 => 15 + 256 * m0f k
def t1 (k x : Nat) : Nat := x - ((x >>> 1) &&& m55 k)
def t2 (k x : Nat) : Nat := (x &&& m33 k) + ((x >>> 2) &&& m33 k)
def t3 (k x : Nat) : Nat := (x + (x >>> 4)) &&& m0f k
def p1 (a : Nat) : Nat := a - ((a / 2) &&& 85)
def p2 (a : Nat) : Nat := (a &&& 51) + ((a / 4) &&& 51)
def p3 (a : Nat) : Nat := (a + a / 16) &&& 15
theorem c1 : ∀ a, a < 256 → ∀ b, b < 2 → (a / 2 + 128 * b) &&& 85 = (a / 2) &&& 85 := by decide +kernel
theorem c2 : ∀ a, a < 256 → ∀ b, b < 4 → (a / 4 + 64 * b) &&& 51 = (a / 4) &&& 51 := by decide +kernel
theorem c3 : ∀ a, a < 256 → ∀ b, b < 16 → (a + a / 16 + 16 * b) &&& 15 = (a + a / 16) &&& 15 := by decide +kernel
theorem c4 : ∀ a, a < 256 → p1 a < 256 ∧ p2 (p1 a) ≤ 68 ∧ p2 (p1 a) % 16 ≤ 4 ∧ p3 (p2 (p1 a)) = cntB a 8 ∧ cntB a 8 ≤ 8 := by decide +kernel
theorem t1_s {a : Nat} (ha : a < 256) (k y : Nat) : t1 (k + 1) (a + 256 * y) = p1 a + 256 * t1 k y := by
  have e : (a + 256 * y) >>> 1 = (a / 2 + 128 * (y % 2)) + 256 * (y >>> 1) := by
    rw [Nat.shiftRight_eq_div_pow, Nat.shiftRight_eq_div_pow]; omega
  have h1 : (a / 2) &&& 85 ≤ a / 2 := Nat.and_le_left
  have h2 : (y >>> 1) &&& m55 k ≤ y >>> 1 := Nat.and_le_left
  have h3 := shr_le y 1
  unfold t1 p1
  rw [m55, e, and_split (by omega) (by decide), c1 a ha (y % 2) (by omega)]
  omega
theorem t2_s {a : Nat} (ha : a < 256) (k y : Nat) : t2 (k + 1) (a + 256 * y) = p2 a + 256 * t2 k y := by
  have e : (a + 256 * y) >>> 2 = (a / 4 + 64 * (y % 4)) + 256 * (y >>> 2) := by
    rw [Nat.shiftRight_eq_div_pow, Nat.shiftRight_eq_div_pow]; omega
  unfold t2 p2
  rw [m33, e, and_split (by omega) (by decide), and_split (by omega) (by decide), c2 a ha (y % 4) (by omega)]
  omega
theorem t3_s {a : Nat} (ha : a ≤ 68) (k y : Nat) (hy : y % 16 ≤ 4) : t3 (k + 1) (a + 256 * y) = p3 a + 256 * t3 k y := by
  have e : (a + 256 * y) + ((a + 256 * y) >>> 4) = (a + a / 16 + 16 * (y % 16)) + 256 * (y + (y >>> 4)) := by
    rw [Nat.shiftRight_eq_div_pow, Nat.shiftRight_eq_div_pow]; omega
  unfold t3 p3
  rw [m0f, e, and_split (by omega) (by decide), c3 a (by omega) (y % 16) (by omega)]
def tt (k x : Nat) : Nat := t3 k (t2 k (t1 k x))
theorem t12_lo (k x : Nat) : t2 k (t1 k x) % 16 ≤ 4 := by
  cases k with
  | zero =>
    have h1 : m33 0 = 0 := rfl
    unfold t2
    rw [h1, Nat.and_zero, Nat.and_zero]
    decide
  | succ k =>
    have e : x = x % 256 + 256 * (x / 256) := by omega
    have h := c4 (x % 256) (Nat.mod_lt _ (by decide))
    rw [e, t1_s (Nat.mod_lt _ (by decide)), t2_s h.1]
    omega
theorem tt_s {a : Nat} (ha : a < 256) (k y : Nat) : tt (k + 1) (a + 256 * y) = cntB a 8 + 256 * tt k y := by
  have h := c4 a ha
  unfold tt
  rw [t1_s ha, t2_s h.1, t3_s h.2.1 _ _ (t12_lo k y), h.2.2.2.1]
theorem tt_0 : ∀ k, tt k 0 = 0
  | 0 => by decide
  | k + 1 => by
    have h := tt_s (a := 0) (by decide) k 0
    rw [show (0 : Nat) + 256 * 0 = 0 from rfl, tt_0 k] at h
    exact h
theorem cnt8_le (a : Nat) (ha : a < 256) : cntB a 8 ≤ 8 := (c4 a ha).2.2.2.2
theorem tt_16 {m : Nat} (hm : m < 65536) (k : Nat) : ∃ a b, a ≤ 8 ∧ b ≤ 8 ∧ tt (k + 2) m = a + 256 * b ∧ cntB m 16 = a + b := by
  have e1 : m = m % 256 + 256 * (m / 256) := by omega
  have h1 : m % 256 < 256 := Nat.mod_lt _ (by decide)
  have h2 : m / 256 < 256 := by omega
  refine ⟨cntB (m % 256) 8, cntB (m / 256) 8, cnt8_le _ h1, cnt8_le _ h2, ?_, ?_⟩
  · have e2 : m / 256 = m / 256 + 256 * 0 := by omega
    conv => lhs; rw [e1]
    rw [tt_s h1]
    conv => lhs; rw [e2]
    rw [tt_s h2, tt_0]
    omega
  · conv => lhs; rw [e1]
    exact cntB_split h1 8
theorem t1_le (k x : Nat) : t1 k x ≤ x := Nat.sub_le _ _
theorem m33_le : m33 4 = 858993459 := by decide
theorem m55_4 : m55 4 = 1431655765 := by decide
theorem m0f_4 : m0f 4 = 252645135 := by decide
theorem and63 (x : Nat) : x &&& 63 = x % 64 := by rw [show (63 : Nat) = 2 ^ 6 - 1 from rfl, Nat.and_two_pow_sub_one_eq_mod]
theorem and127 (x : Nat) : x &&& 127 = x % 128 := by rw [show (127 : Nat) = 2 ^ 7 - 1 from rfl, Nat.and_two_pow_sub_one_eq_mod]
def h8 (x : Nat) : Nat := x + (x >>> 8)
def h16' (x : Nat) : Nat := x + (x >>> 16)
def h32 (x : Nat) : Nat := x + (x >>> 32)
theorem bc_int {m : Nat} (hm : m < 65536) : h16' (h8 (tt 4 m)) &&& 63 = cntB m 16 := by
  obtain ⟨a, b, ha, hb, e, e2⟩ := tt_16 hm 2
  rw [show (4 : Nat) = 2 + 2 from rfl, e, e2, and63]
  unfold h16' h8
  rw [Nat.shiftRight_eq_div_pow, Nat.shiftRight_eq_div_pow, show (a + 256 * b) / 2 ^ 8 = b by omega, show (a + 256 * b + b) / 2 ^ 16 = 0 by omega]
  omega
theorem ok_bitCount {G : Gx} {μ : Mu} (m : Nat) (hm : m < 65536) : RunsP 0 M_J6_bitCount_0f7a4 [.int (nI m)] G μ (.int (nI (cntB m 16))) := by
  have ha1 : (m >>> 1) &&& 1431655765 ≤ m >>> 1 := Nat.and_le_left
  have hs1 := shr_le m 1
  have hb1 := t1_le 4 m
  have hb2 : t2 4 (t1 4 m) ≤ t1 4 m + t1 4 m := Nat.add_le_add Nat.and_le_left (Nat.le_trans Nat.and_le_left (shr_le _ _))
  have hb3 : tt 4 m ≤ 252645135 := by rw [← m0f_4]; exact Nat.and_le_right
  have hb4 : h8 (tt 4 m) ≤ tt 4 m + tt 4 m := Nat.add_le_add (Nat.le_refl _) (shr_le _ _)
  have hb5 : h16' (h8 (tt 4 m)) ≤ h8 (tt 4 m) + h8 (tt 4 m) := Nat.add_le_add (Nat.le_refl _) (shr_le _ _)
  refine Runs.go RJ6 rfl (by decide) [(0, .int (nI m))] (Nat.le_of_ble_eq_true rfl) rfl (fun X hF => ?_)
  refine V.iload_n (pc := 0) 0 dJ6_bitCount_0f7a4_0 rfl ?_
  refine V.iload_n (pc := 1) 0 dJ6_bitCount_0f7a4_1 rfl ?_
  refine V.iconst (pc := 2) (v := nI 1) dJ6_bitCount_0f7a4_2 (by decide) ?_
  refine V.iushr (pc := 3) (v := nI (m >>> 1)) dJ6_bitCount_0f7a4_3 (nn_ushr (by omega) (by omega)) ?_
  refine V.ldc_w (pc := 4) (v := nI 1431655765) mw_4_78 dJ6_bitCount_0f7a4_4 ?_
  refine V.iand (pc := 7) (v := nI ((m >>> 1) &&& 1431655765)) dJ6_bitCount_0f7a4_7 (nn_and _ _) ?_
  refine V.isub (pc := 8) (v := nI (t1 4 m)) dJ6_bitCount_0f7a4_8 ((pk_sub (by omega)).trans (congrArg nI (by rw [t1, m55_4]))) ?_
  refine V.istore_n (pc := 9) (lv' := [(0, .int (nI (t1 4 m)))]) dJ6_bitCount_0f7a4_9 (by decide) rfl ?_
  refine V.iload_n (pc := 10) 0 dJ6_bitCount_0f7a4_10 rfl ?_
  refine V.ldc_w (pc := 11) (v := nI 858993459) mw_4_79 dJ6_bitCount_0f7a4_11 ?_
  refine V.iand (pc := 14) (v := nI ((t1 4 m) &&& 858993459)) dJ6_bitCount_0f7a4_14 (nn_and _ _) ?_
  refine V.iload_n (pc := 15) 0 dJ6_bitCount_0f7a4_15 rfl ?_
  refine V.iconst (pc := 16) (v := nI 2) dJ6_bitCount_0f7a4_16 (by decide) ?_
  refine V.iushr (pc := 17) (v := nI ((t1 4 m) >>> 2)) dJ6_bitCount_0f7a4_17 (nn_ushr (by omega) (by omega)) ?_
  refine V.ldc_w (pc := 18) (v := nI 858993459) mw_4_79 dJ6_bitCount_0f7a4_18 ?_
  refine V.iand (pc := 21) (v := nI (((t1 4 m) >>> 2) &&& 858993459)) dJ6_bitCount_0f7a4_21 (nn_and _ _) ?_
  refine V.iadd (pc := 22) (v := nI (t2 4 (t1 4 m))) dJ6_bitCount_0f7a4_22 ((nI_add _ _).trans (congrArg nI (by rw [t2, m33_le]))) ?_
  refine V.istore_n (pc := 23) (lv' := [(0, .int (nI (t2 4 (t1 4 m))))]) dJ6_bitCount_0f7a4_23 (by decide) rfl ?_
  refine V.iload_n (pc := 24) 0 dJ6_bitCount_0f7a4_24 rfl ?_
  refine V.iload_n (pc := 25) 0 dJ6_bitCount_0f7a4_25 rfl ?_
  refine V.iconst (pc := 26) (v := nI 4) dJ6_bitCount_0f7a4_26 (by decide) ?_
  refine V.iushr (pc := 27) (v := nI ((t2 4 (t1 4 m)) >>> 4)) dJ6_bitCount_0f7a4_27 (nn_ushr (by omega) (by omega)) ?_
  refine V.iadd (pc := 28) (v := nI (t2 4 (t1 4 m) + ((t2 4 (t1 4 m)) >>> 4))) dJ6_bitCount_0f7a4_28 (nI_add _ _) ?_
  refine V.ldc_w (pc := 29) (v := nI 252645135) mw_4_80 dJ6_bitCount_0f7a4_29 ?_
  refine V.iand (pc := 32) (v := nI (tt 4 m)) dJ6_bitCount_0f7a4_32 ((nn_and _ _).trans (congrArg nI (by rw [tt, t3, m0f_4]))) ?_
  refine V.istore_n (pc := 33) (lv' := [(0, .int (nI (tt 4 m)))]) dJ6_bitCount_0f7a4_33 (by decide) rfl ?_
  refine V.iload_n (pc := 34) 0 dJ6_bitCount_0f7a4_34 rfl ?_
  refine V.iload_n (pc := 35) 0 dJ6_bitCount_0f7a4_35 rfl ?_
  refine V.bipush (pc := 36) (v := nI 8) dJ6_bitCount_0f7a4_36 (by decide) ?_
  refine V.iushr (pc := 38) (v := nI ((tt 4 m) >>> 8)) dJ6_bitCount_0f7a4_38 (nn_ushr (by omega) (by omega)) ?_
  refine V.iadd (pc := 39) (v := nI (h8 (tt 4 m))) dJ6_bitCount_0f7a4_39 ((nI_add _ _).trans (congrArg nI rfl)) ?_
  refine V.istore_n (pc := 40) (lv' := [(0, .int (nI (h8 (tt 4 m))))]) dJ6_bitCount_0f7a4_40 (by decide) rfl ?_
  refine V.iload_n (pc := 41) 0 dJ6_bitCount_0f7a4_41 rfl ?_
  refine V.iload_n (pc := 42) 0 dJ6_bitCount_0f7a4_42 rfl ?_
  refine V.bipush (pc := 43) (v := nI 16) dJ6_bitCount_0f7a4_43 (by decide) ?_
  refine V.iushr (pc := 45) (v := nI ((h8 (tt 4 m)) >>> 16)) dJ6_bitCount_0f7a4_45 (nn_ushr (by omega) (by omega)) ?_
  refine V.iadd (pc := 46) (v := nI (h16' (h8 (tt 4 m)))) dJ6_bitCount_0f7a4_46 ((nI_add _ _).trans (congrArg nI rfl)) ?_
  refine V.istore_n (pc := 47) (lv' := [(0, .int (nI (h16' (h8 (tt 4 m)))))]) dJ6_bitCount_0f7a4_47 (by decide) rfl ?_
  refine V.iload_n (pc := 48) 0 dJ6_bitCount_0f7a4_48 rfl ?_
  refine V.bipush (pc := 49) (v := nI 63) dJ6_bitCount_0f7a4_49 (by decide) ?_
  refine V.iand (pc := 51) (v := nI (cntB m 16)) dJ6_bitCount_0f7a4_51 ((nn_and _ _).trans (congrArg nI (bc_int hm))) ?_
  exact V.iret (pc := 52) hF dJ6_bitCount_0f7a4_52 ⟨rfl, rfl⟩
