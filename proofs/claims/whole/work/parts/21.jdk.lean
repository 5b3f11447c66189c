/-! the JDK's own: trailing zeros, compare -/
/-- the lowest bit of m is at k -/
def Low (m k : Nat) : Prop := m.testBit k = true ∧ ∀ j, j < k → m.testBit j = false
theorem low_dec : ∀ (m : Nat), 0 < m → ∃ k q, m = 2 ^ k * (2 * q + 1) := by
  intro m
  induction m using Nat.strongRecOn with
  | ind m ih =>
    intro h
    by_cases ho : m % 2 = 1
    · exact ⟨0, m / 2, by omega⟩
    · obtain ⟨k, q, e⟩ := ih (m / 2) (by omega) (by omega)
      refine ⟨k + 1, q, ?_⟩
      rw [Nat.pow_succ, Nat.mul_right_comm, ← e]
      omega
theorem low_bits (k q : Nat) : Low (2 ^ k * (2 * q + 1)) k ∧ adn (2 ^ k * (2 * q + 1) - 1) (2 ^ k * (2 * q + 1)) = 2 ^ k - 1 := by
  have hp := Nat.two_pow_pos k
  have e0 : 2 ^ k * (2 * q + 1) = 2 ^ k * (2 * q + 1) + 0 := rfl
  have b1 : ∀ j, (2 ^ k * (2 * q + 1)).testBit j = if j < k then false else (2 * q + 1).testBit (j - k) := fun j => by
    rw [e0, Nat.testBit_two_pow_mul_add _ hp]
    simp
  have e2 : 2 ^ k * (2 * q + 1) - 1 = 2 ^ k * (2 * q) + (2 ^ k - 1) := by
    rw [Nat.mul_add, Nat.mul_one]
    omega
  have b2 : ∀ j, (2 ^ k * (2 * q + 1) - 1).testBit j = if j < k then (2 ^ k - 1).testBit j else (2 * q).testBit (j - k) := fun j => by
    rw [e2, Nat.testBit_two_pow_mul_add _ (by omega)]
  refine ⟨⟨?_, fun j hj => ?_⟩, ?_⟩
  · rw [b1]
    simp
  · rw [b1, if_pos hj]
  · apply Nat.eq_of_testBit_eq
    intro j
    rw [adn_bit, b1, b2, Nat.testBit_two_pow_sub_one]
    by_cases hj : j < k
    · simp [hj]
    · rw [if_neg hj, if_neg hj]
      cases hz : j - k with
      | zero => simp [hj]
      | succ z =>
        have h1 : (2 * q).testBit (z + 1) = q.testBit z := by rw [Nat.testBit_succ]; congr 1; omega
        have h2 : (2 * q + 1).testBit (z + 1) = q.testBit z := by rw [Nat.testBit_succ]; congr 1; omega
        rw [h1, h2]
        simp [hj]
theorem low_ex {m : Nat} (h : 0 < m) : ∃ k, Low m k ∧ adn (m - 1) m = 2 ^ k - 1 := by
  obtain ⟨k, q, rfl⟩ := low_dec m h
  exact ⟨k, low_bits k q⟩
theorem low_one {m k j : Nat} (h : Low m k) (h2 : Low m j) : k = j := by
  rcases Nat.lt_trichotomy k j with e | e | e
  · exact absurd (h2.2 k e) (by rw [h.1]; decide)
  · exact e
  · exact absurd (h.2 j e) (by rw [h2.1]; decide)
theorem low_adn {m k : Nat} (h : Low m k) : adn (m - 1) m = 2 ^ k - 1 := by
  have hm : 0 < m := by
    rcases Nat.eq_zero_or_pos m with e | e
    · rw [e] at h; exact absurd h.1 (by simp)
    · exact e
  obtain ⟨j, h1, h2⟩ := low_ex hm
  rw [low_one h h1]
  exact h2
theorem low_lt {m k b : Nat} (h : Low m k) (hm : m < 2 ^ b) : k < b := by
  rcases Nat.lt_or_ge k b with e | e
  · exact e
  · have := Nat.testBit_lt_two_pow (Nat.lt_of_lt_of_le hm (two_le e))
    rw [h.1] at this
    exact absurd this (by decide)
theorem nn_mod (m : Nat) : nI m = nI (m % 2 ^ 32) := by
  apply Int32.toBitVec_inj.1
  rw [nn_bv, nn_bv]
  apply BitVec.eq_of_toNat_eq
  simp
theorem low_pos {m k : Nat} (h : Low m k) : 0 < m := by
  rcases Nat.eq_zero_or_pos m with e | e
  · rw [e] at h; exact absurd h.1 (by simp)
  · exact e
theorem low_mod {m k : Nat} (h : Low m k) (hk : k < 32) : Low (m % 2 ^ 32) k := by
  refine ⟨?_, fun j hj => ?_⟩
  · rw [Nat.testBit_mod_two_pow, h.1]; simp [hk]
  · rw [Nat.testBit_mod_two_pow, h.2 j hj]; simp
theorem pw_0 {k : Nat} (h : 2 ^ k - 1 = 0) : k = 0 := by
  rcases Nat.eq_zero_or_pos k with e | e
  · exact e
  · have : (2 : Nat) ^ 1 ≤ 2 ^ k := two_le e
    omega
theorem pw_p {k : Nat} (h : 0 < 2 ^ k - 1) : 0 < k := by
  rcases Nat.eq_zero_or_pos k with e | e
  · rw [e] at h; exact absurd h (by decide)
  · exact e
theorem nn_incK (e c : Nat) (i : Int) (h : Int32.ofInt i = nI c) : nI e + Int32.ofInt i = nI (e + c) := by rw [h]; exact nI_add e c
theorem shr_le (a k : Nat) : a >>> k ≤ a := by rw [Nat.shiftRight_eq_div_pow]; exact Nat.div_le_self _ _
theorem nn_self_eq {a b : Nat} (h : a = b) : some (Value.int (nI a)) = some (Value.int (nI b)) := by rw [h]
theorem ok_ntz0 {G : Gx} {μ : Mu} (k m : Nat) (hm : m < 2 ^ 32) (h : Low m k) : RunsP 0 M_J6_numberOfTrailingZeros_0f7a4 [.int (nI m)] G μ (.int (nI k)) := by
  have hk32 : k < 32 := low_lt h hm
  have hm0 : 0 < m := low_pos h
  have hx : (2 : Nat) ^ k ≤ 2 ^ 31 := two_le (by omega)
  have hxp : 0 < (2 : Nat) ^ k := Nat.two_pow_pos k
  refine Runs.go RJ6 rfl (by decide) [(0, .int (nI m))] (Nat.le_of_ble_eq_true rfl) rfl (fun X hF => ?_)
  refine V.iload_n (pc := 0) 0 dJ6_numberOfTrailingZeros_0f7a4_0 rfl ?_
  refine V.iconst (pc := 1) (v := (-1)) dJ6_numberOfTrailingZeros_0f7a4_1 (by decide) ?_
  refine V.ixor (pc := 2) (v := nI m ^^^ (-1)) dJ6_numberOfTrailingZeros_0f7a4_2 rfl ?_
  refine V.iload_n (pc := 3) 0 dJ6_numberOfTrailingZeros_0f7a4_3 rfl ?_
  refine V.iconst (pc := 4) (v := nI 1) dJ6_numberOfTrailingZeros_0f7a4_4 (by decide) ?_
  refine V.isub (pc := 5) (v := nI (m - 1)) dJ6_numberOfTrailingZeros_0f7a4_5 (pk_sub (by omega)) ?_
  refine V.iand (pc := 6) (v := nI (2 ^ k - 1)) dJ6_numberOfTrailingZeros_0f7a4_6 (by rw [Int32.and_comm, nn_adn, low_adn h]) ?_
  refine V.istore_n (pc := 7) (lv' := [(0, .int (nI (2 ^ k - 1)))]) dJ6_numberOfTrailingZeros_0f7a4_7 (by decide) rfl ?_
  refine V.iload_n (pc := 8) 0 dJ6_numberOfTrailingZeros_0f7a4_8 rfl ?_
  refine V.ifN_gt (pc := 9) 17 dJ6_numberOfTrailingZeros_0f7a4_9 (by decide) (by omega) (fun h_9 => ?_) (fun h_9 => ?_)
  · have hk0 := pw_p h_9
    refine V.iconst (pc := 17) (v := nI 1) dJ6_numberOfTrailingZeros_0f7a4_17 (by decide) ?_
    refine V.istore_n (pc := 18) (lv' := [(0, .int (nI (2 ^ k - 1))), (1, .int (nI 1))]) dJ6_numberOfTrailingZeros_0f7a4_18 (by decide) rfl ?_
    refine V.iload_n (pc := 19) 0 dJ6_numberOfTrailingZeros_0f7a4_19 rfl ?_
    refine V.ldc_w (pc := 20) (v := nI 65536) mw_2_121 dJ6_numberOfTrailingZeros_0f7a4_20 ?_
    refine V.icmpN_le (pc := 23) 34 dJ6_numberOfTrailingZeros_0f7a4_23 (by decide) (by omega) (by omega) (fun h_23 => ?_) (fun h_23 => ?_)
    · refine V.iload_n (pc := 34) 0 dJ6_numberOfTrailingZeros_0f7a4_34 rfl ?_
      refine V.sipush (pc := 35) (v := nI 256) dJ6_numberOfTrailingZeros_0f7a4_35 (by decide) ?_
      refine V.icmpN_le (pc := 38) 49 dJ6_numberOfTrailingZeros_0f7a4_38 (by decide) (by omega) (by omega) (fun h_38 => ?_) (fun h_38 => ?_)
      · refine V.iload_n (pc := 49) 0 dJ6_numberOfTrailingZeros_0f7a4_49 rfl ?_
        refine V.bipush (pc := 50) (v := nI 16) dJ6_numberOfTrailingZeros_0f7a4_50 (by decide) ?_
        refine V.icmpN_le (pc := 52) 62 dJ6_numberOfTrailingZeros_0f7a4_52 (by decide) (by omega) (by omega) (fun h_52 => ?_) (fun h_52 => ?_)
        · refine V.iload_n (pc := 62) 0 dJ6_numberOfTrailingZeros_0f7a4_62 rfl ?_
          refine V.iconst (pc := 63) (v := nI 4) dJ6_numberOfTrailingZeros_0f7a4_63 (by decide) ?_
          refine V.icmpN_le (pc := 64) 74 dJ6_numberOfTrailingZeros_0f7a4_64 (by decide) (by omega) (by omega) (fun h_64 => ?_) (fun h_64 => ?_)
          · have s1 := shr_le (2 ^ k - 1) 1
            refine V.iload_n (pc := 74) 1 dJ6_numberOfTrailingZeros_0f7a4_74 rfl ?_
            refine V.iload_n (pc := 75) 0 dJ6_numberOfTrailingZeros_0f7a4_75 rfl ?_
            refine V.iconst (pc := 76) (v := nI 1) dJ6_numberOfTrailingZeros_0f7a4_76 (by decide) ?_
            refine V.iushr (pc := 77) (v := nI ((2 ^ k - 1) >>> 1)) dJ6_numberOfTrailingZeros_0f7a4_77 (nn_ushr (by omega) (by omega)) ?_
            refine V.iadd (pc := 78) (v := nI (1 + ((2 ^ k - 1) >>> 1))) dJ6_numberOfTrailingZeros_0f7a4_78 (nI_add _ _) ?_
            exact V.iret (pc := 79) hF dJ6_numberOfTrailingZeros_0f7a4_79 ⟨nn_self_eq (co_dec (N := 32) (P := fun k => (0 < k ∧ (2 ^ k - 1) ≤ 65536 ∧ (2 ^ k - 1) ≤ 256 ∧ (2 ^ k - 1) ≤ 16 ∧ (2 ^ k - 1) ≤ 4) → 1 + ((2 ^ k - 1) >>> 1) = k) (by decide +kernel) hk32 ⟨hk0, h_23, h_38, h_52, h_64⟩), rfl⟩
          · refine V.iinc (pc := 67) (v := nI (1 + 2)) (lv' := [(0, .int (nI (2 ^ k - 1))), (1, .int (nI (1 + 2)))]) 1 dJ6_numberOfTrailingZeros_0f7a4_67 rfl (nn_incK _ 2 2 (by decide)) (by decide) rfl ?_
            have s2 := shr_le (2 ^ k - 1) 2
            refine V.iload_n (pc := 70) 0 dJ6_numberOfTrailingZeros_0f7a4_70 rfl ?_
            refine V.iconst (pc := 71) (v := nI 2) dJ6_numberOfTrailingZeros_0f7a4_71 (by decide) ?_
            refine V.iushr (pc := 72) (v := nI ((2 ^ k - 1) >>> 2)) dJ6_numberOfTrailingZeros_0f7a4_72 (nn_ushr (by omega) (by omega)) ?_
            refine V.istore_n (pc := 73) (lv' := [(0, .int (nI ((2 ^ k - 1) >>> 2))), (1, .int (nI (1 + 2)))]) dJ6_numberOfTrailingZeros_0f7a4_73 (by decide) rfl ?_
            have s1 := shr_le ((2 ^ k - 1) >>> 2) 1
            refine V.iload_n (pc := 74) 1 dJ6_numberOfTrailingZeros_0f7a4_74 rfl ?_
            refine V.iload_n (pc := 75) 0 dJ6_numberOfTrailingZeros_0f7a4_75 rfl ?_
            refine V.iconst (pc := 76) (v := nI 1) dJ6_numberOfTrailingZeros_0f7a4_76 (by decide) ?_
            refine V.iushr (pc := 77) (v := nI (((2 ^ k - 1) >>> 2) >>> 1)) dJ6_numberOfTrailingZeros_0f7a4_77 (nn_ushr (by omega) (by omega)) ?_
            refine V.iadd (pc := 78) (v := nI (1 + 2 + (((2 ^ k - 1) >>> 2) >>> 1))) dJ6_numberOfTrailingZeros_0f7a4_78 (nI_add _ _) ?_
            exact V.iret (pc := 79) hF dJ6_numberOfTrailingZeros_0f7a4_79 ⟨nn_self_eq (co_dec (N := 32) (P := fun k => (0 < k ∧ (2 ^ k - 1) ≤ 65536 ∧ (2 ^ k - 1) ≤ 256 ∧ (2 ^ k - 1) ≤ 16 ∧ 4 < (2 ^ k - 1)) → 1 + 2 + (((2 ^ k - 1) >>> 2) >>> 1) = k) (by decide +kernel) hk32 ⟨hk0, h_23, h_38, h_52, h_64⟩), rfl⟩
        · refine V.iinc (pc := 55) (v := nI (1 + 4)) (lv' := [(0, .int (nI (2 ^ k - 1))), (1, .int (nI (1 + 4)))]) 1 dJ6_numberOfTrailingZeros_0f7a4_55 rfl (nn_incK _ 4 4 (by decide)) (by decide) rfl ?_
          have s4 := shr_le (2 ^ k - 1) 4
          refine V.iload_n (pc := 58) 0 dJ6_numberOfTrailingZeros_0f7a4_58 rfl ?_
          refine V.iconst (pc := 59) (v := nI 4) dJ6_numberOfTrailingZeros_0f7a4_59 (by decide) ?_
          refine V.iushr (pc := 60) (v := nI ((2 ^ k - 1) >>> 4)) dJ6_numberOfTrailingZeros_0f7a4_60 (nn_ushr (by omega) (by omega)) ?_
          refine V.istore_n (pc := 61) (lv' := [(0, .int (nI ((2 ^ k - 1) >>> 4))), (1, .int (nI (1 + 4)))]) dJ6_numberOfTrailingZeros_0f7a4_61 (by decide) rfl ?_
          refine V.iload_n (pc := 62) 0 dJ6_numberOfTrailingZeros_0f7a4_62 rfl ?_
          refine V.iconst (pc := 63) (v := nI 4) dJ6_numberOfTrailingZeros_0f7a4_63 (by decide) ?_
          refine V.icmpN_le (pc := 64) 74 dJ6_numberOfTrailingZeros_0f7a4_64 (by decide) (by omega) (by omega) (fun h_64 => ?_) (fun h_64 => ?_)
          · have s1 := shr_le ((2 ^ k - 1) >>> 4) 1
            refine V.iload_n (pc := 74) 1 dJ6_numberOfTrailingZeros_0f7a4_74 rfl ?_
            refine V.iload_n (pc := 75) 0 dJ6_numberOfTrailingZeros_0f7a4_75 rfl ?_
            refine V.iconst (pc := 76) (v := nI 1) dJ6_numberOfTrailingZeros_0f7a4_76 (by decide) ?_
            refine V.iushr (pc := 77) (v := nI (((2 ^ k - 1) >>> 4) >>> 1)) dJ6_numberOfTrailingZeros_0f7a4_77 (nn_ushr (by omega) (by omega)) ?_
            refine V.iadd (pc := 78) (v := nI (1 + 4 + (((2 ^ k - 1) >>> 4) >>> 1))) dJ6_numberOfTrailingZeros_0f7a4_78 (nI_add _ _) ?_
            exact V.iret (pc := 79) hF dJ6_numberOfTrailingZeros_0f7a4_79 ⟨nn_self_eq (co_dec (N := 32) (P := fun k => (0 < k ∧ (2 ^ k - 1) ≤ 65536 ∧ (2 ^ k - 1) ≤ 256 ∧ 16 < (2 ^ k - 1) ∧ ((2 ^ k - 1) >>> 4) ≤ 4) → 1 + 4 + (((2 ^ k - 1) >>> 4) >>> 1) = k) (by decide +kernel) hk32 ⟨hk0, h_23, h_38, h_52, h_64⟩), rfl⟩
          · refine V.iinc (pc := 67) (v := nI (1 + 4 + 2)) (lv' := [(0, .int (nI ((2 ^ k - 1) >>> 4))), (1, .int (nI (1 + 4 + 2)))]) 1 dJ6_numberOfTrailingZeros_0f7a4_67 rfl (nn_incK _ 2 2 (by decide)) (by decide) rfl ?_
            have s2 := shr_le ((2 ^ k - 1) >>> 4) 2
            refine V.iload_n (pc := 70) 0 dJ6_numberOfTrailingZeros_0f7a4_70 rfl ?_
            refine V.iconst (pc := 71) (v := nI 2) dJ6_numberOfTrailingZeros_0f7a4_71 (by decide) ?_
            refine V.iushr (pc := 72) (v := nI (((2 ^ k - 1) >>> 4) >>> 2)) dJ6_numberOfTrailingZeros_0f7a4_72 (nn_ushr (by omega) (by omega)) ?_
            refine V.istore_n (pc := 73) (lv' := [(0, .int (nI (((2 ^ k - 1) >>> 4) >>> 2))), (1, .int (nI (1 + 4 + 2)))]) dJ6_numberOfTrailingZeros_0f7a4_73 (by decide) rfl ?_
            have s1 := shr_le (((2 ^ k - 1) >>> 4) >>> 2) 1
            refine V.iload_n (pc := 74) 1 dJ6_numberOfTrailingZeros_0f7a4_74 rfl ?_
            refine V.iload_n (pc := 75) 0 dJ6_numberOfTrailingZeros_0f7a4_75 rfl ?_
            refine V.iconst (pc := 76) (v := nI 1) dJ6_numberOfTrailingZeros_0f7a4_76 (by decide) ?_
            refine V.iushr (pc := 77) (v := nI ((((2 ^ k - 1) >>> 4) >>> 2) >>> 1)) dJ6_numberOfTrailingZeros_0f7a4_77 (nn_ushr (by omega) (by omega)) ?_
            refine V.iadd (pc := 78) (v := nI (1 + 4 + 2 + ((((2 ^ k - 1) >>> 4) >>> 2) >>> 1))) dJ6_numberOfTrailingZeros_0f7a4_78 (nI_add _ _) ?_
            exact V.iret (pc := 79) hF dJ6_numberOfTrailingZeros_0f7a4_79 ⟨nn_self_eq (co_dec (N := 32) (P := fun k => (0 < k ∧ (2 ^ k - 1) ≤ 65536 ∧ (2 ^ k - 1) ≤ 256 ∧ 16 < (2 ^ k - 1) ∧ 4 < ((2 ^ k - 1) >>> 4)) → 1 + 4 + 2 + ((((2 ^ k - 1) >>> 4) >>> 2) >>> 1) = k) (by decide +kernel) hk32 ⟨hk0, h_23, h_38, h_52, h_64⟩), rfl⟩
      · refine V.iinc (pc := 41) (v := nI (1 + 8)) (lv' := [(0, .int (nI (2 ^ k - 1))), (1, .int (nI (1 + 8)))]) 1 dJ6_numberOfTrailingZeros_0f7a4_41 rfl (nn_incK _ 8 8 (by decide)) (by decide) rfl ?_
        have s8 := shr_le (2 ^ k - 1) 8
        refine V.iload_n (pc := 44) 0 dJ6_numberOfTrailingZeros_0f7a4_44 rfl ?_
        refine V.bipush (pc := 45) (v := nI 8) dJ6_numberOfTrailingZeros_0f7a4_45 (by decide) ?_
        refine V.iushr (pc := 47) (v := nI ((2 ^ k - 1) >>> 8)) dJ6_numberOfTrailingZeros_0f7a4_47 (nn_ushr (by omega) (by omega)) ?_
        refine V.istore_n (pc := 48) (lv' := [(0, .int (nI ((2 ^ k - 1) >>> 8))), (1, .int (nI (1 + 8)))]) dJ6_numberOfTrailingZeros_0f7a4_48 (by decide) rfl ?_
        refine V.iload_n (pc := 49) 0 dJ6_numberOfTrailingZeros_0f7a4_49 rfl ?_
        refine V.bipush (pc := 50) (v := nI 16) dJ6_numberOfTrailingZeros_0f7a4_50 (by decide) ?_
        refine V.icmpN_le (pc := 52) 62 dJ6_numberOfTrailingZeros_0f7a4_52 (by decide) (by omega) (by omega) (fun h_52 => ?_) (fun h_52 => ?_)
        · refine V.iload_n (pc := 62) 0 dJ6_numberOfTrailingZeros_0f7a4_62 rfl ?_
          refine V.iconst (pc := 63) (v := nI 4) dJ6_numberOfTrailingZeros_0f7a4_63 (by decide) ?_
          refine V.icmpN_le (pc := 64) 74 dJ6_numberOfTrailingZeros_0f7a4_64 (by decide) (by omega) (by omega) (fun h_64 => ?_) (fun h_64 => ?_)
          · have s1 := shr_le ((2 ^ k - 1) >>> 8) 1
            refine V.iload_n (pc := 74) 1 dJ6_numberOfTrailingZeros_0f7a4_74 rfl ?_
            refine V.iload_n (pc := 75) 0 dJ6_numberOfTrailingZeros_0f7a4_75 rfl ?_
            refine V.iconst (pc := 76) (v := nI 1) dJ6_numberOfTrailingZeros_0f7a4_76 (by decide) ?_
            refine V.iushr (pc := 77) (v := nI (((2 ^ k - 1) >>> 8) >>> 1)) dJ6_numberOfTrailingZeros_0f7a4_77 (nn_ushr (by omega) (by omega)) ?_
            refine V.iadd (pc := 78) (v := nI (1 + 8 + (((2 ^ k - 1) >>> 8) >>> 1))) dJ6_numberOfTrailingZeros_0f7a4_78 (nI_add _ _) ?_
            exact V.iret (pc := 79) hF dJ6_numberOfTrailingZeros_0f7a4_79 ⟨nn_self_eq (co_dec (N := 32) (P := fun k => (0 < k ∧ (2 ^ k - 1) ≤ 65536 ∧ 256 < (2 ^ k - 1) ∧ ((2 ^ k - 1) >>> 8) ≤ 16 ∧ ((2 ^ k - 1) >>> 8) ≤ 4) → 1 + 8 + (((2 ^ k - 1) >>> 8) >>> 1) = k) (by decide +kernel) hk32 ⟨hk0, h_23, h_38, h_52, h_64⟩), rfl⟩
          · refine V.iinc (pc := 67) (v := nI (1 + 8 + 2)) (lv' := [(0, .int (nI ((2 ^ k - 1) >>> 8))), (1, .int (nI (1 + 8 + 2)))]) 1 dJ6_numberOfTrailingZeros_0f7a4_67 rfl (nn_incK _ 2 2 (by decide)) (by decide) rfl ?_
            have s2 := shr_le ((2 ^ k - 1) >>> 8) 2
            refine V.iload_n (pc := 70) 0 dJ6_numberOfTrailingZeros_0f7a4_70 rfl ?_
            refine V.iconst (pc := 71) (v := nI 2) dJ6_numberOfTrailingZeros_0f7a4_71 (by decide) ?_
            refine V.iushr (pc := 72) (v := nI (((2 ^ k - 1) >>> 8) >>> 2)) dJ6_numberOfTrailingZeros_0f7a4_72 (nn_ushr (by omega) (by omega)) ?_
            refine V.istore_n (pc := 73) (lv' := [(0, .int (nI (((2 ^ k - 1) >>> 8) >>> 2))), (1, .int (nI (1 + 8 + 2)))]) dJ6_numberOfTrailingZeros_0f7a4_73 (by decide) rfl ?_
            have s1 := shr_le (((2 ^ k - 1) >>> 8) >>> 2) 1
            refine V.iload_n (pc := 74) 1 dJ6_numberOfTrailingZeros_0f7a4_74 rfl ?_
            refine V.iload_n (pc := 75) 0 dJ6_numberOfTrailingZeros_0f7a4_75 rfl ?_
            refine V.iconst (pc := 76) (v := nI 1) dJ6_numberOfTrailingZeros_0f7a4_76 (by decide) ?_
            refine V.iushr (pc := 77) (v := nI ((((2 ^ k - 1) >>> 8) >>> 2) >>> 1)) dJ6_numberOfTrailingZeros_0f7a4_77 (nn_ushr (by omega) (by omega)) ?_
            refine V.iadd (pc := 78) (v := nI (1 + 8 + 2 + ((((2 ^ k - 1) >>> 8) >>> 2) >>> 1))) dJ6_numberOfTrailingZeros_0f7a4_78 (nI_add _ _) ?_
            exact V.iret (pc := 79) hF dJ6_numberOfTrailingZeros_0f7a4_79 ⟨nn_self_eq (co_dec (N := 32) (P := fun k => (0 < k ∧ (2 ^ k - 1) ≤ 65536 ∧ 256 < (2 ^ k - 1) ∧ ((2 ^ k - 1) >>> 8) ≤ 16 ∧ 4 < ((2 ^ k - 1) >>> 8)) → 1 + 8 + 2 + ((((2 ^ k - 1) >>> 8) >>> 2) >>> 1) = k) (by decide +kernel) hk32 ⟨hk0, h_23, h_38, h_52, h_64⟩), rfl⟩
        · refine V.iinc (pc := 55) (v := nI (1 + 8 + 4)) (lv' := [(0, .int (nI ((2 ^ k - 1) >>> 8))), (1, .int (nI (1 + 8 + 4)))]) 1 dJ6_numberOfTrailingZeros_0f7a4_55 rfl (nn_incK _ 4 4 (by decide)) (by decide) rfl ?_
          have s4 := shr_le ((2 ^ k - 1) >>> 8) 4
          refine V.iload_n (pc := 58) 0 dJ6_numberOfTrailingZeros_0f7a4_58 rfl ?_
          refine V.iconst (pc := 59) (v := nI 4) dJ6_numberOfTrailingZeros_0f7a4_59 (by decide) ?_
          refine V.iushr (pc := 60) (v := nI (((2 ^ k - 1) >>> 8) >>> 4)) dJ6_numberOfTrailingZeros_0f7a4_60 (nn_ushr (by omega) (by omega)) ?_
          refine V.istore_n (pc := 61) (lv' := [(0, .int (nI (((2 ^ k - 1) >>> 8) >>> 4))), (1, .int (nI (1 + 8 + 4)))]) dJ6_numberOfTrailingZeros_0f7a4_61 (by decide) rfl ?_
          refine V.iload_n (pc := 62) 0 dJ6_numberOfTrailingZeros_0f7a4_62 rfl ?_
          refine V.iconst (pc := 63) (v := nI 4) dJ6_numberOfTrailingZeros_0f7a4_63 (by decide) ?_
          refine V.icmpN_le (pc := 64) 74 dJ6_numberOfTrailingZeros_0f7a4_64 (by decide) (by omega) (by omega) (fun h_64 => ?_) (fun h_64 => ?_)
          · have s1 := shr_le (((2 ^ k - 1) >>> 8) >>> 4) 1
            refine V.iload_n (pc := 74) 1 dJ6_numberOfTrailingZeros_0f7a4_74 rfl ?_
            refine V.iload_n (pc := 75) 0 dJ6_numberOfTrailingZeros_0f7a4_75 rfl ?_
            refine V.iconst (pc := 76) (v := nI 1) dJ6_numberOfTrailingZeros_0f7a4_76 (by decide) ?_
            refine V.iushr (pc := 77) (v := nI ((((2 ^ k - 1) >>> 8) >>> 4) >>> 1)) dJ6_numberOfTrailingZeros_0f7a4_77 (nn_ushr (by omega) (by omega)) ?_
            refine V.iadd (pc := 78) (v := nI (1 + 8 + 4 + ((((2 ^ k - 1) >>> 8) >>> 4) >>> 1))) dJ6_numberOfTrailingZeros_0f7a4_78 (nI_add _ _) ?_
            exact V.iret (pc := 79) hF dJ6_numberOfTrailingZeros_0f7a4_79 ⟨nn_self_eq (co_dec (N := 32) (P := fun k => (0 < k ∧ (2 ^ k - 1) ≤ 65536 ∧ 256 < (2 ^ k - 1) ∧ 16 < ((2 ^ k - 1) >>> 8) ∧ (((2 ^ k - 1) >>> 8) >>> 4) ≤ 4) → 1 + 8 + 4 + ((((2 ^ k - 1) >>> 8) >>> 4) >>> 1) = k) (by decide +kernel) hk32 ⟨hk0, h_23, h_38, h_52, h_64⟩), rfl⟩
          · refine V.iinc (pc := 67) (v := nI (1 + 8 + 4 + 2)) (lv' := [(0, .int (nI (((2 ^ k - 1) >>> 8) >>> 4))), (1, .int (nI (1 + 8 + 4 + 2)))]) 1 dJ6_numberOfTrailingZeros_0f7a4_67 rfl (nn_incK _ 2 2 (by decide)) (by decide) rfl ?_
            have s2 := shr_le (((2 ^ k - 1) >>> 8) >>> 4) 2
            refine V.iload_n (pc := 70) 0 dJ6_numberOfTrailingZeros_0f7a4_70 rfl ?_
            refine V.iconst (pc := 71) (v := nI 2) dJ6_numberOfTrailingZeros_0f7a4_71 (by decide) ?_
            refine V.iushr (pc := 72) (v := nI ((((2 ^ k - 1) >>> 8) >>> 4) >>> 2)) dJ6_numberOfTrailingZeros_0f7a4_72 (nn_ushr (by omega) (by omega)) ?_
            refine V.istore_n (pc := 73) (lv' := [(0, .int (nI ((((2 ^ k - 1) >>> 8) >>> 4) >>> 2))), (1, .int (nI (1 + 8 + 4 + 2)))]) dJ6_numberOfTrailingZeros_0f7a4_73 (by decide) rfl ?_
            have s1 := shr_le ((((2 ^ k - 1) >>> 8) >>> 4) >>> 2) 1
            refine V.iload_n (pc := 74) 1 dJ6_numberOfTrailingZeros_0f7a4_74 rfl ?_
            refine V.iload_n (pc := 75) 0 dJ6_numberOfTrailingZeros_0f7a4_75 rfl ?_
            refine V.iconst (pc := 76) (v := nI 1) dJ6_numberOfTrailingZeros_0f7a4_76 (by decide) ?_
            refine V.iushr (pc := 77) (v := nI (((((2 ^ k - 1) >>> 8) >>> 4) >>> 2) >>> 1)) dJ6_numberOfTrailingZeros_0f7a4_77 (nn_ushr (by omega) (by omega)) ?_
            refine V.iadd (pc := 78) (v := nI (1 + 8 + 4 + 2 + (((((2 ^ k - 1) >>> 8) >>> 4) >>> 2) >>> 1))) dJ6_numberOfTrailingZeros_0f7a4_78 (nI_add _ _) ?_
            exact V.iret (pc := 79) hF dJ6_numberOfTrailingZeros_0f7a4_79 ⟨nn_self_eq (co_dec (N := 32) (P := fun k => (0 < k ∧ (2 ^ k - 1) ≤ 65536 ∧ 256 < (2 ^ k - 1) ∧ 16 < ((2 ^ k - 1) >>> 8) ∧ 4 < (((2 ^ k - 1) >>> 8) >>> 4)) → 1 + 8 + 4 + 2 + (((((2 ^ k - 1) >>> 8) >>> 4) >>> 2) >>> 1) = k) (by decide +kernel) hk32 ⟨hk0, h_23, h_38, h_52, h_64⟩), rfl⟩
    · have s16 := shr_le (2 ^ k - 1) 16
      refine V.iinc (pc := 26) (v := nI (1 + 16)) (lv' := [(0, .int (nI (2 ^ k - 1))), (1, .int (nI (1 + 16)))]) 1 dJ6_numberOfTrailingZeros_0f7a4_26 rfl (nn_incK _ 16 16 (by decide)) (by decide) rfl ?_
      refine V.iload_n (pc := 29) 0 dJ6_numberOfTrailingZeros_0f7a4_29 rfl ?_
      refine V.bipush (pc := 30) (v := nI 16) dJ6_numberOfTrailingZeros_0f7a4_30 (by decide) ?_
      refine V.iushr (pc := 32) (v := nI ((2 ^ k - 1) >>> 16)) dJ6_numberOfTrailingZeros_0f7a4_32 (nn_ushr (by omega) (by omega)) ?_
      refine V.istore_n (pc := 33) (lv' := [(0, .int (nI ((2 ^ k - 1) >>> 16))), (1, .int (nI (1 + 16)))]) dJ6_numberOfTrailingZeros_0f7a4_33 (by decide) rfl ?_
      refine V.iload_n (pc := 34) 0 dJ6_numberOfTrailingZeros_0f7a4_34 rfl ?_
      refine V.sipush (pc := 35) (v := nI 256) dJ6_numberOfTrailingZeros_0f7a4_35 (by decide) ?_
      refine V.icmpN_le (pc := 38) 49 dJ6_numberOfTrailingZeros_0f7a4_38 (by decide) (by omega) (by omega) (fun h_38 => ?_) (fun h_38 => ?_)
      · refine V.iload_n (pc := 49) 0 dJ6_numberOfTrailingZeros_0f7a4_49 rfl ?_
        refine V.bipush (pc := 50) (v := nI 16) dJ6_numberOfTrailingZeros_0f7a4_50 (by decide) ?_
        refine V.icmpN_le (pc := 52) 62 dJ6_numberOfTrailingZeros_0f7a4_52 (by decide) (by omega) (by omega) (fun h_52 => ?_) (fun h_52 => ?_)
        · refine V.iload_n (pc := 62) 0 dJ6_numberOfTrailingZeros_0f7a4_62 rfl ?_
          refine V.iconst (pc := 63) (v := nI 4) dJ6_numberOfTrailingZeros_0f7a4_63 (by decide) ?_
          refine V.icmpN_le (pc := 64) 74 dJ6_numberOfTrailingZeros_0f7a4_64 (by decide) (by omega) (by omega) (fun h_64 => ?_) (fun h_64 => ?_)
          · have s1 := shr_le ((2 ^ k - 1) >>> 16) 1
            refine V.iload_n (pc := 74) 1 dJ6_numberOfTrailingZeros_0f7a4_74 rfl ?_
            refine V.iload_n (pc := 75) 0 dJ6_numberOfTrailingZeros_0f7a4_75 rfl ?_
            refine V.iconst (pc := 76) (v := nI 1) dJ6_numberOfTrailingZeros_0f7a4_76 (by decide) ?_
            refine V.iushr (pc := 77) (v := nI (((2 ^ k - 1) >>> 16) >>> 1)) dJ6_numberOfTrailingZeros_0f7a4_77 (nn_ushr (by omega) (by omega)) ?_
            refine V.iadd (pc := 78) (v := nI (1 + 16 + (((2 ^ k - 1) >>> 16) >>> 1))) dJ6_numberOfTrailingZeros_0f7a4_78 (nI_add _ _) ?_
            exact V.iret (pc := 79) hF dJ6_numberOfTrailingZeros_0f7a4_79 ⟨nn_self_eq (co_dec (N := 32) (P := fun k => (0 < k ∧ 65536 < (2 ^ k - 1) ∧ ((2 ^ k - 1) >>> 16) ≤ 256 ∧ ((2 ^ k - 1) >>> 16) ≤ 16 ∧ ((2 ^ k - 1) >>> 16) ≤ 4) → 1 + 16 + (((2 ^ k - 1) >>> 16) >>> 1) = k) (by decide +kernel) hk32 ⟨hk0, h_23, h_38, h_52, h_64⟩), rfl⟩
          · refine V.iinc (pc := 67) (v := nI (1 + 16 + 2)) (lv' := [(0, .int (nI ((2 ^ k - 1) >>> 16))), (1, .int (nI (1 + 16 + 2)))]) 1 dJ6_numberOfTrailingZeros_0f7a4_67 rfl (nn_incK _ 2 2 (by decide)) (by decide) rfl ?_
            have s2 := shr_le ((2 ^ k - 1) >>> 16) 2
            refine V.iload_n (pc := 70) 0 dJ6_numberOfTrailingZeros_0f7a4_70 rfl ?_
            refine V.iconst (pc := 71) (v := nI 2) dJ6_numberOfTrailingZeros_0f7a4_71 (by decide) ?_
            refine V.iushr (pc := 72) (v := nI (((2 ^ k - 1) >>> 16) >>> 2)) dJ6_numberOfTrailingZeros_0f7a4_72 (nn_ushr (by omega) (by omega)) ?_
            refine V.istore_n (pc := 73) (lv' := [(0, .int (nI (((2 ^ k - 1) >>> 16) >>> 2))), (1, .int (nI (1 + 16 + 2)))]) dJ6_numberOfTrailingZeros_0f7a4_73 (by decide) rfl ?_
            have s1 := shr_le (((2 ^ k - 1) >>> 16) >>> 2) 1
            refine V.iload_n (pc := 74) 1 dJ6_numberOfTrailingZeros_0f7a4_74 rfl ?_
            refine V.iload_n (pc := 75) 0 dJ6_numberOfTrailingZeros_0f7a4_75 rfl ?_
            refine V.iconst (pc := 76) (v := nI 1) dJ6_numberOfTrailingZeros_0f7a4_76 (by decide) ?_
            refine V.iushr (pc := 77) (v := nI ((((2 ^ k - 1) >>> 16) >>> 2) >>> 1)) dJ6_numberOfTrailingZeros_0f7a4_77 (nn_ushr (by omega) (by omega)) ?_
            refine V.iadd (pc := 78) (v := nI (1 + 16 + 2 + ((((2 ^ k - 1) >>> 16) >>> 2) >>> 1))) dJ6_numberOfTrailingZeros_0f7a4_78 (nI_add _ _) ?_
            exact V.iret (pc := 79) hF dJ6_numberOfTrailingZeros_0f7a4_79 ⟨nn_self_eq (co_dec (N := 32) (P := fun k => (0 < k ∧ 65536 < (2 ^ k - 1) ∧ ((2 ^ k - 1) >>> 16) ≤ 256 ∧ ((2 ^ k - 1) >>> 16) ≤ 16 ∧ 4 < ((2 ^ k - 1) >>> 16)) → 1 + 16 + 2 + ((((2 ^ k - 1) >>> 16) >>> 2) >>> 1) = k) (by decide +kernel) hk32 ⟨hk0, h_23, h_38, h_52, h_64⟩), rfl⟩
        · refine V.iinc (pc := 55) (v := nI (1 + 16 + 4)) (lv' := [(0, .int (nI ((2 ^ k - 1) >>> 16))), (1, .int (nI (1 + 16 + 4)))]) 1 dJ6_numberOfTrailingZeros_0f7a4_55 rfl (nn_incK _ 4 4 (by decide)) (by decide) rfl ?_
          have s4 := shr_le ((2 ^ k - 1) >>> 16) 4
          refine V.iload_n (pc := 58) 0 dJ6_numberOfTrailingZeros_0f7a4_58 rfl ?_
          refine V.iconst (pc := 59) (v := nI 4) dJ6_numberOfTrailingZeros_0f7a4_59 (by decide) ?_
          refine V.iushr (pc := 60) (v := nI (((2 ^ k - 1) >>> 16) >>> 4)) dJ6_numberOfTrailingZeros_0f7a4_60 (nn_ushr (by omega) (by omega)) ?_
          refine V.istore_n (pc := 61) (lv' := [(0, .int (nI (((2 ^ k - 1) >>> 16) >>> 4))), (1, .int (nI (1 + 16 + 4)))]) dJ6_numberOfTrailingZeros_0f7a4_61 (by decide) rfl ?_
          refine V.iload_n (pc := 62) 0 dJ6_numberOfTrailingZeros_0f7a4_62 rfl ?_
          refine V.iconst (pc := 63) (v := nI 4) dJ6_numberOfTrailingZeros_0f7a4_63 (by decide) ?_
          refine V.icmpN_le (pc := 64) 74 dJ6_numberOfTrailingZeros_0f7a4_64 (by decide) (by omega) (by omega) (fun h_64 => ?_) (fun h_64 => ?_)
          · have s1 := shr_le (((2 ^ k - 1) >>> 16) >>> 4) 1
            refine V.iload_n (pc := 74) 1 dJ6_numberOfTrailingZeros_0f7a4_74 rfl ?_
            refine V.iload_n (pc := 75) 0 dJ6_numberOfTrailingZeros_0f7a4_75 rfl ?_
            refine V.iconst (pc := 76) (v := nI 1) dJ6_numberOfTrailingZeros_0f7a4_76 (by decide) ?_
            refine V.iushr (pc := 77) (v := nI ((((2 ^ k - 1) >>> 16) >>> 4) >>> 1)) dJ6_numberOfTrailingZeros_0f7a4_77 (nn_ushr (by omega) (by omega)) ?_
            refine V.iadd (pc := 78) (v := nI (1 + 16 + 4 + ((((2 ^ k - 1) >>> 16) >>> 4) >>> 1))) dJ6_numberOfTrailingZeros_0f7a4_78 (nI_add _ _) ?_
            exact V.iret (pc := 79) hF dJ6_numberOfTrailingZeros_0f7a4_79 ⟨nn_self_eq (co_dec (N := 32) (P := fun k => (0 < k ∧ 65536 < (2 ^ k - 1) ∧ ((2 ^ k - 1) >>> 16) ≤ 256 ∧ 16 < ((2 ^ k - 1) >>> 16) ∧ (((2 ^ k - 1) >>> 16) >>> 4) ≤ 4) → 1 + 16 + 4 + ((((2 ^ k - 1) >>> 16) >>> 4) >>> 1) = k) (by decide +kernel) hk32 ⟨hk0, h_23, h_38, h_52, h_64⟩), rfl⟩
          · refine V.iinc (pc := 67) (v := nI (1 + 16 + 4 + 2)) (lv' := [(0, .int (nI (((2 ^ k - 1) >>> 16) >>> 4))), (1, .int (nI (1 + 16 + 4 + 2)))]) 1 dJ6_numberOfTrailingZeros_0f7a4_67 rfl (nn_incK _ 2 2 (by decide)) (by decide) rfl ?_
            have s2 := shr_le (((2 ^ k - 1) >>> 16) >>> 4) 2
            refine V.iload_n (pc := 70) 0 dJ6_numberOfTrailingZeros_0f7a4_70 rfl ?_
            refine V.iconst (pc := 71) (v := nI 2) dJ6_numberOfTrailingZeros_0f7a4_71 (by decide) ?_
            refine V.iushr (pc := 72) (v := nI ((((2 ^ k - 1) >>> 16) >>> 4) >>> 2)) dJ6_numberOfTrailingZeros_0f7a4_72 (nn_ushr (by omega) (by omega)) ?_
            refine V.istore_n (pc := 73) (lv' := [(0, .int (nI ((((2 ^ k - 1) >>> 16) >>> 4) >>> 2))), (1, .int (nI (1 + 16 + 4 + 2)))]) dJ6_numberOfTrailingZeros_0f7a4_73 (by decide) rfl ?_
            have s1 := shr_le ((((2 ^ k - 1) >>> 16) >>> 4) >>> 2) 1
            refine V.iload_n (pc := 74) 1 dJ6_numberOfTrailingZeros_0f7a4_74 rfl ?_
            refine V.iload_n (pc := 75) 0 dJ6_numberOfTrailingZeros_0f7a4_75 rfl ?_
            refine V.iconst (pc := 76) (v := nI 1) dJ6_numberOfTrailingZeros_0f7a4_76 (by decide) ?_
            refine V.iushr (pc := 77) (v := nI (((((2 ^ k - 1) >>> 16) >>> 4) >>> 2) >>> 1)) dJ6_numberOfTrailingZeros_0f7a4_77 (nn_ushr (by omega) (by omega)) ?_
            refine V.iadd (pc := 78) (v := nI (1 + 16 + 4 + 2 + (((((2 ^ k - 1) >>> 16) >>> 4) >>> 2) >>> 1))) dJ6_numberOfTrailingZeros_0f7a4_78 (nI_add _ _) ?_
            exact V.iret (pc := 79) hF dJ6_numberOfTrailingZeros_0f7a4_79 ⟨nn_self_eq (co_dec (N := 32) (P := fun k => (0 < k ∧ 65536 < (2 ^ k - 1) ∧ ((2 ^ k - 1) >>> 16) ≤ 256 ∧ 16 < ((2 ^ k - 1) >>> 16) ∧ 4 < (((2 ^ k - 1) >>> 16) >>> 4)) → 1 + 16 + 4 + 2 + (((((2 ^ k - 1) >>> 16) >>> 4) >>> 2) >>> 1) = k) (by decide +kernel) hk32 ⟨hk0, h_23, h_38, h_52, h_64⟩), rfl⟩
      · refine V.iinc (pc := 41) (v := nI (1 + 16 + 8)) (lv' := [(0, .int (nI ((2 ^ k - 1) >>> 16))), (1, .int (nI (1 + 16 + 8)))]) 1 dJ6_numberOfTrailingZeros_0f7a4_41 rfl (nn_incK _ 8 8 (by decide)) (by decide) rfl ?_
        have s8 := shr_le ((2 ^ k - 1) >>> 16) 8
        refine V.iload_n (pc := 44) 0 dJ6_numberOfTrailingZeros_0f7a4_44 rfl ?_
        refine V.bipush (pc := 45) (v := nI 8) dJ6_numberOfTrailingZeros_0f7a4_45 (by decide) ?_
        refine V.iushr (pc := 47) (v := nI (((2 ^ k - 1) >>> 16) >>> 8)) dJ6_numberOfTrailingZeros_0f7a4_47 (nn_ushr (by omega) (by omega)) ?_
        refine V.istore_n (pc := 48) (lv' := [(0, .int (nI (((2 ^ k - 1) >>> 16) >>> 8))), (1, .int (nI (1 + 16 + 8)))]) dJ6_numberOfTrailingZeros_0f7a4_48 (by decide) rfl ?_
        refine V.iload_n (pc := 49) 0 dJ6_numberOfTrailingZeros_0f7a4_49 rfl ?_
        refine V.bipush (pc := 50) (v := nI 16) dJ6_numberOfTrailingZeros_0f7a4_50 (by decide) ?_
        refine V.icmpN_le (pc := 52) 62 dJ6_numberOfTrailingZeros_0f7a4_52 (by decide) (by omega) (by omega) (fun h_52 => ?_) (fun h_52 => ?_)
        · refine V.iload_n (pc := 62) 0 dJ6_numberOfTrailingZeros_0f7a4_62 rfl ?_
          refine V.iconst (pc := 63) (v := nI 4) dJ6_numberOfTrailingZeros_0f7a4_63 (by decide) ?_
          refine V.icmpN_le (pc := 64) 74 dJ6_numberOfTrailingZeros_0f7a4_64 (by decide) (by omega) (by omega) (fun h_64 => ?_) (fun h_64 => ?_)
          · have s1 := shr_le (((2 ^ k - 1) >>> 16) >>> 8) 1
            refine V.iload_n (pc := 74) 1 dJ6_numberOfTrailingZeros_0f7a4_74 rfl ?_
            refine V.iload_n (pc := 75) 0 dJ6_numberOfTrailingZeros_0f7a4_75 rfl ?_
            refine V.iconst (pc := 76) (v := nI 1) dJ6_numberOfTrailingZeros_0f7a4_76 (by decide) ?_
            refine V.iushr (pc := 77) (v := nI ((((2 ^ k - 1) >>> 16) >>> 8) >>> 1)) dJ6_numberOfTrailingZeros_0f7a4_77 (nn_ushr (by omega) (by omega)) ?_
            refine V.iadd (pc := 78) (v := nI (1 + 16 + 8 + ((((2 ^ k - 1) >>> 16) >>> 8) >>> 1))) dJ6_numberOfTrailingZeros_0f7a4_78 (nI_add _ _) ?_
            exact V.iret (pc := 79) hF dJ6_numberOfTrailingZeros_0f7a4_79 ⟨nn_self_eq (co_dec (N := 32) (P := fun k => (0 < k ∧ 65536 < (2 ^ k - 1) ∧ 256 < ((2 ^ k - 1) >>> 16) ∧ (((2 ^ k - 1) >>> 16) >>> 8) ≤ 16 ∧ (((2 ^ k - 1) >>> 16) >>> 8) ≤ 4) → 1 + 16 + 8 + ((((2 ^ k - 1) >>> 16) >>> 8) >>> 1) = k) (by decide +kernel) hk32 ⟨hk0, h_23, h_38, h_52, h_64⟩), rfl⟩
          · refine V.iinc (pc := 67) (v := nI (1 + 16 + 8 + 2)) (lv' := [(0, .int (nI (((2 ^ k - 1) >>> 16) >>> 8))), (1, .int (nI (1 + 16 + 8 + 2)))]) 1 dJ6_numberOfTrailingZeros_0f7a4_67 rfl (nn_incK _ 2 2 (by decide)) (by decide) rfl ?_
            have s2 := shr_le (((2 ^ k - 1) >>> 16) >>> 8) 2
            refine V.iload_n (pc := 70) 0 dJ6_numberOfTrailingZeros_0f7a4_70 rfl ?_
            refine V.iconst (pc := 71) (v := nI 2) dJ6_numberOfTrailingZeros_0f7a4_71 (by decide) ?_
            refine V.iushr (pc := 72) (v := nI ((((2 ^ k - 1) >>> 16) >>> 8) >>> 2)) dJ6_numberOfTrailingZeros_0f7a4_72 (nn_ushr (by omega) (by omega)) ?_
            refine V.istore_n (pc := 73) (lv' := [(0, .int (nI ((((2 ^ k - 1) >>> 16) >>> 8) >>> 2))), (1, .int (nI (1 + 16 + 8 + 2)))]) dJ6_numberOfTrailingZeros_0f7a4_73 (by decide) rfl ?_
            have s1 := shr_le ((((2 ^ k - 1) >>> 16) >>> 8) >>> 2) 1
            refine V.iload_n (pc := 74) 1 dJ6_numberOfTrailingZeros_0f7a4_74 rfl ?_
            refine V.iload_n (pc := 75) 0 dJ6_numberOfTrailingZeros_0f7a4_75 rfl ?_
            refine V.iconst (pc := 76) (v := nI 1) dJ6_numberOfTrailingZeros_0f7a4_76 (by decide) ?_
            refine V.iushr (pc := 77) (v := nI (((((2 ^ k - 1) >>> 16) >>> 8) >>> 2) >>> 1)) dJ6_numberOfTrailingZeros_0f7a4_77 (nn_ushr (by omega) (by omega)) ?_
            refine V.iadd (pc := 78) (v := nI (1 + 16 + 8 + 2 + (((((2 ^ k - 1) >>> 16) >>> 8) >>> 2) >>> 1))) dJ6_numberOfTrailingZeros_0f7a4_78 (nI_add _ _) ?_
            exact V.iret (pc := 79) hF dJ6_numberOfTrailingZeros_0f7a4_79 ⟨nn_self_eq (co_dec (N := 32) (P := fun k => (0 < k ∧ 65536 < (2 ^ k - 1) ∧ 256 < ((2 ^ k - 1) >>> 16) ∧ (((2 ^ k - 1) >>> 16) >>> 8) ≤ 16 ∧ 4 < (((2 ^ k - 1) >>> 16) >>> 8)) → 1 + 16 + 8 + 2 + (((((2 ^ k - 1) >>> 16) >>> 8) >>> 2) >>> 1) = k) (by decide +kernel) hk32 ⟨hk0, h_23, h_38, h_52, h_64⟩), rfl⟩
        · refine V.iinc (pc := 55) (v := nI (1 + 16 + 8 + 4)) (lv' := [(0, .int (nI (((2 ^ k - 1) >>> 16) >>> 8))), (1, .int (nI (1 + 16 + 8 + 4)))]) 1 dJ6_numberOfTrailingZeros_0f7a4_55 rfl (nn_incK _ 4 4 (by decide)) (by decide) rfl ?_
          have s4 := shr_le (((2 ^ k - 1) >>> 16) >>> 8) 4
          refine V.iload_n (pc := 58) 0 dJ6_numberOfTrailingZeros_0f7a4_58 rfl ?_
          refine V.iconst (pc := 59) (v := nI 4) dJ6_numberOfTrailingZeros_0f7a4_59 (by decide) ?_
          refine V.iushr (pc := 60) (v := nI ((((2 ^ k - 1) >>> 16) >>> 8) >>> 4)) dJ6_numberOfTrailingZeros_0f7a4_60 (nn_ushr (by omega) (by omega)) ?_
          refine V.istore_n (pc := 61) (lv' := [(0, .int (nI ((((2 ^ k - 1) >>> 16) >>> 8) >>> 4))), (1, .int (nI (1 + 16 + 8 + 4)))]) dJ6_numberOfTrailingZeros_0f7a4_61 (by decide) rfl ?_
          refine V.iload_n (pc := 62) 0 dJ6_numberOfTrailingZeros_0f7a4_62 rfl ?_
          refine V.iconst (pc := 63) (v := nI 4) dJ6_numberOfTrailingZeros_0f7a4_63 (by decide) ?_
          refine V.icmpN_le (pc := 64) 74 dJ6_numberOfTrailingZeros_0f7a4_64 (by decide) (by omega) (by omega) (fun h_64 => ?_) (fun h_64 => ?_)
          · have s1 := shr_le ((((2 ^ k - 1) >>> 16) >>> 8) >>> 4) 1
            refine V.iload_n (pc := 74) 1 dJ6_numberOfTrailingZeros_0f7a4_74 rfl ?_
            refine V.iload_n (pc := 75) 0 dJ6_numberOfTrailingZeros_0f7a4_75 rfl ?_
            refine V.iconst (pc := 76) (v := nI 1) dJ6_numberOfTrailingZeros_0f7a4_76 (by decide) ?_
            refine V.iushr (pc := 77) (v := nI (((((2 ^ k - 1) >>> 16) >>> 8) >>> 4) >>> 1)) dJ6_numberOfTrailingZeros_0f7a4_77 (nn_ushr (by omega) (by omega)) ?_
            refine V.iadd (pc := 78) (v := nI (1 + 16 + 8 + 4 + (((((2 ^ k - 1) >>> 16) >>> 8) >>> 4) >>> 1))) dJ6_numberOfTrailingZeros_0f7a4_78 (nI_add _ _) ?_
            exact V.iret (pc := 79) hF dJ6_numberOfTrailingZeros_0f7a4_79 ⟨nn_self_eq (co_dec (N := 32) (P := fun k => (0 < k ∧ 65536 < (2 ^ k - 1) ∧ 256 < ((2 ^ k - 1) >>> 16) ∧ 16 < (((2 ^ k - 1) >>> 16) >>> 8) ∧ ((((2 ^ k - 1) >>> 16) >>> 8) >>> 4) ≤ 4) → 1 + 16 + 8 + 4 + (((((2 ^ k - 1) >>> 16) >>> 8) >>> 4) >>> 1) = k) (by decide +kernel) hk32 ⟨hk0, h_23, h_38, h_52, h_64⟩), rfl⟩
          · refine V.iinc (pc := 67) (v := nI (1 + 16 + 8 + 4 + 2)) (lv' := [(0, .int (nI ((((2 ^ k - 1) >>> 16) >>> 8) >>> 4))), (1, .int (nI (1 + 16 + 8 + 4 + 2)))]) 1 dJ6_numberOfTrailingZeros_0f7a4_67 rfl (nn_incK _ 2 2 (by decide)) (by decide) rfl ?_
            have s2 := shr_le ((((2 ^ k - 1) >>> 16) >>> 8) >>> 4) 2
            refine V.iload_n (pc := 70) 0 dJ6_numberOfTrailingZeros_0f7a4_70 rfl ?_
            refine V.iconst (pc := 71) (v := nI 2) dJ6_numberOfTrailingZeros_0f7a4_71 (by decide) ?_
            refine V.iushr (pc := 72) (v := nI (((((2 ^ k - 1) >>> 16) >>> 8) >>> 4) >>> 2)) dJ6_numberOfTrailingZeros_0f7a4_72 (nn_ushr (by omega) (by omega)) ?_
            refine V.istore_n (pc := 73) (lv' := [(0, .int (nI (((((2 ^ k - 1) >>> 16) >>> 8) >>> 4) >>> 2))), (1, .int (nI (1 + 16 + 8 + 4 + 2)))]) dJ6_numberOfTrailingZeros_0f7a4_73 (by decide) rfl ?_
            have s1 := shr_le (((((2 ^ k - 1) >>> 16) >>> 8) >>> 4) >>> 2) 1
            refine V.iload_n (pc := 74) 1 dJ6_numberOfTrailingZeros_0f7a4_74 rfl ?_
            refine V.iload_n (pc := 75) 0 dJ6_numberOfTrailingZeros_0f7a4_75 rfl ?_
            refine V.iconst (pc := 76) (v := nI 1) dJ6_numberOfTrailingZeros_0f7a4_76 (by decide) ?_
            refine V.iushr (pc := 77) (v := nI ((((((2 ^ k - 1) >>> 16) >>> 8) >>> 4) >>> 2) >>> 1)) dJ6_numberOfTrailingZeros_0f7a4_77 (nn_ushr (by omega) (by omega)) ?_
            refine V.iadd (pc := 78) (v := nI (1 + 16 + 8 + 4 + 2 + ((((((2 ^ k - 1) >>> 16) >>> 8) >>> 4) >>> 2) >>> 1))) dJ6_numberOfTrailingZeros_0f7a4_78 (nI_add _ _) ?_
            exact V.iret (pc := 79) hF dJ6_numberOfTrailingZeros_0f7a4_79 ⟨nn_self_eq (co_dec (N := 32) (P := fun k => (0 < k ∧ 65536 < (2 ^ k - 1) ∧ 256 < ((2 ^ k - 1) >>> 16) ∧ 16 < (((2 ^ k - 1) >>> 16) >>> 8) ∧ 4 < ((((2 ^ k - 1) >>> 16) >>> 8) >>> 4)) → 1 + 16 + 8 + 4 + 2 + ((((((2 ^ k - 1) >>> 16) >>> 8) >>> 4) >>> 2) >>> 1) = k) (by decide +kernel) hk32 ⟨hk0, h_23, h_38, h_52, h_64⟩), rfl⟩
  · refine V.iload_n (pc := 12) 0 dJ6_numberOfTrailingZeros_0f7a4_12 rfl ?_
    refine V.bipush (pc := 13) (v := nI 32) dJ6_numberOfTrailingZeros_0f7a4_13 (by decide) ?_
    refine V.iand (pc := 15) (v := nI ((2 ^ k - 1) &&& 32)) dJ6_numberOfTrailingZeros_0f7a4_15 (nn_and _ _) ?_
    exact V.iret (pc := 16) hF dJ6_numberOfTrailingZeros_0f7a4_16 ⟨by rw [h_9, pw_0 h_9]; rfl, rfl⟩
theorem ok_ntz00 {G : Gx} {μ : Mu}  : RunsP 0 M_J6_numberOfTrailingZeros_0f7a4 [.int (nI 0)] G μ (.int (nI 32)) := by
  refine Runs.go RJ6 rfl (by decide) [(0, .int (nI 0))] (Nat.le_of_ble_eq_true rfl) rfl (fun X hF => ?_)
  refine V.iload_n (pc := 0) 0 dJ6_numberOfTrailingZeros_0f7a4_0 rfl ?_
  refine V.iconst (pc := 1) (v := (-1)) dJ6_numberOfTrailingZeros_0f7a4_1 (by decide) ?_
  refine V.ixor (pc := 2) (v := nI 0 ^^^ (-1)) dJ6_numberOfTrailingZeros_0f7a4_2 rfl ?_
  refine V.iload_n (pc := 3) 0 dJ6_numberOfTrailingZeros_0f7a4_3 rfl ?_
  refine V.iconst (pc := 4) (v := nI 1) dJ6_numberOfTrailingZeros_0f7a4_4 (by decide) ?_
  refine V.isub (pc := 5) (v := (-1)) dJ6_numberOfTrailingZeros_0f7a4_5 (by decide) ?_
  refine V.iand (pc := 6) (v := (-1)) dJ6_numberOfTrailingZeros_0f7a4_6 (by decide) ?_
  refine V.istore_n (pc := 7) (lv' := [(0, .int (-1))]) dJ6_numberOfTrailingZeros_0f7a4_7 (by decide) rfl ?_
  refine V.iload_n (pc := 8) 0 dJ6_numberOfTrailingZeros_0f7a4_8 rfl ?_
  refine V.if_gt (pc := 9) 17 dJ6_numberOfTrailingZeros_0f7a4_9 (by decide) (fun h_9 => ?_) (fun h_9 => ?_)
  · exact absurd h_9 (by decide)
  · refine V.iload_n (pc := 12) 0 dJ6_numberOfTrailingZeros_0f7a4_12 rfl ?_
    refine V.bipush (pc := 13) (v := nI 32) dJ6_numberOfTrailingZeros_0f7a4_13 (by decide) ?_
    refine V.iand (pc := 15) (v := nI 32) dJ6_numberOfTrailingZeros_0f7a4_15 (by decide) ?_
    exact V.iret (pc := 16) hF dJ6_numberOfTrailingZeros_0f7a4_16 ⟨rfl, rfl⟩
theorem ntz_hi {m k : Nat} (h : Low m k) (hk : 32 ≤ k) : m % 2 ^ 32 = 0 ∧ Low (m >>> 32) (k - 32) := by
  refine ⟨?_, ?_, fun j hj => ?_⟩
  · apply Nat.eq_of_testBit_eq
    intro j
    rw [Nat.testBit_mod_two_pow, Nat.zero_testBit]
    by_cases hj : j < 32
    · rw [h.2 j (by omega)]; simp
    · simp [hj]
  · rw [Nat.testBit_shiftRight, show 32 + (k - 32) = k by omega]
    exact h.1
  · rw [Nat.testBit_shiftRight]
    exact h.2 _ (by omega)
theorem low_modp {m k : Nat} (h : Low m k) (hk : k < 32) : 0 < m % 2 ^ 32 := low_pos (low_mod h hk)
theorem ok_ntz {G : Gx} {μ : Mu} (k m : Nat) (hm : m < 2 ^ 63) (h : Low m k) : RunsP 1 M_J13_numberOfTrailingZeros_95d88 [.long (lN m)] G μ (.int (nI k)) := by
  have hmm : m % 2 ^ 32 < 2 ^ 32 := Nat.mod_lt _ (by decide)
  have hsh : m >>> 32 < 2 ^ 32 := by rw [Nat.shiftRight_eq_div_pow]; omega
  have hk63 := low_lt h hm
  refine Runs.go RJ13 rfl (by decide) [(0, .long (lN m))] (Nat.le_of_ble_eq_true rfl) rfl (fun X hF => ?_)
  refine V.lload_n (pc := 0) 0 dJ13_numberOfTrailingZeros_95d88_0 rfl ?_
  refine V.l2i (pc := 1) (v := nI (m % 2 ^ 32)) dJ13_numberOfTrailingZeros_95d88_1 ((lN_i m).trans (nn_mod m)) ?_
  refine V.istore_n (pc := 2) (lv' := [(0, .long (lN m)), (2, .int (nI (m % 2 ^ 32)))]) dJ13_numberOfTrailingZeros_95d88_2 (by decide) rfl ?_
  refine V.iload_n (pc := 3) 1 dJ13_numberOfTrailingZeros_95d88_3 rfl ?_
  refine V.ifN_ne (pc := 4) 21 dJ13_numberOfTrailingZeros_95d88_4 (by decide) (by omega) (fun h_4 => ?_) (fun h_4 => ?_)
  · have hk : k < 32 := by
      rcases Nat.lt_or_ge k 32 with e | e
      · exact e
      · exact absurd (ntz_hi h e).1 (by omega)
    refine V.iload_n (pc := 21) 1 dJ13_numberOfTrailingZeros_95d88_21 rfl ?_
    refine cp_J13_311 (pc := 22) dJ13_numberOfTrailingZeros_95d88_22 (ok_ntz0 k (m % 2 ^ 32) hmm (low_mod h hk)) (by omega) (Nat.le_of_ble_eq_true rfl) ?_
    exact V.iret (pc := 25) hF dJ13_numberOfTrailingZeros_95d88_25 ⟨rfl, rfl⟩
  · have hk : 32 ≤ k := by
      rcases Nat.lt_or_ge k 32 with e | e
      · exact absurd (low_modp h e) (by omega)
      · exact e
    refine V.bipush (pc := 7) (v := nI 32) dJ13_numberOfTrailingZeros_95d88_7 (by decide) ?_
    refine V.lload_n (pc := 9) 0 dJ13_numberOfTrailingZeros_95d88_9 rfl ?_
    refine V.bipush (pc := 10) (v := nI 32) dJ13_numberOfTrailingZeros_95d88_10 (by decide) ?_
    refine V.lushr (pc := 12) (v := lN (m >>> 32)) dJ13_numberOfTrailingZeros_95d88_12 (ll_ushr (by omega) (by omega)) ?_
    refine V.l2i (pc := 13) (v := nI (m >>> 32)) dJ13_numberOfTrailingZeros_95d88_13 (lN_i _) ?_
    refine cp_J13_311 (pc := 14) dJ13_numberOfTrailingZeros_95d88_14 (ok_ntz0 (k - 32) (m >>> 32) hsh (ntz_hi h hk).2) (by omega) (Nat.le_of_ble_eq_true rfl) ?_
    refine V.iadd (pc := 17) (v := nI (32 + (k - 32))) dJ13_numberOfTrailingZeros_95d88_17 (nI_add _ _) ?_
    refine V.goto (pc := 18) 25 dJ13_numberOfTrailingZeros_95d88_18 (by decide) ?_
    exact V.iret (pc := 25) hF dJ13_numberOfTrailingZeros_95d88_25 ⟨nn_self_eq (by omega), rfl⟩
theorem ok_ntzz {G : Gx} {μ : Mu}  : RunsP 1 M_J13_numberOfTrailingZeros_95d88 [.long (lN 0)] G μ (.int (nI 64)) := by
  refine Runs.go RJ13 rfl (by decide) [(0, .long (lN 0))] (Nat.le_of_ble_eq_true rfl) rfl (fun X hF => ?_)
  refine V.lload_n (pc := 0) 0 dJ13_numberOfTrailingZeros_95d88_0 rfl ?_
  refine V.l2i (pc := 1) (v := nI 0) dJ13_numberOfTrailingZeros_95d88_1 (lN_i _) ?_
  refine V.istore_n (pc := 2) (lv' := [(0, .long (lN 0)), (2, .int (nI 0))]) dJ13_numberOfTrailingZeros_95d88_2 (by decide) rfl ?_
  refine V.iload_n (pc := 3) 1 dJ13_numberOfTrailingZeros_95d88_3 rfl ?_
  refine V.ifN_ne (pc := 4) 21 dJ13_numberOfTrailingZeros_95d88_4 (by decide) (by omega) (fun h_4 => ?_) (fun h_4 => ?_)
  · exact absurd h_4 (by decide)
  · refine V.bipush (pc := 7) (v := nI 32) dJ13_numberOfTrailingZeros_95d88_7 (by decide) ?_
    refine V.lload_n (pc := 9) 0 dJ13_numberOfTrailingZeros_95d88_9 rfl ?_
    refine V.bipush (pc := 10) (v := nI 32) dJ13_numberOfTrailingZeros_95d88_10 (by decide) ?_
    refine V.lushr (pc := 12) (v := lN (0 >>> 32)) dJ13_numberOfTrailingZeros_95d88_12 (ll_ushr (by decide) (by decide)) ?_
    refine V.l2i (pc := 13) (v := nI (0 >>> 32)) dJ13_numberOfTrailingZeros_95d88_13 (lN_i _) ?_
    refine cp_J13_311 (pc := 14) dJ13_numberOfTrailingZeros_95d88_14 ok_ntz00 (by omega) (Nat.le_of_ble_eq_true rfl) ?_
    refine V.iadd (pc := 17) (v := nI 64) dJ13_numberOfTrailingZeros_95d88_17 ((nI_add _ _).trans (congrArg nI rfl)) ?_
    refine V.goto (pc := 18) 25 dJ13_numberOfTrailingZeros_95d88_18 (by decide) ?_
    exact V.iret (pc := 25) hF dJ13_numberOfTrailingZeros_95d88_25 ⟨rfl, rfl⟩
theorem ok_cmp {G : Gx} {μ : Mu} (a b : Nat) (ha : a < 2 ^ 31) (hb : b < 2 ^ 31) : RunsP 0 M_J6_compare_7cf53 [.int (nI a), .int (nI b)] G μ (.int (if a < b then -1 else if a = b then 0 else 1)) := by
  refine Runs.go RJ6 rfl (by decide) [(0, .int (nI a)), (1, .int (nI b))] (Nat.le_of_ble_eq_true rfl) rfl (fun X hF => ?_)
  refine V.iload_n (pc := 0) 0 dJ6_compare_7cf53_0 rfl ?_
  refine V.iload_n (pc := 1) 1 dJ6_compare_7cf53_1 rfl ?_
  refine V.icmpN_ge (pc := 2) 9 dJ6_compare_7cf53_2 (by decide) (by omega) (by omega) (fun h_2 => ?_) (fun h_2 => ?_)
  · refine V.iload_n (pc := 9) 0 dJ6_compare_7cf53_9 rfl ?_
    refine V.iload_n (pc := 10) 1 dJ6_compare_7cf53_10 rfl ?_
    refine V.icmpN_ne (pc := 11) 18 dJ6_compare_7cf53_11 (by decide) (by omega) (by omega) (fun h_11 => ?_) (fun h_11 => ?_)
    · refine V.iconst (pc := 18) (v := nI 1) dJ6_compare_7cf53_18 (by decide) ?_
      exact V.iret (pc := 19) hF dJ6_compare_7cf53_19 ⟨by rw [if_neg (by omega), if_neg h_11]; rfl, rfl⟩
    · refine V.iconst (pc := 14) (v := nI 0) dJ6_compare_7cf53_14 (by decide) ?_
      refine V.goto (pc := 15) 19 dJ6_compare_7cf53_15 (by decide) ?_
      exact V.iret (pc := 19) hF dJ6_compare_7cf53_19 ⟨by rw [if_neg (by omega), if_pos h_11]; rfl, rfl⟩
  · refine V.iconst (pc := 5) (v := (-1)) dJ6_compare_7cf53_5 (by decide) ?_
    refine V.goto (pc := 6) 19 dJ6_compare_7cf53_6 (by decide) ?_
    exact V.iret (pc := 19) hF dJ6_compare_7cf53_19 ⟨by rw [if_pos h_2], rfl⟩
