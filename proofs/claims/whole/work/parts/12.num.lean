/-! numbers: nI, lN of naturals under every operation that the code uses -/
theorem nn_bv (a : Nat) : (nI a).toBitVec = BitVec.ofNat 32 a := rfl
theorem ll_bv (a : Nat) : (lN a).toBitVec = BitVec.ofNat 64 a := rfl
theorem nn_and (a b : Nat) : nI a &&& nI b = nI (a &&& b) := by
  apply Int32.toBitVec_inj.1
  show BitVec.ofNat 32 a &&& BitVec.ofNat 32 b = BitVec.ofNat 32 (a &&& b)
  apply BitVec.eq_of_getLsbD_eq
  intro i hi
  simp [hi]
theorem nn_or (a b : Nat) : nI a ||| nI b = nI (a ||| b) := by
  apply Int32.toBitVec_inj.1
  show BitVec.ofNat 32 a ||| BitVec.ofNat 32 b = BitVec.ofNat 32 (a ||| b)
  apply BitVec.eq_of_getLsbD_eq
  intro i hi
  simp [hi]
theorem ll_and (a b : Nat) : lN a &&& lN b = lN (a &&& b) := by
  apply Int64.toBitVec_inj.1
  show BitVec.ofNat 64 a &&& BitVec.ofNat 64 b = BitVec.ofNat 64 (a &&& b)
  apply BitVec.eq_of_getLsbD_eq
  intro i hi
  simp [hi]
theorem ll_or (a b : Nat) : lN a ||| lN b = lN (a ||| b) := by
  apply Int64.toBitVec_inj.1
  show BitVec.ofNat 64 a ||| BitVec.ofNat 64 b = BitVec.ofNat 64 (a ||| b)
  apply BitVec.eq_of_getLsbD_eq
  intro i hi
  simp [hi]
/-- a without b's bits -/
def adn (a b : Nat) : Nat := a ^^^ (a &&& b)
theorem adn_bit (a b i : Nat) : (adn a b).testBit i = (a.testBit i && !b.testBit i) := by
  unfold adn
  rw [Nat.testBit_xor, Nat.testBit_and]
  cases a.testBit i <;> cases b.testBit i <;> rfl
theorem nn_adn (a b : Nat) : nI a &&& (nI b ^^^ (-1)) = nI (adn a b) := by
  apply Int32.toBitVec_inj.1
  show BitVec.ofNat 32 a &&& (BitVec.ofNat 32 b ^^^ BitVec.allOnes 32) = BitVec.ofNat 32 (adn a b)
  apply BitVec.eq_of_getLsbD_eq
  intro i hi
  simp only [BitVec.getLsbD_and, BitVec.getLsbD_xor, BitVec.getLsbD_ofNat, BitVec.getLsbD_allOnes, hi, decide_true, Bool.true_and, adn_bit, Bool.xor_true]
theorem ll_adn (a b : Nat) : lN a &&& (lN b ^^^ (-1)) = lN (adn a b) := by
  apply Int64.toBitVec_inj.1
  show BitVec.ofNat 64 a &&& (BitVec.ofNat 64 b ^^^ BitVec.allOnes 64) = BitVec.ofNat 64 (adn a b)
  apply BitVec.eq_of_getLsbD_eq
  intro i hi
  simp only [BitVec.getLsbD_and, BitVec.getLsbD_xor, BitVec.getLsbD_ofNat, BitVec.getLsbD_allOnes, hi, decide_true, Bool.true_and, adn_bit, Bool.xor_true]
theorem nn_s32 : ∀ k, k < 32 → ((nI k &&& 31).toBitVec.smod 32).toNat = k := by decide +kernel
theorem nn_u32 : ∀ k, k < 32 → (((nI k).toUInt32 &&& Int32.toUInt32 31).toBitVec % 32).toNat = k := by decide +kernel
theorem ll_s64 : ∀ k, k < 64 → (((nI k).toInt64 &&& 63).toBitVec.smod 64).toNat = k := by decide +kernel
theorem ll_u64 : ∀ k, k < 64 → (((nI k).toInt64.toUInt64 &&& Int64.toUInt64 63).toBitVec % 64).toNat = k := by decide +kernel
theorem nn_shl (a : Nat) {k : Nat} (hk : k < 32) : nI a <<< (nI k &&& 31) = nI (a <<< k) := by
  apply Int32.toBitVec_inj.1
  show (nI a).toBitVec <<< ((nI k &&& 31).toBitVec.smod 32).toNat = BitVec.ofNat 32 (a <<< k)
  rw [nn_s32 k hk, nn_bv]
  apply BitVec.eq_of_getLsbD_eq
  intro i hi
  simp only [BitVec.getLsbD_shiftLeft, BitVec.getLsbD_ofNat, hi, decide_true, Bool.true_and, Nat.testBit_shiftLeft]
  by_cases h : k ≤ i
  · have h2 : i - k < 2 ^ 64 := Nat.lt_of_le_of_lt (Nat.sub_le _ _) (by omega)
    simp [h, Nat.not_lt.mpr h]
    try omega
  · simp [h, Nat.lt_of_not_le h]
theorem ll_shl (a : Nat) {k : Nat} (hk : k < 64) : lN a <<< ((nI k).toInt64 &&& 63) = lN (a <<< k) := by
  apply Int64.toBitVec_inj.1
  show (lN a).toBitVec <<< (((nI k).toInt64 &&& 63).toBitVec.smod 64).toNat = BitVec.ofNat 64 (a <<< k)
  rw [ll_s64 k hk, ll_bv]
  apply BitVec.eq_of_getLsbD_eq
  intro i hi
  simp only [BitVec.getLsbD_shiftLeft, BitVec.getLsbD_ofNat, hi, decide_true, Bool.true_and, Nat.testBit_shiftLeft]
  by_cases h : k ≤ i
  · have h2 : i - k < 2 ^ 64 := Nat.lt_of_le_of_lt (Nat.sub_le _ _) (by omega)
    simp [h, Nat.not_lt.mpr h]
    try omega
  · simp [h, Nat.lt_of_not_le h]
theorem nn_ushr {a k : Nat} (ha : a < 2 ^ 32) (hk : k < 32) : ((nI a).toUInt32 >>> ((nI k).toUInt32 &&& Int32.toUInt32 31)).toInt32 = nI (a >>> k) := by
  rw [pk_ushrN ha (nI k) k (nn_u32 k hk), Nat.shiftRight_eq_div_pow]
theorem ll_tn {n : Nat} (h : n < 2 ^ 64) : (lN n).toBitVec.toNat = n := by
  rw [ll_bv, BitVec.toNat_ofNat, Nat.mod_eq_of_lt h]
theorem ll_ushr {a k : Nat} (ha : a < 2 ^ 64) (hk : k < 64) : ((lN a).toUInt64 >>> ((nI k).toInt64.toUInt64 &&& Int64.toUInt64 63)).toInt64 = lN (a >>> k) := by
  have e : ((lN a).toUInt64 >>> ((nI k).toInt64.toUInt64 &&& Int64.toUInt64 63)).toInt64.toBitVec = (lN a).toBitVec >>> k := by
    have h := UInt64.toBitVec_shiftRight (lN a).toUInt64 ((nI k).toInt64.toUInt64 &&& Int64.toUInt64 63)
    have h2 : ((lN a).toUInt64 >>> ((nI k).toInt64.toUInt64 &&& Int64.toUInt64 63)).toInt64.toBitVec = (lN a).toBitVec >>> ((((nI k).toInt64.toUInt64 &&& Int64.toUInt64 63).toBitVec % 64)) := h
    rw [h2, BitVec.ushiftRight_eq', ll_u64 k hk]
  apply Int64.toBitVec_inj.1
  apply BitVec.eq_of_toNat_eq
  have hs : a >>> k < 2 ^ 64 := Nat.lt_of_le_of_lt (by rw [Nat.shiftRight_eq_div_pow]; exact Nat.div_le_self _ _) ha
  rw [e, BitVec.toNat_ushiftRight, ll_tn ha, ll_tn hs]
theorem ll_shr {a k : Nat} (ha : a < 2 ^ 63) (hk : k < 64) : lN a >>> ((nI k).toInt64 &&& 63) = lN (a >>> k) := by
  apply Int64.toBitVec_inj.1
  show (lN a).toBitVec.sshiftRight (((nI k).toInt64 &&& 63).toBitVec.smod 64).toNat = BitVec.ofNat 64 (a >>> k)
  rw [ll_s64 k hk]
  have hm : (lN a).toBitVec.msb = false := by
    rw [BitVec.msb_eq_false_iff_two_mul_lt, ll_tn (by omega)]
    omega
  rw [BitVec.sshiftRight_eq_of_msb_false hm]
  apply BitVec.eq_of_toNat_eq
  have hs : a >>> k < 2 ^ 64 := Nat.lt_of_le_of_lt (by rw [Nat.shiftRight_eq_div_pow]; exact Nat.div_le_self _ _) (by omega)
  rw [BitVec.toNat_ushiftRight, ll_tn (by omega), BitVec.toNat_ofNat, Nat.mod_eq_of_lt hs]
theorem nn_inc (i : Nat) : nI i + Int32.ofInt 1 = nI (i + 1) := nI_1 i
theorem nn_dec (i : Nat) : nI (i + 1) + Int32.ofInt (-1) = nI i := pk_m1 i
theorem nn_0 : (0 : Int32) = nI 0 := rfl
theorem nn_ne_m1 {a : Nat} (h : a < 2 ^ 31) : ¬ nI a = -1 := by
  intro e
  have h1 := nI_toInt h
  rw [e] at h1
  have h2 : (-1 : Int32).toInt = -1 := by decide
  omega
theorem nn_eq32 {a b : Nat} (ha : a < 2 ^ 32) (hb : b < 2 ^ 32) : nI a = nI b ↔ a = b := by
  refine ⟨fun h => ?_, fun h => by rw [h]⟩
  have h1 := congrArg (fun x : Int32 => x.toBitVec.toNat) h
  have h1 : (nI a).toBitVec.toNat = (nI b).toBitVec.toNat := h1
  rwa [pk_tn ha, pk_tn hb] at h1
theorem ll_eq64 {a b : Nat} (ha : a < 2 ^ 64) (hb : b < 2 ^ 64) : lN a = lN b ↔ a = b := by
  refine ⟨fun h => ?_, fun h => by rw [h]⟩
  have h1 : (lN a).toBitVec.toNat = (lN b).toBitVec.toNat := congrArg (fun x : Int64 => x.toBitVec.toNat) h
  rwa [ll_tn ha, ll_tn hb] at h1
theorem nn_b0 (p : Bool) : nI p.toNat = 0 ↔ p = false := by cases p <;> decide
theorem nn_nb (p : Bool) : narrow .boolean (.int (nI p.toNat)) = .int (nI p.toNat) := by cases p <;> rfl
theorem nn_fb (p : Bool) : fits .boolean (.int (nI p.toNat)) = true := by cases p <;> rfl
section VN
variable {G : Gx} {own : String} {cc : ByteArray} {nL d : Nat} {X : Cx} {pc : Nat} {lv : List (Nat × Value)} {rest : List Value} {μ : Mu}
theorem V.icmpN_eq {a b : Nat} {off : Int} (tgt : Nat) (hd : decode cc pc = .ok (.if_icmp .eq off, 3)) (ht : (pc : Int) + off = (tgt : Int)) (ha : a < 2 ^ 32) (hb : b < 2 ^ 32) (kt : a = b → V G own cc nL d X tgt lv rest μ) (kf : ¬ a = b → V G own cc nL d X (pc + 3) lv rest μ) : V G own cc nL d X pc lv (.int (nI b) :: .int (nI a) :: rest) μ :=
  V.icmp_eq tgt hd ht (fun h => kt ((nn_eq32 ha hb).mp h)) (fun h => kf (fun e => h (by rw [e])))
theorem V.icmpN_ne {a b : Nat} {off : Int} (tgt : Nat) (hd : decode cc pc = .ok (.if_icmp .ne off, 3)) (ht : (pc : Int) + off = (tgt : Int)) (ha : a < 2 ^ 32) (hb : b < 2 ^ 32) (kt : ¬ a = b → V G own cc nL d X tgt lv rest μ) (kf : a = b → V G own cc nL d X (pc + 3) lv rest μ) : V G own cc nL d X pc lv (.int (nI b) :: .int (nI a) :: rest) μ :=
  V.icmp_ne tgt hd ht (fun h => kt (fun e => h (by rw [e]))) (fun h => kf ((nn_eq32 ha hb).mp h))
theorem V.icmpN_lt {a b : Nat} {off : Int} (tgt : Nat) (hd : decode cc pc = .ok (.if_icmp .lt off, 3)) (ht : (pc : Int) + off = (tgt : Int)) (ha : a < 2 ^ 31) (hb : b < 2 ^ 31) (kt : a < b → V G own cc nL d X tgt lv rest μ) (kf : b ≤ a → V G own cc nL d X (pc + 3) lv rest μ) : V G own cc nL d X pc lv (.int (nI b) :: .int (nI a) :: rest) μ :=
  V.icmp_lt tgt hd ht (fun h => kt ((nI_ltI ha hb).mp h)) (fun h => kf (Nat.not_lt.mp (fun e => h ((nI_ltI ha hb).mpr e))))
theorem V.icmpN_ge {a b : Nat} {off : Int} (tgt : Nat) (hd : decode cc pc = .ok (.if_icmp .ge off, 3)) (ht : (pc : Int) + off = (tgt : Int)) (ha : a < 2 ^ 31) (hb : b < 2 ^ 31) (kt : b ≤ a → V G own cc nL d X tgt lv rest μ) (kf : a < b → V G own cc nL d X (pc + 3) lv rest μ) : V G own cc nL d X pc lv (.int (nI b) :: .int (nI a) :: rest) μ :=
  V.icmp_ge tgt hd ht (fun h => kt ((nI_leI hb ha).mp h)) (fun h => kf (Nat.not_le.mp (fun e => h ((nI_leI hb ha).mpr e))))
theorem V.icmpN_gt {a b : Nat} {off : Int} (tgt : Nat) (hd : decode cc pc = .ok (.if_icmp .gt off, 3)) (ht : (pc : Int) + off = (tgt : Int)) (ha : a < 2 ^ 31) (hb : b < 2 ^ 31) (kt : b < a → V G own cc nL d X tgt lv rest μ) (kf : a ≤ b → V G own cc nL d X (pc + 3) lv rest μ) : V G own cc nL d X pc lv (.int (nI b) :: .int (nI a) :: rest) μ :=
  V.icmp_gt tgt hd ht (fun h => kt ((nI_ltI hb ha).mp h)) (fun h => kf (Nat.not_lt.mp (fun e => h ((nI_ltI hb ha).mpr e))))
theorem V.icmpN_le {a b : Nat} {off : Int} (tgt : Nat) (hd : decode cc pc = .ok (.if_icmp .le off, 3)) (ht : (pc : Int) + off = (tgt : Int)) (ha : a < 2 ^ 31) (hb : b < 2 ^ 31) (kt : a ≤ b → V G own cc nL d X tgt lv rest μ) (kf : b < a → V G own cc nL d X (pc + 3) lv rest μ) : V G own cc nL d X pc lv (.int (nI b) :: .int (nI a) :: rest) μ :=
  V.icmp_le tgt hd ht (fun h => kt ((nI_leI ha hb).mp h)) (fun h => kf (Nat.not_le.mp (fun e => h ((nI_leI ha hb).mpr e))))
theorem V.ifN_eq {a : Nat} {off : Int} (tgt : Nat) (hd : decode cc pc = .ok (.ifCond .eq off, 3)) (ht : (pc : Int) + off = (tgt : Int)) (ha : a < 2 ^ 32) (kt : a = 0 → V G own cc nL d X tgt lv rest μ) (kf : 0 < a → V G own cc nL d X (pc + 3) lv rest μ) : V G own cc nL d X pc lv (.int (nI a) :: rest) μ :=
  V.if_eq tgt hd ht (fun h => kt ((nn_eq32 ha (by decide)).mp h)) (fun h => kf (Nat.pos_of_ne_zero (fun e => h (by rw [e]; rfl))))
theorem V.ifN_ne {a : Nat} {off : Int} (tgt : Nat) (hd : decode cc pc = .ok (.ifCond .ne off, 3)) (ht : (pc : Int) + off = (tgt : Int)) (ha : a < 2 ^ 32) (kt : 0 < a → V G own cc nL d X tgt lv rest μ) (kf : a = 0 → V G own cc nL d X (pc + 3) lv rest μ) : V G own cc nL d X pc lv (.int (nI a) :: rest) μ :=
  V.if_ne tgt hd ht (fun h => kt (Nat.pos_of_ne_zero (fun e => h (by rw [e]; rfl)))) (fun h => kf ((nn_eq32 ha (by decide)).mp h))
theorem V.ifN_le {a : Nat} {off : Int} (tgt : Nat) (hd : decode cc pc = .ok (.ifCond .le off, 3)) (ht : (pc : Int) + off = (tgt : Int)) (ha : a < 2 ^ 31) (kt : a = 0 → V G own cc nL d X tgt lv rest μ) (kf : 0 < a → V G own cc nL d X (pc + 3) lv rest μ) : V G own cc nL d X pc lv (.int (nI a) :: rest) μ :=
  V.if_le tgt hd ht (fun h => kt (Nat.le_zero.mp ((nI_leI ha (by decide)).mp h))) (fun h => kf (Nat.not_le.mp (fun e => h ((nI_leI ha (by decide : 0 < 2 ^ 31)).mpr e))))
theorem V.ifN_gt {a : Nat} {off : Int} (tgt : Nat) (hd : decode cc pc = .ok (.ifCond .gt off, 3)) (ht : (pc : Int) + off = (tgt : Int)) (ha : a < 2 ^ 31) (kt : 0 < a → V G own cc nL d X tgt lv rest μ) (kf : a = 0 → V G own cc nL d X (pc + 3) lv rest μ) : V G own cc nL d X pc lv (.int (nI a) :: rest) μ :=
  V.if_gt tgt hd ht (fun h => kt ((nI_ltI (by decide : 0 < 2 ^ 31) ha).mp h)) (fun h => kf (Nat.le_zero.mp (Nat.not_lt.mp (fun e => h ((nI_ltI (by decide : 0 < 2 ^ 31) ha).mpr e)))))
theorem V.ifN_lt {a : Nat} {off : Int} (tgt : Nat) (hd : decode cc pc = .ok (.ifCond .lt off, 3)) (ht : (pc : Int) + off = (tgt : Int)) (ha : a < 2 ^ 31) (kf : V G own cc nL d X (pc + 3) lv rest μ) : V G own cc nL d X pc lv (.int (nI a) :: rest) μ :=
  V.if_lt tgt hd ht (fun h => absurd h (nI_pos ha)) (fun _ => kf)
theorem V.ifN_ge {a : Nat} {off : Int} (tgt : Nat) (hd : decode cc pc = .ok (.ifCond .ge off, 3)) (ht : (pc : Int) + off = (tgt : Int)) (ha : a < 2 ^ 31) (kt : V G own cc nL d X tgt lv rest μ) : V G own cc nL d X pc lv (.int (nI a) :: rest) μ :=
  V.if_ge tgt hd ht (fun _ => kt) (fun h => absurd (nI_pos' ha) h)
theorem V.ifB_eq {p : Bool} {off : Int} (tgt : Nat) (hd : decode cc pc = .ok (.ifCond .eq off, 3)) (ht : (pc : Int) + off = (tgt : Int)) (kt : p = false → V G own cc nL d X tgt lv rest μ) (kf : p = true → V G own cc nL d X (pc + 3) lv rest μ) : V G own cc nL d X pc lv (.int (nI p.toNat) :: rest) μ :=
  V.if_eq tgt hd ht (fun h => kt ((nn_b0 p).mp h)) (fun h => kf (by cases p; exact absurd rfl h; rfl))
theorem V.ifB_ne {p : Bool} {off : Int} (tgt : Nat) (hd : decode cc pc = .ok (.ifCond .ne off, 3)) (ht : (pc : Int) + off = (tgt : Int)) (kt : p = true → V G own cc nL d X tgt lv rest μ) (kf : p = false → V G own cc nL d X (pc + 3) lv rest μ) : V G own cc nL d X pc lv (.int (nI p.toNat) :: rest) μ :=
  V.if_ne tgt hd ht (fun h => kt (by cases p; exact absurd rfl h; rfl)) (fun h => kf ((nn_b0 p).mp h))
theorem lc_lt {a b : Nat} (ha : a < 2 ^ 63) (hb : b < 2 ^ 63) (h : a < b) : lg_cmp (lN a) (lN b) = -1 := by
  have h1 : ¬ lN b < lN a := fun e => absurd ((pk_lLT hb ha).mp e) (by omega)
  have h2 : ¬ lN a = lN b := fun e => absurd ((pk_lEQ ha hb).mp e) (by omega)
  simp [lg_cmp, h1, h2]
theorem lc_eq (x : Int64) : lg_cmp x x = 0 := by
  have h1 : ¬ x < x := by simp
  simp [lg_cmp, h1]
theorem lc_gt {a b : Nat} (ha : a < 2 ^ 63) (hb : b < 2 ^ 63) (h : b < a) : lg_cmp (lN a) (lN b) = 1 := by
  have h1 : lN b < lN a := (pk_lLT hb ha).mpr h
  simp [lg_cmp, h1]
/-- lcmp and the branch behind it -/
theorem V.lcN {a b : Nat} (hd : decode cc pc = .ok (.lcmp, 1)) (ha : a < 2 ^ 63) (hb : b < 2 ^ 63) (k1 : a < b → V G own cc nL d X (pc + 1) lv (.int (-1) :: rest) μ) (k2 : a = b → V G own cc nL d X (pc + 1) lv (.int 0 :: rest) μ) (k3 : b < a → V G own cc nL d X (pc + 1) lv (.int 1 :: rest) μ) : V G own cc nL d X pc lv (.long (lN b) :: .long (lN a) :: rest) μ := by
  rcases Nat.lt_trichotomy a b with h | h | h
  · exact V.lcmp hd (by rw [lc_lt ha hb h]; exact k1 h)
  · subst h; exact V.lcmp hd (by rw [lc_eq]; exact k2 rfl)
  · exact V.lcmp hd (by rw [lc_gt ha hb h]; exact k3 h)
theorem V.lcmpN_eq {a b : Nat} {off : Int} (tgt : Nat) (hd : decode cc pc = .ok (.lcmp, 1)) (hd2 : decode cc (pc + 1) = .ok (.ifCond .eq off, 3)) (ht : ((pc + 1 : Nat) : Int) + off = (tgt : Int)) (ha : a < 2 ^ 63) (hb : b < 2 ^ 63) (kt : a = b → V G own cc nL d X tgt lv rest μ) (kf : ¬ a = b → V G own cc nL d X (pc + 4) lv rest μ) : V G own cc nL d X pc lv (.long (lN b) :: .long (lN a) :: rest) μ :=
  V.lcN hd ha hb (fun h => V.if_eq tgt hd2 ht (fun e => absurd e (by decide)) (fun _ => kf (by omega))) (fun h => V.if_eq tgt hd2 ht (fun _ => kt h) (fun e => absurd rfl e)) (fun h => V.if_eq tgt hd2 ht (fun e => absurd e (by decide)) (fun _ => kf (by omega)))
theorem V.lcmpN_ne {a b : Nat} {off : Int} (tgt : Nat) (hd : decode cc pc = .ok (.lcmp, 1)) (hd2 : decode cc (pc + 1) = .ok (.ifCond .ne off, 3)) (ht : ((pc + 1 : Nat) : Int) + off = (tgt : Int)) (ha : a < 2 ^ 63) (hb : b < 2 ^ 63) (kt : ¬ a = b → V G own cc nL d X tgt lv rest μ) (kf : a = b → V G own cc nL d X (pc + 4) lv rest μ) : V G own cc nL d X pc lv (.long (lN b) :: .long (lN a) :: rest) μ :=
  V.lcN hd ha hb (fun h => V.if_ne tgt hd2 ht (fun _ => kt (by omega)) (fun e => absurd e (by decide))) (fun h => V.if_ne tgt hd2 ht (fun e => absurd rfl e) (fun _ => kf h)) (fun h => V.if_ne tgt hd2 ht (fun _ => kt (by omega)) (fun e => absurd e (by decide)))
theorem V.lcmpN_lt {a b : Nat} {off : Int} (tgt : Nat) (hd : decode cc pc = .ok (.lcmp, 1)) (hd2 : decode cc (pc + 1) = .ok (.ifCond .lt off, 3)) (ht : ((pc + 1 : Nat) : Int) + off = (tgt : Int)) (ha : a < 2 ^ 63) (hb : b < 2 ^ 63) (kt : a < b → V G own cc nL d X tgt lv rest μ) (kf : b ≤ a → V G own cc nL d X (pc + 4) lv rest μ) : V G own cc nL d X pc lv (.long (lN b) :: .long (lN a) :: rest) μ :=
  V.lcN hd ha hb (fun h => V.if_lt tgt hd2 ht (fun _ => kt h) (fun e => absurd (by decide) e)) (fun h => V.if_lt tgt hd2 ht (fun e => absurd e (by decide)) (fun _ => kf (by omega))) (fun h => V.if_lt tgt hd2 ht (fun e => absurd e (by decide)) (fun _ => kf (by omega)))
theorem V.lcmpN_ge {a b : Nat} {off : Int} (tgt : Nat) (hd : decode cc pc = .ok (.lcmp, 1)) (hd2 : decode cc (pc + 1) = .ok (.ifCond .ge off, 3)) (ht : ((pc + 1 : Nat) : Int) + off = (tgt : Int)) (ha : a < 2 ^ 63) (hb : b < 2 ^ 63) (kt : b ≤ a → V G own cc nL d X tgt lv rest μ) (kf : a < b → V G own cc nL d X (pc + 4) lv rest μ) : V G own cc nL d X pc lv (.long (lN b) :: .long (lN a) :: rest) μ :=
  V.lcN hd ha hb (fun h => V.if_ge tgt hd2 ht (fun e => absurd e (by decide)) (fun _ => kf h)) (fun h => V.if_ge tgt hd2 ht (fun _ => kt (by omega)) (fun e => absurd (by decide) e)) (fun h => V.if_ge tgt hd2 ht (fun _ => kt (by omega)) (fun e => absurd (by decide) e))
theorem V.lcmpN_gt {a b : Nat} {off : Int} (tgt : Nat) (hd : decode cc pc = .ok (.lcmp, 1)) (hd2 : decode cc (pc + 1) = .ok (.ifCond .gt off, 3)) (ht : ((pc + 1 : Nat) : Int) + off = (tgt : Int)) (ha : a < 2 ^ 63) (hb : b < 2 ^ 63) (kt : b < a → V G own cc nL d X tgt lv rest μ) (kf : a ≤ b → V G own cc nL d X (pc + 4) lv rest μ) : V G own cc nL d X pc lv (.long (lN b) :: .long (lN a) :: rest) μ :=
  V.lcN hd ha hb (fun h => V.if_gt tgt hd2 ht (fun e => absurd e (by decide)) (fun _ => kf (by omega))) (fun h => V.if_gt tgt hd2 ht (fun e => absurd e (by decide)) (fun _ => kf (by omega))) (fun h => V.if_gt tgt hd2 ht (fun _ => kt h) (fun e => absurd (by decide) e))
theorem V.lcmpN_le {a b : Nat} {off : Int} (tgt : Nat) (hd : decode cc pc = .ok (.lcmp, 1)) (hd2 : decode cc (pc + 1) = .ok (.ifCond .le off, 3)) (ht : ((pc + 1 : Nat) : Int) + off = (tgt : Int)) (ha : a < 2 ^ 63) (hb : b < 2 ^ 63) (kt : a ≤ b → V G own cc nL d X tgt lv rest μ) (kf : b < a → V G own cc nL d X (pc + 4) lv rest μ) : V G own cc nL d X pc lv (.long (lN b) :: .long (lN a) :: rest) μ :=
  V.lcN hd ha hb (fun h => V.if_le tgt hd2 ht (fun _ => kt (by omega)) (fun e => absurd (by decide) e)) (fun h => V.if_le tgt hd2 ht (fun _ => kt (by omega)) (fun e => absurd (by decide) e)) (fun h => V.if_le tgt hd2 ht (fun e => absurd e (by decide)) (fun _ => kf h))
end VN
theorem nn_shl1 {k : Nat} (hk : k < 32) : nI 1 <<< (nI k &&& 31) = nI (2 ^ k) := by rw [nn_shl 1 hk, Nat.one_shiftLeft]
theorem ll_shl1 {k : Nat} (hk : k < 64) : lN 1 <<< ((nI k).toInt64 &&& 63) = lN (2 ^ k) := by rw [ll_shl 1 hk, Nat.one_shiftLeft]
theorem nn_div0 {a : Nat} (h0 : 0 < a) (h : a < 2 ^ 31) : ¬ nI a = 0 := nI_ne0 h0 h
theorem Runs.go {d : Nat} {y : MethodName} {cc : ByteArray} {nL : Nat} {ret : Option FieldType} {av : List Value} {G : Gx} {μ : Mu} {Φ : Option Value → Mu → Prop} (own : String) (ho : y.cls = own) (hy : plainName own = true) (lv : List (Nat × Value)) (hn : (lg_sl av).length ≤ nL) (hlv : lv_args 0 av = lv)
    (body : ∀ X : Cx, Fin' G X ret Φ → V G own cc nL d X 0 lv [] μ) : Runs d (y, cc, nL, ret) av G μ Φ := by
  subst ho
  exact Runs.of hy hn hlv body
theorem Runs.mono {d d2 : Nat} {y : Mm} {av : List Value} {G : Gx} {μ : Mu} {Φ Ψ : Option Value → Mu → Prop} (h : Runs d y av G μ Φ) (hd : d = d2) (hm : ∀ r μ', Φ r μ' → Ψ r μ') : Runs d2 y av G μ Ψ := by
  subst hd
  intro l p e ha hc hk s m args below hf happ hP hK
  obtain ⟨n, o, h1, h2, h3, ⟨⟨r, μ', a1, a2, a3⟩, h5⟩⟩ := h l p e ha hc hk s m args below hf happ hP hK
  exact ⟨n, o, h1, h2, h3, ⟨⟨r, μ', a1, hm _ _ a2, a3⟩, h5⟩⟩
