/-! what an object is: its abstract state -/
abbrev AS : Type := (Nat → Nat) × Nat × Nat × (Nat → Nat) × TS × Nat × (Nat → TS)
def AS.bs (a : AS) : Nat → Nat := a.1
def AS.tb (a : AS) : Nat := a.2.1
def AS.fp (a : AS) : Nat := a.2.2.1
def AS.rf (a : AS) : Nat → Nat := a.2.2.2.1
def AS.S (a : AS) : TS := a.2.2.2.2.1
def AS.k (a : AS) : Nat := a.2.2.2.2.2.1
def AS.h (a : AS) : Nat → TS := a.2.2.2.2.2.2
def AS.ref (a : AS) (r : Nat) : AS := (a.bs, a.tb, a.fp, updN a.rf r (a.rf r + 1), a.S, a.k, a.h)
def AS.act (a : AS) (S : TS) : AS := (a.bs, a.tb, a.fp, a.rf, S, (if a.k = 8 then 8 else a.k + 1), push a.k a.h a.S)
/-- what the class holds of it -/
def Kl (μ : Mu) (a : AS) : Prop := μ.1 80 1 = nI a.tb ∧ a.tb ≤ 600 ∧ (∀ i, i < a.tb → μ.1 81 i = sbI (a.bs i) ∧ a.bs i < 256) ∧ μ.1 80 2 = pv a.fp ∧ (∀ r, r < 3 → μ.1 82 r = nI (a.rf r)) ∧ St μ 0 a.S ∧ ∃ o, Pa μ o a.k a.h
theorem Kl.st {μ : Mu} {a : AS} (h : Kl μ a) : St μ 0 a.S := h.2.2.2.2.2.1
theorem Kl.vs {μ : Mu} {a : AS} (h : Kl μ a) : VS a.S := h.st.vs
theorem Pa.fr {μ μ' : Mu} {P : Nat → Prop} {o k : Nat} {h : Nat → TS} (hp : Pa μ o k h) (hf : Fr μ μ' P) (hP : ∀ c, P c → (c < 16 ∨ 84 ≤ c ∨ c = 80 ∨ c = 81 ∨ c = 82)) : Pa μ' o k h := by
  obtain ⟨h1, h2, h3, h4, h5⟩ := hp
  have e := (hf 83 (fun q => by have := hP _ q; omega)).1
  refine ⟨by rw [e]; exact h1, by rw [e]; exact h2, h3, h4, fun i hi => (h5 i hi).fr hf (fun j hj q => ?_)⟩
  have := hP _ q
  omega
theorem Kl.fr {μ μ' : Mu} {a : AS} {P : Nat → Prop} (h : Kl μ a) (hf : Fr μ μ' P) (hP : ∀ c, P c → (84 ≤ c ∨ (8 ≤ c ∧ c < 16))) : Kl μ' a := by
  obtain ⟨h1, h2, h3, h4, h5, h6, o, h7⟩ := h
  have e80 := (hf 80 (fun q => by have := hP _ q; omega)).1
  have e81 := (hf 81 (fun q => by have := hP _ q; omega)).1
  have e82 := (hf 82 (fun q => by have := hP _ q; omega)).1
  exact ⟨by rw [e80]; exact h1, h2, fun i hi => by rw [e81]; exact h3 i hi, by rw [e80]; exact h4, fun r hr => by rw [e82]; exact h5 r hr, h6.fr hf (fun j hj q => by have := hP _ q; omega), o, h7.fr hf (fun c q => by have := hP c q; omega)⟩
theorem Kl.refB {μ : Mu} {a : AS} (h : Kl μ a) {r : Nat} (hr : r < 3) : Kl (rB μ r) (a.ref r) := by
  obtain ⟨h1, h2, h3, h4, h5, h6, o, h7⟩ := h
  refine ⟨by unfold rB; rw [si_c _ _ _ (by decide)]; exact h1, h2, fun i hi => by unfold rB; rw [si_c _ _ _ (by decide)]; exact h3 i hi, by unfold rB; rw [si_c _ _ _ (by decide)]; exact h4, fun r' hr' => ?_, h6.si (by decide) (by decide), o, h7.fr ((Fr.refl μ (fun c => c = 82)).si _ _ rfl) (fun c q => by omega)⟩
  show _ = nI (updN a.rf r (a.rf r + 1) r')
  by_cases e : r' = r
  · subst e
    unfold rB
    rw [si_s, updN_s, h5 r' hr, nI_add]
  · unfold rB
    rw [si_i _ _ _ e, updN_n e]
    exact h5 r' hr'
def CK (c : Nat) : Prop := c < 95
theorem Fr.ck {μ μ' : Mu} {P : Nat → Prop} (h : Fr μ μ' P) (hP : ∀ c, P c → c < 95) : Fr μ μ' CK := h.trans (Fr.refl μ' CK) hP (fun _ q => q)
theorem Fr.ck2 {μ μ1 μ' : Mu} {P : Nat → Prop} (h0 : Fr μ μ1 CK) (h : Fr μ1 μ' P) (hP : ∀ c, P c → c < 95) : Fr μ μ' CK := h0.trans h (fun _ q => q) hP
/-- an outcome: which throw (0 none), the answer, the state behind it -/
abbrev Res : Type := Nat × Int32 × AS
def rOk (v : Int32) (a : AS) : Res := (0, v, a)
def rNo (c : Nat) (a : AS) (r : Nat) : Res := (c, 0, a.ref r)
def CF (μ : Mu) (q : Res) (r : Option Value) (μ' : Mu) : Prop := q.1 = 0 ∧ r = some (.int q.2.1) ∧ Kl μ' q.2.2 ∧ Fr μ μ' CK
def CT (e1 e2 : String) (μ : Mu) (q : Res) (E : String) (μ' : Mu) : Prop := ((E = e1 ∧ q.1 = 1) ∨ (E = e2 ∧ q.1 = 2)) ∧ Kl μ' q.2.2 ∧ Fr μ μ' CK
theorem CF.mk {μ μ' : Mu} {q : Res} {v : Int32} {a : AS} (e : q = rOk v a) (hk : Kl μ' a) (hf : Fr μ μ' CK) : CF μ q (some (.int v)) μ' := by
  subst e; exact ⟨rfl, rfl, hk, hf⟩
theorem CT.one {μ μ1 μ' : Mu} {q : Res} {a : AS} {e1 e2 E : String} {r : Nat} (e : q = rNo 1 a r) (hk : Kl μ1 a) (hf : Fr μ μ1 CK) (hr : r < 3) (hE : E = e1) (hm : μ' = rB μ1 r) : CT e1 e2 μ q E μ' := by
  subst e; subst hm
  exact ⟨Or.inl ⟨hE, rfl⟩, hk.refB hr, hf.si _ _ (by unfold CK; decide)⟩
theorem CT.two {μ μ1 μ' : Mu} {q : Res} {a : AS} {e1 e2 E : String} {r : Nat} (e : q = rNo 2 a r) (hk : Kl μ1 a) (hf : Fr μ μ1 CK) (hr : r < 3) (hE : E = e2) (hm : μ' = rB μ1 r) : CT e1 e2 μ q E μ' := by
  subst e; subst hm
  exact ⟨Or.inr ⟨hE, rfl⟩, hk.refB hr, hf.si _ _ (by unfold CK; decide)⟩
/-! bytes -/
def by4 (x k : Nat) : Nat := (x >>> (24 - 8 * k)) % 256
theorem i2b_tab : ∀ b : Fin 256, (nI b.val).toInt8.toInt32 = sbI b.val := by decide +kernel
theorem sb_nar_tab : ∀ b : Fin 256, (sbI b.val).toInt8.toInt32 = sbI b.val := by decide +kernel
theorem nn_i2b (y : Nat) : (nI y).toInt8.toInt32 = sbI (y % 256) := by
  have e : (nI y).toInt8 = (nI (y % 256)).toInt8 := by
    apply Int8.toBitVec_inj.mp
    show (BitVec.ofNat 32 y).signExtend 8 = (BitVec.ofNat 32 (y % 256)).signExtend 8
    rw [BitVec.signExtend_eq_setWidth_of_le _ (by decide), BitVec.signExtend_eq_setWidth_of_le _ (by decide)]
    apply BitVec.eq_of_toNat_eq
    simp only [BitVec.toNat_setWidth, BitVec.toNat_ofNat]
    omega
  rw [e]
  exact i2b_tab ⟨y % 256, Nat.mod_lt _ (by decide)⟩
theorem nar_sb {b : Nat} (h : b < 256) : vp_nar .byte (sbI b) = sbI b := by
  rw [vp_nar_byte]
  exact sb_nar_tab ⟨b, h⟩
def pN (μ : Mu) (tb x : Nat) : Mu := si (si (si (si (si (si (si (si μ 81 tb (sbI (by4 x 0))) 80 1 (nI (tb + 1))) 81 (tb + 1) (sbI (by4 x 1))) 80 1 (nI (tb + 2))) 81 (tb + 2) (sbI (by4 x 2))) 80 1 (nI (tb + 3))) 81 (tb + 3) (sbI (by4 x 3))) 80 1 (nI (tb + 4))
def TP (μ : Mu) (bs : Nat → Nat) (tb : Nat) : Prop := μ.1 80 1 = nI tb ∧ ∀ i, i < tb → μ.1 81 i = sbI (bs i)
def ap4 (bs : Nat → Nat) (tb x i : Nat) : Nat := if i < tb then bs i else by4 x (i - tb)
theorem TP.put {μ : Mu} {bs : Nat → Nat} {tb : Nat} (h : TP μ bs tb) (x : Nat) : TP (pN μ tb x) (ap4 bs tb x) (tb + 4) := by
  refine ⟨by unfold pN; rw [si_s], fun i hi => ?_⟩
  have c : i < tb ∨ i = tb ∨ i = tb + 1 ∨ i = tb + 2 ∨ i = tb + 3 := by omega
  unfold ap4
  rcases c with c | c | c | c | c
  · rw [if_pos c, ← h.2 i c]
    unfold pN
    rw [si_c _ _ _ (by decide), si_i _ _ _ (by omega), si_c _ _ _ (by decide), si_i _ _ _ (by omega), si_c _ _ _ (by decide), si_i _ _ _ (by omega), si_c _ _ _ (by decide), si_i _ _ _ (by omega)]
  · subst c
    rw [if_neg (by omega), show i - i = 0 by omega]
    unfold pN
    rw [si_c _ _ _ (by decide), si_i _ _ _ (by omega), si_c _ _ _ (by decide), si_i _ _ _ (by omega), si_c _ _ _ (by decide), si_i _ _ _ (by omega), si_c _ _ _ (by decide), si_s]
  · subst c
    rw [if_neg (by omega), show tb + 1 - tb = 1 by omega]
    unfold pN
    rw [si_c _ _ _ (by decide), si_i _ _ _ (by omega), si_c _ _ _ (by decide), si_i _ _ _ (by omega), si_c _ _ _ (by decide), si_s]
  · subst c
    rw [if_neg (by omega), show tb + 2 - tb = 2 by omega]
    unfold pN
    rw [si_c _ _ _ (by decide), si_i _ _ _ (by omega), si_c _ _ _ (by decide), si_s]
  · subst c
    rw [if_neg (by omega), show tb + 3 - tb = 3 by omega]
    unfold pN
    rw [si_c _ _ _ (by decide), si_s]
theorem pN_fr {μ μ1 : Mu} {P : Nat → Prop} (h : Fr μ μ1 P) (h0 : P 80) (h1 : P 81) (tb x : Nat) : Fr μ (pN μ1 tb x) P := (((((((h.si _ _ h1).si _ _ h0).si _ _ h1).si _ _ h0).si _ _ h1).si _ _ h0).si _ _ h1).si _ _ h0
theorem pN_2 (μ : Mu) (tb x : Nat) : (pN μ tb x).1 80 2 = μ.1 80 2 := by
  unfold pN
  rw [si_i _ _ _ (by decide), si_c _ _ _ (by decide), si_i _ _ _ (by decide), si_c _ _ _ (by decide), si_i _ _ _ (by decide), si_c _ _ _ (by decide), si_i _ _ _ (by decide), si_c _ _ _ (by decide)]
theorem ok_X8_putNumber {G : Gx} {μ : Mu} (tb x : Nat) (htb : μ.1 80 1 = nI tb) (hb : tb + 4 ≤ 600) (hx : x < 2 ^ 32) : Runs 0 M_X8_putNumber [.ref (G.2.2 80), .int (nI x)] G μ (fun r μ' => r = none ∧ μ' = pN μ tb x) := by
  refine Runs.go RX8 rfl (by decide) [(0, .ref (G.2.2 80)), (1, .int (nI x))] (Nat.le_of_ble_eq_true rfl) rfl (fun X hF => ?_)
  refine V.bipush (pc := 0) (v := nI 24) dX8_putNumber_0 (by decide) ?_
  refine V.istore_n (pc := 2) (lv' := [(0, .ref (G.2.2 80)), (1, .int (nI x)), (2, .int (nI 24))]) dX8_putNumber_2 (by decide) rfl ?_
  refine V.iload_n (pc := 3) 2 dX8_putNumber_3 rfl ?_
  refine V.ifN_lt (pc := 4) 46 dX8_putNumber_4 (by decide) (by omega) ?_
  refine V.aload_n (pc := 7) 0 dX8_putNumber_7 rfl ?_
  refine gf_X8_13 (pc := 8) (v := nI tb) dX8_putNumber_8 htb ?_
  refine V.sipush (pc := 11) (v := nI 600) dX8_putNumber_11 (by decide) ?_
  refine V.icmpN_ge (pc := 14) 40 dX8_putNumber_14 (by decide) (by omega) (by omega) (fun h_14 => ?_) (fun h_14 => ?_)
  · exact absurd h_14 (by omega)
  · refine V.aload_n (pc := 17) 0 dX8_putNumber_17 rfl ?_
    refine gf_X8_9 (pc := 18) dX8_putNumber_18 ?_
    refine V.aload_n (pc := 21) 0 dX8_putNumber_21 rfl ?_
    refine gf_X8_13 (pc := 22) (v := nI tb) dX8_putNumber_22 htb ?_
    refine V.iload_n (pc := 25) 1 dX8_putNumber_25 rfl ?_
    refine V.iload_n (pc := 26) 2 dX8_putNumber_26 rfl ?_
    refine V.iushr (pc := 27) (v := nI (x >>> 24)) dX8_putNumber_27 (nn_ushr (by omega) (by omega)) ?_
    refine V.i2b (pc := 28) (v := sbI ((x >>> 24) % 256)) dX8_putNumber_28 (nn_i2b _) ?_
    refine V.bast (pc := 29) (k := 81) (n := 600) (v := sbI ((x >>> 24) % 256)) (Nat.le_of_ble_eq_true rfl) (fun _ _ => rfl) tb (by omega) (by decide) dX8_putNumber_29 (nar_sb (Nat.mod_lt _ (by decide))) ?_
    refine V.aload_n (pc := 30) 0 dX8_putNumber_30 rfl ?_
    refine V.dup (pc := 31) dX8_putNumber_31 rfl ?_
    refine gf_X8_13 (pc := 32) (v := nI tb) dX8_putNumber_32 (Eq.trans (congrFun (si_c _ _ _ (by decide)) _) htb) ?_
    refine V.iconst (pc := 35) (v := nI 1) dX8_putNumber_35 (by decide) ?_
    refine V.iadd (pc := 36) (v := nI (tb + 1)) dX8_putNumber_36 (nI_add _ _) ?_
    refine pf_X8_13 (pc := 37) dX8_putNumber_37 ?_
    refine V.iinc (pc := 40) (v := nI 16) (lv' := [(0, .ref (G.2.2 80)), (1, .int (nI x)), (2, .int (nI 16))]) 2 dX8_putNumber_40 rfl (by decide) (by decide) rfl ?_
    refine V.goto (pc := 43) 3 dX8_putNumber_43 (by decide) ?_
    refine V.iload_n (pc := 3) 2 dX8_putNumber_3 rfl ?_
    refine V.ifN_lt (pc := 4) 46 dX8_putNumber_4 (by decide) (by omega) ?_
    refine V.aload_n (pc := 7) 0 dX8_putNumber_7 rfl ?_
    refine gf_X8_13 (pc := 8) (v := nI (tb + 1)) dX8_putNumber_8 (si_s _ _ _ _) ?_
    refine V.sipush (pc := 11) (v := nI 600) dX8_putNumber_11 (by decide) ?_
    refine V.icmpN_ge (pc := 14) 40 dX8_putNumber_14 (by decide) (by omega) (by omega) (fun h_14 => ?_) (fun h_14 => ?_)
    · exact absurd h_14 (by omega)
    · refine V.aload_n (pc := 17) 0 dX8_putNumber_17 rfl ?_
      refine gf_X8_9 (pc := 18) dX8_putNumber_18 ?_
      refine V.aload_n (pc := 21) 0 dX8_putNumber_21 rfl ?_
      refine gf_X8_13 (pc := 22) (v := nI (tb + 1)) dX8_putNumber_22 (si_s _ _ _ _) ?_
      refine V.iload_n (pc := 25) 1 dX8_putNumber_25 rfl ?_
      refine V.iload_n (pc := 26) 2 dX8_putNumber_26 rfl ?_
      refine V.iushr (pc := 27) (v := nI (x >>> 16)) dX8_putNumber_27 (nn_ushr (by omega) (by omega)) ?_
      refine V.i2b (pc := 28) (v := sbI ((x >>> 16) % 256)) dX8_putNumber_28 (nn_i2b _) ?_
      refine V.bast (pc := 29) (k := 81) (n := 600) (v := sbI ((x >>> 16) % 256)) (Nat.le_of_ble_eq_true rfl) (fun _ _ => rfl) (tb + 1) (by omega) (by decide) dX8_putNumber_29 (nar_sb (Nat.mod_lt _ (by decide))) ?_
      refine V.aload_n (pc := 30) 0 dX8_putNumber_30 rfl ?_
      refine V.dup (pc := 31) dX8_putNumber_31 rfl ?_
      refine gf_X8_13 (pc := 32) (v := nI (tb + 1)) dX8_putNumber_32 ((Eq.trans (congrFun (si_c _ _ _ (by decide)) _) (si_s _ _ _ _))) ?_
      refine V.iconst (pc := 35) (v := nI 1) dX8_putNumber_35 (by decide) ?_
      refine V.iadd (pc := 36) (v := nI (tb + 1 + 1)) dX8_putNumber_36 (nI_add _ _) ?_
      refine pf_X8_13 (pc := 37) dX8_putNumber_37 ?_
      refine V.iinc (pc := 40) (v := nI 8) (lv' := [(0, .ref (G.2.2 80)), (1, .int (nI x)), (2, .int (nI 8))]) 2 dX8_putNumber_40 rfl (by decide) (by decide) rfl ?_
      refine V.goto (pc := 43) 3 dX8_putNumber_43 (by decide) ?_
      refine V.iload_n (pc := 3) 2 dX8_putNumber_3 rfl ?_
      refine V.ifN_lt (pc := 4) 46 dX8_putNumber_4 (by decide) (by omega) ?_
      refine V.aload_n (pc := 7) 0 dX8_putNumber_7 rfl ?_
      refine gf_X8_13 (pc := 8) (v := nI (tb + 1 + 1)) dX8_putNumber_8 (si_s _ _ _ _) ?_
      refine V.sipush (pc := 11) (v := nI 600) dX8_putNumber_11 (by decide) ?_
      refine V.icmpN_ge (pc := 14) 40 dX8_putNumber_14 (by decide) (by omega) (by omega) (fun h_14 => ?_) (fun h_14 => ?_)
      · exact absurd h_14 (by omega)
      · refine V.aload_n (pc := 17) 0 dX8_putNumber_17 rfl ?_
        refine gf_X8_9 (pc := 18) dX8_putNumber_18 ?_
        refine V.aload_n (pc := 21) 0 dX8_putNumber_21 rfl ?_
        refine gf_X8_13 (pc := 22) (v := nI (tb + 1 + 1)) dX8_putNumber_22 (si_s _ _ _ _) ?_
        refine V.iload_n (pc := 25) 1 dX8_putNumber_25 rfl ?_
        refine V.iload_n (pc := 26) 2 dX8_putNumber_26 rfl ?_
        refine V.iushr (pc := 27) (v := nI (x >>> 8)) dX8_putNumber_27 (nn_ushr (by omega) (by omega)) ?_
        refine V.i2b (pc := 28) (v := sbI ((x >>> 8) % 256)) dX8_putNumber_28 (nn_i2b _) ?_
        refine V.bast (pc := 29) (k := 81) (n := 600) (v := sbI ((x >>> 8) % 256)) (Nat.le_of_ble_eq_true rfl) (fun _ _ => rfl) (tb + 1 + 1) (by omega) (by decide) dX8_putNumber_29 (nar_sb (Nat.mod_lt _ (by decide))) ?_
        refine V.aload_n (pc := 30) 0 dX8_putNumber_30 rfl ?_
        refine V.dup (pc := 31) dX8_putNumber_31 rfl ?_
        refine gf_X8_13 (pc := 32) (v := nI (tb + 1 + 1)) dX8_putNumber_32 ((Eq.trans (congrFun (si_c _ _ _ (by decide)) _) (si_s _ _ _ _))) ?_
        refine V.iconst (pc := 35) (v := nI 1) dX8_putNumber_35 (by decide) ?_
        refine V.iadd (pc := 36) (v := nI (tb + 1 + 1 + 1)) dX8_putNumber_36 (nI_add _ _) ?_
        refine pf_X8_13 (pc := 37) dX8_putNumber_37 ?_
        refine V.iinc (pc := 40) (v := nI 0) (lv' := [(0, .ref (G.2.2 80)), (1, .int (nI x)), (2, .int (nI 0))]) 2 dX8_putNumber_40 rfl (by decide) (by decide) rfl ?_
        refine V.goto (pc := 43) 3 dX8_putNumber_43 (by decide) ?_
        refine V.iload_n (pc := 3) 2 dX8_putNumber_3 rfl ?_
        refine V.ifN_lt (pc := 4) 46 dX8_putNumber_4 (by decide) (by omega) ?_
        refine V.aload_n (pc := 7) 0 dX8_putNumber_7 rfl ?_
        refine gf_X8_13 (pc := 8) (v := nI (tb + 1 + 1 + 1)) dX8_putNumber_8 (si_s _ _ _ _) ?_
        refine V.sipush (pc := 11) (v := nI 600) dX8_putNumber_11 (by decide) ?_
        refine V.icmpN_ge (pc := 14) 40 dX8_putNumber_14 (by decide) (by omega) (by omega) (fun h_14 => ?_) (fun h_14 => ?_)
        · exact absurd h_14 (by omega)
        · refine V.aload_n (pc := 17) 0 dX8_putNumber_17 rfl ?_
          refine gf_X8_9 (pc := 18) dX8_putNumber_18 ?_
          refine V.aload_n (pc := 21) 0 dX8_putNumber_21 rfl ?_
          refine gf_X8_13 (pc := 22) (v := nI (tb + 1 + 1 + 1)) dX8_putNumber_22 (si_s _ _ _ _) ?_
          refine V.iload_n (pc := 25) 1 dX8_putNumber_25 rfl ?_
          refine V.iload_n (pc := 26) 2 dX8_putNumber_26 rfl ?_
          refine V.iushr (pc := 27) (v := nI (x >>> 0)) dX8_putNumber_27 (nn_ushr (by omega) (by omega)) ?_
          refine V.i2b (pc := 28) (v := sbI ((x >>> 0) % 256)) dX8_putNumber_28 (nn_i2b _) ?_
          refine V.bast (pc := 29) (k := 81) (n := 600) (v := sbI ((x >>> 0) % 256)) (Nat.le_of_ble_eq_true rfl) (fun _ _ => rfl) (tb + 1 + 1 + 1) (by omega) (by decide) dX8_putNumber_29 (nar_sb (Nat.mod_lt _ (by decide))) ?_
          refine V.aload_n (pc := 30) 0 dX8_putNumber_30 rfl ?_
          refine V.dup (pc := 31) dX8_putNumber_31 rfl ?_
          refine gf_X8_13 (pc := 32) (v := nI (tb + 1 + 1 + 1)) dX8_putNumber_32 ((Eq.trans (congrFun (si_c _ _ _ (by decide)) _) (si_s _ _ _ _))) ?_
          refine V.iconst (pc := 35) (v := nI 1) dX8_putNumber_35 (by decide) ?_
          refine V.iadd (pc := 36) (v := nI (tb + 1 + 1 + 1 + 1)) dX8_putNumber_36 (nI_add _ _) ?_
          refine pf_X8_13 (pc := 37) dX8_putNumber_37 ?_
          refine V.iinc (pc := 40) (v := (-8)) (lv' := [(0, .ref (G.2.2 80)), (1, .int (nI x)), (2, .int (-8))]) 2 dX8_putNumber_40 rfl (by decide) (by decide) rfl ?_
          refine V.goto (pc := 43) 3 dX8_putNumber_43 (by decide) ?_
          refine V.iload_n (pc := 3) 2 dX8_putNumber_3 rfl ?_
          refine V.if_lt (pc := 4) 46 dX8_putNumber_4 (by decide) (fun h_4 => ?_) (fun h_4 => ?_)
          · exact V.vret (pc := 46) hF dX8_putNumber_46 ⟨rfl, rfl⟩
          · exact absurd h_4 (by decide)
def fd5 (x1 x2 x3 x4 x5 k : Nat) : Nat := by4 (if k < 4 then x1 else if k < 8 then x2 else if k < 12 then x3 else if k < 16 then x4 else x5) (k % 4)
def fdB (a : AS) (x1 x2 x3 x4 x5 : Nat) (i : Nat) : Nat := if i < a.tb then a.bs i else fd5 x1 x2 x3 x4 x5 (i - a.tb)
def sp_feed (a : AS) (x1 x2 x3 x4 x5 : Nat) : Res := if a.tb + 20 ≤ 600 then rOk (nI (a.tb + 20)) (fdB a x1 x2 x3 x4 x5, a.tb + 20, a.fp, a.rf, a.S, a.k, a.h) else rOk (-1) a
theorem ap_fd (a : AS) (x1 x2 x3 x4 x5 : Nat) : ∀ i, i < a.tb + 20 → ap4 (ap4 (ap4 (ap4 (ap4 a.bs a.tb x1) (a.tb + 4) x2) (a.tb + 4 + 4) x3) (a.tb + 4 + 4 + 4) x4) (a.tb + 4 + 4 + 4 + 4) x5 i = fdB a x1 x2 x3 x4 x5 i := by
  intro i hi
  unfold ap4 fdB fd5
  by_cases c0 : i < a.tb
  · rw [if_pos (by omega), if_pos (by omega), if_pos (by omega), if_pos (by omega), if_pos c0, if_pos c0]
  · by_cases c1 : i < a.tb + 4
    · rw [if_pos (by omega), if_pos (by omega), if_pos (by omega), if_pos c1, if_neg c0, if_neg c0, if_pos (by omega), show (i - a.tb) % 4 = i - a.tb by omega]
    · by_cases c2 : i < a.tb + 4 + 4
      · rw [if_pos (by omega), if_pos (by omega), if_pos c2, if_neg c1, if_neg c0, if_neg (by omega), if_pos (by omega), show (i - a.tb) % 4 = i - (a.tb + 4) by omega]
      · by_cases c3 : i < a.tb + 4 + 4 + 4
        · rw [if_pos (by omega), if_pos c3, if_neg c2, if_neg c0, if_neg (by omega), if_neg (by omega), if_pos (by omega), show (i - a.tb) % 4 = i - (a.tb + 4 + 4) by omega]
        · by_cases c4 : i < a.tb + 4 + 4 + 4 + 4
          · rw [if_pos c4, if_neg c3, if_neg c0, if_neg (by omega), if_neg (by omega), if_neg (by omega), if_pos (by omega), show (i - a.tb) % 4 = i - (a.tb + 4 + 4 + 4) by omega]
          · rw [if_neg c4, if_neg c0, if_neg (by omega), if_neg (by omega), if_neg (by omega), if_neg (by omega), show (i - a.tb) % 4 = i - (a.tb + 4 + 4 + 4 + 4) by omega]
theorem fd5_lt (x1 x2 x3 x4 x5 k : Nat) : fd5 x1 x2 x3 x4 x5 k < 256 := Nat.mod_lt _ (by decide)
theorem Kl.fed {μ μ' : Mu} {a : AS} (h : Kl μ a) (x1 x2 x3 x4 x5 : Nat) (hr : a.tb + 20 ≤ 600) (e : μ' = pN (pN (pN (pN (pN μ a.tb x1) (a.tb + 4) x2) (a.tb + 4 + 4) x3) (a.tb + 4 + 4 + 4) x4) (a.tb + 4 + 4 + 4 + 4) x5) : Kl μ' (fdB a x1 x2 x3 x4 x5, a.tb + 20, a.fp, a.rf, a.S, a.k, a.h) ∧ Fr μ μ' CK := by
  subst e
  obtain ⟨h1, h2, h3, h4, h5, h6, o, h7⟩ := h
  have t := (((((show TP μ a.bs a.tb from ⟨h1, fun i hi => (h3 i hi).1⟩).put x1).put x2).put x3).put x4).put x5
  have f : Fr μ (pN (pN (pN (pN (pN μ a.tb x1) (a.tb + 4) x2) (a.tb + 4 + 4) x3) (a.tb + 4 + 4 + 4) x4) (a.tb + 4 + 4 + 4 + 4) x5) (fun c => c = 80 ∨ c = 81) := pN_fr (pN_fr (pN_fr (pN_fr (pN_fr (Fr.refl μ _) (Or.inl rfl) (Or.inr rfl) _ _) (Or.inl rfl) (Or.inr rfl) _ _) (Or.inl rfl) (Or.inr rfl) _ _) (Or.inl rfl) (Or.inr rfl) _ _) (Or.inl rfl) (Or.inr rfl) _ _
  refine ⟨⟨t.1, hr, fun i hi => ⟨(t.2 i hi).trans (congrArg sbI (ap_fd a x1 x2 x3 x4 x5 i hi)), ?_⟩, ?_, fun r hr => by rw [(f 82 (by omega)).1]; exact h5 r hr, h6.fr f (fun j hj q => by omega), o, h7.fr f (fun c q => by omega)⟩, f.ck (fun c q => by omega)⟩
  · show fdB a x1 x2 x3 x4 x5 i < 256
    unfold fdB
    split
    · exact (h3 i (by omega)).2
    · exact fd5_lt _ _ _ _ _ _
  · rw [pN_2, pN_2, pN_2, pN_2, pN_2]; exact h4
theorem ok_X8_feed {G : Gx} {μ : Mu} (a : AS) (hK : Kl μ a) (x1 x2 x3 x4 x5 : Nat) (hx1 : x1 < 2 ^ 32) (hx2 : x2 < 2 ^ 32) (hx3 : x3 < 2 ^ 32) (hx4 : x4 < 2 ^ 32) (hx5 : x5 < 2 ^ 32) : Runs 1 M_X8_feed [.ref (G.2.2 80), .int (nI x1), .int (nI x2), .int (nI x3), .int (nI x4), .int (nI x5)] G μ (CF μ (sp_feed a x1 x2 x3 x4 x5)) := by
  have ht0 := hK.1
  have htb := hK.2.1
  refine Runs.go RX8 rfl (by decide) [(0, .ref (G.2.2 80)), (1, .int (nI x1)), (2, .int (nI x2)), (3, .int (nI x3)), (4, .int (nI x4)), (5, .int (nI x5))] (Nat.le_of_ble_eq_true rfl) rfl (fun X hF => ?_)
  refine V.aload_n (pc := 0) 0 dX8_feed_0 rfl ?_
  refine gf_X8_13 (pc := 1) (v := nI a.tb) dX8_feed_1 ht0 ?_
  refine V.bipush (pc := 4) (v := nI 20) dX8_feed_4 (by decide) ?_
  refine V.iadd (pc := 6) (v := nI (a.tb + 20)) dX8_feed_6 (nI_add _ _) ?_
  refine V.sipush (pc := 7) (v := nI 600) dX8_feed_7 (by decide) ?_
  refine V.icmpN_le (pc := 10) 15 dX8_feed_10 (by decide) (by omega) (by omega) (fun h_10 => ?_) (fun h_10 => ?_)
  · refine V.aload_n (pc := 15) 0 dX8_feed_15 rfl ?_
    refine V.iload_n (pc := 16) 1 dX8_feed_16 rfl ?_
    refine cl_X8_80 (pc := 17) dX8_feed_17 (ok_X8_putNumber a.tb x1 ht0 (by omega) hx1) (by omega) (Nat.le_of_ble_eq_true rfl) (fun r_ μ_ h_ => ?_)
    obtain ⟨rfl, rfl⟩ := h_
    have ht1 : (pN μ a.tb x1).1 80 1 = nI (a.tb + 4) := by unfold pN; rw [si_s]
    refine V.aload_n (pc := 20) 0 dX8_feed_20 rfl ?_
    refine V.iload_n (pc := 21) 2 dX8_feed_21 rfl ?_
    refine cl_X8_80 (pc := 22) dX8_feed_22 (ok_X8_putNumber (a.tb + 4) x2 ht1 (by omega) hx2) (by omega) (Nat.le_of_ble_eq_true rfl) (fun r_ μ_ h_ => ?_)
    obtain ⟨rfl, rfl⟩ := h_
    have ht2 : (pN (pN μ a.tb x1) (a.tb + 4) x2).1 80 1 = nI ((a.tb + 4) + 4) := by unfold pN; rw [si_s]
    refine V.aload_n (pc := 25) 0 dX8_feed_25 rfl ?_
    refine V.iload_n (pc := 26) 3 dX8_feed_26 rfl ?_
    refine cl_X8_80 (pc := 27) dX8_feed_27 (ok_X8_putNumber (a.tb + 4 + 4) x3 ht2 (by omega) hx3) (by omega) (Nat.le_of_ble_eq_true rfl) (fun r_ μ_ h_ => ?_)
    obtain ⟨rfl, rfl⟩ := h_
    have ht3 : (pN (pN (pN μ a.tb x1) (a.tb + 4) x2) (a.tb + 4 + 4) x3).1 80 1 = nI ((a.tb + 4 + 4) + 4) := by unfold pN; rw [si_s]
    refine V.aload_n (pc := 30) 0 dX8_feed_30 rfl ?_
    refine V.iload (pc := 31) 4 dX8_feed_31 rfl ?_
    refine cl_X8_80 (pc := 33) dX8_feed_33 (ok_X8_putNumber (a.tb + 4 + 4 + 4) x4 ht3 (by omega) hx4) (by omega) (Nat.le_of_ble_eq_true rfl) (fun r_ μ_ h_ => ?_)
    obtain ⟨rfl, rfl⟩ := h_
    have ht4 : (pN (pN (pN (pN μ a.tb x1) (a.tb + 4) x2) (a.tb + 4 + 4) x3) (a.tb + 4 + 4 + 4) x4).1 80 1 = nI ((a.tb + 4 + 4 + 4) + 4) := by unfold pN; rw [si_s]
    refine V.aload_n (pc := 36) 0 dX8_feed_36 rfl ?_
    refine V.iload (pc := 37) 5 dX8_feed_37 rfl ?_
    refine cl_X8_80 (pc := 39) dX8_feed_39 (ok_X8_putNumber (a.tb + 4 + 4 + 4 + 4) x5 ht4 (by omega) hx5) (by omega) (Nat.le_of_ble_eq_true rfl) (fun r_ μ_ h_ => ?_)
    obtain ⟨rfl, rfl⟩ := h_
    have ht5 : (pN (pN (pN (pN (pN μ a.tb x1) (a.tb + 4) x2) (a.tb + 4 + 4) x3) (a.tb + 4 + 4 + 4) x4) (a.tb + 4 + 4 + 4 + 4) x5).1 80 1 = nI ((a.tb + 4 + 4 + 4 + 4) + 4) := by unfold pN; rw [si_s]
    refine V.aload_n (pc := 42) 0 dX8_feed_42 rfl ?_
    refine gf_X8_13 (pc := 43) (v := nI (a.tb + 4 + 4 + 4 + 4 + 4)) dX8_feed_43 ht5 ?_
    exact V.iret (pc := 46) hF dX8_feed_46 (CF.mk (if_pos (by omega)) (hK.fed x1 x2 x3 x4 x5 (by omega) rfl).1 (hK.fed x1 x2 x3 x4 x5 (by omega) rfl).2)
  · refine V.iconst (pc := 13) (v := (-1)) dX8_feed_13 (by decide) ?_
    exact V.iret (pc := 14) hF dX8_feed_14 (CF.mk (if_neg (by omega)) hK (Fr.refl _ _))
def sp_fault (a : AS) : Res := rOk (pv a.fp) a
theorem ok_X8_fault {G : Gx} {μ : Mu} (a : AS) (hK : Kl μ a) : Runs 0 M_X8_fault [.ref (G.2.2 80)] G μ (CF μ (sp_fault a)) := by
  refine Runs.go RX8 rfl (by decide) [(0, .ref (G.2.2 80))] (Nat.le_of_ble_eq_true rfl) rfl (fun X hF => ?_)
  refine V.aload_n (pc := 0) 0 dX8_fault_0 rfl ?_
  refine gf_X8_17 (pc := 1) (v := pv a.fp) dX8_fault_1 hK.2.2.2.1 ?_
  exact V.iret (pc := 4) hF dX8_fault_4 (CF.mk rfl hK (Fr.refl _ _))
def sp_status (a : AS) (x : Nat) : Res := if x < 3 then rOk (nI (a.rf x)) a else rOk (-1) a
theorem ok_X8_status {G : Gx} {μ : Mu} (a : AS) (hK : Kl μ a) (x : Nat) (hx : x < 2 ^ 32) : Runs 0 M_X8_status [.ref (G.2.2 80), .int (nI x)] G μ (CF μ (sp_status a x)) := by
  refine Runs.go RX8 rfl (by decide) [(0, .ref (G.2.2 80)), (1, .int (nI x))] (Nat.le_of_ble_eq_true rfl) rfl (fun X hF => ?_)
  by_cases hneg : x < 2 ^ 31
  · refine V.iload_n (pc := 0) 1 dX8_status_0 rfl ?_
    refine V.ifN_lt (pc := 1) 18 dX8_status_1 (by decide) (by omega) ?_
    refine V.iload_n (pc := 4) 1 dX8_status_4 rfl ?_
    refine V.iconst (pc := 5) (v := nI 3) dX8_status_5 (by decide) ?_
    refine V.icmpN_ge (pc := 6) 18 dX8_status_6 (by decide) (by omega) (by omega) (fun h_6 => ?_) (fun h_6 => ?_)
    · refine V.iconst (pc := 18) (v := (-1)) dX8_status_18 (by decide) ?_
      exact V.iret (pc := 19) hF dX8_status_19 (CF.mk (if_neg (by omega)) hK (Fr.refl _ _))
    · refine V.aload_n (pc := 9) 0 dX8_status_9 rfl ?_
      refine gf_X8_20 (pc := 10) dX8_status_10 ?_
      refine V.iload_n (pc := 13) 1 dX8_status_13 rfl ?_
      refine V.iald (pc := 14) (k := 82) (n := 3) (v := nI (a.rf x)) (Nat.le_of_ble_eq_true rfl) (fun _ _ => rfl) x (by omega) (by decide) dX8_status_14 (hK.2.2.2.2.1 x h_6) ?_
      refine V.goto (pc := 15) 19 dX8_status_15 (by decide) ?_
      exact V.iret (pc := 19) hF dX8_status_19 (CF.mk (if_pos h_6) hK (Fr.refl _ _))
  · refine V.lvs (lv' := [(0, .ref (G.2.2 80)), (1, .int (nI x))]) rfl ?_
    refine V.iload_n (pc := 0) 1 dX8_status_0 rfl ?_
    refine V.if_lt (pc := 1) 18 dX8_status_1 (by decide) (fun h_1 => ?_) (fun h_1 => ?_)
    · refine V.iconst (pc := 18) (v := (-1)) dX8_status_18 (by decide) ?_
      exact V.iret (pc := 19) hF dX8_status_19 (CF.mk (if_neg (by omega)) hK (Fr.refl _ _))
    · exact absurd (nI_neg (by omega) hx) h_1
def sp_undo (a : AS) : Res := if a.k = 0 then rOk (-1) a else rOk (nI (a.k - 1)) (a.bs, a.tb, a.fp, a.rf, a.h (a.k - 1), a.k - 1, a.h)
theorem Kl.und {μ μ' : Mu} {a : AS} {o k1 : Nat} (h : Kl μ a) (e : a.k = k1 + 1) (hp : Pa μ' o k1 a.h) (hf : Fr μ μ' C830) (hs : St μ' 0 (a.h k1)) : Kl μ' (a.bs, a.tb, a.fp, a.rf, a.h (a.k - 1), a.k - 1, a.h) ∧ Fr μ μ' CK := by
  obtain ⟨h1, h2, h3, h4, h5, h6, -⟩ := h
  have q : ∀ c, C830 c → c = 83 ∨ c < 8 := fun _ h => h
  rw [show a.k - 1 = k1 by omega]
  exact ⟨⟨by rw [(hf 80 (fun z => by have := q _ z; omega)).1]; exact h1, h2, fun i hi => by rw [(hf 81 (fun z => by have := q _ z; omega)).1]; exact h3 i hi, by rw [(hf 80 (fun z => by have := q _ z; omega)).1]; exact h4, fun r hr => by rw [(hf 82 (fun z => by have := q _ z; omega)).1]; exact h5 r hr, hs, o, hp⟩, hf.ck (fun c z => by have := q _ z; omega)⟩
theorem ok_X8_undo {G : Gx} {μ : Mu} (a : AS) (hK : Kl μ a) : Runs 4 M_X8_undo [.ref (G.2.2 80)] G μ (CF μ (sp_undo a)) := by
  obtain ⟨o, hPa⟩ := hK.2.2.2.2.2.2
  have hk8 := hPa.2.2.2.1
  refine Runs.go RX8 rfl (by decide) [(0, .ref (G.2.2 80))] (Nat.le_of_ble_eq_true rfl) rfl (fun X hF => ?_)
  refine V.aload_n (pc := 0) 0 dX8_undo_0 rfl ?_
  refine gf_X8_34 (pc := 1) dX8_undo_1 ?_
  refine gf_X8_161 (pc := 4) (v := nI a.k) dX8_undo_4 hPa.2.1 ?_
  refine V.ifN_ne (pc := 7) 12 dX8_undo_7 (by decide) (by omega) (fun h_7 => ?_) (fun h_7 => ?_)
  · obtain ⟨k1, hk1⟩ : ∃ k1, a.k = k1 + 1 := ⟨a.k - 1, by omega⟩
    refine V.aload_n (pc := 12) 0 dX8_undo_12 rfl ?_
    refine gf_X8_34 (pc := 13) dX8_undo_13 ?_
    refine V.aload_n (pc := 16) 0 dX8_undo_16 rfl ?_
    refine gf_X8_27 (pc := 17) dX8_undo_17 ?_
    refine cl_X8_164 (pc := 20) dX8_undo_20 (ok_X2_giveBack o k1 a.h (by rw [← hk1]; exact hPa)) (by omega) (Nat.le_of_ble_eq_true rfl) (fun r_ μ_ h_ => ?_)
    obtain ⟨rfl, hPb, hfr, hSt⟩ := h_
    refine V.aload_n (pc := 23) 0 dX8_undo_23 rfl ?_
    refine gf_X8_34 (pc := 24) dX8_undo_24 ?_
    refine gf_X8_161 (pc := 27) (v := nI k1) dX8_undo_27 hPb.2.1 ?_
    exact V.iret (pc := 30) hF dX8_undo_30 (CF.mk ((if_neg (by omega)).trans (by rw [show a.k - 1 = k1 by omega])) (hK.und hk1 hPb hfr hSt).1 (hK.und hk1 hPb hfr hSt).2)
  · refine V.iconst (pc := 10) (v := (-1)) dX8_undo_10 (by decide) ?_
    exact V.iret (pc := 11) hF dX8_undo_11 (CF.mk (if_pos h_7) hK (Fr.refl _ _))
