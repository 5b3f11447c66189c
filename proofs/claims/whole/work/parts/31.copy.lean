theorem sb_cpy0' {α : Type} {f g : Nat → α} {n j : Nat} (h : j < n) : va_cpy f g 0 0 n j = f j := by
  rw [pk_cpy_in (Nat.zero_le _) (by omega)]
  congr 1
  omega
/-! arraycopy -/
theorem ac_l : Cond.methodLink RX6 51 arraycopyName ∈ TT := tt_in (tb_2 (List.mem_of_getElem? (i := 103) (by decide +kernel))) (by decide +kernel)
theorem ac_s : Cond.static arraycopyName ∈ TT := tt_in (tb_2 (List.mem_of_getElem? (i := 104) (by decide +kernel))) (by decide +kernel)
theorem ac_n : Cond.native arraycopyName ∈ TT := tt_in (tb_2 (List.mem_of_getElem? (i := 105) (by decide +kernel))) (by decide +kernel)
theorem ac_i : Cond.initialized "java/lang/System" ∈ TT := tt_in (tb_1 (List.mem_of_getElem? (i := 15) (by decide +kernel))) (by decide +kernel)
section VCopy
variable {G : Gx} {cc : ByteArray} {nL d : Nat} {X : Cx} {pc : Nat} {lv : List (Nat × Value)} {μ : Mu}
theorem V.copyI {ks kd n : Nat} (hks : ks < 118) (hkd : kd < 118) (hss : ∀ f g, cell G ks f g = aI G n f) (hsd : ∀ f g, cell G kd f g = aI G n f) (hn : n < 2 ^ 31) (hd2 : 2 ≤ d) (hd : decode cc pc = .ok (.invokestatic 51, 3))
    (kk : ∀ μ' : Mu, (∀ a, a ≠ kd → μ'.1 a = μ.1 a) → μ'.2 = μ.2 → (∀ i, i < n → μ'.1 kd i = μ.1 ks i) → V G RX6 cc nL d X (pc + 3) lv [] μ') : V G RX6 cc nL d X pc lv [.int (nI n), .int (nI 0), .ref (G.2.2 kd), .int (nI 0), .ref (G.2.2 ks)] μ := by
  obtain ⟨p, l, e, R, s, m, args, below, meth, c, Q, cells, slots, A⟩ := X
  intro ok H locs ls hP hS hl
  obtain ⟨hx, hb, hml, hown, hts, hN, hK, hI, hfr, hlo, hce, hsl, hA, hlk⟩ := id ok
  have e0 : (nI 0).toNatClampNeg = 0 := nI_clamp (by decide)
  have en : (nI n).toNatClampNeg = n := nI_clamp hn
  refine va_copyi (ty := .int) hx hb (hml.trans hl.1.symm) hown (hts _ ac_l) (hts _ ac_n) (hts _ ac_s) (hts _ ac_i) hK hP (wl_D hI hA μ) hS ks kd 1 1 ((wl_get G μ hks).trans (congrArg (fun e => some (G.2.2 ks, e)) (hss _ _))) ((wl_get G μ hkd).trans (congrArg (fun e => some (G.2.2 kd, e)) (hsd _ _))) rfl rfl rfl (nI_pos (by decide)) (nI_pos (by decide)) (nI_pos hn) (by rw [e0, en]; omega) (by rw [e0, en]; omega) (fun _ _ => rfl) (by omega) (Nat.le_trans (by decide : _ ≤ 80) (by omega)) hd (fun H1 locs1 hP1 _ hS1 => ?_)
  rw [e0, en] at hP1
  refine kk (fun a => if a = kd then va_cpy (μ.1 ks) (μ.1 kd) 0 0 n else μ.1 a, μ.2) (fun a ha => if_neg ha) rfl (fun i hi => ?_) ok H1 locs1 ls ?_ hS1 hl
  · show (if kd = kd then va_cpy (μ.1 ks) (μ.1 kd) 0 0 n else μ.1 kd) i = _
    rw [if_pos rfl]
    exact sb_cpy0' hi
  · have hw : (wl G μ).set kd (G.2.2 kd, aI G n (va_cpy (μ.1 ks) (μ.1 kd) 0 0 n)) = wl G (fun a => if a = kd then va_cpy (μ.1 ks) (μ.1 kd) 0 0 n else μ.1 a, μ.2) := wl_set (μ := μ) (μ' := (fun a => if a = kd then va_cpy (μ.1 ks) (μ.1 kd) 0 0 n else μ.1 a, μ.2)) G hkd (fun j hj => ⟨if_neg hj, rfl⟩) (by rw [hsd]; simp)
    rw [← hw]
    exact hP1
theorem V.copyJ {ks kd n : Nat} (hks : ks < 118) (hkd : kd < 118) (hss : ∀ f g, cell G ks f g = aJ G n g) (hsd : ∀ f g, cell G kd f g = aJ G n g) (hn : n < 2 ^ 31) (hd2 : 2 ≤ d) (hd : decode cc pc = .ok (.invokestatic 51, 3))
    (kk : ∀ μ' : Mu, (∀ a, a ≠ kd → μ'.2 a = μ.2 a) → μ'.1 = μ.1 → (∀ i, i < n → μ'.2 kd i = μ.2 ks i) → V G RX6 cc nL d X (pc + 3) lv [] μ') : V G RX6 cc nL d X pc lv [.int (nI n), .int (nI 0), .ref (G.2.2 kd), .int (nI 0), .ref (G.2.2 ks)] μ := by
  obtain ⟨p, l, e, R, s, m, args, below, meth, c, Q, cells, slots, A⟩ := X
  intro ok H locs ls hP hS hl
  obtain ⟨hx, hb, hml, hown, hts, hN, hK, hI, hfr, hlo, hce, hsl, hA, hlk⟩ := id ok
  have e0 : (nI 0).toNatClampNeg = 0 := nI_clamp (by decide)
  have en : (nI n).toNatClampNeg = n := nI_clamp hn
  refine va_copyl (ty := .long) hx hb (hml.trans hl.1.symm) hown (hts _ ac_l) (hts _ ac_n) (hts _ ac_s) (hts _ ac_i) hK hP (wl_D hI hA μ) hS ks kd 2 2 ((wl_get G μ hks).trans (congrArg (fun e => some (G.2.2 ks, e)) (hss _ _))) ((wl_get G μ hkd).trans (congrArg (fun e => some (G.2.2 kd, e)) (hsd _ _))) rfl rfl rfl (nI_pos (by decide)) (nI_pos (by decide)) (nI_pos hn) (by rw [e0, en]; omega) (by rw [e0, en]; omega) (fun _ _ => rfl) (by omega) (Nat.le_trans (by decide : _ ≤ 80) (by omega)) hd (fun H1 locs1 hP1 _ hS1 => ?_)
  rw [e0, en] at hP1
  refine kk (μ.1, fun a => if a = kd then va_cpy (μ.2 ks) (μ.2 kd) 0 0 n else μ.2 a) (fun a ha => if_neg ha) rfl (fun i hi => ?_) ok H1 locs1 ls ?_ hS1 hl
  · show (if kd = kd then va_cpy (μ.2 ks) (μ.2 kd) 0 0 n else μ.2 kd) i = _
    rw [if_pos rfl]
    exact sb_cpy0' hi
  · have hw : (wl G μ).set kd (G.2.2 kd, aJ G n (va_cpy (μ.2 ks) (μ.2 kd) 0 0 n)) = wl G (μ.1, fun a => if a = kd then va_cpy (μ.2 ks) (μ.2 kd) 0 0 n else μ.2 a) := wl_set (μ := μ) (μ' := (μ.1, fun a => if a = kd then va_cpy (μ.2 ks) (μ.2 kd) 0 0 n else μ.2 a)) G hkd (fun j hj => ⟨rfl, if_neg hj⟩) (by rw [hsd]; simp)
    rw [← hw]
    exact hP1
end VCopy
def Blk (t a : Nat) : Prop := 8 * t ≤ a ∧ a < 8 * t + 8
def CopyOf (μ μ' : Mu) (t2 t1 : Nat) : Prop := Fr μ μ' (Blk t1) ∧ (∀ i, i < 4 → μ'.1 (8 * t1) i = μ.1 (8 * t2) i) ∧ μ'.2 (8 * t1) 4 = μ.2 (8 * t2) 4 ∧ (∀ j, 1 ≤ j → j ≤ 4 → ∀ i, i < 16 → μ'.1 (8 * t1 + j) i = μ.1 (8 * t2 + j) i) ∧ (∀ i, i < 16 → μ'.2 (8 * t1 + 5) i = μ.2 (8 * t2 + 5) i) ∧ (∀ i, i < 48 → μ'.2 (8 * t1 + 6) i = μ.2 (8 * t2 + 6) i) ∧ ∀ i, i < 48 → μ'.1 (8 * t1 + 7) i = μ.1 (8 * t2 + 7) i
theorem CopyOf.st {μ μ' : Mu} {t1 t2 : Nat} {S : TS} (h : CopyOf μ μ' t2 t1) (hS : St μ t2 S) : St μ' t1 S := by
  obtain ⟨-, h1, h2, h3, h4, h5, h6⟩ := h
  obtain ⟨⟨g0, g1, g2, g3, g4, g5, g6, g7, g8, g9, g10, g11⟩, g12⟩ := hS
  have hn := g11.n16
  have hu := g11.u48
  exact ⟨⟨by rw [h1 0 (by decide)]; exact g0, by rw [h1 1 (by decide)]; exact g1, by rw [h1 2 (by decide)]; exact g2, by rw [h1 3 (by decide)]; exact g3, by rw [h2]; exact g4,
    fun i hi => by rw [h3 1 (by decide) (by decide) i (by omega)]; exact g5 i hi, fun i hi => by rw [h3 2 (by decide) (by decide) i (by omega)]; exact g6 i hi, fun i hi => by rw [h3 3 (by decide) (by decide) i (by omega)]; exact g7 i hi,
    fun i hi => by rw [h4 i (by omega)]; exact g8 i hi, fun i hi => by rw [h5 i (by omega)]; exact g9 i hi, fun i hi => by rw [h6 i (by omega)]; exact g10 i hi, g11⟩, fun i hi => by rw [h3 4 (by decide) (by decide) i (by omega)]; exact g12 i hi⟩
theorem CopyOf.st0 {μ μ' : Mu} {t1 t2 : Nat} {S : TS} (h : CopyOf μ μ' t2 t1) (hS : St0 μ t2 S) : St0 μ' t1 S := by
  obtain ⟨-, h1, h2, h3, h4, h5, h6⟩ := h
  obtain ⟨g0, g1, g2, g3, g4, g5, g6, g7, g8, g9, g10, g11⟩ := hS
  have hn := g11.n16
  have hu := g11.u48
  exact ⟨by rw [h1 0 (by decide)]; exact g0, by rw [h1 1 (by decide)]; exact g1, by rw [h1 2 (by decide)]; exact g2, by rw [h1 3 (by decide)]; exact g3, by rw [h2]; exact g4,
    fun i hi => by rw [h3 1 (by decide) (by decide) i (by omega)]; exact g5 i hi, fun i hi => by rw [h3 2 (by decide) (by decide) i (by omega)]; exact g6 i hi, fun i hi => by rw [h3 3 (by decide) (by decide) i (by omega)]; exact g7 i hi,
    fun i hi => by rw [h4 i (by omega)]; exact g8 i hi, fun i hi => by rw [h5 i (by omega)]; exact g9 i hi, fun i hi => by rw [h6 i (by omega)]; exact g10 i hi, g11⟩
def cp0 (μ : Mu) (t2 t1 : Nat) : Mu := sj (si (si (si (si μ (8 * t1) 0 (μ.1 (8 * t2) 0)) (8 * t1) 1 (μ.1 (8 * t2) 1)) (8 * t1) 2 (μ.1 (8 * t2) 2)) (8 * t1) 3 (μ.1 (8 * t2) 3)) (8 * t1) 4 (μ.2 (8 * t2) 4)
theorem cp0_no (μ : Mu) {t2 t1 a : Nat} (h : a ≠ 8 * t1) : (cp0 μ t2 t1).1 a = μ.1 a ∧ (cp0 μ t2 t1).2 a = μ.2 a := by simp [cp0, si, sj, h]
theorem copy_fin {μ m1 m2 m3 m4 m5 m6 m7 : Mu} {t1 t2 : Nat} (hne : t1 ≠ t2)
    (a1 : ∀ a, a ≠ 8 * t1 + 1 → m1.1 a = (cp0 μ t2 t1).1 a) (b1 : m1.2 = (cp0 μ t2 t1).2) (c1 : ∀ i, i < 16 → m1.1 (8 * t1 + 1) i = (cp0 μ t2 t1).1 (8 * t2 + 1) i)
    (a2 : ∀ a, a ≠ 8 * t1 + 2 → m2.1 a = m1.1 a) (b2 : m2.2 = m1.2) (c2 : ∀ i, i < 16 → m2.1 (8 * t1 + 2) i = m1.1 (8 * t2 + 2) i)
    (a3 : ∀ a, a ≠ 8 * t1 + 3 → m3.1 a = m2.1 a) (b3 : m3.2 = m2.2) (c3 : ∀ i, i < 16 → m3.1 (8 * t1 + 3) i = m2.1 (8 * t2 + 3) i)
    (a4 : ∀ a, a ≠ 8 * t1 + 4 → m4.1 a = m3.1 a) (b4 : m4.2 = m3.2) (c4 : ∀ i, i < 16 → m4.1 (8 * t1 + 4) i = m3.1 (8 * t2 + 4) i)
    (a5 : ∀ a, a ≠ 8 * t1 + 5 → m5.2 a = m4.2 a) (b5 : m5.1 = m4.1) (c5 : ∀ i, i < 16 → m5.2 (8 * t1 + 5) i = m4.2 (8 * t2 + 5) i)
    (a6 : ∀ a, a ≠ 8 * t1 + 6 → m6.2 a = m5.2 a) (b6 : m6.1 = m5.1) (c6 : ∀ i, i < 48 → m6.2 (8 * t1 + 6) i = m5.2 (8 * t2 + 6) i)
    (a7 : ∀ a, a ≠ 8 * t1 + 7 → m7.1 a = m6.1 a) (b7 : m7.2 = m6.2) (c7 : ∀ i, i < 48 → m7.1 (8 * t1 + 7) i = m6.1 (8 * t2 + 7) i) : CopyOf μ m7 t2 t1 := by
  have e1 : ∀ a, a ≠ 8 * t1 + 1 → a ≠ 8 * t1 + 2 → a ≠ 8 * t1 + 3 → a ≠ 8 * t1 + 4 → a ≠ 8 * t1 + 7 → m7.1 a = (cp0 μ t2 t1).1 a := fun a h1 h2 h3 h4 h7 => by
    rw [a7 a h7, b6, b5, a4 a h4, a3 a h3, a2 a h2, a1 a h1]
  have e2 : ∀ a, a ≠ 8 * t1 + 5 → a ≠ 8 * t1 + 6 → m7.2 a = (cp0 μ t2 t1).2 a := fun a h5 h6 => by
    rw [b7, a6 a h6, a5 a h5, b4, b3, b2, b1]
  refine ⟨fun a ha => ?_, fun i hi => ?_, ?_, fun j h1 h2 i hi => ?_, fun i hi => ?_, fun i hi => ?_, fun i hi => ?_⟩
  · unfold Blk at ha
    rw [e1 a (by omega) (by omega) (by omega) (by omega) (by omega), e2 a (by omega) (by omega)]
    exact cp0_no μ (by omega)
  · rw [e1 _ (by omega) (by omega) (by omega) (by omega) (by omega)]
    rcases (show i = 0 ∨ i = 1 ∨ i = 2 ∨ i = 3 by omega) with e | e | e | e <;> subst e <;> simp [cp0, si, sj, upd]
  · rw [e2 _ (by omega) (by omega)]
    simp [cp0, si, sj, vp_updL]
  · rcases (show j = 1 ∨ j = 2 ∨ j = 3 ∨ j = 4 by omega) with e | e | e | e <;> subst e
    · rw [a7 _ (by omega), b6, b5, a4 _ (by omega), a3 _ (by omega), a2 _ (by omega), c1 i hi, (cp0_no μ (by omega)).1]
    · rw [a7 _ (by omega), b6, b5, a4 _ (by omega), a3 _ (by omega), c2 i hi, a1 _ (by omega), (cp0_no μ (by omega)).1]
    · rw [a7 _ (by omega), b6, b5, a4 _ (by omega), c3 i hi, a2 _ (by omega), a1 _ (by omega), (cp0_no μ (by omega)).1]
    · rw [a7 _ (by omega), b6, b5, c4 i hi, a3 _ (by omega), a2 _ (by omega), a1 _ (by omega), (cp0_no μ (by omega)).1]
  · rw [b7, a6 _ (by omega), c5 i hi, b4, b3, b2, b1, (cp0_no μ (by omega)).2]
  · rw [b7, c6 i hi, a5 _ (by omega), b4, b3, b2, b1, (cp0_no μ (by omega)).2]
  · rw [c7 i hi, b6, b5, a4 _ (by omega), a3 _ (by omega), a2 _ (by omega), a1 _ (by omega), (cp0_no μ (by omega)).1]
theorem ok_X6_copyFrom {G : Gx} {μ : Mu} (t1 t2 : Nat) (h1 : t1 < 10) (h2 : t2 < 10) (hne : t1 ≠ t2) : Runs 2 M_X6_copyFrom [.ref (G.2.2 (8 * t1)), .ref (G.2.2 (8 * t2))] G μ (fun r μ' => r = none ∧ CopyOf μ μ' t2 t1) := by
  have h8 : ¬ 8 * t2 = 8 * t1 := by omega
  refine Runs.go RX6 rfl (by decide) [(0, .ref (G.2.2 (8 * t1))), (1, .ref (G.2.2 (8 * t2)))] (Nat.le_of_ble_eq_true rfl) rfl (fun X hF => ?_)
  refine V.aload_n (pc := 0) 0 dX6_copyFrom_0 rfl ?_
  refine V.aload_n (pc := 1) 1 dX6_copyFrom_1 rfl ?_
  refine gf_X6_9 (pc := 2) t2 h2 (v := μ.1 (8 * t2) 0) dX6_copyFrom_2 rfl ?_
  refine pf_X6_9 (pc := 5) t1 h1 dX6_copyFrom_5 ?_
  refine V.aload_n (pc := 8) 0 dX6_copyFrom_8 rfl ?_
  refine V.aload_n (pc := 9) 1 dX6_copyFrom_9 rfl ?_
  refine gf_X6_15 (pc := 10) t2 h2 (v := μ.1 (8 * t2) 1) dX6_copyFrom_10 (by simp [si, upd, h8]) ?_
  refine pf_X6_15 (pc := 13) t1 h1 dX6_copyFrom_13 ?_
  refine V.aload_n (pc := 16) 0 dX6_copyFrom_16 rfl ?_
  refine V.aload_n (pc := 17) 1 dX6_copyFrom_17 rfl ?_
  refine gf_X6_18 (pc := 18) t2 h2 (v := μ.1 (8 * t2) 2) dX6_copyFrom_18 (by simp [si, upd, h8]) ?_
  refine pf_X6_18 (pc := 21) t1 h1 dX6_copyFrom_21 ?_
  refine V.aload_n (pc := 24) 0 dX6_copyFrom_24 rfl ?_
  refine V.aload_n (pc := 25) 1 dX6_copyFrom_25 rfl ?_
  refine gf_X6_21 (pc := 26) t2 h2 (v := μ.1 (8 * t2) 3) dX6_copyFrom_26 (by simp [si, upd, h8]) ?_
  refine pf_X6_21 (pc := 29) t1 h1 dX6_copyFrom_29 ?_
  refine V.aload_n (pc := 32) 0 dX6_copyFrom_32 rfl ?_
  refine V.aload_n (pc := 33) 1 dX6_copyFrom_33 rfl ?_
  refine gf_X6_24 (pc := 34) t2 h2 (v := μ.2 (8 * t2) 4) dX6_copyFrom_34 rfl ?_
  refine pf_X6_24 (pc := 37) t1 h1 dX6_copyFrom_37 ?_
  refine V.aload_n (pc := 40) 1 dX6_copyFrom_40 rfl ?_
  refine gf_X6_28 (pc := 41) t2 h2 dX6_copyFrom_41 ?_
  refine V.iconst (pc := 44) (v := nI 0) dX6_copyFrom_44 (by decide) ?_
  refine V.aload_n (pc := 45) 0 dX6_copyFrom_45 rfl ?_
  refine gf_X6_28 (pc := 46) t1 h1 dX6_copyFrom_46 ?_
  refine V.iconst (pc := 49) (v := nI 0) dX6_copyFrom_49 (by decide) ?_
  refine V.bipush (pc := 50) (v := nI 16) dX6_copyFrom_50 (by decide) ?_
  refine V.copyI (pc := 52) (ks := 8 * t2 + 1) (kd := 8 * t1 + 1) (n := 16) (by omega) (by omega) (cell_Si h2 ⟨by decide, by decide⟩) (cell_Si h1 ⟨by decide, by decide⟩) (by decide) (by decide) dX6_copyFrom_52 (fun m1 a1 b1 c1 => ?_)
  refine V.aload_n (pc := 55) 1 dX6_copyFrom_55 rfl ?_
  refine gf_X6_32 (pc := 56) t2 h2 dX6_copyFrom_56 ?_
  refine V.iconst (pc := 59) (v := nI 0) dX6_copyFrom_59 (by decide) ?_
  refine V.aload_n (pc := 60) 0 dX6_copyFrom_60 rfl ?_
  refine gf_X6_32 (pc := 61) t1 h1 dX6_copyFrom_61 ?_
  refine V.iconst (pc := 64) (v := nI 0) dX6_copyFrom_64 (by decide) ?_
  refine V.bipush (pc := 65) (v := nI 16) dX6_copyFrom_65 (by decide) ?_
  refine V.copyI (pc := 67) (ks := 8 * t2 + 2) (kd := 8 * t1 + 2) (n := 16) (by omega) (by omega) (cell_Si h2 ⟨by decide, by decide⟩) (cell_Si h1 ⟨by decide, by decide⟩) (by decide) (by decide) dX6_copyFrom_67 (fun m2 a2 b2 c2 => ?_)
  refine V.aload_n (pc := 70) 1 dX6_copyFrom_70 rfl ?_
  refine gf_X6_35 (pc := 71) t2 h2 dX6_copyFrom_71 ?_
  refine V.iconst (pc := 74) (v := nI 0) dX6_copyFrom_74 (by decide) ?_
  refine V.aload_n (pc := 75) 0 dX6_copyFrom_75 rfl ?_
  refine gf_X6_35 (pc := 76) t1 h1 dX6_copyFrom_76 ?_
  refine V.iconst (pc := 79) (v := nI 0) dX6_copyFrom_79 (by decide) ?_
  refine V.bipush (pc := 80) (v := nI 16) dX6_copyFrom_80 (by decide) ?_
  refine V.copyI (pc := 82) (ks := 8 * t2 + 3) (kd := 8 * t1 + 3) (n := 16) (by omega) (by omega) (cell_Si h2 ⟨by decide, by decide⟩) (cell_Si h1 ⟨by decide, by decide⟩) (by decide) (by decide) dX6_copyFrom_82 (fun m3 a3 b3 c3 => ?_)
  refine V.aload_n (pc := 85) 1 dX6_copyFrom_85 rfl ?_
  refine gf_X6_38 (pc := 86) t2 h2 dX6_copyFrom_86 ?_
  refine V.iconst (pc := 89) (v := nI 0) dX6_copyFrom_89 (by decide) ?_
  refine V.aload_n (pc := 90) 0 dX6_copyFrom_90 rfl ?_
  refine gf_X6_38 (pc := 91) t1 h1 dX6_copyFrom_91 ?_
  refine V.iconst (pc := 94) (v := nI 0) dX6_copyFrom_94 (by decide) ?_
  refine V.bipush (pc := 95) (v := nI 16) dX6_copyFrom_95 (by decide) ?_
  refine V.copyI (pc := 97) (ks := 8 * t2 + 4) (kd := 8 * t1 + 4) (n := 16) (by omega) (by omega) (cell_Si h2 ⟨by decide, by decide⟩) (cell_Si h1 ⟨by decide, by decide⟩) (by decide) (by decide) dX6_copyFrom_97 (fun m4 a4 b4 c4 => ?_)
  refine V.aload_n (pc := 100) 1 dX6_copyFrom_100 rfl ?_
  refine gf_X6_41 (pc := 101) t2 h2 dX6_copyFrom_101 ?_
  refine V.iconst (pc := 104) (v := nI 0) dX6_copyFrom_104 (by decide) ?_
  refine V.aload_n (pc := 105) 0 dX6_copyFrom_105 rfl ?_
  refine gf_X6_41 (pc := 106) t1 h1 dX6_copyFrom_106 ?_
  refine V.iconst (pc := 109) (v := nI 0) dX6_copyFrom_109 (by decide) ?_
  refine V.bipush (pc := 110) (v := nI 16) dX6_copyFrom_110 (by decide) ?_
  refine V.copyJ (pc := 112) (ks := 8 * t2 + 5) (kd := 8 * t1 + 5) (n := 16) (by omega) (by omega) (cell_Sj h2 rfl) (cell_Sj h1 rfl) (by decide) (by decide) dX6_copyFrom_112 (fun m5 a5 b5 c5 => ?_)
  refine V.aload_n (pc := 115) 1 dX6_copyFrom_115 rfl ?_
  refine gf_X6_45 (pc := 116) t2 h2 dX6_copyFrom_116 ?_
  refine V.iconst (pc := 119) (v := nI 0) dX6_copyFrom_119 (by decide) ?_
  refine V.aload_n (pc := 120) 0 dX6_copyFrom_120 rfl ?_
  refine gf_X6_45 (pc := 121) t1 h1 dX6_copyFrom_121 ?_
  refine V.iconst (pc := 124) (v := nI 0) dX6_copyFrom_124 (by decide) ?_
  refine V.bipush (pc := 125) (v := nI 48) dX6_copyFrom_125 (by decide) ?_
  refine V.copyJ (pc := 127) (ks := 8 * t2 + 6) (kd := 8 * t1 + 6) (n := 48) (by omega) (by omega) (cell_Sp h2 rfl) (cell_Sp h1 rfl) (by decide) (by decide) dX6_copyFrom_127 (fun m6 a6 b6 c6 => ?_)
  refine V.aload_n (pc := 130) 1 dX6_copyFrom_130 rfl ?_
  refine gf_X6_48 (pc := 131) t2 h2 dX6_copyFrom_131 ?_
  refine V.iconst (pc := 134) (v := nI 0) dX6_copyFrom_134 (by decide) ?_
  refine V.aload_n (pc := 135) 0 dX6_copyFrom_135 rfl ?_
  refine gf_X6_48 (pc := 136) t1 h1 dX6_copyFrom_136 ?_
  refine V.iconst (pc := 139) (v := nI 0) dX6_copyFrom_139 (by decide) ?_
  refine V.bipush (pc := 140) (v := nI 48) dX6_copyFrom_140 (by decide) ?_
  refine V.copyI (pc := 142) (ks := 8 * t2 + 7) (kd := 8 * t1 + 7) (n := 48) (by omega) (by omega) (cell_Sw h2 rfl) (cell_Sw h1 rfl) (by decide) (by decide) dX6_copyFrom_142 (fun m7 a7 b7 c7 => ?_)
  exact V.vret (pc := 145) hF dX6_copyFrom_145 ⟨rfl, copy_fin hne a1 b1 c1 a2 b2 c2 a3 b3 c3 a4 b4 c4 a5 b5 c5 a6 b6 c6 a7 b7 c7⟩
theorem Blk_no {t t2 : Nat} (h : t ≠ t2) : ∀ j, j < 8 → ¬ Blk t (8 * t2 + j) := fun j hj q => by unfold Blk at q; omega
theorem CopyOf.keep {μ μ' : Mu} {t1 t2 t : Nat} {S : TS} (h : CopyOf μ μ' t2 t1) (hS : St μ t S) (ht : t1 ≠ t) : St μ' t S := hS.fr h.1 (Blk_no ht)
def chA (S : TS) (i : Nat) : Nat := if i = 0 then 0 else chain S (i - 1)
theorem chA_t {S : TS} {i : Nat} (h : S.L.testBit (S.fst i) = true) : chA S i ||| 2 ^ i = chain S i := by
  cases i with
  | zero => rw [chA, if_pos rfl, Nat.zero_or]; rfl
  | succ i => show chain S i ||| _ = _; rw [chain, h]; rfl
theorem chA_f {S : TS} {i : Nat} (h : S.L.testBit (S.fst i) = false) : 2 ^ i = chain S i := by
  cases i with
  | zero => rfl
  | succ i => rw [chain, h]; rfl
theorem chA_s (S : TS) (i : Nat) : chA S (i + 1) = chain S i := rfl
def ChUp (μ : Mu) (t : Nat) (S : TS) (i : Nat) : Prop := ∀ j, j < i → μ.1 (8 * t + 4) j = nI (chain S j)
theorem ChUp.step {μ : Mu} {t : Nat} {S : TS} {i : Nat} (h : ChUp μ t S i) : ChUp (si μ (8 * t + 4) i (nI (chain S i))) t S (i + 1) := fun j hj => by
  by_cases e : j = i
  · subst e; exact si_s _ _ _ _
  · rw [si_i _ _ _ e]; exact h j (by omega)
theorem St0.ch {μ μ1 : Mu} {t : Nat} {S : TS} (h : St0 μ t S) (hf : Fr μ μ1 (fun a => a = 8 * t + 4)) : St0 μ1 t S := by
  obtain ⟨h0, h1, h2, h3, h4, h5, h6, h7, h8, h9, h10, h11⟩ := h
  have f : ∀ a, a ≠ 8 * t + 4 → μ1.1 a = μ.1 a ∧ μ1.2 a = μ.2 a := hf
  refine ⟨by rw [(f _ (by omega)).1]; exact h0, by rw [(f _ (by omega)).1]; exact h1, by rw [(f _ (by omega)).1]; exact h2, by rw [(f _ (by omega)).1]; exact h3, by rw [(f _ (by omega)).2]; exact h4, fun i hi => ?_, fun i hi => ?_, fun i hi => ?_, fun i hi => ?_, fun i hi => ?_, fun i hi => ?_, h11⟩
  · rw [(f _ (by omega)).1]; exact h5 i hi
  · rw [(f _ (by omega)).1]; exact h6 i hi
  · rw [(f _ (by omega)).1]; exact h7 i hi
  · rw [(f _ (by omega)).2]; exact h8 i hi
  · rw [(f _ (by omega)).2]; exact h9 i hi
  · rw [(f _ (by omega)).1]; exact h10 i hi
theorem ok_X6_linkChains {G : Gx} {μ : Mu} (t : Nat) (ht : t < 10) (S : TS) (hS : St0 μ t S) : Runs 1 M_X6_linkChains [.ref (G.2.2 (8 * t))] G μ (fun r μ' => r = none ∧ Fr μ μ' (fun a => a = 8 * t + 4) ∧ St μ' t S) := by
  have hv : VS S := hS.2.2.2.2.2.2.2.2.2.2.2
  have hn := hv.n16
  have hu := hv.u48
  have h48 := pow48 hv
  have hL := hv.le
  refine Runs.go RX6 rfl (by decide) [(0, .ref (G.2.2 (8 * t)))] (Nat.le_of_ble_eq_true rfl) rfl (fun X hF => ?_)
  refine V.iconst (pc := 0) (v := nI 0) dX6_linkChains_0 (by decide) ?_
  refine V.istore_n (pc := 1) (lv' := [(0, .ref (G.2.2 (8 * t))), (1, .int (nI 0))]) dX6_linkChains_1 (by decide) rfl ?_
  refine V.iconst (pc := 2) (v := nI 0) dX6_linkChains_2 (by decide) ?_
  refine V.istore_n (pc := 3) (lv' := [(0, .ref (G.2.2 (8 * t))), (1, .int (nI 0)), (2, .int (nI 0))]) dX6_linkChains_3 (by decide) rfl ?_
  have L4 : ∀ (n_ : Nat) (i : Nat) ( μ1 : Mu), (i ≤ S.n) → (Fr μ μ1 (fun a => a = 8 * t + 4)) → (ChUp μ1 t S i) → S.n - i < n_ → V G RX6 cX6_linkChains 3 1 X 4 [(0, .ref (G.2.2 (8 * t))), (1, .int (nI (chA S i))), (2, .int (nI i))] [] μ1 := by
    intro n_
    induction n_ with
    | zero => intro i μ1 hi hfr hc hm_; exact absurd hm_ (Nat.not_lt_zero _)
    | succ n_ ih4 =>
      intro i μ1 hi hfr hc hm_
      have hS1 := hS.ch hfr
      refine V.iload_n (pc := 4) 2 dX6_linkChains_4 rfl ?_
      refine V.aload_n (pc := 5) 0 dX6_linkChains_5 rfl ?_
      refine gf_X6_9 (pc := 6) t ht (v := nI S.n) dX6_linkChains_6 hS1.1 ?_
      refine V.icmpN_ge (pc := 9) 55 dX6_linkChains_9 (by decide) (by omega) (by omega) (fun h_9 => ?_) (fun h_9 => ?_)
      · exact V.vret (pc := 55) hF dX6_linkChains_55 ⟨rfl, hfr, hS1, by rw [show i = S.n from by omega] at hc; exact hc⟩
      · have hf := (hv.sen (i := i) h_9).2.2.2.2.1
        refine V.aload_n (pc := 12) 0 dX6_linkChains_12 rfl ?_
        refine gf_X6_38 (pc := 13) t ht dX6_linkChains_13 ?_
        refine V.iload_n (pc := 16) 2 dX6_linkChains_16 rfl ?_
        refine V.aload_n (pc := 17) 0 dX6_linkChains_17 rfl ?_
        refine V.aload_n (pc := 18) 0 dX6_linkChains_18 rfl ?_
        refine gf_X6_35 (pc := 19) t ht dX6_linkChains_19 ?_
        refine V.iload_n (pc := 22) 2 dX6_linkChains_22 rfl ?_
        refine V.iald (pc := 23) (k := 8 * t + 3) (n := 16) (v := nI (S.fst i)) (by omega) (cell_Si ht ⟨by decide, by decide⟩) i (by omega) (by decide) dX6_linkChains_23 (hS1.2.2.2.2.2.2.2.1 i (by omega)) ?_
        refine cp_X6_61 (pc := 24) t ht dX6_linkChains_24 (ok_X6_leans t ht S.L (S.fst i) hS1.2.2.2.2.1 (by omega) (by omega)) (by omega) (Nat.le_of_ble_eq_true rfl) ?_
        refine V.ifB_eq (pc := 27) 38 dX6_linkChains_27 (by decide) (fun h_27 => ?_) (fun h_27 => ?_)
        · refine V.iconst (pc := 38) (v := nI 1) dX6_linkChains_38 (by decide) ?_
          refine V.iload_n (pc := 39) 2 dX6_linkChains_39 rfl ?_
          refine V.ishl (pc := 40) (v := nI (chain S i)) dX6_linkChains_40 ((nn_shl1 (by omega)).trans (congrArg nI (chA_f h_27))) ?_
          refine V.iast (pc := 41) (k := 8 * t + 4) (n := 16) (v := nI (chain S i)) (by omega) (cell_Si ht ⟨by decide, by decide⟩) i (by omega) (by decide) dX6_linkChains_41 rfl ?_
          refine V.aload_n (pc := 42) 0 dX6_linkChains_42 rfl ?_
          refine gf_X6_38 (pc := 43) t ht dX6_linkChains_43 ?_
          refine V.iload_n (pc := 46) 2 dX6_linkChains_46 rfl ?_
          refine V.iald (pc := 47) (k := 8 * t + 4) (n := 16) (v := nI (chain S i)) (by omega) (cell_Si ht ⟨by decide, by decide⟩) i (by omega) (by decide) dX6_linkChains_47 (si_s _ _ _ _) ?_
          refine V.istore_n (pc := 48) (lv' := [(0, .ref (G.2.2 (8 * t))), (1, .int (nI (chain S i))), (2, .int (nI i))]) dX6_linkChains_48 (by decide) rfl ?_
          refine V.iinc (pc := 49) (v := nI (i + 1)) (lv' := [(0, .ref (G.2.2 (8 * t))), (1, .int (nI (chain S i))), (2, .int (nI (i + 1)))]) 2 dX6_linkChains_49 rfl (nn_inc _) (by decide) rfl ?_
          refine V.goto (pc := 52) 4 dX6_linkChains_52 (by decide) ?_
          have e_1 : nI (chain S i) = nI (chA S (i + 1)) := rfl
          refine V.lvs (lv' := [(0, .ref (G.2.2 (8 * t))), (1, .int (nI (chA S (i + 1)))), (2, .int (nI (i + 1)))]) (congrArg (fun z => ([(0, .ref (G.2.2 (8 * t))), (1, .int z), (2, .int (nI (i + 1)))] : List (Nat × Value))) e_1) ?_
          exact ih4 (i + 1) (si μ1 (8 * t + 4) i (nI (chain S i))) (by omega) (hfr.si _ _ rfl) hc.step (by omega)
        · refine V.iload_n (pc := 30) 1 dX6_linkChains_30 rfl ?_
          refine V.iconst (pc := 31) (v := nI 1) dX6_linkChains_31 (by decide) ?_
          refine V.iload_n (pc := 32) 2 dX6_linkChains_32 rfl ?_
          refine V.ishl (pc := 33) (v := nI (2 ^ i)) dX6_linkChains_33 (nn_shl1 (by omega)) ?_
          refine V.ior (pc := 34) (v := nI (chain S i)) dX6_linkChains_34 ((nn_or _ _).trans (congrArg nI (chA_t h_27))) ?_
          refine V.goto (pc := 35) 41 dX6_linkChains_35 (by decide) ?_
          refine V.iast (pc := 41) (k := 8 * t + 4) (n := 16) (v := nI (chain S i)) (by omega) (cell_Si ht ⟨by decide, by decide⟩) i (by omega) (by decide) dX6_linkChains_41 rfl ?_
          refine V.aload_n (pc := 42) 0 dX6_linkChains_42 rfl ?_
          refine gf_X6_38 (pc := 43) t ht dX6_linkChains_43 ?_
          refine V.iload_n (pc := 46) 2 dX6_linkChains_46 rfl ?_
          refine V.iald (pc := 47) (k := 8 * t + 4) (n := 16) (v := nI (chain S i)) (by omega) (cell_Si ht ⟨by decide, by decide⟩) i (by omega) (by decide) dX6_linkChains_47 (si_s _ _ _ _) ?_
          refine V.istore_n (pc := 48) (lv' := [(0, .ref (G.2.2 (8 * t))), (1, .int (nI (chain S i))), (2, .int (nI i))]) dX6_linkChains_48 (by decide) rfl ?_
          refine V.iinc (pc := 49) (v := nI (i + 1)) (lv' := [(0, .ref (G.2.2 (8 * t))), (1, .int (nI (chain S i))), (2, .int (nI (i + 1)))]) 2 dX6_linkChains_49 rfl (nn_inc _) (by decide) rfl ?_
          refine V.goto (pc := 52) 4 dX6_linkChains_52 (by decide) ?_
          have e_1 : nI (chain S i) = nI (chA S (i + 1)) := rfl
          refine V.lvs (lv' := [(0, .ref (G.2.2 (8 * t))), (1, .int (nI (chA S (i + 1)))), (2, .int (nI (i + 1)))]) (congrArg (fun z => ([(0, .ref (G.2.2 (8 * t))), (1, .int z), (2, .int (nI (i + 1)))] : List (Nat × Value))) e_1) ?_
          exact ih4 (i + 1) (si μ1 (8 * t + 4) i (nI (chain S i))) (by omega) (hfr.si _ _ rfl) hc.step (by omega)
  have e_1 : nI 0 = nI (chA S 0) := rfl
  refine V.lvs (lv' := [(0, .ref (G.2.2 (8 * t))), (1, .int (nI (chA S 0))), (2, .int (nI 0))]) (congrArg (fun z => ([(0, .ref (G.2.2 (8 * t))), (1, .int z), (2, .int (nI 0))] : List (Nat × Value))) e_1) ?_
  exact L4 _ 0 μ (by omega) (Fr.refl _ _) (fun j hj => absurd hj (by omega)) (Nat.lt_succ_self _)
theorem ok_X6_clear {G : Gx} {μ : Mu} (t : Nat) (ht : t < 10) : Runs 0 M_X6_clear [.ref (G.2.2 (8 * t))] G μ (fun r μ' => r = none ∧ μ' = sj (si (si (si μ (8 * t) 0 (nI 0)) (8 * t) 1 (nI 0)) (8 * t) 3 (nI 0)) (8 * t) 4 (lN 0)) := by
  refine Runs.go RX6 rfl (by decide) [(0, .ref (G.2.2 (8 * t)))] (Nat.le_of_ble_eq_true rfl) rfl (fun X hF => ?_)
  refine V.aload_n (pc := 0) 0 dX6_clear_0 rfl ?_
  refine V.iconst (pc := 1) (v := nI 0) dX6_clear_1 (by decide) ?_
  refine pf_X6_9 (pc := 2) t ht dX6_clear_2 ?_
  refine V.aload_n (pc := 5) 0 dX6_clear_5 rfl ?_
  refine V.iconst (pc := 6) (v := nI 0) dX6_clear_6 (by decide) ?_
  refine pf_X6_15 (pc := 7) t ht dX6_clear_7 ?_
  refine V.aload_n (pc := 10) 0 dX6_clear_10 rfl ?_
  refine V.iconst (pc := 11) (v := nI 0) dX6_clear_11 (by decide) ?_
  refine pf_X6_21 (pc := 12) t ht dX6_clear_12 ?_
  refine V.aload_n (pc := 15) 0 dX6_clear_15 rfl ?_
  refine V.lconst (pc := 16) (v := lN 0) dX6_clear_16 (by decide) ?_
  refine pf_X6_24 (pc := 17) t ht dX6_clear_17 ?_
  exact V.vret (pc := 20) hF dX6_clear_20 ⟨rfl, rfl⟩
/-! what was: h i for i < k, the oldest first, in a ring that begins at o -/
def Pa (μ : Mu) (o k : Nat) (h : Nat → TS) : Prop := μ.1 83 1 = nI o ∧ μ.1 83 2 = nI k ∧ o < 8 ∧ k ≤ 8 ∧ ∀ i, i < k → St μ (2 + (o + i) % 8) (h i)
def C83 (a : Nat) : Prop := a = 83 ∨ (16 ≤ a ∧ a < 80)
theorem ring_ne {o i j : Nat} (hi : i < 8) (hj : j < 8) (h : i ≠ j) : 2 + (o + i) % 8 ≠ 2 + (o + j) % 8 := by omega
/-- one more is kept -/
def push (k : Nat) (h : Nat → TS) (S : TS) : Nat → TS := if k = 8 then (fun i => if i = 7 then S else h (i + 1)) else (fun i => if i = k then S else h i)
theorem Pa.keep {μ m1 μ' : Mu} {o k : Nat} {h : Nat → TS} {S : TS} (hp : Pa μ o k h) (hk : ¬ k = 8) (hS : St μ 0 S) (hc : CopyOf μ m1 0 (2 + (o + k) % 8)) (e : μ' = si m1 83 2 (nI (k + 1))) : Pa μ' o (k + 1) (push k h S) ∧ Fr μ μ' C83 := by
  obtain ⟨p1, p2, p3, p4, p5⟩ := hp
  have hb : ¬ Blk (2 + (o + k) % 8) 83 := by unfold Blk; omega
  have h83 := (hc.1 83 hb).1
  subst e
  refine ⟨⟨by rw [si_i _ _ _ (by decide), h83]; exact p1, si_s _ _ _ _, p3, by omega, fun i hi => ?_⟩, fun a ha => ?_⟩
  · refine St.si ?_ (by omega) (by decide)
    unfold push
    rw [if_neg hk]
    by_cases e : i = k
    · subst e
      rw [if_pos rfl]
      exact hc.st hS
    · rw [if_neg e]
      exact hc.keep (p5 i (by omega)) (ring_ne (by omega) (by omega) (fun q => e q.symm))
  · have h1 : ¬ Blk (2 + (o + k) % 8) a := fun q => ha (Or.inr (by unfold Blk at q; omega))
    exact ⟨(si_c _ _ _ (fun q => ha (Or.inl q))).trans (hc.1 a h1).1, (hc.1 a h1).2⟩
theorem Pa.turn {μ : Mu} {o : Nat} {h : Nat → TS} (hp : Pa μ o 8 h) : Pa (si (si μ 83 1 (nI ((o + 1) % 8))) 83 2 (nI 7)) ((o + 1) % 8) 7 (fun i => h (i + 1)) := by
  obtain ⟨p1, p2, p3, p4, p5⟩ := hp
  refine ⟨by rw [si_i _ _ _ (by decide)]; exact si_s _ _ _ _, si_s _ _ _ _, by omega, by decide, fun i hi => ?_⟩
  have := ((p5 (i + 1) (by omega)).si (by omega) (k := 83) (i := 1) (v := nI ((o + 1) % 8)) (by decide)).si (by omega) (k := 83) (i := 2) (v := nI 7) (by decide)
  rw [show ((o + 1) % 8 + i) % 8 = (o + (i + 1)) % 8 by omega]
  exact this
theorem push_8 (h : Nat → TS) (S : TS) : push 8 h S = push 7 (fun i => h (i + 1)) S := by
  unfold push
  rw [if_pos rfl, if_neg (by decide)]
theorem ok_X2_keep {G : Gx} {μ : Mu} (o k : Nat) (h : Nat → TS) (S : TS) (hp : Pa μ o k h) (hS : St μ 0 S) : Runs 3 M_X2_keep [.ref (G.2.2 83), .ref (G.2.2 (8 * 0))] G μ (fun r μ' => r = none ∧ Fr μ μ' C83 ∧ ∃ o' k', k' = (if k = 8 then 8 else k + 1) ∧ Pa μ' o' k' (push k h S)) := by
  have ho := hp.2.2.1
  have hk := hp.2.2.2.1
  refine Runs.go RX2 rfl (by decide) [(0, .ref (G.2.2 83)), (1, .ref (G.2.2 (8 * 0)))] (Nat.le_of_ble_eq_true rfl) rfl (fun X hF => ?_)
  refine V.aload_n (pc := 0) 0 dX2_keep_0 rfl ?_
  refine gf_X2_21 (pc := 1) (v := nI k) dX2_keep_1 hp.2.1 ?_
  refine V.bipush (pc := 4) (v := nI 8) dX2_keep_4 (by decide) ?_
  refine V.icmpN_ne (pc := 6) 32 dX2_keep_6 (by decide) (by omega) (by omega) (fun h_6 => ?_) (fun h_6 => ?_)
  · refine V.aload_n (pc := 32) 0 dX2_keep_32 rfl ?_
    refine gf_X2_11 (pc := 33) dX2_keep_33 ?_
    refine V.aload_n (pc := 36) 0 dX2_keep_36 rfl ?_
    refine gf_X2_17 (pc := 37) (v := nI o) dX2_keep_37 hp.1 ?_
    refine V.aload_n (pc := 40) 0 dX2_keep_40 rfl ?_
    refine gf_X2_21 (pc := 41) (v := nI k) dX2_keep_41 hp.2.1 ?_
    refine V.iadd (pc := 44) (v := nI (o + k)) dX2_keep_44 (nI_add _ _) ?_
    refine V.bipush (pc := 45) (v := nI 8) dX2_keep_45 (by decide) ?_
    refine V.irem (pc := 47) (v := nI ((o + k) % 8)) dX2_keep_47 (nn_div0 (by omega) (by omega)) (pk_rem (by omega) (by omega) (by omega)) ?_
    refine V.aaldS (pc := 48) (k := 84) (n := 8) (Nat.le_of_ble_eq_true rfl) (fun _ _ => rfl) ((o + k) % 8) (by omega) (by decide) dX2_keep_48 ?_
    refine V.aload_n (pc := 49) 1 dX2_keep_49 rfl ?_
    refine cl_X2_25 (pc := 50) (2 + ((o + k) % 8)) (by omega) dX2_keep_50 (ok_X6_copyFrom (2 + ((o + k) % 8)) 0 (by omega) (by decide) (by omega)) (by omega) (Nat.le_of_ble_eq_true rfl) (fun r_ μ_ h_ => ?_)
    obtain ⟨rfl, hcp⟩ := h_
    refine V.aload_n (pc := 53) 0 dX2_keep_53 rfl ?_
    refine V.dup (pc := 54) dX2_keep_54 rfl ?_
    refine gf_X2_21 (pc := 55) (v := nI k) dX2_keep_55 (((congrFun (hcp.1 83 (by unfold Blk; omega)).1 2)).trans hp.2.1) ?_
    refine V.iconst (pc := 58) (v := nI 1) dX2_keep_58 (by decide) ?_
    refine V.iadd (pc := 59) (v := nI (k + 1)) dX2_keep_59 (nI_add _ _) ?_
    refine pf_X2_21 (pc := 60) dX2_keep_60 ?_
    exact V.vret (pc := 63) hF dX2_keep_63 ⟨rfl, (hp.keep h_6 hS hcp rfl).2, o, k + 1, by rw [if_neg h_6], (hp.keep h_6 hS hcp rfl).1⟩
  · refine V.aload_n (pc := 9) 0 dX2_keep_9 rfl ?_
    refine V.aload_n (pc := 10) 0 dX2_keep_10 rfl ?_
    refine gf_X2_17 (pc := 11) (v := nI o) dX2_keep_11 hp.1 ?_
    refine V.iconst (pc := 14) (v := nI 1) dX2_keep_14 (by decide) ?_
    refine V.iadd (pc := 15) (v := nI (o + 1)) dX2_keep_15 (nI_add _ _) ?_
    refine V.bipush (pc := 16) (v := nI 8) dX2_keep_16 (by decide) ?_
    refine V.irem (pc := 18) (v := nI ((o + 1) % 8)) dX2_keep_18 (nn_div0 (by omega) (by omega)) (pk_rem (by omega) (by omega) (by omega)) ?_
    refine pf_X2_17 (pc := 19) dX2_keep_19 ?_
    refine V.aload_n (pc := 22) 0 dX2_keep_22 rfl ?_
    refine V.dup (pc := 23) dX2_keep_23 rfl ?_
    refine gf_X2_21 (pc := 24) (v := nI k) dX2_keep_24 (Eq.trans (si_i _ _ _ (by decide) _) hp.2.1) ?_
    refine V.iconst (pc := 27) (v := nI 1) dX2_keep_27 (by decide) ?_
    refine V.isub (pc := 28) (v := nI 7) dX2_keep_28 ((pk_sub (by omega)).trans (congrArg nI (by omega))) ?_
    refine pf_X2_21 (pc := 29) dX2_keep_29 ?_
    refine V.aload_n (pc := 32) 0 dX2_keep_32 rfl ?_
    refine gf_X2_11 (pc := 33) dX2_keep_33 ?_
    refine V.aload_n (pc := 36) 0 dX2_keep_36 rfl ?_
    refine gf_X2_17 (pc := 37) (v := nI ((o + 1) % 8)) dX2_keep_37 ((Eq.trans (si_i _ _ _ (by decide) _) (si_s _ _ _ _))) ?_
    refine V.aload_n (pc := 40) 0 dX2_keep_40 rfl ?_
    refine gf_X2_21 (pc := 41) (v := nI 7) dX2_keep_41 (si_s _ _ _ _) ?_
    refine V.iadd (pc := 44) (v := nI ((o + 1) % 8 + 7)) dX2_keep_44 (nI_add _ _) ?_
    refine V.bipush (pc := 45) (v := nI 8) dX2_keep_45 (by decide) ?_
    refine V.irem (pc := 47) (v := nI (((o + 1) % 8 + 7) % 8)) dX2_keep_47 (nn_div0 (by omega) (by omega)) (pk_rem (by omega) (by omega) (by omega)) ?_
    refine V.aaldS (pc := 48) (k := 84) (n := 8) (Nat.le_of_ble_eq_true rfl) (fun _ _ => rfl) (((o + 1) % 8 + 7) % 8) (by omega) (by decide) dX2_keep_48 ?_
    refine V.aload_n (pc := 49) 1 dX2_keep_49 rfl ?_
    refine cl_X2_25 (pc := 50) (2 + (((o + 1) % 8 + 7) % 8)) (by omega) dX2_keep_50 (ok_X6_copyFrom (2 + (((o + 1) % 8 + 7) % 8)) 0 (by omega) (by decide) (by omega)) (by omega) (Nat.le_of_ble_eq_true rfl) (fun r_ μ_ h_ => ?_)
    obtain ⟨rfl, hcp⟩ := h_
    refine V.aload_n (pc := 53) 0 dX2_keep_53 rfl ?_
    refine V.dup (pc := 54) dX2_keep_54 rfl ?_
    refine gf_X2_21 (pc := 55) (v := nI 7) dX2_keep_55 (((congrFun (hcp.1 83 (by unfold Blk; omega)).1 2)).trans (si_s _ _ _ _)) ?_
    refine V.iconst (pc := 58) (v := nI 1) dX2_keep_58 (by decide) ?_
    refine V.iadd (pc := 59) (v := nI (7 + 1)) dX2_keep_59 (nI_add _ _) ?_
    refine pf_X2_21 (pc := 60) dX2_keep_60 ?_
    exact V.vret (pc := 63) hF dX2_keep_63 (by
        subst h_6
        have hS2 : St (si (si μ 83 1 (nI ((o + 1) % 8))) 83 2 (nI 7)) 0 S := (hS.si (by decide) (by decide)).si (by decide) (by decide)
        have hq := hp.turn.keep (by decide) hS2 hcp rfl
        refine ⟨rfl, Fr.trans (((Fr.refl μ C83).si _ _ (Or.inl rfl)).si _ _ (Or.inl rfl)) hq.2 (fun _ h => h) (fun _ h => h), (o + 1) % 8, 8, rfl, ?_⟩
        rw [push_8]
        exact hq.1)
def C830 (a : Nat) : Prop := a = 83 ∨ a < 8
theorem Pa.back {μ μ' : Mu} {o k : Nat} {h : Nat → TS} (hp : Pa μ o (k + 1) h) (hc : CopyOf (si μ 83 2 (nI k)) μ' (2 + (o + k) % 8) 0) : Pa μ' o k h ∧ Fr μ μ' C830 ∧ St μ' 0 (h k) := by
  obtain ⟨p1, p2, p3, p4, p5⟩ := hp
  have h83 := (hc.1 83 (by unfold Blk; omega)).1
  refine ⟨⟨by rw [h83, si_i _ _ _ (by decide)]; exact p1, by rw [h83]; exact si_s _ _ _ _, p3, by omega, fun i hi => ?_⟩, fun a ha => ?_, ?_⟩
  · exact hc.keep ((p5 i (by omega)).si (by omega) (by decide)) (by omega)
  · have h1 : ¬ Blk 0 a := fun q => ha (Or.inr (by unfold Blk at q; omega))
    exact ⟨((hc.1 a h1).1).trans (si_c _ _ _ (fun q => ha (Or.inl q))), (hc.1 a h1).2⟩
  · exact hc.st ((p5 k (by omega)).si (by omega) (by decide))
theorem ok_X2_giveBack {G : Gx} {μ : Mu} (o k : Nat) (h : Nat → TS) (hp : Pa μ o (k + 1) h) : Runs 3 M_X2_giveBack [.ref (G.2.2 83), .ref (G.2.2 (8 * 0))] G μ (fun r μ' => r = none ∧ Pa μ' o k h ∧ Fr μ μ' C830 ∧ St μ' 0 (h k)) := by
  have ho := hp.2.2.1
  have hk := hp.2.2.2.1
  refine Runs.go RX2 rfl (by decide) [(0, .ref (G.2.2 83)), (1, .ref (G.2.2 (8 * 0)))] (Nat.le_of_ble_eq_true rfl) rfl (fun X hF => ?_)
  refine V.aload_n (pc := 0) 0 dX2_giveBack_0 rfl ?_
  refine V.dup (pc := 1) dX2_giveBack_1 rfl ?_
  refine gf_X2_21 (pc := 2) (v := nI (k + 1)) dX2_giveBack_2 hp.2.1 ?_
  refine V.iconst (pc := 5) (v := nI 1) dX2_giveBack_5 (by decide) ?_
  refine V.isub (pc := 6) (v := nI k) dX2_giveBack_6 ((pk_sub (by omega)).trans (congrArg nI (by omega))) ?_
  refine pf_X2_21 (pc := 7) dX2_giveBack_7 ?_
  refine V.aload_n (pc := 10) 1 dX2_giveBack_10 rfl ?_
  refine V.aload_n (pc := 11) 0 dX2_giveBack_11 rfl ?_
  refine gf_X2_11 (pc := 12) dX2_giveBack_12 ?_
  refine V.aload_n (pc := 15) 0 dX2_giveBack_15 rfl ?_
  refine gf_X2_17 (pc := 16) (v := nI o) dX2_giveBack_16 (Eq.trans (si_i _ _ _ (by decide) _) hp.1) ?_
  refine V.aload_n (pc := 19) 0 dX2_giveBack_19 rfl ?_
  refine gf_X2_21 (pc := 20) (v := nI k) dX2_giveBack_20 (si_s _ _ _ _) ?_
  refine V.iadd (pc := 23) (v := nI (o + k)) dX2_giveBack_23 (nI_add _ _) ?_
  refine V.bipush (pc := 24) (v := nI 8) dX2_giveBack_24 (by decide) ?_
  refine V.irem (pc := 26) (v := nI ((o + k) % 8)) dX2_giveBack_26 (nn_div0 (by omega) (by omega)) (pk_rem (by omega) (by omega) (by omega)) ?_
  refine V.aaldS (pc := 27) (k := 84) (n := 8) (Nat.le_of_ble_eq_true rfl) (fun _ _ => rfl) ((o + k) % 8) (by omega) (by decide) dX2_giveBack_27 ?_
  refine cl_X2_25 (pc := 28) 0 (by decide) dX2_giveBack_28 (ok_X6_copyFrom 0 (2 + ((o + k) % 8)) (by decide) (by omega) (by omega)) (by omega) (Nat.le_of_ble_eq_true rfl) (fun r_ μ_ h_ => ?_)
  obtain ⟨rfl, hcp⟩ := h_
  exact V.vret (pc := 31) hF dX2_giveBack_31 ⟨rfl, hp.back hcp⟩
