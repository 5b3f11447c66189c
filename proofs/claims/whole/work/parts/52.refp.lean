theorem nn_sbv (k : Nat) (hk : k < 32) : ((nI k &&& 31).toBitVec.smod 32).toNat = k := nn_s32 k hk
theorem shr255 {x s : Nat} (hx : x < 2 ^ 32) (hs : s ≤ 24) : (nI x >>> (nI s &&& 31)) &&& nI 255 = nI ((x >>> s) % 256) := by
  apply Int32.toBitVec_inj.1
  show (nI x).toBitVec.sshiftRight ((nI s &&& 31).toBitVec.smod 32).toNat &&& (nI 255).toBitVec = BitVec.ofNat 32 ((x >>> s) % 256)
  rw [nn_s32 s (by omega), nn_bv, nn_bv]
  apply BitVec.eq_of_getLsbD_eq
  intro i hi
  rw [BitVec.getLsbD_and, BitVec.getLsbD_sshiftRight, BitVec.getLsbD_ofNat, BitVec.getLsbD_ofNat, BitVec.getLsbD_ofNat, show (256 : Nat) = 2 ^ 8 from rfl, Nat.testBit_mod_two_pow, show (255 : Nat) = 2 ^ 8 - 1 from rfl, Nat.testBit_two_pow_sub_one, Nat.testBit_shiftRight]
  by_cases h8 : i < 8
  · have h1 : s + i < 32 := by omega
    rw [if_pos h1]
    simp [h8, hi, h1]
  · simp [h8]
theorem Rf.ext {μ : Mu} {a : AS} (h : Rf μ a) (bs' : Nat → Nat) (t : Nat) (ht : t ≤ 600) {μ' : Mu} (h2 : μ'.1 96 2 = nI t) (h96 : ∀ i, i = 5 ∨ i = 12 ∨ i = 13 → μ'.1 96 i = μ.1 96 i) (hb : ∀ i, i < t → μ'.1 98 i = nI (bs' i) ∧ bs' i < 256) (h3 : ∀ c, c ≠ 96 → c ≠ 98 → μ'.1 c = μ.1 c) (h4 : μ'.2 = μ.2) : Rf μ' (bs', t, a.fp, a.rf, a.S, a.k, a.h) := by
  obtain ⟨g1, g2, g3, g4, g5, g6, g7, g8, g9, q, g10, g11⟩ := h
  exact ⟨h2, ht, hb, by rw [h96 _ (by omega)]; exact g4, fun r hr => by rw [h3 _ (by decide) (by decide)]; exact g5 r hr, g6.row (by rw [h4]), by rw [h96 _ (by omega)]; exact g7, g8, fun i hi => (g9 i hi).row (by rw [h4]), q, by rw [h96 _ (by omega)]; exact g10, fun z x hx => by rw [h3 _ (by decide) (by decide), h3 _ (by decide) (by decide)]; exact g11 z x hx⟩
theorem ok_X9_thrown {G : Gx} {μ : Mu} (t : Nat) (ht : μ.1 96 0 = nI t) : RunsP 0 M_X9_thrown [.ref (G.2.2 96)] G μ (.int (nI t)) := by
  refine Runs.go RX9 rfl (by decide) [(0, .ref (G.2.2 96))] (Nat.le_of_ble_eq_true rfl) rfl (fun X hF => ?_)
  refine V.aload_n (pc := 0) 0 dX9_thrown_0 rfl ?_
  refine gf_X9_60 (pc := 1) (v := nI t) dX9_thrown_1 ht ?_
  exact V.iret (pc := 4) hF dX9_thrown_4 ⟨rfl, rfl⟩
theorem fd_at {a : AS} {x1 x2 x3 x4 x5 k x : Nat} (e : (if k < 4 then x1 else if k < 8 then x2 else if k < 12 then x3 else if k < 16 then x4 else x5) = x) : fdB a x1 x2 x3 x4 x5 (a.tb + k) = by4 x (k % 4) := by
  unfold fdB fd5
  rw [if_neg (by omega), show a.tb + k - a.tb = k by omega, e]
theorem by4_lt (x k : Nat) : by4 x k < 256 := Nat.mod_lt _ (by decide)
theorem fd_step {μ1 : Mu} {t v : Nat} {g : Nat → Nat} (h : ∀ i, i < t → μ1.1 98 i = nI (g i) ∧ g i < 256) (e : g t = v) (hv : v < 256) : ∀ i, i < t + 1 → (si (si μ1 98 t (nI v)) 96 2 (nI (t + 1))).1 98 i = nI (g i) ∧ g i < 256 := by
  intro i hi
  rw [si_c _ _ _ (by decide)]
  by_cases z : i = t
  · subst z; rw [si_s, e]; exact ⟨rfl, hv⟩
  · rw [si_i _ _ _ z]; exact h i (by omega)
theorem ok_X9_feed {G : Gx} {μ : Mu} (a : AS) (hRf : Rf μ a) (x1 x2 x3 x4 x5 : Nat) (hx1 : x1 < 2 ^ 32) (hx2 : x2 < 2 ^ 32) (hx3 : x3 < 2 ^ 32) (hx4 : x4 < 2 ^ 32) (hx5 : x5 < 2 ^ 32) : Runs 1 M_X9_feed [.ref (G.2.2 96), .int (nI x1), .int (nI x2), .int (nI x3), .int (nI x4), .int (nI x5)] G μ (RP μ (sp_feed a x1 x2 x3 x4 x5)) := by
  refine Runs.go RX9 rfl (by decide) [(0, .ref (G.2.2 96)), (1, .int (nI x1)), (2, .int (nI x2)), (3, .int (nI x3)), (4, .int (nI x4)), (5, .int (nI x5))] (Nat.le_of_ble_eq_true rfl) rfl (fun X hF => ?_)
  refine V.aload_n (pc := 0) 0 dX9_feed_0 rfl ?_
  refine V.iconst (pc := 1) (v := nI 0) dX9_feed_1 (by decide) ?_
  refine pf_X9_60 (pc := 2) dX9_feed_2 ?_
  obtain ⟨μ0, hμ0⟩ : ∃ m, m = si μ 96 0 (nI 0) := ⟨_, rfl⟩
  rw [← hμ0]
  have hR0 : Rf μ0 a := by rw [hμ0]; exact hRf.fld 0 _ (by decide)
  have hth : μ0.1 96 0 = nI 0 := by rw [hμ0, si_s]
  have hC0 : Fr μ μ0 RK := by rw [hμ0]; exact (Fr.refl μ RK).si _ _ (by unfold RK; decide)
  clear hμ0
  have hR := hR0.rw
  have hvs := hR.vs
  have hn16 := hvs.n16
  have hu48 := hvs.u48
  have hT2 := hvs.tk
  have hp16 := pow16 hvs
  have hB9 := hvs.B9
  have hp48 := pow48 hvs
  have hLL := hvs.le
  have htb := hR0.2.1
  refine V.aload_n (pc := 5) 0 dX9_feed_5 rfl ?_
  refine gf_X9_63 (pc := 6) (v := nI a.tb) dX9_feed_6 hR0.1 ?_
  refine V.bipush (pc := 9) (v := nI 20) dX9_feed_9 (by decide) ?_
  refine V.iadd (pc := 11) (v := nI (a.tb + 20)) dX9_feed_11 (nI_add _ _) ?_
  refine V.sipush (pc := 12) (v := nI 600) dX9_feed_12 (by decide) ?_
  refine V.icmpN_le (pc := 15) 20 dX9_feed_15 (by decide) (by omega) (by omega) (fun h_15 => ?_) (fun h_15 => ?_)
  · refine V.iconst (pc := 20) (v := nI 0) dX9_feed_20 (by decide) ?_
    refine V.istore (pc := 21) (lv' := [(0, .ref (G.2.2 96)), (1, .int (nI x1)), (2, .int (nI x2)), (3, .int (nI x3)), (4, .int (nI x4)), (5, .int (nI x5)), (6, .int (nI 0))]) dX9_feed_21 (by decide) rfl ?_
    have L23 : ∀ (n_ : Nat) (k : Nat) ( μ1 : Mu), (k ≤ 20) → (μ1.1 96 2 = nI (a.tb + k)) → (∀ i, i ≠ 2 → μ1.1 96 i = μ0.1 96 i) → (∀ i, i < a.tb + k → μ1.1 98 i = nI (fdB a x1 x2 x3 x4 x5 i) ∧ fdB a x1 x2 x3 x4 x5 i < 256) → (∀ c, c ≠ 96 → c ≠ 98 → μ1.1 c = μ0.1 c) → (μ1.2 = μ0.2) → (Fr μ μ1 RK) → 20 - k < n_ → V G RX9 cX9_feed 8 1 X 23 [(0, .ref (G.2.2 96)), (1, .int (nI x1)), (2, .int (nI x2)), (3, .int (nI x3)), (4, .int (nI x4)), (5, .int (nI x5)), (6, .int (nI k))] [] μ1 := by
      intro n_
      induction n_ with
      | zero => intro k μ1 hk h2 h96 hb h3 h4 hfr hm_; exact absurd hm_ (Nat.not_lt_zero _)
      | succ n_ ih23 =>
        intro k μ1 hk h2 h96 hb h3 h4 hfr hm_
        refine V.iload (pc := 23) 6 dX9_feed_23 rfl ?_
        refine V.bipush (pc := 25) (v := nI 20) dX9_feed_25 (by decide) ?_
        refine V.icmpN_ge (pc := 27) 120 dX9_feed_27 (by decide) (by omega) (by omega) (fun h_27 => ?_) (fun h_27 => ?_)
        · have hk20 : k = 20 := by omega
          subst hk20
          refine V.aload_n (pc := 120) 0 dX9_feed_120 rfl ?_
          refine gf_X9_63 (pc := 121) (v := nI (a.tb + 20)) dX9_feed_121 h2 ?_
          exact V.iret (pc := 124) hF dX9_feed_124 (RP.mk (if_pos (by omega)) (hR0.ext _ _ (by omega) h2 (fun i hi => h96 i (by omega)) hb h3 h4) ((h96 0 (by decide)).trans hth) hfr)
        · refine V.iload (pc := 30) 6 dX9_feed_30 rfl ?_
          refine V.iconst (pc := 32) (v := nI 4) dX9_feed_32 (by decide) ?_
          refine V.icmpN_ge (pc := 33) 40 dX9_feed_33 (by decide) (by omega) (by omega) (fun h_33 => ?_) (fun h_33 => ?_)
          · refine V.iload (pc := 40) 6 dX9_feed_40 rfl ?_
            refine V.bipush (pc := 42) (v := nI 8) dX9_feed_42 (by decide) ?_
            refine V.icmpN_ge (pc := 44) 51 dX9_feed_44 (by decide) (by omega) (by omega) (fun h_44 => ?_) (fun h_44 => ?_)
            · refine V.iload (pc := 51) 6 dX9_feed_51 rfl ?_
              refine V.bipush (pc := 53) (v := nI 12) dX9_feed_53 (by decide) ?_
              refine V.icmpN_ge (pc := 55) 62 dX9_feed_55 (by decide) (by omega) (by omega) (fun h_55 => ?_) (fun h_55 => ?_)
              · refine V.iload (pc := 62) 6 dX9_feed_62 rfl ?_
                refine V.bipush (pc := 64) (v := nI 16) dX9_feed_64 (by decide) ?_
                refine V.icmpN_ge (pc := 66) 74 dX9_feed_66 (by decide) (by omega) (by omega) (fun h_66 => ?_) (fun h_66 => ?_)
                · refine V.iload (pc := 74) 5 dX9_feed_74 rfl ?_
                  refine V.istore (pc := 76) (lv' := [(0, .ref (G.2.2 96)), (1, .int (nI x1)), (2, .int (nI x2)), (3, .int (nI x3)), (4, .int (nI x4)), (5, .int (nI x5)), (6, .int (nI k)), (7, .int (nI x5))]) dX9_feed_76 (by decide) rfl ?_
                  refine V.aload_n (pc := 78) 0 dX9_feed_78 rfl ?_
                  refine gf_X9_17 (pc := 79) dX9_feed_79 ?_
                  refine V.aload_n (pc := 82) 0 dX9_feed_82 rfl ?_
                  refine gf_X9_63 (pc := 83) (v := nI (a.tb + k)) dX9_feed_83 h2 ?_
                  refine V.iload (pc := 86) 7 dX9_feed_86 rfl ?_
                  refine V.bipush (pc := 88) (v := nI 24) dX9_feed_88 (by decide) ?_
                  refine V.bipush (pc := 90) (v := nI 8) dX9_feed_90 (by decide) ?_
                  refine V.iload (pc := 92) 6 dX9_feed_92 rfl ?_
                  refine V.iconst (pc := 94) (v := nI 4) dX9_feed_94 (by decide) ?_
                  refine V.irem (pc := 95) (v := nI (k % 4)) dX9_feed_95 (nn_div0 (by omega) (by omega)) (pk_rem (by omega) (by omega) (by omega)) ?_
                  refine V.imul (pc := 96) (v := nI (8 * (k % 4))) dX9_feed_96 (pk_mul _ _) ?_
                  refine V.isub (pc := 97) (v := nI (24 - (8 * (k % 4)))) dX9_feed_97 (pk_sub (by omega)) ?_
                  refine V.ishr (pc := 98) (v := nI x5 >>> (nI (24 - 8 * (k % 4)) &&& 31)) dX9_feed_98 rfl ?_
                  refine V.sipush (pc := 99) (v := nI 255) dX9_feed_99 (by decide) ?_
                  refine V.iand (pc := 102) (v := nI (by4 x5 (k % 4))) dX9_feed_102 (shr255 hx5 (by omega)) ?_
                  refine V.iast (pc := 103) (k := 98) (n := 600) (v := nI (by4 x5 (k % 4))) (Nat.le_of_ble_eq_true rfl) (fun _ _ => rfl) (a.tb + k) (by omega) (by decide) dX9_feed_103 rfl ?_
                  refine V.aload_n (pc := 104) 0 dX9_feed_104 rfl ?_
                  refine V.dup (pc := 105) dX9_feed_105 rfl ?_
                  refine gf_X9_63 (pc := 106) (v := nI (a.tb + k)) dX9_feed_106 (Eq.trans (congrFun (si_c _ _ _ (by decide)) _) h2) ?_
                  refine V.iconst (pc := 109) (v := nI 1) dX9_feed_109 (by decide) ?_
                  refine V.iadd (pc := 110) (v := nI (a.tb + k + 1)) dX9_feed_110 (nI_add _ _) ?_
                  refine pf_X9_63 (pc := 111) dX9_feed_111 ?_
                  refine V.iinc (pc := 114) (v := nI (k + 1)) (lv' := [(0, .ref (G.2.2 96)), (1, .int (nI x1)), (2, .int (nI x2)), (3, .int (nI x3)), (4, .int (nI x4)), (5, .int (nI x5)), (6, .int (nI (k + 1))), (7, .int (nI x5))]) 6 dX9_feed_114 rfl (nn_inc _) (by decide) rfl ?_
                  refine V.goto (pc := 117) 23 dX9_feed_117 (by decide) ?_
                  refine V.sub (lv' := [(0, .ref (G.2.2 96)), (1, .int (nI x1)), (2, .int (nI x2)), (3, .int (nI x3)), (4, .int (nI x4)), (5, .int (nI x5)), (6, .int (nI (k + 1)))]) [0, 1, 2, 3, 4, 5, 6] rfl ?_
                  exact ih23 (k + 1) (si (si μ1 98 (a.tb + k) (nI (by4 x5 (k % 4)))) 96 2 (nI (a.tb + k + 1))) (by omega) (si_s _ _ _ _) (fun i hi => (si_i _ _ _ hi _).trans ((congrFun (si_c _ _ _ (by decide)) i).trans (h96 i hi))) (fd_step hb (fd_at (by rw [if_neg (by omega), if_neg (by omega), if_neg (by omega), if_neg (by omega)])) (by4_lt _ _)) (fun c h1 h2 => (si_c _ _ _ h1).trans ((si_c _ _ _ h2).trans (h3 c h1 h2))) h4 ((hfr.si _ _ (by unfold RK; decide)).si _ _ (by unfold RK; decide)) (by omega)
                · refine V.iload (pc := 69) 4 dX9_feed_69 rfl ?_
                  refine V.goto (pc := 71) 76 dX9_feed_71 (by decide) ?_
                  refine V.istore (pc := 76) (lv' := [(0, .ref (G.2.2 96)), (1, .int (nI x1)), (2, .int (nI x2)), (3, .int (nI x3)), (4, .int (nI x4)), (5, .int (nI x5)), (6, .int (nI k)), (7, .int (nI x4))]) dX9_feed_76 (by decide) rfl ?_
                  refine V.aload_n (pc := 78) 0 dX9_feed_78 rfl ?_
                  refine gf_X9_17 (pc := 79) dX9_feed_79 ?_
                  refine V.aload_n (pc := 82) 0 dX9_feed_82 rfl ?_
                  refine gf_X9_63 (pc := 83) (v := nI (a.tb + k)) dX9_feed_83 h2 ?_
                  refine V.iload (pc := 86) 7 dX9_feed_86 rfl ?_
                  refine V.bipush (pc := 88) (v := nI 24) dX9_feed_88 (by decide) ?_
                  refine V.bipush (pc := 90) (v := nI 8) dX9_feed_90 (by decide) ?_
                  refine V.iload (pc := 92) 6 dX9_feed_92 rfl ?_
                  refine V.iconst (pc := 94) (v := nI 4) dX9_feed_94 (by decide) ?_
                  refine V.irem (pc := 95) (v := nI (k % 4)) dX9_feed_95 (nn_div0 (by omega) (by omega)) (pk_rem (by omega) (by omega) (by omega)) ?_
                  refine V.imul (pc := 96) (v := nI (8 * (k % 4))) dX9_feed_96 (pk_mul _ _) ?_
                  refine V.isub (pc := 97) (v := nI (24 - (8 * (k % 4)))) dX9_feed_97 (pk_sub (by omega)) ?_
                  refine V.ishr (pc := 98) (v := nI x4 >>> (nI (24 - 8 * (k % 4)) &&& 31)) dX9_feed_98 rfl ?_
                  refine V.sipush (pc := 99) (v := nI 255) dX9_feed_99 (by decide) ?_
                  refine V.iand (pc := 102) (v := nI (by4 x4 (k % 4))) dX9_feed_102 (shr255 hx4 (by omega)) ?_
                  refine V.iast (pc := 103) (k := 98) (n := 600) (v := nI (by4 x4 (k % 4))) (Nat.le_of_ble_eq_true rfl) (fun _ _ => rfl) (a.tb + k) (by omega) (by decide) dX9_feed_103 rfl ?_
                  refine V.aload_n (pc := 104) 0 dX9_feed_104 rfl ?_
                  refine V.dup (pc := 105) dX9_feed_105 rfl ?_
                  refine gf_X9_63 (pc := 106) (v := nI (a.tb + k)) dX9_feed_106 (Eq.trans (congrFun (si_c _ _ _ (by decide)) _) h2) ?_
                  refine V.iconst (pc := 109) (v := nI 1) dX9_feed_109 (by decide) ?_
                  refine V.iadd (pc := 110) (v := nI (a.tb + k + 1)) dX9_feed_110 (nI_add _ _) ?_
                  refine pf_X9_63 (pc := 111) dX9_feed_111 ?_
                  refine V.iinc (pc := 114) (v := nI (k + 1)) (lv' := [(0, .ref (G.2.2 96)), (1, .int (nI x1)), (2, .int (nI x2)), (3, .int (nI x3)), (4, .int (nI x4)), (5, .int (nI x5)), (6, .int (nI (k + 1))), (7, .int (nI x4))]) 6 dX9_feed_114 rfl (nn_inc _) (by decide) rfl ?_
                  refine V.goto (pc := 117) 23 dX9_feed_117 (by decide) ?_
                  refine V.sub (lv' := [(0, .ref (G.2.2 96)), (1, .int (nI x1)), (2, .int (nI x2)), (3, .int (nI x3)), (4, .int (nI x4)), (5, .int (nI x5)), (6, .int (nI (k + 1)))]) [0, 1, 2, 3, 4, 5, 6] rfl ?_
                  exact ih23 (k + 1) (si (si μ1 98 (a.tb + k) (nI (by4 x4 (k % 4)))) 96 2 (nI (a.tb + k + 1))) (by omega) (si_s _ _ _ _) (fun i hi => (si_i _ _ _ hi _).trans ((congrFun (si_c _ _ _ (by decide)) i).trans (h96 i hi))) (fd_step hb (fd_at (by rw [if_neg (by omega), if_neg (by omega), if_neg (by omega), if_pos (by omega)])) (by4_lt _ _)) (fun c h1 h2 => (si_c _ _ _ h1).trans ((si_c _ _ _ h2).trans (h3 c h1 h2))) h4 ((hfr.si _ _ (by unfold RK; decide)).si _ _ (by unfold RK; decide)) (by omega)
              · refine V.iload_n (pc := 58) 3 dX9_feed_58 rfl ?_
                refine V.goto (pc := 59) 76 dX9_feed_59 (by decide) ?_
                refine V.istore (pc := 76) (lv' := [(0, .ref (G.2.2 96)), (1, .int (nI x1)), (2, .int (nI x2)), (3, .int (nI x3)), (4, .int (nI x4)), (5, .int (nI x5)), (6, .int (nI k)), (7, .int (nI x3))]) dX9_feed_76 (by decide) rfl ?_
                refine V.aload_n (pc := 78) 0 dX9_feed_78 rfl ?_
                refine gf_X9_17 (pc := 79) dX9_feed_79 ?_
                refine V.aload_n (pc := 82) 0 dX9_feed_82 rfl ?_
                refine gf_X9_63 (pc := 83) (v := nI (a.tb + k)) dX9_feed_83 h2 ?_
                refine V.iload (pc := 86) 7 dX9_feed_86 rfl ?_
                refine V.bipush (pc := 88) (v := nI 24) dX9_feed_88 (by decide) ?_
                refine V.bipush (pc := 90) (v := nI 8) dX9_feed_90 (by decide) ?_
                refine V.iload (pc := 92) 6 dX9_feed_92 rfl ?_
                refine V.iconst (pc := 94) (v := nI 4) dX9_feed_94 (by decide) ?_
                refine V.irem (pc := 95) (v := nI (k % 4)) dX9_feed_95 (nn_div0 (by omega) (by omega)) (pk_rem (by omega) (by omega) (by omega)) ?_
                refine V.imul (pc := 96) (v := nI (8 * (k % 4))) dX9_feed_96 (pk_mul _ _) ?_
                refine V.isub (pc := 97) (v := nI (24 - (8 * (k % 4)))) dX9_feed_97 (pk_sub (by omega)) ?_
                refine V.ishr (pc := 98) (v := nI x3 >>> (nI (24 - 8 * (k % 4)) &&& 31)) dX9_feed_98 rfl ?_
                refine V.sipush (pc := 99) (v := nI 255) dX9_feed_99 (by decide) ?_
                refine V.iand (pc := 102) (v := nI (by4 x3 (k % 4))) dX9_feed_102 (shr255 hx3 (by omega)) ?_
                refine V.iast (pc := 103) (k := 98) (n := 600) (v := nI (by4 x3 (k % 4))) (Nat.le_of_ble_eq_true rfl) (fun _ _ => rfl) (a.tb + k) (by omega) (by decide) dX9_feed_103 rfl ?_
                refine V.aload_n (pc := 104) 0 dX9_feed_104 rfl ?_
                refine V.dup (pc := 105) dX9_feed_105 rfl ?_
                refine gf_X9_63 (pc := 106) (v := nI (a.tb + k)) dX9_feed_106 (Eq.trans (congrFun (si_c _ _ _ (by decide)) _) h2) ?_
                refine V.iconst (pc := 109) (v := nI 1) dX9_feed_109 (by decide) ?_
                refine V.iadd (pc := 110) (v := nI (a.tb + k + 1)) dX9_feed_110 (nI_add _ _) ?_
                refine pf_X9_63 (pc := 111) dX9_feed_111 ?_
                refine V.iinc (pc := 114) (v := nI (k + 1)) (lv' := [(0, .ref (G.2.2 96)), (1, .int (nI x1)), (2, .int (nI x2)), (3, .int (nI x3)), (4, .int (nI x4)), (5, .int (nI x5)), (6, .int (nI (k + 1))), (7, .int (nI x3))]) 6 dX9_feed_114 rfl (nn_inc _) (by decide) rfl ?_
                refine V.goto (pc := 117) 23 dX9_feed_117 (by decide) ?_
                refine V.sub (lv' := [(0, .ref (G.2.2 96)), (1, .int (nI x1)), (2, .int (nI x2)), (3, .int (nI x3)), (4, .int (nI x4)), (5, .int (nI x5)), (6, .int (nI (k + 1)))]) [0, 1, 2, 3, 4, 5, 6] rfl ?_
                exact ih23 (k + 1) (si (si μ1 98 (a.tb + k) (nI (by4 x3 (k % 4)))) 96 2 (nI (a.tb + k + 1))) (by omega) (si_s _ _ _ _) (fun i hi => (si_i _ _ _ hi _).trans ((congrFun (si_c _ _ _ (by decide)) i).trans (h96 i hi))) (fd_step hb (fd_at (by rw [if_neg (by omega), if_neg (by omega), if_pos (by omega)])) (by4_lt _ _)) (fun c h1 h2 => (si_c _ _ _ h1).trans ((si_c _ _ _ h2).trans (h3 c h1 h2))) h4 ((hfr.si _ _ (by unfold RK; decide)).si _ _ (by unfold RK; decide)) (by omega)
            · refine V.iload_n (pc := 47) 2 dX9_feed_47 rfl ?_
              refine V.goto (pc := 48) 76 dX9_feed_48 (by decide) ?_
              refine V.istore (pc := 76) (lv' := [(0, .ref (G.2.2 96)), (1, .int (nI x1)), (2, .int (nI x2)), (3, .int (nI x3)), (4, .int (nI x4)), (5, .int (nI x5)), (6, .int (nI k)), (7, .int (nI x2))]) dX9_feed_76 (by decide) rfl ?_
              refine V.aload_n (pc := 78) 0 dX9_feed_78 rfl ?_
              refine gf_X9_17 (pc := 79) dX9_feed_79 ?_
              refine V.aload_n (pc := 82) 0 dX9_feed_82 rfl ?_
              refine gf_X9_63 (pc := 83) (v := nI (a.tb + k)) dX9_feed_83 h2 ?_
              refine V.iload (pc := 86) 7 dX9_feed_86 rfl ?_
              refine V.bipush (pc := 88) (v := nI 24) dX9_feed_88 (by decide) ?_
              refine V.bipush (pc := 90) (v := nI 8) dX9_feed_90 (by decide) ?_
              refine V.iload (pc := 92) 6 dX9_feed_92 rfl ?_
              refine V.iconst (pc := 94) (v := nI 4) dX9_feed_94 (by decide) ?_
              refine V.irem (pc := 95) (v := nI (k % 4)) dX9_feed_95 (nn_div0 (by omega) (by omega)) (pk_rem (by omega) (by omega) (by omega)) ?_
              refine V.imul (pc := 96) (v := nI (8 * (k % 4))) dX9_feed_96 (pk_mul _ _) ?_
              refine V.isub (pc := 97) (v := nI (24 - (8 * (k % 4)))) dX9_feed_97 (pk_sub (by omega)) ?_
              refine V.ishr (pc := 98) (v := nI x2 >>> (nI (24 - 8 * (k % 4)) &&& 31)) dX9_feed_98 rfl ?_
              refine V.sipush (pc := 99) (v := nI 255) dX9_feed_99 (by decide) ?_
              refine V.iand (pc := 102) (v := nI (by4 x2 (k % 4))) dX9_feed_102 (shr255 hx2 (by omega)) ?_
              refine V.iast (pc := 103) (k := 98) (n := 600) (v := nI (by4 x2 (k % 4))) (Nat.le_of_ble_eq_true rfl) (fun _ _ => rfl) (a.tb + k) (by omega) (by decide) dX9_feed_103 rfl ?_
              refine V.aload_n (pc := 104) 0 dX9_feed_104 rfl ?_
              refine V.dup (pc := 105) dX9_feed_105 rfl ?_
              refine gf_X9_63 (pc := 106) (v := nI (a.tb + k)) dX9_feed_106 (Eq.trans (congrFun (si_c _ _ _ (by decide)) _) h2) ?_
              refine V.iconst (pc := 109) (v := nI 1) dX9_feed_109 (by decide) ?_
              refine V.iadd (pc := 110) (v := nI (a.tb + k + 1)) dX9_feed_110 (nI_add _ _) ?_
              refine pf_X9_63 (pc := 111) dX9_feed_111 ?_
              refine V.iinc (pc := 114) (v := nI (k + 1)) (lv' := [(0, .ref (G.2.2 96)), (1, .int (nI x1)), (2, .int (nI x2)), (3, .int (nI x3)), (4, .int (nI x4)), (5, .int (nI x5)), (6, .int (nI (k + 1))), (7, .int (nI x2))]) 6 dX9_feed_114 rfl (nn_inc _) (by decide) rfl ?_
              refine V.goto (pc := 117) 23 dX9_feed_117 (by decide) ?_
              refine V.sub (lv' := [(0, .ref (G.2.2 96)), (1, .int (nI x1)), (2, .int (nI x2)), (3, .int (nI x3)), (4, .int (nI x4)), (5, .int (nI x5)), (6, .int (nI (k + 1)))]) [0, 1, 2, 3, 4, 5, 6] rfl ?_
              exact ih23 (k + 1) (si (si μ1 98 (a.tb + k) (nI (by4 x2 (k % 4)))) 96 2 (nI (a.tb + k + 1))) (by omega) (si_s _ _ _ _) (fun i hi => (si_i _ _ _ hi _).trans ((congrFun (si_c _ _ _ (by decide)) i).trans (h96 i hi))) (fd_step hb (fd_at (by rw [if_neg (by omega), if_pos (by omega)])) (by4_lt _ _)) (fun c h1 h2 => (si_c _ _ _ h1).trans ((si_c _ _ _ h2).trans (h3 c h1 h2))) h4 ((hfr.si _ _ (by unfold RK; decide)).si _ _ (by unfold RK; decide)) (by omega)
          · refine V.iload_n (pc := 36) 1 dX9_feed_36 rfl ?_
            refine V.goto (pc := 37) 76 dX9_feed_37 (by decide) ?_
            refine V.istore (pc := 76) (lv' := [(0, .ref (G.2.2 96)), (1, .int (nI x1)), (2, .int (nI x2)), (3, .int (nI x3)), (4, .int (nI x4)), (5, .int (nI x5)), (6, .int (nI k)), (7, .int (nI x1))]) dX9_feed_76 (by decide) rfl ?_
            refine V.aload_n (pc := 78) 0 dX9_feed_78 rfl ?_
            refine gf_X9_17 (pc := 79) dX9_feed_79 ?_
            refine V.aload_n (pc := 82) 0 dX9_feed_82 rfl ?_
            refine gf_X9_63 (pc := 83) (v := nI (a.tb + k)) dX9_feed_83 h2 ?_
            refine V.iload (pc := 86) 7 dX9_feed_86 rfl ?_
            refine V.bipush (pc := 88) (v := nI 24) dX9_feed_88 (by decide) ?_
            refine V.bipush (pc := 90) (v := nI 8) dX9_feed_90 (by decide) ?_
            refine V.iload (pc := 92) 6 dX9_feed_92 rfl ?_
            refine V.iconst (pc := 94) (v := nI 4) dX9_feed_94 (by decide) ?_
            refine V.irem (pc := 95) (v := nI (k % 4)) dX9_feed_95 (nn_div0 (by omega) (by omega)) (pk_rem (by omega) (by omega) (by omega)) ?_
            refine V.imul (pc := 96) (v := nI (8 * (k % 4))) dX9_feed_96 (pk_mul _ _) ?_
            refine V.isub (pc := 97) (v := nI (24 - (8 * (k % 4)))) dX9_feed_97 (pk_sub (by omega)) ?_
            refine V.ishr (pc := 98) (v := nI x1 >>> (nI (24 - 8 * (k % 4)) &&& 31)) dX9_feed_98 rfl ?_
            refine V.sipush (pc := 99) (v := nI 255) dX9_feed_99 (by decide) ?_
            refine V.iand (pc := 102) (v := nI (by4 x1 (k % 4))) dX9_feed_102 (shr255 hx1 (by omega)) ?_
            refine V.iast (pc := 103) (k := 98) (n := 600) (v := nI (by4 x1 (k % 4))) (Nat.le_of_ble_eq_true rfl) (fun _ _ => rfl) (a.tb + k) (by omega) (by decide) dX9_feed_103 rfl ?_
            refine V.aload_n (pc := 104) 0 dX9_feed_104 rfl ?_
            refine V.dup (pc := 105) dX9_feed_105 rfl ?_
            refine gf_X9_63 (pc := 106) (v := nI (a.tb + k)) dX9_feed_106 (Eq.trans (congrFun (si_c _ _ _ (by decide)) _) h2) ?_
            refine V.iconst (pc := 109) (v := nI 1) dX9_feed_109 (by decide) ?_
            refine V.iadd (pc := 110) (v := nI (a.tb + k + 1)) dX9_feed_110 (nI_add _ _) ?_
            refine pf_X9_63 (pc := 111) dX9_feed_111 ?_
            refine V.iinc (pc := 114) (v := nI (k + 1)) (lv' := [(0, .ref (G.2.2 96)), (1, .int (nI x1)), (2, .int (nI x2)), (3, .int (nI x3)), (4, .int (nI x4)), (5, .int (nI x5)), (6, .int (nI (k + 1))), (7, .int (nI x1))]) 6 dX9_feed_114 rfl (nn_inc _) (by decide) rfl ?_
            refine V.goto (pc := 117) 23 dX9_feed_117 (by decide) ?_
            refine V.sub (lv' := [(0, .ref (G.2.2 96)), (1, .int (nI x1)), (2, .int (nI x2)), (3, .int (nI x3)), (4, .int (nI x4)), (5, .int (nI x5)), (6, .int (nI (k + 1)))]) [0, 1, 2, 3, 4, 5, 6] rfl ?_
            exact ih23 (k + 1) (si (si μ1 98 (a.tb + k) (nI (by4 x1 (k % 4)))) 96 2 (nI (a.tb + k + 1))) (by omega) (si_s _ _ _ _) (fun i hi => (si_i _ _ _ hi _).trans ((congrFun (si_c _ _ _ (by decide)) i).trans (h96 i hi))) (fd_step hb (fd_at (by rw [if_pos (by omega)])) (by4_lt _ _)) (fun c h1 h2 => (si_c _ _ _ h1).trans ((si_c _ _ _ h2).trans (h3 c h1 h2))) h4 ((hfr.si _ _ (by unfold RK; decide)).si _ _ (by unfold RK; decide)) (by omega)
    exact L23 _ 0 μ0 (by omega) hR0.1 (fun _ _ => rfl) (fun i hi => by unfold fdB; rw [if_pos (by omega)]; exact hR0.2.2.1 i (by omega)) (fun _ _ _ => rfl) rfl hC0 (Nat.lt_succ_self _)
  · refine V.iconst (pc := 18) (v := (-1)) dX9_feed_18 (by decide) ?_
    exact V.iret (pc := 19) hF dX9_feed_19 (RP.mk (if_neg (by omega)) hR0 hth hC0)
theorem ok_X9_fault {G : Gx} {μ : Mu} (a : AS) (hRf : Rf μ a)  : Runs 0 M_X9_fault [.ref (G.2.2 96)] G μ (RP μ (sp_fault a)) := by
  refine Runs.go RX9 rfl (by decide) [(0, .ref (G.2.2 96))] (Nat.le_of_ble_eq_true rfl) rfl (fun X hF => ?_)
  refine V.aload_n (pc := 0) 0 dX9_fault_0 rfl ?_
  refine V.iconst (pc := 1) (v := nI 0) dX9_fault_1 (by decide) ?_
  refine pf_X9_60 (pc := 2) dX9_fault_2 ?_
  obtain ⟨μ0, hμ0⟩ : ∃ m, m = si μ 96 0 (nI 0) := ⟨_, rfl⟩
  rw [← hμ0]
  have hR0 : Rf μ0 a := by rw [hμ0]; exact hRf.fld 0 _ (by decide)
  have hth : μ0.1 96 0 = nI 0 := by rw [hμ0, si_s]
  have hC0 : Fr μ μ0 RK := by rw [hμ0]; exact (Fr.refl μ RK).si _ _ (by unfold RK; decide)
  clear hμ0
  have hR := hR0.rw
  have hvs := hR.vs
  have hn16 := hvs.n16
  have hu48 := hvs.u48
  have hT2 := hvs.tk
  have hp16 := pow16 hvs
  have hB9 := hvs.B9
  have hp48 := pow48 hvs
  have hLL := hvs.le
  refine V.aload_n (pc := 5) 0 dX9_fault_5 rfl ?_
  refine gf_X9_13 (pc := 6) (v := pv a.fp) dX9_fault_6 hR0.2.2.2.1 ?_
  exact V.iret (pc := 9) hF dX9_fault_9 (RP.mk rfl hR0 hth hC0)
theorem ok_X9_status {G : Gx} {μ : Mu} (a : AS) (hRf : Rf μ a) (x : Nat) (hx : x < 2 ^ 32) : Runs 1 M_X9_status [.ref (G.2.2 96), .int (nI x)] G μ (RP μ (sp_status a x)) := by
  refine Runs.go RX9 rfl (by decide) [(0, .ref (G.2.2 96)), (1, .int (nI x))] (Nat.le_of_ble_eq_true rfl) rfl (fun X hF => ?_)
  refine V.aload_n (pc := 0) 0 dX9_status_0 rfl ?_
  refine V.iconst (pc := 1) (v := nI 0) dX9_status_1 (by decide) ?_
  refine pf_X9_60 (pc := 2) dX9_status_2 ?_
  obtain ⟨μ0, hμ0⟩ : ∃ m, m = si μ 96 0 (nI 0) := ⟨_, rfl⟩
  rw [← hμ0]
  have hR0 : Rf μ0 a := by rw [hμ0]; exact hRf.fld 0 _ (by decide)
  have hth : μ0.1 96 0 = nI 0 := by rw [hμ0, si_s]
  have hC0 : Fr μ μ0 RK := by rw [hμ0]; exact (Fr.refl μ RK).si _ _ (by unfold RK; decide)
  clear hμ0
  have hR := hR0.rw
  have hvs := hR.vs
  have hn16 := hvs.n16
  have hu48 := hvs.u48
  have hT2 := hvs.tk
  have hp16 := pow16 hvs
  have hB9 := hvs.B9
  have hp48 := pow48 hvs
  have hLL := hvs.le
  refine V.iload_n (pc := 5) 1 dX9_status_5 rfl ?_
  refine V.iconst (pc := 6) (v := nI 0) dX9_status_6 (by decide) ?_
  refine V.iconst (pc := 7) (v := nI 2) dX9_status_7 (by decide) ?_
  refine cp_X9_116 (pc := 8) dX9_status_8 (ok_X9_in x 3 hx (by decide)) (by omega) (Nat.le_of_ble_eq_true rfl) ?_
  refine V.ifB_eq (pc := 11) 23 dX9_status_11 (by decide) (fun h_11 => ?_) (fun h_11 => ?_)
  · have hx3 := of_decide_eq_false h_11
    refine V.iconst (pc := 23) (v := (-1)) dX9_status_23 (by decide) ?_
    exact V.iret (pc := 24) hF dX9_status_24 (RP.mk (if_neg hx3) hR0 hth hC0)
  · have hx3 := of_decide_eq_true h_11
    refine V.aload_n (pc := 14) 0 dX9_status_14 rfl ?_
    refine gf_X9_9 (pc := 15) dX9_status_15 ?_
    refine V.iload_n (pc := 18) 1 dX9_status_18 rfl ?_
    refine V.iald (pc := 19) (k := 97) (n := 3) (v := nI (a.rf x)) (Nat.le_of_ble_eq_true rfl) (fun _ _ => rfl) x (by omega) (by decide) dX9_status_19 (hR0.2.2.2.2.1 x hx3) ?_
    refine V.goto (pc := 20) 24 dX9_status_20 (by decide) ?_
    exact V.iret (pc := 24) hF dX9_status_24 (RP.mk (if_pos hx3) hR0 hth hC0)
theorem Rf.und {μ μ1 μ2 : Mu} {a : AS} {k1 : Nat} (h : Rf μ a) (ek : a.k = k1 + 1) (hc1 : Fr (si μ 96 12 (nI k1)) μ1 (fun c => c = 99)) (hc2 : μ1.1 = (si μ 96 12 (nI k1)).1) (hc3 : ∀ i, i < 645 → μ1.2 99 i = (si μ 96 12 (nI k1)).2 (102 + k1) i) (e : μ2 = si μ1 96 13 (nI 0)) : Rf μ2 (a.bs, a.tb, a.fp, a.rf, a.h (a.k - 1), a.k - 1, a.h) := by
  subst e
  obtain ⟨g1, g2, g3, g4, g5, g6, g7, g8, g9, q, g10, g11⟩ := h
  rw [show a.k - 1 = k1 by omega]
  have f : ∀ i, i ≠ 12 → i ≠ 13 → (si μ1 96 13 (nI 0)).1 96 i = μ.1 96 i := fun i h1 h2 => by rw [si_i _ _ _ h2, hc2, si_i _ _ _ h1]
  have fc : ∀ c, c ≠ 96 → (si μ1 96 13 (nI 0)).1 c = μ.1 c := fun c hc => by rw [si_c _ _ _ hc, hc2, si_c _ _ _ hc]
  exact ⟨by rw [f _ (by decide) (by decide)]; exact g1, g2, fun i hi => by rw [fc _ (by decide)]; exact g3 i hi, by rw [f _ (by decide) (by decide)]; exact g4, fun r hr => by rw [fc _ (by decide)]; exact g5 r hr, (g9 k1 (by omega)).same (fun i hi => hc3 i hi), by rw [si_i _ _ _ (by decide), hc2, si_s]; rfl, by show k1 ≤ 8; omega, fun i hi => (g9 i (by have hi : i < k1 := hi; omega)).row ((hc1 _ (by omega)).2), false, by rw [si_s]; rfl, fun z => absurd z (by decide)⟩
theorem ok_X9_undo {G : Gx} {μ : Mu} (a : AS) (hRf : Rf μ a)  : Runs 1 M_X9_undo [.ref (G.2.2 96)] G μ (RP μ (sp_undo a)) := by
  refine Runs.go RX9 rfl (by decide) [(0, .ref (G.2.2 96))] (Nat.le_of_ble_eq_true rfl) rfl (fun X hF => ?_)
  refine V.aload_n (pc := 0) 0 dX9_undo_0 rfl ?_
  refine V.iconst (pc := 1) (v := nI 0) dX9_undo_1 (by decide) ?_
  refine pf_X9_60 (pc := 2) dX9_undo_2 ?_
  obtain ⟨μ0, hμ0⟩ : ∃ m, m = si μ 96 0 (nI 0) := ⟨_, rfl⟩
  rw [← hμ0]
  have hR0 : Rf μ0 a := by rw [hμ0]; exact hRf.fld 0 _ (by decide)
  have hth : μ0.1 96 0 = nI 0 := by rw [hμ0, si_s]
  have hC0 : Fr μ μ0 RK := by rw [hμ0]; exact (Fr.refl μ RK).si _ _ (by unfold RK; decide)
  clear hμ0
  have hR := hR0.rw
  have hvs := hR.vs
  have hn16 := hvs.n16
  have hu48 := hvs.u48
  have hT2 := hvs.tk
  have hp16 := pow16 hvs
  have hB9 := hvs.B9
  have hp48 := pow48 hvs
  have hLL := hvs.le
  have hk8 := hR0.2.2.2.2.2.2.2.1
  refine V.aload_n (pc := 5) 0 dX9_undo_5 rfl ?_
  refine gf_X9_177 (pc := 6) (v := nI a.k) dX9_undo_6 hR0.2.2.2.2.2.2.1 ?_
  refine V.ifN_ne (pc := 9) 14 dX9_undo_9 (by decide) (by omega) (fun h_9 => ?_) (fun h_9 => ?_)
  · obtain ⟨k1, hk1⟩ : ∃ k1, a.k = k1 + 1 := ⟨a.k - 1, by omega⟩
    refine V.aload_n (pc := 14) 0 dX9_undo_14 rfl ?_
    refine V.dup (pc := 15) dX9_undo_15 rfl ?_
    refine gf_X9_177 (pc := 16) (v := nI a.k) dX9_undo_16 hR0.2.2.2.2.2.2.1 ?_
    refine V.iconst (pc := 19) (v := nI 1) dX9_undo_19 (by decide) ?_
    refine V.isub (pc := 20) (v := nI k1) dX9_undo_20 ((pk_sub (by omega)).trans (congrArg nI (by omega))) ?_
    refine pf_X9_177 (pc := 21) dX9_undo_21 ?_
    refine V.aload_n (pc := 24) 0 dX9_undo_24 rfl ?_
    refine gf_X9_29 (pc := 25) dX9_undo_25 ?_
    refine V.aload_n (pc := 28) 0 dX9_undo_28 rfl ?_
    refine gf_X9_177 (pc := 29) (v := nI k1) dX9_undo_29 (si_s _ _ _ _) ?_
    refine V.aaldJ (pc := 32) (k := 101) (n := 8) (Nat.le_of_ble_eq_true rfl) (fun _ _ => rfl) k1 (by omega) (by decide) dX9_undo_32 ?_
    refine V.aload_n (pc := 33) 0 dX9_undo_33 rfl ?_
    refine gf_X9_20 (pc := 34) dX9_undo_34 ?_
    refine cl_X9_129 (pc := 37) dX9_undo_37 (ok_X9_copies (102 + k1) 99 (by omega) (by omega) (cell_past k1 (by omega)) (fun _ _ => rfl)) (by omega) (Nat.le_of_ble_eq_true rfl) (fun r_ μ_ h_ => ?_)
    obtain ⟨rfl, hc1, hc2, hc3⟩ := h_
    refine V.aload_n (pc := 40) 0 dX9_undo_40 rfl ?_
    refine V.iconst (pc := 41) (v := nI 0) dX9_undo_41 (by decide) ?_
    refine pf_X9_173 (pc := 42) (by decide) (by decide) dX9_undo_42 ?_
    refine V.aload_n (pc := 45) 0 dX9_undo_45 rfl ?_
    refine gf_X9_177 (pc := 46) (v := nI k1) dX9_undo_46 ((si_i _ _ _ (by decide) _).trans ((congrFun (congrFun hc2 96) 12).trans (si_s _ _ _ _))) ?_
    exact V.iret (pc := 49) hF dX9_undo_49 (RP.mk ((if_neg (by omega)).trans (by rw [show a.k - 1 = k1 by omega])) (hR0.und hk1 hc1 hc2 hc3 rfl) ((si_i _ _ _ (by decide) _).trans ((congrFun (congrFun hc2 96) 0).trans ((si_i _ _ _ (by decide) _).trans hth))) (((hC0.si _ _ (by unfold RK; decide)).trans hc1 (fun _ z => z) (fun c z => by unfold RK; omega)).si _ _ (by unfold RK; decide)))
  · refine V.iconst (pc := 12) (v := (-1)) dX9_undo_12 (by decide) ?_
    exact V.iret (pc := 13) hF dX9_undo_13 (RP.mk (if_pos h_9) hR0 hth hC0)
/-! acts -/
theorem Rf.chg {μ1 μ2 : Mu} {a : AS} {S : TS} (h : Rf μ1 (a.act a.S)) (h13 : μ1.1 96 13 = nI 0) (hf : Fr μ1 μ2 (fun c => c = 99)) (h1 : μ2.1 = μ1.1) (hw : Rw μ2 99 S) : Rf μ2 (a.act S) := by
  obtain ⟨g1, g2, g3, g4, g5, g6, g7, g8, g9, q, g10, g11⟩ := h
  exact ⟨by rw [h1]; exact g1, g2, fun i hi => by rw [h1]; exact g3 i hi, by rw [h1]; exact g4, fun r hr => by rw [h1]; exact g5 r hr, hw, by rw [h1]; exact g7, g8, fun i hi => (g9 i hi).row (hf _ (by have hi : i < (if a.k = 8 then 8 else a.k + 1) := hi; omega)).2, false, by rw [h1]; exact h13, fun z => absurd z (by decide)⟩
theorem stands_cong {S S' : TS} (h1 : S'.n = S.n) (h2 : S'.bag = S.bag) (w : Nat) : stands S' w = stands S w := by
  unfold stands
  rw [h1]
  exact stUp_cong (fun s _ => by rw [h2])
theorem Rw_W {μ : Mu} {S : TS} (h : Rw μ 99 S) {w v : Nat} (hw : w < S.u) (hv : v ≤ 1000) : Rw (sj μ 99 (69 + 12 * w + 10 + 1) (lN v)) 99 (setW S w v) := by
  have hn := h.vs.n16
  have hvs := h.vs
  obtain ⟨h1, h2, h3, h4, h5, h6, h7, h8⟩ := h
  have e : ∀ i, i ≠ 69 + 12 * w + 10 + 1 → (sj μ 99 (69 + 12 * w + 10 + 1) (lN v)).2 99 i = μ.2 99 i := fun i hi => sj_i _ _ _ hi _
  refine ⟨by rw [e _ (by omega)]; exact h1, by rw [e _ (by omega)]; exact h2, by rw [e _ (by omega)]; exact h3, by rw [e _ (by omega)]; exact h4, by rw [e _ (by omega)]; exact h5, fun s hs => ?_, fun x hx => ?_, ?_⟩
  · have hs : s < S.n := hs
    rw [e _ (by omega), e _ (by omega), e _ (by omega), e _ (by omega)]; exact h6 s hs
  · have hl := (hvs.wrd (w := x) hx).2.2.1
    refine ⟨fun k hk => by rw [e _ (by have hk : k < S.nl x := hk; omega)]; exact (h7 x hx).1 k hk, by rw [e _ (by omega)]; exact (h7 x hx).2.1, ?_⟩
    by_cases z : x = w
    · subst z; right; rw [sj_s]; show lN v = lN (updN S.wt x v x); rw [updN_s]
    · rw [e _ (by omega)]
      show (_ ∧ updN S.wt w v x = stands (setW S w v) x) ∨ _ = lN (updN S.wt w v x)
      rw [updN_n z, stands_cong (S := S) (S' := setW S w v) rfl rfl]
      exact (h7 x hx).2.2
  · obtain ⟨v1, v2, v3, v4, v5, v6, v7, v8⟩ := h8
    refine ⟨v1, v2, v3, v4, v5, v6, fun x hx => ⟨?_, (v7 x hx).2⟩, v8⟩
    show updN S.wt w v x ≤ 1000
    by_cases z : x = w
    · subst z; rw [updN_s]; exact hv
    · rw [updN_n z]; exact (v7 x hx).1
theorem Rw.set4 {μ : Mu} {S S' : TS} (h : Rw μ 99 S) (i v : Nat) (hi : 2 ≤ i ∧ i ≤ 4) (hB : S'.B = if i = 2 then v else S.B) (hT : S'.T = if i = 3 then v else S.T) (hL : S'.L = if i = 4 then v else S.L) (e1 : S'.n = S.n ∧ S'.u = S.u) (e2 : S'.len = S.len ∧ S'.cnt = S.cnt ∧ S'.fst = S.fst ∧ S'.bag = S.bag) (e3 : S'.wt = S.wt ∧ S'.nl = S.nl ∧ S'.lt = S.lt) (hv : VS S') : Rw (sj μ 99 i (lN v)) 99 S' := by
  have hn := h.vs.n16
  have hvs := h.vs
  obtain ⟨h1, h2, h3, h4, h5, h6, h7, h8⟩ := h
  obtain ⟨a1, a2⟩ := e1
  obtain ⟨b1, b2, b3, b4⟩ := e2
  obtain ⟨c1, c2, c3⟩ := e3
  have e : ∀ j, j ≠ i → (sj μ 99 i (lN v)).2 99 j = μ.2 99 j := fun j hj => sj_i _ _ _ hj _
  refine ⟨by rw [e _ (by omega), a1]; exact h1, by rw [e _ (by omega), a2]; exact h2, ?_, ?_, ?_, fun s hs => ?_, fun w hw => ?_, hv⟩
  · rw [hB]
    by_cases c : i = 2
    · subst c; rw [sj_s]; rfl
    · rw [if_neg c, e _ (by omega)]; exact h3
  · rw [hT]
    by_cases c : i = 3
    · subst c; rw [sj_s]; rfl
    · rw [if_neg c, e _ (by omega)]; exact h4
  · rw [hL]
    by_cases c : i = 4
    · subst c; rw [sj_s]; rfl
    · rw [if_neg c, e _ (by omega)]; exact h5
  · rw [a1] at hs
    rw [e _ (by omega), e _ (by omega), e _ (by omega), e _ (by omega), b1, b2, b3, b4]; exact h6 s hs
  · rw [a2] at hw
    have hl := (hvs.wrd (w := w) hw).2.2.1
    rw [c1, c2, c3, stands_cong (S := S) (S' := S') a1 b4]
    refine ⟨fun k hk => by rw [e _ (by omega)]; exact (h7 w hw).1 k hk, by rw [e _ (by omega)]; exact (h7 w hw).2.1, ?_⟩
    rw [e _ (by omega)]
    exact (h7 w hw).2.2
theorem VS.setB {S : TS} (h : VS S) {B : Nat} (hB : B ≤ 9999) : VS (setB S B) := ⟨h.1, h.2.1, hB, h.2.2.2⟩
theorem VS.setT {S : TS} (h : VS S) {T : Nat} (hT : T < 2 ^ S.n) : VS (setT S T) := ⟨h.1, h.2.1, h.2.2.1, hT, h.2.2.2.2⟩
theorem VS.setL {S : TS} (h : VS S) {L : Nat} (hL : L < 2 ^ S.u) : VS (setL S L) := ⟨h.1, h.2.1, h.2.2.1, h.2.2.2.1, hL, h.2.2.2.2.2⟩
theorem rm_fr {μ μ0 μ1 μ2 : Mu} (h0 : Fr μ μ0 RK) (h1 : Fr μ0 μ1 (fun c => c = 96 ∨ (102 ≤ c ∧ c < 110))) (h2 : Fr μ1 μ2 (fun c => c = 99)) : Fr μ μ2 RK := (h0.trans h1 (fun _ z => z) (fun c z => by unfold RK; omega)).trans h2 (fun _ z => z) (fun c z => by unfold RK; omega)
theorem ok_X9_weigh {G : Gx} {μ : Mu} (a : AS) (hRf : Rf μ a) (w v : Nat) (hw : w < 2 ^ 32) (hv : v < 2 ^ 32) : Runs 4 M_X9_weigh [.ref (G.2.2 96), .int (nI w), .int (nI v)] G μ (RP μ (sp_weigh a w v)) := by
  refine Runs.go RX9 rfl (by decide) [(0, .ref (G.2.2 96)), (1, .int (nI w)), (2, .int (nI v))] (Nat.le_of_ble_eq_true rfl) rfl (fun X hF => ?_)
  refine V.aload_n (pc := 0) 0 dX9_weigh_0 rfl ?_
  refine V.iconst (pc := 1) (v := nI 0) dX9_weigh_1 (by decide) ?_
  refine pf_X9_60 (pc := 2) dX9_weigh_2 ?_
  obtain ⟨μ0, hμ0⟩ : ∃ m, m = si μ 96 0 (nI 0) := ⟨_, rfl⟩
  rw [← hμ0]
  have hR0 : Rf μ0 a := by rw [hμ0]; exact hRf.fld 0 _ (by decide)
  have hth : μ0.1 96 0 = nI 0 := by rw [hμ0, si_s]
  have hC0 : Fr μ μ0 RK := by rw [hμ0]; exact (Fr.refl μ RK).si _ _ (by unfold RK; decide)
  clear hμ0
  have hR := hR0.rw
  have hvs := hR.vs
  have hn16 := hvs.n16
  have hu48 := hvs.u48
  have hT2 := hvs.tk
  have hp16 := pow16 hvs
  have hB9 := hvs.B9
  have hp48 := pow48 hvs
  have hLL := hvs.le
  refine V.aload_n (pc := 5) 0 dX9_weigh_5 rfl ?_
  refine V.aload_n (pc := 6) 0 dX9_weigh_6 rfl ?_
  refine V.iload_n (pc := 7) 1 dX9_weigh_7 rfl ?_
  refine cp_X9_180 (pc := 8) dX9_weigh_8 (ok_X9_isThere a.S hR w hw) (by omega) (Nat.le_of_ble_eq_true rfl) ?_
  refine V.ifB_ne (pc := 11) 18 dX9_weigh_11 (by decide) (fun h_11 => ?_) (fun h_11 => ?_)
  · have hwu := of_decide_eq_true h_11
    refine V.iconst (pc := 18) (v := nI 0) dX9_weigh_18 (by decide) ?_
    refine V.iconst (pc := 19) (v := nI 1) dX9_weigh_19 (by decide) ?_
    refine V.iconst (pc := 20) (v := nI 0) dX9_weigh_20 (by decide) ?_
    refine cp_X9_119 (pc := 21) dX9_weigh_21 (ok_bad0 1 0 hth) (by omega) (Nat.le_of_ble_eq_true rfl) ?_
    refine V.ifN_ne (pc := 24) 52 dX9_weigh_24 (by decide) (by decide) (fun h_ => absurd h_ (by decide)) (fun h_24 => ?_)
    refine V.aload_n (pc := 27) 0 dX9_weigh_27 rfl ?_
    refine V.iload_n (pc := 28) 2 dX9_weigh_28 rfl ?_
    refine V.iconst (pc := 29) (v := nI 0) dX9_weigh_29 (by decide) ?_
    refine V.sipush (pc := 30) (v := nI 1000) dX9_weigh_30 (by decide) ?_
    refine cp_X9_116 (pc := 33) dX9_weigh_33 (ok_X9_in v 1001 hv (by decide)) (by omega) (Nat.le_of_ble_eq_true rfl) ?_
    refine V.ifB_ne (pc := 36) 43 dX9_weigh_36 (by decide) (fun h_36 => ?_) (fun h_36 => ?_)
    · have hv1 := of_decide_eq_true h_36
      refine V.iconst (pc := 43) (v := nI 0) dX9_weigh_43 (by decide) ?_
      refine V.iconst (pc := 44) (v := nI 2) dX9_weigh_44 (by decide) ?_
      refine V.iconst (pc := 45) (v := nI 1) dX9_weigh_45 (by decide) ?_
      refine cp_X9_119 (pc := 46) dX9_weigh_46 (ok_bad0 2 1 hth) (by omega) (Nat.le_of_ble_eq_true rfl) ?_
      refine V.ifN_eq (pc := 49) 54 dX9_weigh_49 (by decide) (by decide) (fun h_49 => ?_) (fun h_ => absurd h_ (by decide))
      refine V.aload_n (pc := 54) 0 dX9_weigh_54 rfl ?_
      refine V.iload_n (pc := 55) 1 dX9_weigh_55 rfl ?_
      refine cp_X9_150 (pc := 56) dX9_weigh_56 (ok_X9_weightOf a.S hR w hwu) (by omega) (Nat.le_of_ble_eq_true rfl) ?_
      refine V.istore_n (pc := 59) (lv' := [(0, .ref (G.2.2 96)), (1, .int (nI w)), (2, .int (nI v)), (3, .int (nI (a.S.wt w)))]) dX9_weigh_59 (by decide) rfl ?_
      refine V.aload_n (pc := 60) 0 dX9_weigh_60 rfl ?_
      refine cl_X9_126 (pc := 61) dX9_weigh_61 (ok_X9_remembers a hR0) (by omega) (Nat.le_of_ble_eq_true rfl) (fun r_ μ_ h_ => ?_)
      obtain ⟨rfl, hm1, hm2, hm3, hm4, hm5⟩ := h_
      have hRm : Rw μ_ 99 a.S := hm1.rw
      have hR := hRm
      have hww := hwu
      refine V.aload_n (pc := 64) 0 dX9_weigh_64 rfl ?_
      refine gf_X9_20 (pc := 65) dX9_weigh_65 ?_
      refine V.iload_n (pc := 68) 1 dX9_weigh_68 rfl ?_
      refine cp_X9_103 (pc := 69) dX9_weigh_69 (ok_X9_wordAt w) (by omega) (Nat.le_of_ble_eq_true rfl) ?_
      refine V.bipush (pc := 72) (v := nI 10) dX9_weigh_72 (by decide) ?_
      refine V.iadd (pc := 74) (v := nI (69 + 12 * w + 10)) dX9_weigh_74 (nI_add _ _) ?_
      refine V.iconst (pc := 75) (v := nI 1) dX9_weigh_75 (by decide) ?_
      refine V.iadd (pc := 76) (v := nI (69 + 12 * w + 10 + 1)) dX9_weigh_76 (nI_add _ _) ?_
      refine V.iload_n (pc := 77) 2 dX9_weigh_77 rfl ?_
      refine V.i2l (pc := 78) (v := lN v) dX9_weigh_78 (nI_l (by omega)) ?_
      refine V.last (pc := 79) (k := 99) (n := 645) (v := lN v) (Nat.le_of_ble_eq_true rfl) (fun _ _ => rfl) (69 + 12 * w + 10 + 1) (by omega) (by decide) dX9_weigh_79 rfl ?_
      refine V.iload_n (pc := 80) 3 dX9_weigh_80 rfl ?_
      exact V.iret (pc := 81) hF dX9_weigh_81 (RP.mk ((if_pos hwu).trans (if_pos (by omega))) (hm1.chg hm2 ((Fr.refl μ_ (fun c => c = 99)).sj _ _ rfl) rfl (Rw_W hRm hwu (by omega))) ((hm3 0 (by decide) (by decide)).trans hth) (rm_fr hC0 hm4 ((Fr.refl μ_ (fun c => c = 99)).sj _ _ rfl)))
    · have hv1 := of_decide_eq_false h_36
      refine V.iconst (pc := 39) (v := nI 1) dX9_weigh_39 (by decide) ?_
      refine V.goto (pc := 40) 44 dX9_weigh_40 (by decide) ?_
      refine V.iconst (pc := 44) (v := nI 2) dX9_weigh_44 (by decide) ?_
      refine V.iconst (pc := 45) (v := nI 1) dX9_weigh_45 (by decide) ?_
      refine cl_X9_119 (pc := 46) dX9_weigh_46 (ok_bad1 2 1 hth (by decide) (by decide) (by decide)) (by omega) (Nat.le_of_ble_eq_true rfl) (fun r_ μ_ h_ => ?_)
      obtain ⟨rfl, rfl⟩ := h_
      refine V.ifN_eq (pc := 49) 54 dX9_weigh_49 (by decide) (by decide) (fun h_ => absurd h_ (by decide)) (fun h_49 => ?_)
      refine V.iconst (pc := 52) (v := nI 0) dX9_weigh_52 (by decide) ?_
      exact V.iret (pc := 53) hF dX9_weigh_53 (RP.no ((if_pos hwu).trans (if_neg (by omega))) (by decide) hR0 (by decide) hC0)
  · have hwu := of_decide_eq_false h_11
    refine V.iconst (pc := 14) (v := nI 1) dX9_weigh_14 (by decide) ?_
    refine V.goto (pc := 15) 19 dX9_weigh_15 (by decide) ?_
    refine V.iconst (pc := 19) (v := nI 1) dX9_weigh_19 (by decide) ?_
    refine V.iconst (pc := 20) (v := nI 0) dX9_weigh_20 (by decide) ?_
    refine cl_X9_119 (pc := 21) dX9_weigh_21 (ok_bad1 1 0 hth (by decide) (by decide) (by decide)) (by omega) (Nat.le_of_ble_eq_true rfl) (fun r_ μ_ h_ => ?_)
    obtain ⟨rfl, rfl⟩ := h_
    refine V.ifN_ne (pc := 24) 52 dX9_weigh_24 (by decide) (by decide) (fun h_24 => ?_) (fun h_ => absurd h_ (by decide))
    refine V.iconst (pc := 52) (v := nI 0) dX9_weigh_52 (by decide) ?_
    exact V.iret (pc := 53) hF dX9_weigh_53 (RP.no (if_neg hwu) (by decide) hR0 (by decide) hC0)
theorem ok_X9_lean {G : Gx} {μ : Mu} (a : AS) (hRf : Rf μ a) (w : Nat) (q : Bool) (hw : w < 2 ^ 32) : Runs 4 M_X9_lean [.ref (G.2.2 96), .int (nI w), .int (nI q.toNat)] G μ (RP μ (sp_lean a w q)) := by
  refine Runs.go RX9 rfl (by decide) [(0, .ref (G.2.2 96)), (1, .int (nI w)), (2, .int (nI q.toNat))] (Nat.le_of_ble_eq_true rfl) rfl (fun X hF => ?_)
  refine V.aload_n (pc := 0) 0 dX9_lean_0 rfl ?_
  refine V.iconst (pc := 1) (v := nI 0) dX9_lean_1 (by decide) ?_
  refine pf_X9_60 (pc := 2) dX9_lean_2 ?_
  obtain ⟨μ0, hμ0⟩ : ∃ m, m = si μ 96 0 (nI 0) := ⟨_, rfl⟩
  rw [← hμ0]
  have hR0 : Rf μ0 a := by rw [hμ0]; exact hRf.fld 0 _ (by decide)
  have hth : μ0.1 96 0 = nI 0 := by rw [hμ0, si_s]
  have hC0 : Fr μ μ0 RK := by rw [hμ0]; exact (Fr.refl μ RK).si _ _ (by unfold RK; decide)
  clear hμ0
  have hR := hR0.rw
  have hvs := hR.vs
  have hn16 := hvs.n16
  have hu48 := hvs.u48
  have hT2 := hvs.tk
  have hp16 := pow16 hvs
  have hB9 := hvs.B9
  have hp48 := pow48 hvs
  have hLL := hvs.le
  refine V.aload_n (pc := 5) 0 dX9_lean_5 rfl ?_
  refine V.aload_n (pc := 6) 0 dX9_lean_6 rfl ?_
  refine V.iload_n (pc := 7) 1 dX9_lean_7 rfl ?_
  refine cp_X9_180 (pc := 8) dX9_lean_8 (ok_X9_isThere a.S hR w hw) (by omega) (Nat.le_of_ble_eq_true rfl) ?_
  refine V.ifB_ne (pc := 11) 18 dX9_lean_11 (by decide) (fun h_11 => ?_) (fun h_11 => ?_)
  · have hwu := of_decide_eq_true h_11
    refine V.iconst (pc := 18) (v := nI 0) dX9_lean_18 (by decide) ?_
    refine V.iconst (pc := 19) (v := nI 1) dX9_lean_19 (by decide) ?_
    refine V.iconst (pc := 20) (v := nI 0) dX9_lean_20 (by decide) ?_
    refine cp_X9_119 (pc := 21) dX9_lean_21 (ok_bad0 1 0 hth) (by omega) (Nat.le_of_ble_eq_true rfl) ?_
    refine V.ifN_eq (pc := 24) 29 dX9_lean_24 (by decide) (by decide) (fun h_24 => ?_) (fun h_ => absurd h_ (by decide))
    refine V.aload_n (pc := 29) 0 dX9_lean_29 rfl ?_
    refine gf_X9_20 (pc := 30) dX9_lean_30 ?_
    refine V.iconst (pc := 33) (v := nI 4) dX9_lean_33 (by decide) ?_
    refine V.lald (pc := 34) (k := 99) (n := 645) (v := lN a.S.L) (Nat.le_of_ble_eq_true rfl) (fun _ _ => rfl) 4 (by omega) (by decide) dX9_lean_34 hR.L ?_
    refine V.iload_n (pc := 35) 1 dX9_lean_35 rfl ?_
    refine cp_X9_140 (pc := 36) dX9_lean_36 (ok_X9_has a.S.L w (by omega) (by omega)) (by omega) (Nat.le_of_ble_eq_true rfl) ?_
    refine V.istore_n (pc := 39) (lv' := [(0, .ref (G.2.2 96)), (1, .int (nI w)), (2, .int (nI q.toNat)), (3, .int (nI (a.S.L.testBit w).toNat))]) dX9_lean_39 (by decide) rfl ?_
    refine V.aload_n (pc := 40) 0 dX9_lean_40 rfl ?_
    refine cl_X9_126 (pc := 41) dX9_lean_41 (ok_X9_remembers a hR0) (by omega) (Nat.le_of_ble_eq_true rfl) (fun r_ μ_ h_ => ?_)
    obtain ⟨rfl, hm1, hm2, hm3, hm4, hm5⟩ := h_
    have hRm : Rw μ_ 99 a.S := hm1.rw
    have hR := hRm
    refine V.aload_n (pc := 44) 0 dX9_lean_44 rfl ?_
    refine gf_X9_20 (pc := 45) dX9_lean_45 ?_
    refine V.iconst (pc := 48) (v := nI 4) dX9_lean_48 (by decide) ?_
    refine V.iload_n (pc := 49) 2 dX9_lean_49 rfl ?_
    refine V.ifB_eq (pc := 50) 66 dX9_lean_50 (by decide) (fun h_50 => ?_) (fun h_50 => ?_)
    · subst h_50
      refine V.aload_n (pc := 66) 0 dX9_lean_66 rfl ?_
      refine gf_X9_20 (pc := 67) dX9_lean_67 ?_
      refine V.iconst (pc := 70) (v := nI 4) dX9_lean_70 (by decide) ?_
      refine V.lald (pc := 71) (k := 99) (n := 645) (v := lN a.S.L) (Nat.le_of_ble_eq_true rfl) (fun _ _ => rfl) 4 (by omega) (by decide) dX9_lean_71 hR.L ?_
      refine V.lconst (pc := 72) (v := lN 1) dX9_lean_72 (by decide) ?_
      refine V.iload_n (pc := 73) 1 dX9_lean_73 rfl ?_
      refine V.lshl (pc := 74) (v := lN (2 ^ w)) dX9_lean_74 (ll_shl1 (by omega)) ?_
      refine V.ldc2_w (pc := 75) (v := (-1)) mw_5_75 dX9_lean_75 ?_
      refine V.lxor (pc := 78) (v := lN (2 ^ w) ^^^ (-1)) dX9_lean_78 rfl ?_
      refine V.land (pc := 79) (v := lN (adn a.S.L (2 ^ w))) dX9_lean_79 (ll_adn _ _) ?_
      refine V.last (pc := 80) (k := 99) (n := 645) (v := lN (adn a.S.L (2 ^ w))) (Nat.le_of_ble_eq_true rfl) (fun _ _ => rfl) 4 (by omega) (by decide) dX9_lean_80 rfl ?_
      refine V.iload_n (pc := 81) 3 dX9_lean_81 rfl ?_
      refine V.iload_n (pc := 82) 2 dX9_lean_82 rfl ?_
      refine V.icmpN_ne (pc := 83) 90 dX9_lean_83 (by decide) (Nat.lt_of_le_of_lt (Bool.toNat_le _) (by decide)) (Nat.lt_of_le_of_lt (Bool.toNat_le _) (by decide)) (fun h_83 => ?_) (fun h_83 => ?_)
      · refine V.iconst (pc := 90) (v := nI 1) dX9_lean_90 (by decide) ?_
        exact V.iret (pc := 91) hF dX9_lean_91 (RP.mk ((if_pos hwu).trans (by rw [if_neg (fun e => h_83 (bool_nat.mpr e))])) (hm1.chg hm2 ((Fr.refl μ_ (fun c => c = 99)).sj _ _ rfl) rfl (hRm.set4 (S' := setL a.S (newL a.S w false)) 4 _ (by decide) rfl rfl rfl ⟨rfl, rfl⟩ ⟨rfl, rfl, rfl, rfl⟩ ⟨rfl, rfl, rfl⟩ (hvs.setL (newL_lt hvs hwu _)))) ((hm3 0 (by decide) (by decide)).trans hth) (rm_fr hC0 hm4 ((Fr.refl μ_ (fun c => c = 99)).sj _ _ rfl)))
      · refine V.iconst (pc := 86) (v := nI 0) dX9_lean_86 (by decide) ?_
        refine V.goto (pc := 87) 91 dX9_lean_87 (by decide) ?_
        exact V.iret (pc := 91) hF dX9_lean_91 (RP.mk ((if_pos hwu).trans (by rw [if_pos (bool_nat.mp h_83)])) (hm1.chg hm2 ((Fr.refl μ_ (fun c => c = 99)).sj _ _ rfl) rfl (hRm.set4 (S' := setL a.S (newL a.S w false)) 4 _ (by decide) rfl rfl rfl ⟨rfl, rfl⟩ ⟨rfl, rfl, rfl, rfl⟩ ⟨rfl, rfl, rfl⟩ (hvs.setL (newL_lt hvs hwu _)))) ((hm3 0 (by decide) (by decide)).trans hth) (rm_fr hC0 hm4 ((Fr.refl μ_ (fun c => c = 99)).sj _ _ rfl)))
    · subst h_50
      refine V.aload_n (pc := 53) 0 dX9_lean_53 rfl ?_
      refine gf_X9_20 (pc := 54) dX9_lean_54 ?_
      refine V.iconst (pc := 57) (v := nI 4) dX9_lean_57 (by decide) ?_
      refine V.lald (pc := 58) (k := 99) (n := 645) (v := lN a.S.L) (Nat.le_of_ble_eq_true rfl) (fun _ _ => rfl) 4 (by omega) (by decide) dX9_lean_58 hR.L ?_
      refine V.lconst (pc := 59) (v := lN 1) dX9_lean_59 (by decide) ?_
      refine V.iload_n (pc := 60) 1 dX9_lean_60 rfl ?_
      refine V.lshl (pc := 61) (v := lN (2 ^ w)) dX9_lean_61 (ll_shl1 (by omega)) ?_
      refine V.lor (pc := 62) (v := lN (a.S.L ||| (2 ^ w))) dX9_lean_62 (ll_or _ _) ?_
      refine V.goto (pc := 63) 80 dX9_lean_63 (by decide) ?_
      refine V.last (pc := 80) (k := 99) (n := 645) (v := lN (a.S.L ||| (2 ^ w))) (Nat.le_of_ble_eq_true rfl) (fun _ _ => rfl) 4 (by omega) (by decide) dX9_lean_80 rfl ?_
      refine V.iload_n (pc := 81) 3 dX9_lean_81 rfl ?_
      refine V.iload_n (pc := 82) 2 dX9_lean_82 rfl ?_
      refine V.icmpN_ne (pc := 83) 90 dX9_lean_83 (by decide) (Nat.lt_of_le_of_lt (Bool.toNat_le _) (by decide)) (Nat.lt_of_le_of_lt (Bool.toNat_le _) (by decide)) (fun h_83 => ?_) (fun h_83 => ?_)
      · refine V.iconst (pc := 90) (v := nI 1) dX9_lean_90 (by decide) ?_
        exact V.iret (pc := 91) hF dX9_lean_91 (RP.mk ((if_pos hwu).trans (by rw [if_neg (fun e => h_83 (bool_nat.mpr e))])) (hm1.chg hm2 ((Fr.refl μ_ (fun c => c = 99)).sj _ _ rfl) rfl (hRm.set4 (S' := setL a.S (newL a.S w true)) 4 _ (by decide) rfl rfl rfl ⟨rfl, rfl⟩ ⟨rfl, rfl, rfl, rfl⟩ ⟨rfl, rfl, rfl⟩ (hvs.setL (newL_lt hvs hwu _)))) ((hm3 0 (by decide) (by decide)).trans hth) (rm_fr hC0 hm4 ((Fr.refl μ_ (fun c => c = 99)).sj _ _ rfl)))
      · refine V.iconst (pc := 86) (v := nI 0) dX9_lean_86 (by decide) ?_
        refine V.goto (pc := 87) 91 dX9_lean_87 (by decide) ?_
        exact V.iret (pc := 91) hF dX9_lean_91 (RP.mk ((if_pos hwu).trans (by rw [if_pos (bool_nat.mp h_83)])) (hm1.chg hm2 ((Fr.refl μ_ (fun c => c = 99)).sj _ _ rfl) rfl (hRm.set4 (S' := setL a.S (newL a.S w true)) 4 _ (by decide) rfl rfl rfl ⟨rfl, rfl⟩ ⟨rfl, rfl, rfl, rfl⟩ ⟨rfl, rfl, rfl⟩ (hvs.setL (newL_lt hvs hwu _)))) ((hm3 0 (by decide) (by decide)).trans hth) (rm_fr hC0 hm4 ((Fr.refl μ_ (fun c => c = 99)).sj _ _ rfl)))
  · have hwu := of_decide_eq_false h_11
    refine V.iconst (pc := 14) (v := nI 1) dX9_lean_14 (by decide) ?_
    refine V.goto (pc := 15) 19 dX9_lean_15 (by decide) ?_
    refine V.iconst (pc := 19) (v := nI 1) dX9_lean_19 (by decide) ?_
    refine V.iconst (pc := 20) (v := nI 0) dX9_lean_20 (by decide) ?_
    refine cl_X9_119 (pc := 21) dX9_lean_21 (ok_bad1 1 0 hth (by decide) (by decide) (by decide)) (by omega) (Nat.le_of_ble_eq_true rfl) (fun r_ μ_ h_ => ?_)
    obtain ⟨rfl, rfl⟩ := h_
    refine V.ifN_eq (pc := 24) 29 dX9_lean_24 (by decide) (by decide) (fun h_ => absurd h_ (by decide)) (fun h_24 => ?_)
    refine V.iconst (pc := 27) (v := nI 0) dX9_lean_27 (by decide) ?_
    exact V.iret (pc := 28) hF dX9_lean_28 (RP.no (if_neg hwu) (by decide) hR0 (by decide) hC0)
theorem ok_X9_budget {G : Gx} {μ : Mu} (a : AS) (hRf : Rf μ a) (x : Nat) (hx : x < 2 ^ 32) : Runs 4 M_X9_budget [.ref (G.2.2 96), .int (nI x)] G μ (RP μ (sp_budget a x)) := by
  refine Runs.go RX9 rfl (by decide) [(0, .ref (G.2.2 96)), (1, .int (nI x))] (Nat.le_of_ble_eq_true rfl) rfl (fun X hF => ?_)
  refine V.aload_n (pc := 0) 0 dX9_budget_0 rfl ?_
  refine V.iconst (pc := 1) (v := nI 0) dX9_budget_1 (by decide) ?_
  refine pf_X9_60 (pc := 2) dX9_budget_2 ?_
  obtain ⟨μ0, hμ0⟩ : ∃ m, m = si μ 96 0 (nI 0) := ⟨_, rfl⟩
  rw [← hμ0]
  have hR0 : Rf μ0 a := by rw [hμ0]; exact hRf.fld 0 _ (by decide)
  have hth : μ0.1 96 0 = nI 0 := by rw [hμ0, si_s]
  have hC0 : Fr μ μ0 RK := by rw [hμ0]; exact (Fr.refl μ RK).si _ _ (by unfold RK; decide)
  clear hμ0
  have hR := hR0.rw
  have hvs := hR.vs
  have hn16 := hvs.n16
  have hu48 := hvs.u48
  have hT2 := hvs.tk
  have hp16 := pow16 hvs
  have hB9 := hvs.B9
  have hp48 := pow48 hvs
  have hLL := hvs.le
  refine V.aload_n (pc := 5) 0 dX9_budget_5 rfl ?_
  refine V.iload_n (pc := 6) 1 dX9_budget_6 rfl ?_
  refine V.iconst (pc := 7) (v := nI 0) dX9_budget_7 (by decide) ?_
  refine V.sipush (pc := 8) (v := nI 9999) dX9_budget_8 (by decide) ?_
  refine cp_X9_116 (pc := 11) dX9_budget_11 (ok_X9_in x 10000 hx (by decide)) (by omega) (Nat.le_of_ble_eq_true rfl) ?_
  refine V.ifB_ne (pc := 14) 21 dX9_budget_14 (by decide) (fun h_14 => ?_) (fun h_14 => ?_)
  · have hx1 := of_decide_eq_true h_14
    refine V.iconst (pc := 21) (v := nI 0) dX9_budget_21 (by decide) ?_
    refine V.iconst (pc := 22) (v := nI 1) dX9_budget_22 (by decide) ?_
    refine V.iconst (pc := 23) (v := nI 1) dX9_budget_23 (by decide) ?_
    refine cp_X9_119 (pc := 24) dX9_budget_24 (ok_bad0 1 1 hth) (by omega) (Nat.le_of_ble_eq_true rfl) ?_
    refine V.ifN_eq (pc := 27) 32 dX9_budget_27 (by decide) (by decide) (fun h_27 => ?_) (fun h_ => absurd h_ (by decide))
    refine V.aload_n (pc := 32) 0 dX9_budget_32 rfl ?_
    refine cl_X9_126 (pc := 33) dX9_budget_33 (ok_X9_remembers a hR0) (by omega) (Nat.le_of_ble_eq_true rfl) (fun r_ μ_ h_ => ?_)
    obtain ⟨rfl, hm1, hm2, hm3, hm4, hm5⟩ := h_
    have hRm : Rw μ_ 99 a.S := hm1.rw
    have hR := hRm
    refine V.aload_n (pc := 36) 0 dX9_budget_36 rfl ?_
    refine gf_X9_20 (pc := 37) dX9_budget_37 ?_
    refine V.iconst (pc := 40) (v := nI 2) dX9_budget_40 (by decide) ?_
    refine V.lald (pc := 41) (k := 99) (n := 645) (v := lN a.S.B) (Nat.le_of_ble_eq_true rfl) (fun _ _ => rfl) 2 (by omega) (by decide) dX9_budget_41 hR.B ?_
    refine V.l2i (pc := 42) (v := nI a.S.B) dX9_budget_42 (lN_i _) ?_
    refine V.istore_n (pc := 43) (lv' := [(0, .ref (G.2.2 96)), (1, .int (nI x)), (2, .int (nI a.S.B))]) dX9_budget_43 (by decide) rfl ?_
    refine V.aload_n (pc := 44) 0 dX9_budget_44 rfl ?_
    refine gf_X9_20 (pc := 45) dX9_budget_45 ?_
    refine V.iconst (pc := 48) (v := nI 2) dX9_budget_48 (by decide) ?_
    refine V.iload_n (pc := 49) 1 dX9_budget_49 rfl ?_
    refine V.i2l (pc := 50) (v := lN x) dX9_budget_50 (nI_l (by omega)) ?_
    refine V.last (pc := 51) (k := 99) (n := 645) (v := lN x) (Nat.le_of_ble_eq_true rfl) (fun _ _ => rfl) 2 (by omega) (by decide) dX9_budget_51 rfl ?_
    refine V.iload_n (pc := 52) 2 dX9_budget_52 rfl ?_
    exact V.iret (pc := 53) hF dX9_budget_53 (RP.mk (if_pos (by omega)) (hm1.chg hm2 ((Fr.refl μ_ (fun c => c = 99)).sj _ _ rfl) rfl (hRm.set4 (S' := setB a.S x) 2 _ (by decide) rfl rfl rfl ⟨rfl, rfl⟩ ⟨rfl, rfl, rfl, rfl⟩ ⟨rfl, rfl, rfl⟩ (hvs.setB (by omega)))) ((hm3 0 (by decide) (by decide)).trans hth) (rm_fr hC0 hm4 ((Fr.refl μ_ (fun c => c = 99)).sj _ _ rfl)))
  · have hx1 := of_decide_eq_false h_14
    refine V.iconst (pc := 17) (v := nI 1) dX9_budget_17 (by decide) ?_
    refine V.goto (pc := 18) 22 dX9_budget_18 (by decide) ?_
    refine V.iconst (pc := 22) (v := nI 1) dX9_budget_22 (by decide) ?_
    refine V.iconst (pc := 23) (v := nI 1) dX9_budget_23 (by decide) ?_
    refine cl_X9_119 (pc := 24) dX9_budget_24 (ok_bad1 1 1 hth (by decide) (by decide) (by decide)) (by omega) (Nat.le_of_ble_eq_true rfl) (fun r_ μ_ h_ => ?_)
    obtain ⟨rfl, rfl⟩ := h_
    refine V.ifN_eq (pc := 27) 32 dX9_budget_27 (by decide) (by decide) (fun h_ => absurd h_ (by decide)) (fun h_27 => ?_)
    refine V.iconst (pc := 30) (v := nI 0) dX9_budget_30 (by decide) ?_
    exact V.iret (pc := 31) hF dX9_budget_31 (RP.no (if_neg (by omega)) (by decide) hR0 (by decide) hC0)
theorem ok_X9_take {G : Gx} {μ : Mu} (a : AS) (hRf : Rf μ a) (s : Nat) (hs : s < 2 ^ 32) : Runs 6 M_X9_take [.ref (G.2.2 96), .int (nI s)] G μ (RP μ (sp_take a s)) := by
  refine Runs.go RX9 rfl (by decide) [(0, .ref (G.2.2 96)), (1, .int (nI s))] (Nat.le_of_ble_eq_true rfl) rfl (fun X hF => ?_)
  refine V.aload_n (pc := 0) 0 dX9_take_0 rfl ?_
  refine V.iconst (pc := 1) (v := nI 0) dX9_take_1 (by decide) ?_
  refine pf_X9_60 (pc := 2) dX9_take_2 ?_
  obtain ⟨μ0, hμ0⟩ : ∃ m, m = si μ 96 0 (nI 0) := ⟨_, rfl⟩
  rw [← hμ0]
  have hR0 : Rf μ0 a := by rw [hμ0]; exact hRf.fld 0 _ (by decide)
  have hth : μ0.1 96 0 = nI 0 := by rw [hμ0, si_s]
  have hC0 : Fr μ μ0 RK := by rw [hμ0]; exact (Fr.refl μ RK).si _ _ (by unfold RK; decide)
  clear hμ0
  have hR := hR0.rw
  have hvs := hR.vs
  have hn16 := hvs.n16
  have hu48 := hvs.u48
  have hT2 := hvs.tk
  have hp16 := pow16 hvs
  have hB9 := hvs.B9
  have hp48 := pow48 hvs
  have hLL := hvs.le
  refine V.aload_n (pc := 5) 0 dX9_take_5 rfl ?_
  refine V.aload_n (pc := 6) 0 dX9_take_6 rfl ?_
  refine V.iload_n (pc := 7) 1 dX9_take_7 rfl ?_
  refine cp_X9_183 (pc := 8) dX9_take_8 (ok_X9_isSentence a.S hR s hs) (by omega) (Nat.le_of_ble_eq_true rfl) ?_
  refine V.ifB_ne (pc := 11) 18 dX9_take_11 (by decide) (fun h_11 => ?_) (fun h_11 => ?_)
  · have hsn := of_decide_eq_true h_11
    refine V.iconst (pc := 18) (v := nI 0) dX9_take_18 (by decide) ?_
    refine V.iconst (pc := 19) (v := nI 1) dX9_take_19 (by decide) ?_
    refine V.iconst (pc := 20) (v := nI 0) dX9_take_20 (by decide) ?_
    refine cp_X9_119 (pc := 21) dX9_take_21 (ok_bad0 1 0 hth) (by omega) (Nat.le_of_ble_eq_true rfl) ?_
    refine V.ifN_ne (pc := 24) 53 dX9_take_24 (by decide) (by decide) (fun h_ => absurd h_ (by decide)) (fun h_24 => ?_)
    refine V.aload_n (pc := 27) 0 dX9_take_27 rfl ?_
    refine V.aload_n (pc := 28) 0 dX9_take_28 rfl ?_
    refine V.aload_n (pc := 29) 0 dX9_take_29 rfl ?_
    refine cp_X9_186 (pc := 30) dX9_take_30 (ok_X9_takenNow a.S hR) (by omega) (Nat.le_of_ble_eq_true rfl) ?_
    refine V.iload_n (pc := 33) 1 dX9_take_33 rfl ?_
    refine cp_X9_189 (pc := 34) dX9_take_34 (ok_X9_fits a.S hR a.S.T s (by omega) (by omega)) (by omega) (Nat.le_of_ble_eq_true rfl) ?_
    refine V.ifB_ne (pc := 37) 44 dX9_take_37 (by decide) (fun h_37 => ?_) (fun h_37 => ?_)
    · refine V.iconst (pc := 44) (v := nI 0) dX9_take_44 (by decide) ?_
      refine V.iconst (pc := 45) (v := nI 2) dX9_take_45 (by decide) ?_
      refine V.iconst (pc := 46) (v := nI 2) dX9_take_46 (by decide) ?_
      refine cp_X9_119 (pc := 47) dX9_take_47 (ok_bad0 2 2 hth) (by omega) (Nat.le_of_ble_eq_true rfl) ?_
      refine V.ifN_eq (pc := 50) 55 dX9_take_50 (by decide) (by decide) (fun h_50 => ?_) (fun h_ => absurd h_ (by decide))
      refine V.aload_n (pc := 55) 0 dX9_take_55 rfl ?_
      refine V.aload_n (pc := 56) 0 dX9_take_56 rfl ?_
      refine cp_X9_186 (pc := 57) dX9_take_57 (ok_X9_takenNow a.S hR) (by omega) (Nat.le_of_ble_eq_true rfl) ?_
      refine V.iload_n (pc := 60) 1 dX9_take_60 rfl ?_
      refine cp_X9_193 (pc := 61) dX9_take_61 (ok_X9_gain a.S hR a.S.T s (by omega) (by omega)) (by omega) (Nat.le_of_ble_eq_true rfl) ?_
      refine V.istore_n (pc := 64) (lv' := [(0, .ref (G.2.2 96)), (1, .int (nI s)), (2, .int (nI (gain a.S s a.S.T)))]) dX9_take_64 (by decide) rfl ?_
      refine V.aload_n (pc := 65) 0 dX9_take_65 rfl ?_
      refine cl_X9_126 (pc := 66) dX9_take_66 (ok_X9_remembers a hR0) (by omega) (Nat.le_of_ble_eq_true rfl) (fun r_ μ_ h_ => ?_)
      obtain ⟨rfl, hm1, hm2, hm3, hm4, hm5⟩ := h_
      have hRm : Rw μ_ 99 a.S := hm1.rw
      have hR := hRm
      refine V.aload_n (pc := 69) 0 dX9_take_69 rfl ?_
      refine gf_X9_20 (pc := 70) dX9_take_70 ?_
      refine V.iconst (pc := 73) (v := nI 3) dX9_take_73 (by decide) ?_
      refine V.dup2 (pc := 74) dX9_take_74 rfl rfl ?_
      refine V.lald (pc := 75) (k := 99) (n := 645) (v := lN a.S.T) (Nat.le_of_ble_eq_true rfl) (fun _ _ => rfl) 3 (by omega) (by decide) dX9_take_75 hR.T ?_
      refine V.aload_n (pc := 76) 0 dX9_take_76 rfl ?_
      refine V.iload_n (pc := 77) 1 dX9_take_77 rfl ?_
      refine cp_X9_163 (pc := 78) dX9_take_78 (ok_X9_chain a.S hR s (by omega)) (by omega) (Nat.le_of_ble_eq_true rfl) ?_
      have hcl := chain_ltn hsn
      have hTn : a.S.T ||| chain a.S s < 2 ^ a.S.n := or_lt hT2 hcl
      refine V.i2l (pc := 81) (v := lN (chain a.S s)) dX9_take_81 (nI_l (by omega)) ?_
      refine V.lor (pc := 82) (v := lN (a.S.T ||| (chain a.S s))) dX9_take_82 (ll_or _ _) ?_
      refine V.last (pc := 83) (k := 99) (n := 645) (v := lN (a.S.T ||| (chain a.S s))) (Nat.le_of_ble_eq_true rfl) (fun _ _ => rfl) 3 (by omega) (by decide) dX9_take_83 rfl ?_
      refine V.iload_n (pc := 84) 2 dX9_take_84 rfl ?_
      exact V.iret (pc := 85) hF dX9_take_85 (RP.mk ((if_pos hsn).trans (if_pos h_37)) (hm1.chg hm2 ((Fr.refl μ_ (fun c => c = 99)).sj _ _ rfl) rfl (hRm.set4 (S' := setT a.S (a.S.T ||| chain a.S s)) 3 _ (by decide) rfl rfl rfl ⟨rfl, rfl⟩ ⟨rfl, rfl, rfl, rfl⟩ ⟨rfl, rfl, rfl⟩ (hvs.setT hTn))) ((hm3 0 (by decide) (by decide)).trans hth) (rm_fr hC0 hm4 ((Fr.refl μ_ (fun c => c = 99)).sj _ _ rfl)))
    · refine V.iconst (pc := 40) (v := nI 1) dX9_take_40 (by decide) ?_
      refine V.goto (pc := 41) 45 dX9_take_41 (by decide) ?_
      refine V.iconst (pc := 45) (v := nI 2) dX9_take_45 (by decide) ?_
      refine V.iconst (pc := 46) (v := nI 2) dX9_take_46 (by decide) ?_
      refine cl_X9_119 (pc := 47) dX9_take_47 (ok_bad1 2 2 hth (by decide) (by decide) (by decide)) (by omega) (Nat.le_of_ble_eq_true rfl) (fun r_ μ_ h_ => ?_)
      obtain ⟨rfl, rfl⟩ := h_
      refine V.ifN_eq (pc := 50) 55 dX9_take_50 (by decide) (by decide) (fun h_ => absurd h_ (by decide)) (fun h_50 => ?_)
      refine V.iconst (pc := 53) (v := nI 0) dX9_take_53 (by decide) ?_
      exact V.iret (pc := 54) hF dX9_take_54 (RP.no ((if_pos hsn).trans (if_neg (by rw [h_37]; decide))) (by decide) hR0 (by decide) hC0)
  · have hsn := of_decide_eq_false h_11
    refine V.iconst (pc := 14) (v := nI 1) dX9_take_14 (by decide) ?_
    refine V.goto (pc := 15) 19 dX9_take_15 (by decide) ?_
    refine V.iconst (pc := 19) (v := nI 1) dX9_take_19 (by decide) ?_
    refine V.iconst (pc := 20) (v := nI 0) dX9_take_20 (by decide) ?_
    refine cl_X9_119 (pc := 21) dX9_take_21 (ok_bad1 1 0 hth (by decide) (by decide) (by decide)) (by omega) (Nat.le_of_ble_eq_true rfl) (fun r_ μ_ h_ => ?_)
    obtain ⟨rfl, rfl⟩ := h_
    refine V.ifN_ne (pc := 24) 53 dX9_take_24 (by decide) (by decide) (fun h_24 => ?_) (fun h_ => absurd h_ (by decide))
    refine V.iconst (pc := 53) (v := nI 0) dX9_take_53 (by decide) ?_
    exact V.iret (pc := 54) hF dX9_take_54 (RP.no (if_neg hsn) (by decide) hR0 (by decide) hC0)
theorem adn_00 (a : Nat) : a = adn a 0 := by
  apply Nat.eq_of_testBit_eq
  intro i
  rw [adn_bit, Nat.zero_testBit]; simp
theorem dr_t {S : TS} {s i T : Nat} (h : (chain S i).testBit s = true) : adn (adn T (anUp S s i)) (2 ^ i) = adn T (anUp S s (i + 1)) := by
  rw [← anUp_t h]
  apply Nat.eq_of_testBit_eq
  intro j
  rw [adn_bit, adn_bit, adn_bit, Nat.testBit_or]
  cases T.testBit j <;> cases (anUp S s i).testBit j <;> cases (2 ^ i).testBit j <;> rfl
theorem dr_n {S : TS} {s i T : Nat} (h : (chain S i).testBit s = true) (hb : (adn T (anUp S s i)).testBit i = false) : adn T (anUp S s i) = adn T (anUp S s (i + 1)) := by
  rw [← dr_t h]
  apply Nat.eq_of_testBit_eq
  intro j
  rw [adn_bit, adn_bit (adn T (anUp S s i)), two_bit]
  by_cases e : i = j
  · subst e; rw [← adn_bit, hb]; rfl
  · simp [e, adn_bit]
theorem dr_no {S : TS} {s i T : Nat} (hb : (adn T (anUp S s i)).testBit i = false) : adn T (anUp S s i) = adn T (anUp S s (i + 1)) := by
  cases h : (chain S i).testBit s with
  | true => exact dr_n h hb
  | false => rw [← anUp_f h]
theorem ok_X9_drop {G : Gx} {μ : Mu} (a : AS) (hRf : Rf μ a) (s : Nat) (hs : s < 2 ^ 32) : Runs 6 M_X9_drop [.ref (G.2.2 96), .int (nI s)] G μ (RP μ (sp_drop a s)) := by
  refine Runs.go RX9 rfl (by decide) [(0, .ref (G.2.2 96)), (1, .int (nI s))] (Nat.le_of_ble_eq_true rfl) rfl (fun X hF => ?_)
  refine V.aload_n (pc := 0) 0 dX9_drop_0 rfl ?_
  refine V.iconst (pc := 1) (v := nI 0) dX9_drop_1 (by decide) ?_
  refine pf_X9_60 (pc := 2) dX9_drop_2 ?_
  obtain ⟨μ0, hμ0⟩ : ∃ m, m = si μ 96 0 (nI 0) := ⟨_, rfl⟩
  rw [← hμ0]
  have hR0 : Rf μ0 a := by rw [hμ0]; exact hRf.fld 0 _ (by decide)
  have hth : μ0.1 96 0 = nI 0 := by rw [hμ0, si_s]
  have hC0 : Fr μ μ0 RK := by rw [hμ0]; exact (Fr.refl μ RK).si _ _ (by unfold RK; decide)
  clear hμ0
  have hR := hR0.rw
  have hvs := hR.vs
  have hn16 := hvs.n16
  have hu48 := hvs.u48
  have hT2 := hvs.tk
  have hp16 := pow16 hvs
  have hB9 := hvs.B9
  have hp48 := pow48 hvs
  have hLL := hvs.le
  refine V.aload_n (pc := 5) 0 dX9_drop_5 rfl ?_
  refine V.aload_n (pc := 6) 0 dX9_drop_6 rfl ?_
  refine V.iload_n (pc := 7) 1 dX9_drop_7 rfl ?_
  refine cp_X9_183 (pc := 8) dX9_drop_8 (ok_X9_isSentence a.S hR s hs) (by omega) (Nat.le_of_ble_eq_true rfl) ?_
  refine V.ifB_ne (pc := 11) 18 dX9_drop_11 (by decide) (fun h_11 => ?_) (fun h_11 => ?_)
  · have hsn := of_decide_eq_true h_11
    refine V.iconst (pc := 18) (v := nI 0) dX9_drop_18 (by decide) ?_
    refine V.iconst (pc := 19) (v := nI 1) dX9_drop_19 (by decide) ?_
    refine V.iconst (pc := 20) (v := nI 0) dX9_drop_20 (by decide) ?_
    refine cp_X9_119 (pc := 21) dX9_drop_21 (ok_bad0 1 0 hth) (by omega) (Nat.le_of_ble_eq_true rfl) ?_
    refine V.ifN_ne (pc := 24) 53 dX9_drop_24 (by decide) (by decide) (fun h_ => absurd h_ (by decide)) (fun h_24 => ?_)
    refine V.aload_n (pc := 27) 0 dX9_drop_27 rfl ?_
    refine V.aload_n (pc := 28) 0 dX9_drop_28 rfl ?_
    refine cp_X9_186 (pc := 29) dX9_drop_29 (ok_X9_takenNow a.S hR) (by omega) (Nat.le_of_ble_eq_true rfl) ?_
    refine V.i2l (pc := 32) (v := lN a.S.T) dX9_drop_32 (nI_l (by omega)) ?_
    refine V.iload_n (pc := 33) 1 dX9_drop_33 rfl ?_
    refine cp_X9_140 (pc := 34) dX9_drop_34 (ok_X9_has a.S.T s (by omega) (by omega)) (by omega) (Nat.le_of_ble_eq_true rfl) ?_
    refine V.ifB_ne (pc := 37) 44 dX9_drop_37 (by decide) (fun h_37 => ?_) (fun h_37 => ?_)
    · refine V.iconst (pc := 44) (v := nI 0) dX9_drop_44 (by decide) ?_
      refine V.iconst (pc := 45) (v := nI 2) dX9_drop_45 (by decide) ?_
      refine V.iconst (pc := 46) (v := nI 2) dX9_drop_46 (by decide) ?_
      refine cp_X9_119 (pc := 47) dX9_drop_47 (ok_bad0 2 2 hth) (by omega) (Nat.le_of_ble_eq_true rfl) ?_
      refine V.ifN_eq (pc := 50) 55 dX9_drop_50 (by decide) (by decide) (fun h_50 => ?_) (fun h_ => absurd h_ (by decide))
      refine V.aload_n (pc := 55) 0 dX9_drop_55 rfl ?_
      refine cl_X9_126 (pc := 56) dX9_drop_56 (ok_X9_remembers a hR0) (by omega) (Nat.le_of_ble_eq_true rfl) (fun r_ μ_ h_ => ?_)
      obtain ⟨rfl, hm1, hm2, hm3, hm4, hm5⟩ := h_
      have hRm : Rw μ_ 99 a.S := hm1.rw
      have hR := hRm
      refine V.aload_n (pc := 59) 0 dX9_drop_59 rfl ?_
      refine V.aload_n (pc := 60) 0 dX9_drop_60 rfl ?_
      refine cp_X9_186 (pc := 61) dX9_drop_61 (ok_X9_takenNow a.S hR) (by omega) (Nat.le_of_ble_eq_true rfl) ?_
      refine cp_X9_196 (pc := 64) dX9_drop_64 (ok_X9_covered a.S hR a.S.T (by omega)) (by omega) (Nat.le_of_ble_eq_true rfl) ?_
      refine V.istore_n (pc := 67) (lv' := [(0, .ref (G.2.2 96)), (1, .int (nI s)), (2, .int (nI (cov a.S a.S.T)))]) dX9_drop_67 (by decide) rfl ?_
      refine V.aload_n (pc := 68) 0 dX9_drop_68 rfl ?_
      refine cp_X9_186 (pc := 69) dX9_drop_69 (ok_X9_takenNow a.S hR) (by omega) (Nat.le_of_ble_eq_true rfl) ?_
      refine V.istore_n (pc := 72) (lv' := [(0, .ref (G.2.2 96)), (1, .int (nI s)), (2, .int (nI (cov a.S a.S.T))), (3, .int (nI a.S.T))]) dX9_drop_72 (by decide) rfl ?_
      refine V.iconst (pc := 73) (v := nI 0) dX9_drop_73 (by decide) ?_
      refine V.istore (pc := 74) (lv' := [(0, .ref (G.2.2 96)), (1, .int (nI s)), (2, .int (nI (cov a.S a.S.T))), (3, .int (nI a.S.T)), (4, .int (nI 0))]) dX9_drop_74 (by decide) rfl ?_
      have L76 : ∀ (n_ : Nat) (i : Nat), (i ≤ a.S.n) → a.S.n - i < n_ → V G RX9 cX9_drop 5 6 X 76 [(0, .ref (G.2.2 96)), (1, .int (nI s)), (2, .int (nI (cov a.S a.S.T))), (3, .int (nI (adn a.S.T (anUp a.S s i)))), (4, .int (nI i))] [] μ_ := by
        intro n_
        induction n_ with
        | zero => intro i hi hm_; exact absurd hm_ (Nat.not_lt_zero _)
        | succ n_ ih76 =>
          intro i hi hm_
          refine V.iload (pc := 76) 4 dX9_drop_76 rfl ?_
          refine V.aload_n (pc := 78) 0 dX9_drop_78 rfl ?_
          refine cp_X9_133 (pc := 79) dX9_drop_79 (ok_X9_many a.S hR) (by omega) (Nat.le_of_ble_eq_true rfl) ?_
          refine V.icmpN_ge (pc := 82) 124 dX9_drop_82 (by decide) (by omega) (by omega) (fun h_82 => ?_) (fun h_82 => ?_)
          · have hin : i = a.S.n := by omega
            have hTn : adn a.S.T (anUp a.S s a.S.n) < 2 ^ a.S.n := Nat.lt_of_le_of_lt (adn_le _ _) hT2
            subst hin
            have hin2 := hi
            · refine V.lvs (lv' := [(0, .ref (G.2.2 96)), (1, .int (nI s)), (2, .int (nI (cov a.S a.S.T))), (3, .int (nI (adn a.S.T (anUp a.S s a.S.n)))), (4, .int (nI a.S.n))]) rfl ?_
              refine V.aload_n (pc := 124) 0 dX9_drop_124 rfl ?_
              refine gf_X9_20 (pc := 125) dX9_drop_125 ?_
              refine V.iconst (pc := 128) (v := nI 3) dX9_drop_128 (by decide) ?_
              refine V.iload_n (pc := 129) 3 dX9_drop_129 rfl ?_
              refine V.i2l (pc := 130) (v := lN (adn a.S.T (anUp a.S s a.S.n))) dX9_drop_130 (nI_l (by omega)) ?_
              refine V.last (pc := 131) (k := 99) (n := 645) (v := lN (adn a.S.T (anUp a.S s a.S.n))) (Nat.le_of_ble_eq_true rfl) (fun _ _ => rfl) 3 (by omega) (by decide) dX9_drop_131 rfl ?_
              have hRt := hRm.set4 (S' := setT a.S (adn a.S.T (anUp a.S s a.S.n))) 3 (adn a.S.T (anUp a.S s a.S.n)) (by decide) rfl rfl rfl ⟨rfl, rfl⟩ ⟨rfl, rfl, rfl, rfl⟩ ⟨rfl, rfl, rfl⟩ (hvs.setT hTn)
              refine V.iload_n (pc := 132) 2 dX9_drop_132 rfl ?_
              refine V.aload_n (pc := 133) 0 dX9_drop_133 rfl ?_
              refine V.iload_n (pc := 134) 3 dX9_drop_134 rfl ?_
              refine cp_X9_196 (pc := 135) dX9_drop_135 (by have h := ok_X9_covered (G := G) (setT a.S (adn a.S.T (anUp a.S s a.S.n))) hRt (adn a.S.T (anUp a.S s a.S.n)) (by omega); rw [cov_cong (S := a.S) (S' := setT a.S (adn a.S.T (anUp a.S s a.S.n))) rfl rfl rfl rfl] at h; exact h) (by omega) (Nat.le_of_ble_eq_true rfl) ?_
              refine V.isub (pc := 138) (v := nI (cov a.S a.S.T) - nI (cov a.S (adn a.S.T (anUp a.S s a.S.n)))) dX9_drop_138 rfl ?_
              exact V.iret (pc := 139) hF dX9_drop_139 (RP.mk ((if_pos hsn).trans (if_pos h_37)) (hm1.chg hm2 ((Fr.refl μ_ (fun c => c = 99)).sj _ _ rfl) rfl (hRt)) ((hm3 0 (by decide) (by decide)).trans hth) (rm_fr hC0 hm4 ((Fr.refl μ_ (fun c => c = 99)).sj _ _ rfl)))
          · have hci := chain_ltn h_82
            have hle : adn a.S.T (anUp a.S s i) ≤ a.S.T := adn_le _ _
            refine V.iload_n (pc := 85) 3 dX9_drop_85 rfl ?_
            refine V.i2l (pc := 86) (v := lN (adn a.S.T (anUp a.S s i))) dX9_drop_86 (nI_l (by omega)) ?_
            refine V.iload (pc := 87) 4 dX9_drop_87 rfl ?_
            refine cp_X9_140 (pc := 89) dX9_drop_89 (ok_X9_has (adn a.S.T (anUp a.S s i)) i (by omega) (by omega)) (by omega) (Nat.le_of_ble_eq_true rfl) ?_
            refine V.ifB_eq (pc := 92) 118 dX9_drop_92 (by decide) (fun h_92 => ?_) (fun h_92 => ?_)
            · refine V.iinc (pc := 118) (v := nI (i + 1)) (lv' := [(0, .ref (G.2.2 96)), (1, .int (nI s)), (2, .int (nI (cov a.S a.S.T))), (3, .int (nI (adn a.S.T (anUp a.S s i)))), (4, .int (nI (i + 1)))]) 4 dX9_drop_118 rfl (nn_inc _) (by decide) rfl ?_
              refine V.goto (pc := 121) 76 dX9_drop_121 (by decide) ?_
              have e_3 : nI (adn a.S.T (anUp a.S s i)) = nI (adn a.S.T (anUp a.S s (i + 1))) := congrArg nI (dr_no h_92)
              refine V.lvs (lv' := [(0, .ref (G.2.2 96)), (1, .int (nI s)), (2, .int (nI (cov a.S a.S.T))), (3, .int (nI (adn a.S.T (anUp a.S s (i + 1))))), (4, .int (nI (i + 1)))]) (congrArg (fun z => ([(0, .ref (G.2.2 96)), (1, .int (nI s)), (2, .int (nI (cov a.S a.S.T))), (3, .int z), (4, .int (nI (i + 1)))] : List (Nat × Value))) e_3) ?_
              exact ih76 (i + 1) (by omega) (by omega)
            · refine V.aload_n (pc := 95) 0 dX9_drop_95 rfl ?_
              refine V.iload (pc := 96) 4 dX9_drop_96 rfl ?_
              refine cp_X9_163 (pc := 98) dX9_drop_98 (ok_X9_chain a.S hR i (by omega)) (by omega) (Nat.le_of_ble_eq_true rfl) ?_
              refine V.i2l (pc := 101) (v := lN (chain a.S i)) dX9_drop_101 (nI_l (by omega)) ?_
              refine V.iload_n (pc := 102) 1 dX9_drop_102 rfl ?_
              refine cp_X9_140 (pc := 103) dX9_drop_103 (ok_X9_has (chain a.S i) s (by omega) (by omega)) (by omega) (Nat.le_of_ble_eq_true rfl) ?_
              refine V.ifB_eq (pc := 106) 118 dX9_drop_106 (by decide) (fun h_106 => ?_) (fun h_106 => ?_)
              · refine V.iinc (pc := 118) (v := nI (i + 1)) (lv' := [(0, .ref (G.2.2 96)), (1, .int (nI s)), (2, .int (nI (cov a.S a.S.T))), (3, .int (nI (adn a.S.T (anUp a.S s i)))), (4, .int (nI (i + 1)))]) 4 dX9_drop_118 rfl (nn_inc _) (by decide) rfl ?_
                refine V.goto (pc := 121) 76 dX9_drop_121 (by decide) ?_
                have e_3 : nI (adn a.S.T (anUp a.S s i)) = nI (adn a.S.T (anUp a.S s (i + 1))) := congrArg nI (by rw [← anUp_f h_106])
                refine V.lvs (lv' := [(0, .ref (G.2.2 96)), (1, .int (nI s)), (2, .int (nI (cov a.S a.S.T))), (3, .int (nI (adn a.S.T (anUp a.S s (i + 1))))), (4, .int (nI (i + 1)))]) (congrArg (fun z => ([(0, .ref (G.2.2 96)), (1, .int (nI s)), (2, .int (nI (cov a.S a.S.T))), (3, .int z), (4, .int (nI (i + 1)))] : List (Nat × Value))) e_3) ?_
                exact ih76 (i + 1) (by omega) (by omega)
              · refine V.iload_n (pc := 109) 3 dX9_drop_109 rfl ?_
                refine V.iconst (pc := 110) (v := nI 1) dX9_drop_110 (by decide) ?_
                refine V.iload (pc := 111) 4 dX9_drop_111 rfl ?_
                refine V.ishl (pc := 113) (v := nI (2 ^ i)) dX9_drop_113 (nn_shl1 (by omega)) ?_
                refine V.iconst (pc := 114) (v := (-1)) dX9_drop_114 (by decide) ?_
                refine V.ixor (pc := 115) (v := nI (2 ^ i) ^^^ (-1)) dX9_drop_115 rfl ?_
                refine V.iand (pc := 116) (v := nI (adn (adn a.S.T (anUp a.S s i)) (2 ^ i))) dX9_drop_116 (nn_adn _ _) ?_
                refine V.istore_n (pc := 117) (lv' := [(0, .ref (G.2.2 96)), (1, .int (nI s)), (2, .int (nI (cov a.S a.S.T))), (3, .int (nI (adn (adn a.S.T (anUp a.S s i)) (2 ^ i)))), (4, .int (nI i))]) dX9_drop_117 (by decide) rfl ?_
                refine V.iinc (pc := 118) (v := nI (i + 1)) (lv' := [(0, .ref (G.2.2 96)), (1, .int (nI s)), (2, .int (nI (cov a.S a.S.T))), (3, .int (nI (adn (adn a.S.T (anUp a.S s i)) (2 ^ i)))), (4, .int (nI (i + 1)))]) 4 dX9_drop_118 rfl (nn_inc _) (by decide) rfl ?_
                refine V.goto (pc := 121) 76 dX9_drop_121 (by decide) ?_
                have e_3 : nI (adn (adn a.S.T (anUp a.S s i)) (2 ^ i)) = nI (adn a.S.T (anUp a.S s (i + 1))) := congrArg nI (dr_t h_106)
                refine V.lvs (lv' := [(0, .ref (G.2.2 96)), (1, .int (nI s)), (2, .int (nI (cov a.S a.S.T))), (3, .int (nI (adn a.S.T (anUp a.S s (i + 1))))), (4, .int (nI (i + 1)))]) (congrArg (fun z => ([(0, .ref (G.2.2 96)), (1, .int (nI s)), (2, .int (nI (cov a.S a.S.T))), (3, .int z), (4, .int (nI (i + 1)))] : List (Nat × Value))) e_3) ?_
                exact ih76 (i + 1) (by omega) (by omega)
      have e_3 : nI a.S.T = nI (adn a.S.T (anUp a.S s 0)) := congrArg nI (adn_00 _)
      refine V.lvs (lv' := [(0, .ref (G.2.2 96)), (1, .int (nI s)), (2, .int (nI (cov a.S a.S.T))), (3, .int (nI (adn a.S.T (anUp a.S s 0)))), (4, .int (nI 0))]) (congrArg (fun z => ([(0, .ref (G.2.2 96)), (1, .int (nI s)), (2, .int (nI (cov a.S a.S.T))), (3, .int z), (4, .int (nI 0))] : List (Nat × Value))) e_3) ?_
      exact L76 _ 0 (by omega) (Nat.lt_succ_self _)
    · refine V.iconst (pc := 40) (v := nI 1) dX9_drop_40 (by decide) ?_
      refine V.goto (pc := 41) 45 dX9_drop_41 (by decide) ?_
      refine V.iconst (pc := 45) (v := nI 2) dX9_drop_45 (by decide) ?_
      refine V.iconst (pc := 46) (v := nI 2) dX9_drop_46 (by decide) ?_
      refine cl_X9_119 (pc := 47) dX9_drop_47 (ok_bad1 2 2 hth (by decide) (by decide) (by decide)) (by omega) (Nat.le_of_ble_eq_true rfl) (fun r_ μ_ h_ => ?_)
      obtain ⟨rfl, rfl⟩ := h_
      refine V.ifN_eq (pc := 50) 55 dX9_drop_50 (by decide) (by decide) (fun h_ => absurd h_ (by decide)) (fun h_50 => ?_)
      refine V.iconst (pc := 53) (v := nI 0) dX9_drop_53 (by decide) ?_
      exact V.iret (pc := 54) hF dX9_drop_54 (RP.no ((if_pos hsn).trans (if_neg (by rw [h_37]; decide))) (by decide) hR0 (by decide) hC0)
  · have hsn := of_decide_eq_false h_11
    refine V.iconst (pc := 14) (v := nI 1) dX9_drop_14 (by decide) ?_
    refine V.goto (pc := 15) 19 dX9_drop_15 (by decide) ?_
    refine V.iconst (pc := 19) (v := nI 1) dX9_drop_19 (by decide) ?_
    refine V.iconst (pc := 20) (v := nI 0) dX9_drop_20 (by decide) ?_
    refine cl_X9_119 (pc := 21) dX9_drop_21 (ok_bad1 1 0 hth (by decide) (by decide) (by decide)) (by omega) (Nat.le_of_ble_eq_true rfl) (fun r_ μ_ h_ => ?_)
    obtain ⟨rfl, rfl⟩ := h_
    refine V.ifN_ne (pc := 24) 53 dX9_drop_24 (by decide) (by decide) (fun h_24 => ?_) (fun h_ => absurd h_ (by decide))
    refine V.iconst (pc := 53) (v := nI 0) dX9_drop_53 (by decide) ?_
    exact V.iret (pc := 54) hF dX9_drop_54 (RP.no (if_neg hsn) (by decide) hR0 (by decide) hC0)
