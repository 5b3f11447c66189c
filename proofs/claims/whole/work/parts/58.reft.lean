theorem bt2 {S : TS} {x y : Nat} (hx : cov S x ≤ 48000) (hy : cov S y ≤ 48000) (h : lenOf S x < lenOf S y ∨ (lenOf S x = lenOf S y ∧ (cov S y < cov S x ∨ (cov S x = cov S y ∧ x < y)))) : Bt S 2 x y := by
  show lenOf S x < lenOf S y ∨ (lenOf S x = lenOf S y ∧ (50000 - cov S x < 50000 - cov S y ∨ (50000 - cov S x = 50000 - cov S y ∧ x < y)))
  omega
def fx (f : Bool) (b : Nat) : Nat := if f = true then b + 1 else 0
theorem fx_0 {f : Bool} {b : Nat} (h : fx f b = 0) : f = false := by
  cases f with
  | false => rfl
  | true => exact absurd h (by show ¬ b + 1 = 0; omega)
theorem fx_1 {f : Bool} {b : Nat} (h : fx f b ≠ 0) : f = true := by
  cases f with
  | false => exact absurd rfl h
  | true => rfl
theorem sh_due {S : TS} {m : Nat} (hm : m ≤ 100) : shC S m ≤ cov S (2 ^ S.n - 1) := by
  unfold shC
  have : cov S (2 ^ S.n - 1) * m ≤ cov S (2 ^ S.n - 1) * 100 := Nat.mul_le_mul_left _ hm
  omega
theorem sh_true {S : TS} (hv : VS S) {m : Nat} (hm : m ≤ 100) {f : Bool} {b : Nat} (h : Best S 2 0 2147483647 (shC S m) (fun _ => True) f b) : f = true := by
  rcases h with ⟨-, -, h3⟩ | ⟨h1, -⟩
  · refine absurd ?_ (h3 (2 ^ S.n - 1) trivial)
    have := lenOf_le hv (2 ^ S.n - 1)
    exact ⟨by have := Nat.two_pow_pos S.n; omega, whole_full S, fun s e => absurd e (by omega), by omega, sh_due hm⟩
  · exact h1
theorem fx_le {S : TS} (hv : VS S) {o br mL lC : Nat} {C : Nat → Prop} {f : Bool} {b : Nat} (h : Best S o br mL lC C f b) : fx f b ≤ 65536 := by
  cases f with
  | false => exact Nat.zero_le _
  | true =>
    have h1 := (B_cand h).2.1
    have h2 := pow16 hv
    show b + 1 ≤ _
    omega
theorem ok_X9_shortest {G : Gx} {μ : Mu} (a : AS) (hRf : Rf μ a) (m x : Nat) (hm : m < 2 ^ 32) (hx : x < 2 ^ 32) (f1 : Bool) (b1 : Nat) (hB : Best a.S 2 0 2147483647 (shC a.S m) (fun _ => True) f1 b1) : Runs 8 M_X9_shortest [.ref (G.2.2 96), .int (nI m), .int (nI x)] G μ (RP μ (sp_shortest a m x b1)) := by
  refine Runs.go RX9 rfl (by decide) [(0, .ref (G.2.2 96)), (1, .int (nI m)), (2, .int (nI x))] (Nat.le_of_ble_eq_true rfl) rfl (fun X hF => ?_)
  refine V.aload_n (pc := 0) 0 dX9_shortest_0 rfl ?_
  refine V.iconst (pc := 1) (v := nI 0) dX9_shortest_1 (by decide) ?_
  refine pf_X9_60 (pc := 2) dX9_shortest_2 ?_
  obtain ⟨μ0, hμ0⟩ : ∃ m, m = si μ 96 0 (nI 0) := ⟨_, rfl⟩
  rw [← hμ0]
  have hR0 : Rf μ0 a := by rw [hμ0]; exact hRf.fld 0 _ (by decide)
  have hth : μ0.1 96 0 = nI 0 := by rw [hμ0, si_s]
  have hC0 : Fr μ μ0 RK := by rw [hμ0]; exact (Fr.refl μ RK).si _ _ (by unfold RK; decide)
  clear hμ0
  have hR := hR0.rw
  have hvs := hR.vs
  have hn16 := hvs.n16
  have hu48 := hvs.u48
  have hT2 := hvs.tk
  have hp16 := pow16 hvs
  have hB9 := hvs.B9
  have hp48 := pow48 hvs
  have hLL := hvs.le
  refine V.aload_n (pc := 5) 0 dX9_shortest_5 rfl ?_
  refine V.iload_n (pc := 6) 1 dX9_shortest_6 rfl ?_
  refine V.iconst (pc := 7) (v := nI 0) dX9_shortest_7 (by decide) ?_
  refine V.bipush (pc := 8) (v := nI 100) dX9_shortest_8 (by decide) ?_
  refine cp_X9_116 (pc := 10) dX9_shortest_10 (ok_X9_in m 101 hm (by decide)) (by omega) (Nat.le_of_ble_eq_true rfl) ?_
  refine V.ifB_eq (pc := 13) 25 dX9_shortest_13 (by decide) (fun h_13 => ?_) (fun h_13 => ?_)
  · have hm1 := of_decide_eq_false h_13
    refine V.iconst (pc := 25) (v := nI 1) dX9_shortest_25 (by decide) ?_
    refine V.goto (pc := 26) 30 dX9_shortest_26 (by decide) ?_
    refine V.iconst (pc := 30) (v := nI 1) dX9_shortest_30 (by decide) ?_
    refine V.iconst (pc := 31) (v := nI 1) dX9_shortest_31 (by decide) ?_
    refine cl_X9_119 (pc := 32) dX9_shortest_32 (ok_bad1 1 1 hth (by decide) (by decide) (by decide)) (by omega) (Nat.le_of_ble_eq_true rfl) (fun r_ μ_ h_ => ?_)
    obtain ⟨rfl, rfl⟩ := h_
    refine V.ifN_eq (pc := 35) 40 dX9_shortest_35 (by decide) (by decide) (fun h_ => absurd h_ (by decide)) (fun h_35 => ?_)
    refine V.iconst (pc := 38) (v := nI 0) dX9_shortest_38 (by decide) ?_
    exact V.iret (pc := 39) hF dX9_shortest_39 (RP.no (if_neg (by omega)) (by decide) hR0 (by decide) hC0)
  · have hm1 := of_decide_eq_true h_13
    refine V.iload_n (pc := 16) 2 dX9_shortest_16 rfl ?_
    refine V.iconst (pc := 17) (v := nI 0) dX9_shortest_17 (by decide) ?_
    refine V.iconst (pc := 18) (v := nI 2) dX9_shortest_18 (by decide) ?_
    refine cp_X9_116 (pc := 19) dX9_shortest_19 (ok_X9_in x 3 hx (by decide)) (by omega) (Nat.le_of_ble_eq_true rfl) ?_
    refine V.ifB_ne (pc := 22) 29 dX9_shortest_22 (by decide) (fun h_22 => ?_) (fun h_22 => ?_)
    · have hx1 := of_decide_eq_true h_22
      refine V.iconst (pc := 29) (v := nI 0) dX9_shortest_29 (by decide) ?_
      refine V.iconst (pc := 30) (v := nI 1) dX9_shortest_30 (by decide) ?_
      refine V.iconst (pc := 31) (v := nI 1) dX9_shortest_31 (by decide) ?_
      refine cp_X9_119 (pc := 32) dX9_shortest_32 (ok_bad0 1 1 hth) (by omega) (Nat.le_of_ble_eq_true rfl) ?_
      refine V.ifN_eq (pc := 35) 40 dX9_shortest_35 (by decide) (by decide) (fun h_35 => ?_) (fun h_ => absurd h_ (by decide))
      refine V.aload_n (pc := 40) 0 dX9_shortest_40 rfl ?_
      have hpp := Nat.two_pow_pos a.S.n
      have hlf := lenOf_le hvs (2 ^ a.S.n - 1)
      have hcf : cov a.S (2 ^ a.S.n - 1) ≤ 48000 := wOf_le hvs _
      have hmul : cov a.S (2 ^ a.S.n - 1) * m ≤ 48000 * 100 := Nat.mul_le_mul hcf (by omega)
      have hdu := sh_due (S := a.S) (m := m) (by omega)
      refine cl_X9_245 (pc := 41) dX9_shortest_41 (ok_X9_laysSets a hR0) (by omega) (Nat.le_of_ble_eq_true rfl) (fun r_ μ_ h_ => ?_)
      obtain ⟨rfl, hRf1, hL, hth1, hfr1⟩ := h_
      have hth1 := hth1.trans hth
      have hC1 := hC0.trans hfr1 (fun _ z => z) (fun _ z => z)
      have hR1 := hRf1.rw
      have hR := hR1
      refine V.iconst (pc := 44) (v := nI 1) dX9_shortest_44 (by decide) ?_
      refine V.aload_n (pc := 45) 0 dX9_shortest_45 rfl ?_
      refine cp_X9_133 (pc := 46) dX9_shortest_46 (ok_X9_many a.S hR) (by omega) (Nat.le_of_ble_eq_true rfl) ?_
      refine V.ishl (pc := 49) (v := nI (2 ^ a.S.n)) dX9_shortest_49 (nn_shl1 (by omega)) ?_
      refine V.iconst (pc := 50) (v := nI 1) dX9_shortest_50 (by decide) ?_
      refine V.isub (pc := 51) (v := nI ((2 ^ a.S.n) - 1)) dX9_shortest_51 (pk_sub (by omega)) ?_
      refine V.istore_n (pc := 52) (lv' := [(0, .ref (G.2.2 96)), (1, .int (nI m)), (2, .int (nI x)), (3, .int (nI ((2 ^ a.S.n) - 1)))]) dX9_shortest_52 (by decide) rfl ?_
      refine V.aload_n (pc := 53) 0 dX9_shortest_53 rfl ?_
      refine gf_X9_46 (pc := 54) dX9_shortest_54 ?_
      refine V.iload_n (pc := 57) 3 dX9_shortest_57 rfl ?_
      refine V.iald (pc := 58) (k := 114) (n := 65536) (v := nI (cov a.S (2 ^ a.S.n - 1))) (Nat.le_of_ble_eq_true rfl) (fun _ _ => rfl) ((2 ^ a.S.n) - 1) (by omega) (by decide) dX9_shortest_58 ((hL (2 ^ a.S.n - 1) (by omega)).1.trans (cv_t (whole_full a.S))) ?_
      refine V.iload_n (pc := 59) 1 dX9_shortest_59 rfl ?_
      refine V.imul (pc := 60) (v := nI ((cov a.S (2 ^ a.S.n - 1)) * m)) dX9_shortest_60 (pk_mul _ _) ?_
      refine V.bipush (pc := 61) (v := nI 99) dX9_shortest_61 (by decide) ?_
      refine V.iadd (pc := 63) (v := nI ((cov a.S (2 ^ a.S.n - 1)) * m + 99)) dX9_shortest_63 (nI_add _ _) ?_
      refine V.bipush (pc := 64) (v := nI 100) dX9_shortest_64 (by decide) ?_
      refine V.idiv (pc := 66) (v := nI (shC a.S m)) dX9_shortest_66 (nn_div0 (by omega) (by omega)) ((pk_div (by omega) (by omega) (by omega)).trans (congrArg nI (by unfold shC; omega))) ?_
      refine V.istore (pc := 67) (lv' := [(0, .ref (G.2.2 96)), (1, .int (nI m)), (2, .int (nI x)), (3, .int (nI ((2 ^ a.S.n) - 1))), (4, .int (nI (shC a.S m)))]) dX9_shortest_67 (by decide) rfl ?_
      refine V.iconst (pc := 69) (v := (-1)) dX9_shortest_69 (by decide) ?_
      refine V.istore (pc := 70) (lv' := [(0, .ref (G.2.2 96)), (1, .int (nI m)), (2, .int (nI x)), (3, .int (nI ((2 ^ a.S.n) - 1))), (4, .int (nI (shC a.S m))), (5, .int (-1))]) dX9_shortest_70 (by decide) rfl ?_
      refine V.iconst (pc := 72) (v := nI 0) dX9_shortest_72 (by decide) ?_
      refine V.istore (pc := 73) (lv' := [(0, .ref (G.2.2 96)), (1, .int (nI m)), (2, .int (nI x)), (3, .int (nI ((2 ^ a.S.n) - 1))), (4, .int (nI (shC a.S m))), (5, .int (-1)), (6, .int (nI 0))]) dX9_shortest_73 (by decide) rfl ?_
      have L75 : ∀ (n_ : Nat) (y : Nat) ( f : Bool) ( bb : Nat), (y ≤ 2 ^ a.S.n) → (Best a.S 2 0 2147483647 (shC a.S m) (fun z => z < y) f bb) → 2 ^ a.S.n - y < n_ → V G RX9 cX9_shortest 7 8 X 75 [(0, .ref (G.2.2 96)), (1, .int (nI m)), (2, .int (nI x)), (3, .int (nI (2 ^ a.S.n - 1))), (4, .int (nI (shC a.S m))), (5, .int (pv (fx f bb))), (6, .int (nI y))] [] μ_ := by
        intro n_
        induction n_ with
        | zero => intro y f bb hy hB2 hm_; exact absurd hm_ (Nat.not_lt_zero _)
        | succ n_ ih75 =>
          intro y f bb hy hB2 hm_
          have hfb : fx f bb ≤ 65536 := fx_le hvs hB2
          refine V.iload (pc := 75) 6 dX9_shortest_75 rfl ?_
          refine V.iload_n (pc := 77) 3 dX9_shortest_77 rfl ?_
          refine V.icmpN_gt (pc := 78) 174 dX9_shortest_78 (by decide) (by omega) (by omega) (fun h_78 => ?_) (fun h_78 => ?_)
          · have hyE : y = 2 ^ a.S.n := by omega
            subst hyE
            obtain ⟨hfe, hbe⟩ := hB.one (B_all hB2)
            have hf : f = true := by rw [hfe]; exact sh_true hvs (by omega) hB
            have hbb := B_cand (by rw [hf] at hB2; exact hB2)
            have hbx := hbb.1
            have hwb := hbb.2.2.1
            subst hbe
            have hf2 := hf
            · refine V.sub [0, 1, 2, 3, 4, 5] rfl ?_
              refine V.lvs (lv' := [(0, .ref (G.2.2 96)), (1, .int (nI m)), (2, .int (nI x)), (3, .int (nI (2 ^ a.S.n - 1))), (4, .int (nI (shC a.S m))), (5, .int (nI bb))]) (by rw [hf]; rfl) ?_
              refine V.iload_n (pc := 174) 2 dX9_shortest_174 rfl ?_
              refine V.ifN_ne (pc := 175) 183 dX9_shortest_175 (by decide) (by omega) (fun h_175 => ?_) (fun h_175 => ?_)
              · refine V.iload_n (pc := 183) 2 dX9_shortest_183 rfl ?_
                refine V.iconst (pc := 184) (v := nI 1) dX9_shortest_184 (by decide) ?_
                refine V.icmpN_ne (pc := 185) 198 dX9_shortest_185 (by decide) (by omega) (by omega) (fun h_185 => ?_) (fun h_185 => ?_)
                · refine V.aload_n (pc := 198) 0 dX9_shortest_198 rfl ?_
                  refine gf_X9_49 (pc := 199) dX9_shortest_199 ?_
                  refine V.iload (pc := 202) 5 dX9_shortest_202 rfl ?_
                  refine V.iald (pc := 204) (k := 115) (n := 65536) (v := nI (lenOf a.S bb)) (Nat.le_of_ble_eq_true rfl) (fun _ _ => rfl) bb (by omega) (by decide) dX9_shortest_204 (hL bb (by omega)).2 ?_
                  exact V.iret (pc := 205) hF dX9_shortest_205 (RP.mk ((if_pos (by omega)).trans ((if_pos (by omega)).trans (by rw [show x = 2 by omega]; rfl))) hRf1 hth1 hC1)
                · refine V.aload_n (pc := 188) 0 dX9_shortest_188 rfl ?_
                  refine gf_X9_46 (pc := 189) dX9_shortest_189 ?_
                  refine V.iload (pc := 192) 5 dX9_shortest_192 rfl ?_
                  refine V.iald (pc := 194) (k := 114) (n := 65536) (v := nI (cov a.S bb)) (Nat.le_of_ble_eq_true rfl) (fun _ _ => rfl) bb (by omega) (by decide) dX9_shortest_194 ((hL bb (by omega)).1.trans (cv_t hwb)) ?_
                  refine V.goto (pc := 195) 205 dX9_shortest_195 (by decide) ?_
                  exact V.iret (pc := 205) hF dX9_shortest_205 (RP.mk ((if_pos (by omega)).trans ((if_pos (by omega)).trans (by rw [show x = 1 by omega]; rfl))) hRf1 hth1 hC1)
              · refine V.iload (pc := 178) 5 dX9_shortest_178 rfl ?_
                refine V.goto (pc := 180) 205 dX9_shortest_180 (by decide) ?_
                exact V.iret (pc := 205) hF dX9_shortest_205 (RP.mk ((if_pos (by omega)).trans ((if_pos (by omega)).trans (by rw [show x = 0 by omega]; rfl))) hRf1 hth1 hC1)
          · have hcx : cov a.S y ≤ 48000 := wOf_le hvs _
            have hlx := lenOf_le hvs y
            have hcb : cov a.S bb ≤ 48000 := wOf_le hvs _
            have hlb := lenOf_le hvs bb
            by_cases hw : whole a.S y = true
            · refine V.aload_n (pc := 81) 0 dX9_shortest_81 rfl ?_
              refine gf_X9_46 (pc := 82) dX9_shortest_82 ?_
              refine V.iload (pc := 85) 6 dX9_shortest_85 rfl ?_
              refine V.iald (pc := 87) (k := 114) (n := 65536) (v := nI (cov a.S y)) (Nat.le_of_ble_eq_true rfl) (fun _ _ => rfl) y (by omega) (by decide) dX9_shortest_87 ((hL y (by omega)).1.trans (cv_t hw)) ?_
              refine V.iconst (pc := 88) (v := (-1)) dX9_shortest_88 (by decide) ?_
              refine V.icmp_eq (pc := 89) 168 dX9_shortest_89 (by decide) (fun h_89 => ?_) (fun h_89 => ?_)
              · exact absurd h_89 (nn_ne_m1 (by omega))
              · refine V.aload_n (pc := 92) 0 dX9_shortest_92 rfl ?_
                refine gf_X9_46 (pc := 93) dX9_shortest_93 ?_
                refine V.iload (pc := 96) 6 dX9_shortest_96 rfl ?_
                refine V.iald (pc := 98) (k := 114) (n := 65536) (v := nI (cov a.S y)) (Nat.le_of_ble_eq_true rfl) (fun _ _ => rfl) y (by omega) (by decide) dX9_shortest_98 ((hL y (by omega)).1.trans (cv_t hw)) ?_
                refine V.iload (pc := 99) 4 dX9_shortest_99 rfl ?_
                refine V.icmpN_ge (pc := 101) 107 dX9_shortest_101 (by decide) (by omega) (by omega) (fun h_101 => ?_) (fun h_101 => ?_)
                · refine V.iload (pc := 107) 5 dX9_shortest_107 rfl ?_
                  refine V.iconst (pc := 109) (v := (-1)) dX9_shortest_109 (by decide) ?_
                  refine V.icmp_eq (pc := 110) 164 dX9_shortest_110 (by decide) (fun h_110 => ?_) (fun h_110 => ?_)
                  · have hf : f = false := fx_0 ((pv_ne (by omega)).mp h_110)
                    refine V.iload (pc := 164) 6 dX9_shortest_164 rfl ?_
                    refine V.istore (pc := 166) (lv' := [(0, .ref (G.2.2 96)), (1, .int (nI m)), (2, .int (nI x)), (3, .int (nI (2 ^ a.S.n - 1))), (4, .int (nI (shC a.S m))), (5, .int (nI y)), (6, .int (nI y))]) dX9_shortest_166 (by decide) rfl ?_
                    refine V.iinc (pc := 168) (v := nI (y + 1)) (lv' := [(0, .ref (G.2.2 96)), (1, .int (nI m)), (2, .int (nI x)), (3, .int (nI (2 ^ a.S.n - 1))), (4, .int (nI (shC a.S m))), (5, .int (nI y)), (6, .int (nI (y + 1)))]) 6 dX9_shortest_168 rfl (nn_inc _) (by decide) rfl ?_
                    refine V.goto (pc := 171) 75 dX9_shortest_171 (by decide) ?_
                    have e_5 : nI y = pv (fx true y) := rfl
                    refine V.lvs (lv' := [(0, .ref (G.2.2 96)), (1, .int (nI m)), (2, .int (nI x)), (3, .int (nI (2 ^ a.S.n - 1))), (4, .int (nI (shC a.S m))), (5, .int (pv (fx true y))), (6, .int (nI (y + 1)))]) (congrArg (fun z => ([(0, .ref (G.2.2 96)), (1, .int (nI m)), (2, .int (nI x)), (3, .int (nI (2 ^ a.S.n - 1))), (4, .int (nI (shC a.S m))), (5, .int z), (6, .int (nI (y + 1)))] : List (Nat × Value))) e_5) ?_
                    exact ih75 (y + 1) true y (by omega) (B_take hB2 ⟨by omega, hw, fun s e => absurd e (by omega), by omega, by omega⟩ (fun z => by rw [hf] at z; cases z)) (by omega)
                  · have hf : f = true := fx_1 (fun z => h_110 ((pv_ne (by omega)).mpr z))
                    have hbb := B_cand (by rw [hf] at hB2; exact hB2)
                    have hbx := hbb.1
                    have hwb := hbb.2.2.1
                    refine V.aload_n (pc := 113) 0 dX9_shortest_113 rfl ?_
                    refine gf_X9_49 (pc := 114) dX9_shortest_114 ?_
                    refine V.iload (pc := 117) 6 dX9_shortest_117 rfl ?_
                    refine V.iald (pc := 119) (k := 115) (n := 65536) (v := nI (lenOf a.S y)) (Nat.le_of_ble_eq_true rfl) (fun _ _ => rfl) y (by omega) (by decide) dX9_shortest_119 (hL y (by omega)).2 ?_
                    refine V.aload_n (pc := 120) 0 dX9_shortest_120 rfl ?_
                    refine gf_X9_49 (pc := 121) dX9_shortest_121 ?_
                    refine V.iload (pc := 124) 5 dX9_shortest_124 rfl ?_
                    refine V.st (st' := [.int (nI bb), .ref (G.2.2 115), .int (nI (lenOf a.S y))]) (by rw [hf]; rfl) ?_
                    refine V.iald (pc := 126) (k := 115) (n := 65536) (v := nI (lenOf a.S bb)) (Nat.le_of_ble_eq_true rfl) (fun _ _ => rfl) bb (by omega) (by decide) dX9_shortest_126 (hL bb (by omega)).2 ?_
                    refine V.icmpN_lt (pc := 127) 164 dX9_shortest_127 (by decide) (by omega) (by omega) (fun h_127 => ?_) (fun h_127 => ?_)
                    · refine V.iload (pc := 164) 6 dX9_shortest_164 rfl ?_
                      refine V.istore (pc := 166) (lv' := [(0, .ref (G.2.2 96)), (1, .int (nI m)), (2, .int (nI x)), (3, .int (nI (2 ^ a.S.n - 1))), (4, .int (nI (shC a.S m))), (5, .int (nI y)), (6, .int (nI y))]) dX9_shortest_166 (by decide) rfl ?_
                      refine V.iinc (pc := 168) (v := nI (y + 1)) (lv' := [(0, .ref (G.2.2 96)), (1, .int (nI m)), (2, .int (nI x)), (3, .int (nI (2 ^ a.S.n - 1))), (4, .int (nI (shC a.S m))), (5, .int (nI y)), (6, .int (nI (y + 1)))]) 6 dX9_shortest_168 rfl (nn_inc _) (by decide) rfl ?_
                      refine V.goto (pc := 171) 75 dX9_shortest_171 (by decide) ?_
                      have e_5 : nI y = pv (fx true y) := rfl
                      refine V.lvs (lv' := [(0, .ref (G.2.2 96)), (1, .int (nI m)), (2, .int (nI x)), (3, .int (nI (2 ^ a.S.n - 1))), (4, .int (nI (shC a.S m))), (5, .int (pv (fx true y))), (6, .int (nI (y + 1)))]) (congrArg (fun z => ([(0, .ref (G.2.2 96)), (1, .int (nI m)), (2, .int (nI x)), (3, .int (nI (2 ^ a.S.n - 1))), (4, .int (nI (shC a.S m))), (5, .int z), (6, .int (nI (y + 1)))] : List (Nat × Value))) e_5) ?_
                      exact ih75 (y + 1) true y (by omega) (B_take hB2 ⟨by omega, hw, fun s e => absurd e (by omega), by omega, by omega⟩ (fun _ => bt2 hcx hcb (by omega))) (by omega)
                    · refine V.aload_n (pc := 130) 0 dX9_shortest_130 rfl ?_
                      refine gf_X9_49 (pc := 131) dX9_shortest_131 ?_
                      refine V.iload (pc := 134) 6 dX9_shortest_134 rfl ?_
                      refine V.iald (pc := 136) (k := 115) (n := 65536) (v := nI (lenOf a.S y)) (Nat.le_of_ble_eq_true rfl) (fun _ _ => rfl) y (by omega) (by decide) dX9_shortest_136 (hL y (by omega)).2 ?_
                      refine V.aload_n (pc := 137) 0 dX9_shortest_137 rfl ?_
                      refine gf_X9_49 (pc := 138) dX9_shortest_138 ?_
                      refine V.iload (pc := 141) 5 dX9_shortest_141 rfl ?_
                      refine V.st (st' := [.int (nI bb), .ref (G.2.2 115), .int (nI (lenOf a.S y))]) (by rw [hf]; rfl) ?_
                      refine V.iald (pc := 143) (k := 115) (n := 65536) (v := nI (lenOf a.S bb)) (Nat.le_of_ble_eq_true rfl) (fun _ _ => rfl) bb (by omega) (by decide) dX9_shortest_143 (hL bb (by omega)).2 ?_
                      refine V.icmpN_ne (pc := 144) 168 dX9_shortest_144 (by decide) (by omega) (by omega) (fun h_144 => ?_) (fun h_144 => ?_)
                      · refine V.iinc (pc := 168) (v := nI (y + 1)) (lv' := [(0, .ref (G.2.2 96)), (1, .int (nI m)), (2, .int (nI x)), (3, .int (nI (2 ^ a.S.n - 1))), (4, .int (nI (shC a.S m))), (5, .int (pv (fx f bb))), (6, .int (nI (y + 1)))]) 6 dX9_shortest_168 rfl (nn_inc _) (by decide) rfl ?_
                        refine V.goto (pc := 171) 75 dX9_shortest_171 (by decide) ?_
                        exact ih75 (y + 1) f bb (by omega) (B_stay hB2 hf (bt2 hcb hcx (by omega))) (by omega)
                      · refine V.aload_n (pc := 147) 0 dX9_shortest_147 rfl ?_
                        refine gf_X9_46 (pc := 148) dX9_shortest_148 ?_
                        refine V.iload (pc := 151) 6 dX9_shortest_151 rfl ?_
                        refine V.iald (pc := 153) (k := 114) (n := 65536) (v := nI (cov a.S y)) (Nat.le_of_ble_eq_true rfl) (fun _ _ => rfl) y (by omega) (by decide) dX9_shortest_153 ((hL y (by omega)).1.trans (cv_t hw)) ?_
                        refine V.aload_n (pc := 154) 0 dX9_shortest_154 rfl ?_
                        refine gf_X9_46 (pc := 155) dX9_shortest_155 ?_
                        refine V.iload (pc := 158) 5 dX9_shortest_158 rfl ?_
                        refine V.st (st' := [.int (nI bb), .ref (G.2.2 114), .int (nI (cov a.S y))]) (by rw [hf]; rfl) ?_
                        refine V.iald (pc := 160) (k := 114) (n := 65536) (v := nI (cov a.S bb)) (Nat.le_of_ble_eq_true rfl) (fun _ _ => rfl) bb (by omega) (by decide) dX9_shortest_160 ((hL bb (by omega)).1.trans (cv_t hwb)) ?_
                        refine V.icmpN_le (pc := 161) 168 dX9_shortest_161 (by decide) (by omega) (by omega) (fun h_161 => ?_) (fun h_161 => ?_)
                        · refine V.iinc (pc := 168) (v := nI (y + 1)) (lv' := [(0, .ref (G.2.2 96)), (1, .int (nI m)), (2, .int (nI x)), (3, .int (nI (2 ^ a.S.n - 1))), (4, .int (nI (shC a.S m))), (5, .int (pv (fx f bb))), (6, .int (nI (y + 1)))]) 6 dX9_shortest_168 rfl (nn_inc _) (by decide) rfl ?_
                          refine V.goto (pc := 171) 75 dX9_shortest_171 (by decide) ?_
                          exact ih75 (y + 1) f bb (by omega) (B_stay hB2 hf (bt2 hcb hcx (by omega))) (by omega)
                        · refine V.iload (pc := 164) 6 dX9_shortest_164 rfl ?_
                          refine V.istore (pc := 166) (lv' := [(0, .ref (G.2.2 96)), (1, .int (nI m)), (2, .int (nI x)), (3, .int (nI (2 ^ a.S.n - 1))), (4, .int (nI (shC a.S m))), (5, .int (nI y)), (6, .int (nI y))]) dX9_shortest_166 (by decide) rfl ?_
                          refine V.iinc (pc := 168) (v := nI (y + 1)) (lv' := [(0, .ref (G.2.2 96)), (1, .int (nI m)), (2, .int (nI x)), (3, .int (nI (2 ^ a.S.n - 1))), (4, .int (nI (shC a.S m))), (5, .int (nI y)), (6, .int (nI (y + 1)))]) 6 dX9_shortest_168 rfl (nn_inc _) (by decide) rfl ?_
                          refine V.goto (pc := 171) 75 dX9_shortest_171 (by decide) ?_
                          have e_5 : nI y = pv (fx true y) := rfl
                          refine V.lvs (lv' := [(0, .ref (G.2.2 96)), (1, .int (nI m)), (2, .int (nI x)), (3, .int (nI (2 ^ a.S.n - 1))), (4, .int (nI (shC a.S m))), (5, .int (pv (fx true y))), (6, .int (nI (y + 1)))]) (congrArg (fun z => ([(0, .ref (G.2.2 96)), (1, .int (nI m)), (2, .int (nI x)), (3, .int (nI (2 ^ a.S.n - 1))), (4, .int (nI (shC a.S m))), (5, .int z), (6, .int (nI (y + 1)))] : List (Nat × Value))) e_5) ?_
                          exact ih75 (y + 1) true y (by omega) (B_take hB2 ⟨by omega, hw, fun s e => absurd e (by omega), by omega, by omega⟩ (fun _ => bt2 hcx hcb (by omega))) (by omega)
                · refine V.goto (pc := 104) 168 dX9_shortest_104 (by decide) ?_
                  refine V.iinc (pc := 168) (v := nI (y + 1)) (lv' := [(0, .ref (G.2.2 96)), (1, .int (nI m)), (2, .int (nI x)), (3, .int (nI (2 ^ a.S.n - 1))), (4, .int (nI (shC a.S m))), (5, .int (pv (fx f bb))), (6, .int (nI (y + 1)))]) 6 dX9_shortest_168 rfl (nn_inc _) (by decide) rfl ?_
                  refine V.goto (pc := 171) 75 dX9_shortest_171 (by decide) ?_
                  exact ih75 (y + 1) f bb (by omega) (B_skip hB2 (fun z => by have := z.2.2.2.2; omega)) (by omega)
            · refine V.aload_n (pc := 81) 0 dX9_shortest_81 rfl ?_
              refine gf_X9_46 (pc := 82) dX9_shortest_82 ?_
              refine V.iload (pc := 85) 6 dX9_shortest_85 rfl ?_
              refine V.iald (pc := 87) (k := 114) (n := 65536) (v := (-1)) (Nat.le_of_ble_eq_true rfl) (fun _ _ => rfl) y (by omega) (by decide) dX9_shortest_87 ((hL y (by omega)).1.trans (cv_f hw)) ?_
              refine V.iconst (pc := 88) (v := (-1)) dX9_shortest_88 (by decide) ?_
              refine V.icmp_eq (pc := 89) 168 dX9_shortest_89 (by decide) (fun h_89 => ?_) (fun h_89 => ?_)
              · refine V.iinc (pc := 168) (v := nI (y + 1)) (lv' := [(0, .ref (G.2.2 96)), (1, .int (nI m)), (2, .int (nI x)), (3, .int (nI (2 ^ a.S.n - 1))), (4, .int (nI (shC a.S m))), (5, .int (pv (fx f bb))), (6, .int (nI (y + 1)))]) 6 dX9_shortest_168 rfl (nn_inc _) (by decide) rfl ?_
                refine V.goto (pc := 171) 75 dX9_shortest_171 (by decide) ?_
                exact ih75 (y + 1) f bb (by omega) (B_skip hB2 (fun z => hw z.2.1)) (by omega)
              · exact absurd rfl h_89
      have e_3 : nI ((2 ^ a.S.n) - 1) = nI (2 ^ a.S.n - 1) := congrArg nI (by omega)
      have e_5 : (-1) = pv (fx false 0) := rfl
      refine V.lvs (lv' := [(0, .ref (G.2.2 96)), (1, .int (nI m)), (2, .int (nI x)), (3, .int (nI (2 ^ a.S.n - 1))), (4, .int (nI (shC a.S m))), (5, .int (-1)), (6, .int (nI 0))]) (congrArg (fun z => ([(0, .ref (G.2.2 96)), (1, .int (nI m)), (2, .int (nI x)), (3, .int z), (4, .int (nI (shC a.S m))), (5, .int (-1)), (6, .int (nI 0))] : List (Nat × Value))) e_3) ?_
      refine V.lvs (lv' := [(0, .ref (G.2.2 96)), (1, .int (nI m)), (2, .int (nI x)), (3, .int (nI (2 ^ a.S.n - 1))), (4, .int (nI (shC a.S m))), (5, .int (pv (fx false 0))), (6, .int (nI 0))]) (congrArg (fun z => ([(0, .ref (G.2.2 96)), (1, .int (nI m)), (2, .int (nI x)), (3, .int (nI (2 ^ a.S.n - 1))), (4, .int (nI (shC a.S m))), (5, .int z), (6, .int (nI 0))] : List (Nat × Value))) e_5) ?_
      exact L75 _ 0 false 0 (by omega) (B_zero _ _ _ _ _) (Nat.lt_succ_self _)
    · have hx1 := of_decide_eq_false h_22
      refine V.iconst (pc := 25) (v := nI 1) dX9_shortest_25 (by decide) ?_
      refine V.goto (pc := 26) 30 dX9_shortest_26 (by decide) ?_
      refine V.iconst (pc := 30) (v := nI 1) dX9_shortest_30 (by decide) ?_
      refine V.iconst (pc := 31) (v := nI 1) dX9_shortest_31 (by decide) ?_
      refine cl_X9_119 (pc := 32) dX9_shortest_32 (ok_bad1 1 1 hth (by decide) (by decide) (by decide)) (by omega) (Nat.le_of_ble_eq_true rfl) (fun r_ μ_ h_ => ?_)
      obtain ⟨rfl, rfl⟩ := h_
      refine V.ifN_eq (pc := 35) 40 dX9_shortest_35 (by decide) (by decide) (fun h_ => absurd h_ (by decide)) (fun h_35 => ?_)
      refine V.iconst (pc := 38) (v := nI 0) dX9_shortest_38 (by decide) ?_
      exact V.iret (pc := 39) hF dX9_shortest_39 (RP.no ((if_pos (by omega)).trans (if_neg (by omega))) (by decide) hR0 (by decide) hC0)
theorem w_same {S : TS} {m s : Nat} {f1 f2 : Bool} {b1 b2 : Nat} (h1 : Best S 0 0 m 0 (fun _ => True) f1 b1) (h2 : Best S 0 (s + 1) m 0 (fun _ => True) f2 b2) (hb : b1.testBit s = false) : b2 = b1 := by
  have c1 := b_true h1
  have h3 : Best S 0 (s + 1) m 0 (fun _ => True) true b1 := by
    rcases h1 with ⟨z, -⟩ | ⟨-, -, g3, g4⟩
    · rw [c1.1] at z; cases z
    · exact Or.inr ⟨rfl, trivial, ⟨g3.1, g3.2.1, fun t e => by rw [show t = s by omega]; exact hb, g3.2.2.2⟩, fun x _ hx => g4 x trivial ⟨hx.1, hx.2.1, fun t e => absurd e (by omega), hx.2.2.2⟩⟩
  exact (h3.one h2).2
theorem sub_self32 (x : Int32) : x - x = nI 0 := by
  rw [Int32.sub_self]; rfl
theorem wo_eq {a : AS} {S : TS} {m s : Nat} {f1 f2 : Bool} {b1 b2 : Nat} (h1 : Best S 0 0 m 0 (fun _ => True) f1 b1) (h2 : Best S 0 (s + 1) m 0 (fun _ => True) f2 b2) : (if b1.testBit s = true then rOk (nI (cov S b1) - nI (cov S b2)) a else rOk (nI 0) a) = rOk (nI (cov S b1) - nI (cov S b2)) a := by
  cases hb : b1.testBit s with
  | true => rw [if_pos rfl]
  | false => rw [if_neg (by decide), w_same h1 h2 hb, sub_self32]
theorem ok_X9_worth {G : Gx} {μ : Mu} (a : AS) (hRf : Rf μ a) (s : Nat) (hs : s < 2 ^ 32) (f1 : Bool) (b1 : Nat) (hB : Best a.S 0 0 a.S.B 0 (fun _ => True) f1 b1) (f2 : Bool) (b2 : Nat) (hB2 : Best a.S 0 (s + 1) a.S.B 0 (fun _ => True) f2 b2) : Runs 8 M_X9_worth [.ref (G.2.2 96), .int (nI s)] G μ (RP μ (sp_worth a s b1 b2)) := by
  refine Runs.go RX9 rfl (by decide) [(0, .ref (G.2.2 96)), (1, .int (nI s))] (Nat.le_of_ble_eq_true rfl) rfl (fun X hF => ?_)
  refine V.aload_n (pc := 0) 0 dX9_worth_0 rfl ?_
  refine V.iconst (pc := 1) (v := nI 0) dX9_worth_1 (by decide) ?_
  refine pf_X9_60 (pc := 2) dX9_worth_2 ?_
  obtain ⟨μ0, hμ0⟩ : ∃ m, m = si μ 96 0 (nI 0) := ⟨_, rfl⟩
  rw [← hμ0]
  have hR0 : Rf μ0 a := by rw [hμ0]; exact hRf.fld 0 _ (by decide)
  have hth : μ0.1 96 0 = nI 0 := by rw [hμ0, si_s]
  have hC0 : Fr μ μ0 RK := by rw [hμ0]; exact (Fr.refl μ RK).si _ _ (by unfold RK; decide)
  clear hμ0
  have hR := hR0.rw
  have hvs := hR.vs
  have hn16 := hvs.n16
  have hu48 := hvs.u48
  have hT2 := hvs.tk
  have hp16 := pow16 hvs
  have hB9 := hvs.B9
  have hp48 := pow48 hvs
  have hLL := hvs.le
  refine V.aload_n (pc := 5) 0 dX9_worth_5 rfl ?_
  refine V.aload_n (pc := 6) 0 dX9_worth_6 rfl ?_
  refine V.iload_n (pc := 7) 1 dX9_worth_7 rfl ?_
  refine cp_X9_183 (pc := 8) dX9_worth_8 (ok_X9_isSentence a.S hR s hs) (by omega) (Nat.le_of_ble_eq_true rfl) ?_
  refine V.ifB_ne (pc := 11) 18 dX9_worth_11 (by decide) (fun h_11 => ?_) (fun h_11 => ?_)
  · have hsn := of_decide_eq_true h_11
    refine V.iconst (pc := 18) (v := nI 0) dX9_worth_18 (by decide) ?_
    refine V.iconst (pc := 19) (v := nI 1) dX9_worth_19 (by decide) ?_
    refine V.iconst (pc := 20) (v := nI 0) dX9_worth_20 (by decide) ?_
    refine cp_X9_119 (pc := 21) dX9_worth_21 (ok_bad0 1 0 hth) (by omega) (Nat.le_of_ble_eq_true rfl) ?_
    refine V.ifN_eq (pc := 24) 29 dX9_worth_24 (by decide) (by decide) (fun h_24 => ?_) (fun h_ => absurd h_ (by decide))
    refine V.aload_n (pc := 29) 0 dX9_worth_29 rfl ?_
    have hb1c := (b_true hB).2
    have hb2c := (b_true hB2).2
    have hb1l := hb1c.1
    have hb2l := hb2c.1
    refine cl_X9_245 (pc := 30) dX9_worth_30 (ok_X9_laysSets a hR0) (by omega) (Nat.le_of_ble_eq_true rfl) (fun r_ μ_ h_ => ?_)
    obtain ⟨rfl, hRf1, hL, hth1, hfr1⟩ := h_
    have hth1 := hth1.trans hth
    have hC1 := hC0.trans hfr1 (fun _ z => z) (fun _ z => z)
    have hR1 := hRf1.rw
    have hR := hR1
    refine V.aload_n (pc := 33) 0 dX9_worth_33 rfl ?_
    refine gf_X9_20 (pc := 34) dX9_worth_34 ?_
    refine V.iconst (pc := 37) (v := nI 2) dX9_worth_37 (by decide) ?_
    refine V.lald (pc := 38) (k := 99) (n := 645) (v := lN a.S.B) (Nat.le_of_ble_eq_true rfl) (fun _ _ => rfl) 2 (by omega) (by decide) dX9_worth_38 hR.B ?_
    refine V.l2i (pc := 39) (v := nI a.S.B) dX9_worth_39 (lN_i _) ?_
    refine V.istore_n (pc := 40) (lv' := [(0, .ref (G.2.2 96)), (1, .int (nI s)), (2, .int (nI a.S.B))]) dX9_worth_40 (by decide) rfl ?_
    refine V.aload_n (pc := 41) 0 dX9_worth_41 rfl ?_
    refine gf_X9_46 (pc := 42) dX9_worth_42 ?_
    refine V.aload_n (pc := 45) 0 dX9_worth_45 rfl ?_
    refine V.iload_n (pc := 46) 2 dX9_worth_46 rfl ?_
    refine V.iconst (pc := 47) (v := (-1)) dX9_worth_47 (by decide) ?_
    refine cp_X9_248 (pc := 48) dX9_worth_48 (ok_X9_bestWithin a.S hR hL a.S.B 0 (by omega) (by omega) f1 b1 hB) (by omega) (Nat.le_of_ble_eq_true rfl) ?_
    refine V.iald (pc := 51) (k := 114) (n := 65536) (v := nI (cov a.S b1)) (Nat.le_of_ble_eq_true rfl) (fun _ _ => rfl) b1 (by omega) (by decide) dX9_worth_51 ((hL b1 (by omega)).1.trans (cv_t hb1c.2.1)) ?_
    refine V.aload_n (pc := 52) 0 dX9_worth_52 rfl ?_
    refine gf_X9_46 (pc := 53) dX9_worth_53 ?_
    refine V.aload_n (pc := 56) 0 dX9_worth_56 rfl ?_
    refine V.iload_n (pc := 57) 2 dX9_worth_57 rfl ?_
    refine V.iload_n (pc := 58) 1 dX9_worth_58 rfl ?_
    refine cp_X9_248 (pc := 59) dX9_worth_59 (ok_X9_bestWithin a.S hR hL a.S.B (s + 1) (by omega) (by omega) f2 b2 hB2) (by omega) (Nat.le_of_ble_eq_true rfl) ?_
    refine V.iald (pc := 62) (k := 114) (n := 65536) (v := nI (cov a.S b2)) (Nat.le_of_ble_eq_true rfl) (fun _ _ => rfl) b2 (by omega) (by decide) dX9_worth_62 ((hL b2 (by omega)).1.trans (cv_t hb2c.2.1)) ?_
    refine V.isub (pc := 63) (v := nI (cov a.S b1) - nI (cov a.S b2)) dX9_worth_63 rfl ?_
    exact V.iret (pc := 64) hF dX9_worth_64 (RP.mk ((if_pos hsn).trans (wo_eq hB hB2)) hRf1 hth1 hC1)
  · have hsn := of_decide_eq_false h_11
    refine V.iconst (pc := 14) (v := nI 1) dX9_worth_14 (by decide) ?_
    refine V.goto (pc := 15) 19 dX9_worth_15 (by decide) ?_
    refine V.iconst (pc := 19) (v := nI 1) dX9_worth_19 (by decide) ?_
    refine V.iconst (pc := 20) (v := nI 0) dX9_worth_20 (by decide) ?_
    refine cl_X9_119 (pc := 21) dX9_worth_21 (ok_bad1 1 0 hth (by decide) (by decide) (by decide)) (by omega) (Nat.le_of_ble_eq_true rfl) (fun r_ μ_ h_ => ?_)
    obtain ⟨rfl, rfl⟩ := h_
    refine V.ifN_eq (pc := 24) 29 dX9_worth_24 (by decide) (by decide) (fun h_ => absurd h_ (by decide)) (fun h_24 => ?_)
    refine V.iconst (pc := 27) (v := nI 0) dX9_worth_27 (by decide) ?_
    exact V.iret (pc := 28) hF dX9_worth_28 (RP.no (if_neg hsn) (by decide) hR0 (by decide) hC0)
theorem m1_le {x : Nat} (h : x < 2 ^ 31) : (-1 : Int32) ≤ nI x := by
  rw [Int32.le_iff_toInt_le, nI_toInt h]
  show (-1 : Int) ≤ x
  omega
theorem ok_X9_exchange {G : Gx} {μ : Mu} (a : AS) (hRf : Rf μ a) (x : Nat) (hx : x < 2 ^ 32) : Runs 8 M_X9_exchange [.ref (G.2.2 96), .int (nI x)] G μ (RP μ (sp_exchange a x)) := by
  refine Runs.go RX9 rfl (by decide) [(0, .ref (G.2.2 96)), (1, .int (nI x))] (Nat.le_of_ble_eq_true rfl) rfl (fun X hF => ?_)
  refine V.aload_n (pc := 0) 0 dX9_exchange_0 rfl ?_
  refine V.iconst (pc := 1) (v := nI 0) dX9_exchange_1 (by decide) ?_
  refine pf_X9_60 (pc := 2) dX9_exchange_2 ?_
  obtain ⟨μ0, hμ0⟩ : ∃ m, m = si μ 96 0 (nI 0) := ⟨_, rfl⟩
  rw [← hμ0]
  have hR0 : Rf μ0 a := by rw [hμ0]; exact hRf.fld 0 _ (by decide)
  have hth : μ0.1 96 0 = nI 0 := by rw [hμ0, si_s]
  have hC0 : Fr μ μ0 RK := by rw [hμ0]; exact (Fr.refl μ RK).si _ _ (by unfold RK; decide)
  clear hμ0
  have hR := hR0.rw
  have hvs := hR.vs
  have hn16 := hvs.n16
  have hu48 := hvs.u48
  have hT2 := hvs.tk
  have hp16 := pow16 hvs
  have hB9 := hvs.B9
  have hp48 := pow48 hvs
  have hLL := hvs.le
  refine V.aload_n (pc := 5) 0 dX9_exchange_5 rfl ?_
  refine V.iload_n (pc := 6) 1 dX9_exchange_6 rfl ?_
  refine V.iconst (pc := 7) (v := nI 0) dX9_exchange_7 (by decide) ?_
  refine V.iconst (pc := 8) (v := nI 2) dX9_exchange_8 (by decide) ?_
  refine cp_X9_116 (pc := 9) dX9_exchange_9 (ok_X9_in x 3 hx (by decide)) (by omega) (Nat.le_of_ble_eq_true rfl) ?_
  refine V.ifB_ne (pc := 12) 19 dX9_exchange_12 (by decide) (fun h_12 => ?_) (fun h_12 => ?_)
  · have hx1 := of_decide_eq_true h_12
    refine V.iconst (pc := 19) (v := nI 0) dX9_exchange_19 (by decide) ?_
    refine V.iconst (pc := 20) (v := nI 1) dX9_exchange_20 (by decide) ?_
    refine V.iconst (pc := 21) (v := nI 1) dX9_exchange_21 (by decide) ?_
    refine cp_X9_119 (pc := 22) dX9_exchange_22 (ok_bad0 1 1 hth) (by omega) (Nat.le_of_ble_eq_true rfl) ?_
    refine V.ifN_eq (pc := 25) 30 dX9_exchange_25 (by decide) (by decide) (fun h_25 => ?_) (fun h_ => absurd h_ (by decide))
    refine V.aload_n (pc := 30) 0 dX9_exchange_30 rfl ?_
    refine cl_X9_245 (pc := 31) dX9_exchange_31 (ok_X9_laysSets a hR0) (by omega) (Nat.le_of_ble_eq_true rfl) (fun r_ μ_ h_ => ?_)
    obtain ⟨rfl, hRf1, hL, hth1, hfr1⟩ := h_
    have hth1 := hth1.trans hth
    have hC1 := hC0.trans hfr1 (fun _ z => z) (fun _ z => z)
    have hR1 := hRf1.rw
    have hR := hR1
    refine V.iconst (pc := 34) (v := (-1)) dX9_exchange_34 (by decide) ?_
    refine V.istore_n (pc := 35) (lv' := [(0, .ref (G.2.2 96)), (1, .int (nI x)), (2, .int (-1))]) dX9_exchange_35 (by decide) rfl ?_
    refine V.iconst (pc := 36) (v := (-1)) dX9_exchange_36 (by decide) ?_
    refine V.istore_n (pc := 37) (lv' := [(0, .ref (G.2.2 96)), (1, .int (nI x)), (2, .int (-1)), (3, .int (-1))]) dX9_exchange_37 (by decide) rfl ?_
    refine V.aload_n (pc := 38) 0 dX9_exchange_38 rfl ?_
    refine V.aload_n (pc := 39) 0 dX9_exchange_39 rfl ?_
    refine cp_X9_186 (pc := 40) dX9_exchange_40 (ok_X9_takenNow a.S hR) (by omega) (Nat.le_of_ble_eq_true rfl) ?_
    refine cp_X9_196 (pc := 43) dX9_exchange_43 (ok_X9_covered a.S hR a.S.T (by omega)) (by omega) (Nat.le_of_ble_eq_true rfl) ?_
    refine V.istore (pc := 46) (lv' := [(0, .ref (G.2.2 96)), (1, .int (nI x)), (2, .int (-1)), (3, .int (-1)), (4, .int (nI (cov a.S a.S.T)))]) dX9_exchange_46 (by decide) rfl ?_
    refine V.iconst (pc := 48) (v := nI 0) dX9_exchange_48 (by decide) ?_
    refine V.istore (pc := 49) (lv' := [(0, .ref (G.2.2 96)), (1, .int (nI x)), (2, .int (-1)), (3, .int (-1)), (4, .int (nI (cov a.S a.S.T))), (5, .int (nI 0))]) dX9_exchange_49 (by decide) rfl ?_
    have L51 : ∀ (n_ : Nat) (i : Nat), (i ≤ a.S.n) → a.S.n - i < n_ → V G RX9 cX9_exchange 8 8 X 51 [(0, .ref (G.2.2 96)), (1, .int (nI x)), (2, .int (pv (swA a.S i).1)), (3, .int (pv (swA a.S i).2.1)), (4, .int (nI ((swA a.S i).2.2))), (5, .int (nI i))] [] μ_ := by
      intro n_
      induction n_ with
      | zero => intro i hi hm_; exact absurd hm_ (Nat.not_lt_zero _)
      | succ n_ ih51 =>
        intro i hi hm_
        have hxl := swA_le hvs i
        refine V.iload (pc := 51) 5 dX9_exchange_51 rfl ?_
        refine V.aload_n (pc := 53) 0 dX9_exchange_53 rfl ?_
        refine cp_X9_133 (pc := 54) dX9_exchange_54 (ok_X9_many a.S hR) (by omega) (Nat.le_of_ble_eq_true rfl) ?_
        refine V.icmpN_ge (pc := 57) 179 dX9_exchange_57 (by decide) (by omega) (by omega) (fun h_57 => ?_) (fun h_57 => ?_)
        · have hiE : a.S.n = i := by omega
          subst hiE
          have hsw := swA_lt a.S a.S.n
          refine V.iload_n (pc := 179) 2 dX9_exchange_179 rfl ?_
          refine V.iconst (pc := 180) (v := (-1)) dX9_exchange_180 (by decide) ?_
          refine V.icmp_ne (pc := 181) 188 dX9_exchange_181 (by decide) (fun h_181 => ?_) (fun h_181 => ?_)
          · have hne : ¬ (swA a.S a.S.n).1 = 0 := fun e => h_181 ((pv_ne (by omega)).mpr e)
            refine V.iload_n (pc := 188) 1 dX9_exchange_188 rfl ?_
            refine V.ifN_ne (pc := 189) 196 dX9_exchange_189 (by decide) (by omega) (fun h_189 => ?_) (fun h_189 => ?_)
            · refine V.iload_n (pc := 196) 1 dX9_exchange_196 rfl ?_
              refine V.iconst (pc := 197) (v := nI 1) dX9_exchange_197 (by decide) ?_
              refine V.icmpN_ne (pc := 198) 205 dX9_exchange_198 (by decide) (by omega) (by omega) (fun h_198 => ?_) (fun h_198 => ?_)
              · refine V.iload (pc := 205) 4 dX9_exchange_205 rfl ?_
                exact V.iret (pc := 207) hF dX9_exchange_207 (RP.mk ((if_pos (by omega)).trans (by rw [show x = 2 by omega]; exact congrArg (fun v => rOk v a) (if_neg hne))) hRf1 hth1 hC1)
              · refine V.iload_n (pc := 201) 3 dX9_exchange_201 rfl ?_
                refine V.goto (pc := 202) 207 dX9_exchange_202 (by decide) ?_
                exact V.iret (pc := 207) hF dX9_exchange_207 (RP.mk ((if_pos (by omega)).trans (by rw [show x = 1 by omega]; exact congrArg (fun v => rOk v a) (if_neg hne))) hRf1 hth1 hC1)
            · refine V.iload_n (pc := 192) 2 dX9_exchange_192 rfl ?_
              refine V.goto (pc := 193) 207 dX9_exchange_193 (by decide) ?_
              exact V.iret (pc := 207) hF dX9_exchange_207 (RP.mk ((if_pos (by omega)).trans (by rw [show x = 0 by omega]; exact congrArg (fun v => rOk v a) (if_neg hne))) hRf1 hth1 hC1)
          · have heq : (swA a.S a.S.n).1 = 0 := (pv_ne (by omega)).mp h_181
            refine V.iconst (pc := 184) (v := (-1)) dX9_exchange_184 (by decide) ?_
            refine V.goto (pc := 185) 207 dX9_exchange_185 (by decide) ?_
            exact V.iret (pc := 207) hF dX9_exchange_207 (RP.mk ((if_pos (by omega)).trans (congrArg (fun v => rOk v a) (if_pos heq))) hRf1 hth1 hC1)
        · refine V.iconst (pc := 60) (v := nI 0) dX9_exchange_60 (by decide) ?_
          refine V.istore (pc := 61) (lv' := [(0, .ref (G.2.2 96)), (1, .int (nI x)), (2, .int (pv (swA a.S i).1)), (3, .int (pv (swA a.S i).2.1)), (4, .int (nI ((swA a.S i).2.2))), (5, .int (nI i)), (6, .int (nI 0))]) dX9_exchange_61 (by decide) rfl ?_
          have L63 : ∀ (n_ : Nat) (j : Nat), (j ≤ a.S.n) → a.S.n - j < n_ → V G RX9 cX9_exchange 8 8 X 63 [(0, .ref (G.2.2 96)), (1, .int (nI x)), (2, .int (pv (swB a.S (swA a.S i) i j).1)), (3, .int (pv (swB a.S (swA a.S i) i j).2.1)), (4, .int (nI ((swB a.S (swA a.S i) i j).2.2))), (5, .int (nI i)), (6, .int (nI j))] [] μ_ := by
            intro n_
            induction n_ with
            | zero => intro j hj hm_; exact absurd hm_ (Nat.not_lt_zero _)
            | succ n_ ih63 =>
              intro j hj hm_
              have hxb := swB_le hvs hxl i j
              refine V.iload (pc := 63) 6 dX9_exchange_63 rfl ?_
              refine V.aload_n (pc := 65) 0 dX9_exchange_65 rfl ?_
              refine cp_X9_133 (pc := 66) dX9_exchange_66 (ok_X9_many a.S hR) (by omega) (Nat.le_of_ble_eq_true rfl) ?_
              refine V.icmpN_ge (pc := 69) 173 dX9_exchange_69 (by decide) (by omega) (by omega) (fun h_69 => ?_) (fun h_69 => ?_)
              · have hjE : j = a.S.n := by omega
                refine V.iinc (pc := 173) (v := nI (i + 1)) (lv' := [(0, .ref (G.2.2 96)), (1, .int (nI x)), (2, .int (pv (swB a.S (swA a.S i) i j).1)), (3, .int (pv (swB a.S (swA a.S i) i j).2.1)), (4, .int (nI ((swB a.S (swA a.S i) i j).2.2))), (5, .int (nI (i + 1))), (6, .int (nI j))]) 5 dX9_exchange_173 rfl (nn_inc _) (by decide) rfl ?_
                refine V.goto (pc := 176) 51 dX9_exchange_176 (by decide) ?_
                refine V.sub (lv' := [(0, .ref (G.2.2 96)), (1, .int (nI x)), (2, .int (pv (swB a.S (swA a.S i) i j).1)), (3, .int (pv (swB a.S (swA a.S i) i j).2.1)), (4, .int (nI ((swB a.S (swA a.S i) i j).2.2))), (5, .int (nI (i + 1)))]) [0, 1, 2, 3, 4, 5] rfl ?_
                have e_2 : pv (swB a.S (swA a.S i) i j).1 = pv (swA a.S (i + 1)).1 := by rw [hjE]; rfl
                have e_3 : pv (swB a.S (swA a.S i) i j).2.1 = pv (swA a.S (i + 1)).2.1 := by rw [hjE]; rfl
                have e_4 : nI ((swB a.S (swA a.S i) i j).2.2) = nI ((swA a.S (i + 1)).2.2) := by rw [hjE]; rfl
                refine V.lvs (lv' := [(0, .ref (G.2.2 96)), (1, .int (nI x)), (2, .int (pv (swA a.S (i + 1)).1)), (3, .int (pv (swB a.S (swA a.S i) i j).2.1)), (4, .int (nI ((swB a.S (swA a.S i) i j).2.2))), (5, .int (nI (i + 1)))]) (congrArg (fun z => ([(0, .ref (G.2.2 96)), (1, .int (nI x)), (2, .int z), (3, .int (pv (swB a.S (swA a.S i) i j).2.1)), (4, .int (nI ((swB a.S (swA a.S i) i j).2.2))), (5, .int (nI (i + 1)))] : List (Nat × Value))) e_2) ?_
                refine V.lvs (lv' := [(0, .ref (G.2.2 96)), (1, .int (nI x)), (2, .int (pv (swA a.S (i + 1)).1)), (3, .int (pv (swA a.S (i + 1)).2.1)), (4, .int (nI ((swB a.S (swA a.S i) i j).2.2))), (5, .int (nI (i + 1)))]) (congrArg (fun z => ([(0, .ref (G.2.2 96)), (1, .int (nI x)), (2, .int (pv (swA a.S (i + 1)).1)), (3, .int z), (4, .int (nI ((swB a.S (swA a.S i) i j).2.2))), (5, .int (nI (i + 1)))] : List (Nat × Value))) e_3) ?_
                refine V.lvs (lv' := [(0, .ref (G.2.2 96)), (1, .int (nI x)), (2, .int (pv (swA a.S (i + 1)).1)), (3, .int (pv (swA a.S (i + 1)).2.1)), (4, .int (nI ((swA a.S (i + 1)).2.2))), (5, .int (nI (i + 1)))]) (congrArg (fun z => ([(0, .ref (G.2.2 96)), (1, .int (nI x)), (2, .int (pv (swA a.S (i + 1)).1)), (3, .int (pv (swA a.S (i + 1)).2.1)), (4, .int z), (5, .int (nI (i + 1)))] : List (Nat × Value))) e_4) ?_
                exact ih51 (i + 1) (by omega) (by omega)
              · have hsl := swSet_lt (S := a.S) hvs (a := i) h_69
                have hcx : cov a.S (swSet a.S i j) ≤ 48000 := wOf_le hvs _
                have hlx := lenOf_le hvs (swSet a.S i j)
                have had := adn_le a.S.T (2 ^ i)
                refine V.aload_n (pc := 72) 0 dX9_exchange_72 rfl ?_
                refine cp_X9_186 (pc := 73) dX9_exchange_73 (ok_X9_takenNow a.S hR) (by omega) (Nat.le_of_ble_eq_true rfl) ?_
                refine V.i2l (pc := 76) (v := lN a.S.T) dX9_exchange_76 (nI_l (by omega)) ?_
                refine V.iload (pc := 77) 5 dX9_exchange_77 rfl ?_
                refine cp_X9_140 (pc := 79) dX9_exchange_79 (ok_X9_has a.S.T i (by omega) (by omega)) (by omega) (Nat.le_of_ble_eq_true rfl) ?_
                refine V.ifB_eq (pc := 82) 167 dX9_exchange_82 (by decide) (fun h_82 => ?_) (fun h_82 => ?_)
                · refine V.iinc (pc := 167) (v := nI (j + 1)) (lv' := [(0, .ref (G.2.2 96)), (1, .int (nI x)), (2, .int (pv (swB a.S (swA a.S i) i j).1)), (3, .int (pv (swB a.S (swA a.S i) i j).2.1)), (4, .int (nI ((swB a.S (swA a.S i) i j).2.2))), (5, .int (nI i)), (6, .int (nI (j + 1)))]) 6 dX9_exchange_167 rfl (nn_inc _) (by decide) rfl ?_
                  refine V.goto (pc := 170) 63 dX9_exchange_170 (by decide) ?_
                  have e_2 : pv (swB a.S (swA a.S i) i j).1 = pv (swB a.S (swA a.S i) i (j + 1)).1 := by rw [swB, (show swStep a.S (swB a.S (swA a.S i) i j) i j = _ from if_neg (fun z => by rw [h_82] at z; exact absurd z.1 (by decide)))]
                  have e_3 : pv (swB a.S (swA a.S i) i j).2.1 = pv (swB a.S (swA a.S i) i (j + 1)).2.1 := by rw [swB, (show swStep a.S (swB a.S (swA a.S i) i j) i j = _ from if_neg (fun z => by rw [h_82] at z; exact absurd z.1 (by decide)))]
                  have e_4 : nI ((swB a.S (swA a.S i) i j).2.2) = nI ((swB a.S (swA a.S i) i (j + 1)).2.2) := by rw [swB, (show swStep a.S (swB a.S (swA a.S i) i j) i j = _ from if_neg (fun z => by rw [h_82] at z; exact absurd z.1 (by decide)))]
                  refine V.lvs (lv' := [(0, .ref (G.2.2 96)), (1, .int (nI x)), (2, .int (pv (swB a.S (swA a.S i) i (j + 1)).1)), (3, .int (pv (swB a.S (swA a.S i) i j).2.1)), (4, .int (nI ((swB a.S (swA a.S i) i j).2.2))), (5, .int (nI i)), (6, .int (nI (j + 1)))]) (congrArg (fun z => ([(0, .ref (G.2.2 96)), (1, .int (nI x)), (2, .int z), (3, .int (pv (swB a.S (swA a.S i) i j).2.1)), (4, .int (nI ((swB a.S (swA a.S i) i j).2.2))), (5, .int (nI i)), (6, .int (nI (j + 1)))] : List (Nat × Value))) e_2) ?_
                  refine V.lvs (lv' := [(0, .ref (G.2.2 96)), (1, .int (nI x)), (2, .int (pv (swB a.S (swA a.S i) i (j + 1)).1)), (3, .int (pv (swB a.S (swA a.S i) i (j + 1)).2.1)), (4, .int (nI ((swB a.S (swA a.S i) i j).2.2))), (5, .int (nI i)), (6, .int (nI (j + 1)))]) (congrArg (fun z => ([(0, .ref (G.2.2 96)), (1, .int (nI x)), (2, .int (pv (swB a.S (swA a.S i) i (j + 1)).1)), (3, .int z), (4, .int (nI ((swB a.S (swA a.S i) i j).2.2))), (5, .int (nI i)), (6, .int (nI (j + 1)))] : List (Nat × Value))) e_3) ?_
                  refine V.lvs (lv' := [(0, .ref (G.2.2 96)), (1, .int (nI x)), (2, .int (pv (swB a.S (swA a.S i) i (j + 1)).1)), (3, .int (pv (swB a.S (swA a.S i) i (j + 1)).2.1)), (4, .int (nI ((swB a.S (swA a.S i) i (j + 1)).2.2))), (5, .int (nI i)), (6, .int (nI (j + 1)))]) (congrArg (fun z => ([(0, .ref (G.2.2 96)), (1, .int (nI x)), (2, .int (pv (swB a.S (swA a.S i) i (j + 1)).1)), (3, .int (pv (swB a.S (swA a.S i) i (j + 1)).2.1)), (4, .int z), (5, .int (nI i)), (6, .int (nI (j + 1)))] : List (Nat × Value))) e_4) ?_
                  exact ih63 (j + 1) (by omega) (by omega)
                · refine V.aload_n (pc := 85) 0 dX9_exchange_85 rfl ?_
                  refine cp_X9_186 (pc := 86) dX9_exchange_86 (ok_X9_takenNow a.S hR) (by omega) (Nat.le_of_ble_eq_true rfl) ?_
                  refine V.i2l (pc := 89) (v := lN a.S.T) dX9_exchange_89 (nI_l (by omega)) ?_
                  refine V.iload (pc := 90) 6 dX9_exchange_90 rfl ?_
                  refine cp_X9_140 (pc := 92) dX9_exchange_92 (ok_X9_has a.S.T j (by omega) (by omega)) (by omega) (Nat.le_of_ble_eq_true rfl) ?_
                  refine V.ifB_eq (pc := 95) 101 dX9_exchange_95 (by decide) (fun h_95 => ?_) (fun h_95 => ?_)
                  · refine V.aload_n (pc := 101) 0 dX9_exchange_101 rfl ?_
                    refine cp_X9_186 (pc := 102) dX9_exchange_102 (ok_X9_takenNow a.S hR) (by omega) (Nat.le_of_ble_eq_true rfl) ?_
                    refine V.iconst (pc := 105) (v := nI 1) dX9_exchange_105 (by decide) ?_
                    refine V.iload (pc := 106) 5 dX9_exchange_106 rfl ?_
                    refine V.ishl (pc := 108) (v := nI (2 ^ i)) dX9_exchange_108 (nn_shl1 (by omega)) ?_
                    refine V.iconst (pc := 109) (v := (-1)) dX9_exchange_109 (by decide) ?_
                    refine V.ixor (pc := 110) (v := nI (2 ^ i) ^^^ (-1)) dX9_exchange_110 rfl ?_
                    refine V.iand (pc := 111) (v := nI (adn a.S.T (2 ^ i))) dX9_exchange_111 (nn_adn _ _) ?_
                    refine V.iconst (pc := 112) (v := nI 1) dX9_exchange_112 (by decide) ?_
                    refine V.iload (pc := 113) 6 dX9_exchange_113 rfl ?_
                    refine V.ishl (pc := 115) (v := nI (2 ^ j)) dX9_exchange_115 (nn_shl1 (by omega)) ?_
                    refine V.ior (pc := 116) (v := nI (swSet a.S i j)) dX9_exchange_116 ((nn_or _ _).trans (congrArg nI rfl)) ?_
                    refine V.istore (pc := 117) (lv' := [(0, .ref (G.2.2 96)), (1, .int (nI x)), (2, .int (pv (swB a.S (swA a.S i) i j).1)), (3, .int (pv (swB a.S (swA a.S i) i j).2.1)), (4, .int (nI ((swB a.S (swA a.S i) i j).2.2))), (5, .int (nI i)), (6, .int (nI j)), (7, .int (nI (swSet a.S i j)))]) dX9_exchange_117 (by decide) rfl ?_
                    by_cases hw : whole a.S (swSet a.S i j) = true
                    · refine V.aload_n (pc := 119) 0 dX9_exchange_119 rfl ?_
                      refine gf_X9_46 (pc := 120) dX9_exchange_120 ?_
                      refine V.iload (pc := 123) 7 dX9_exchange_123 rfl ?_
                      refine V.iald (pc := 125) (k := 114) (n := 65536) (v := nI (cov a.S (swSet a.S i j))) (Nat.le_of_ble_eq_true rfl) (fun _ _ => rfl) (swSet a.S i j) (by omega) (by decide) dX9_exchange_125 ((hL (swSet a.S i j) (by omega)).1.trans (cv_t hw)) ?_
                      refine V.iload (pc := 126) 4 dX9_exchange_126 rfl ?_
                      refine V.icmpN_le (pc := 128) 167 dX9_exchange_128 (by decide) (by omega) (by omega) (fun h_128 => ?_) (fun h_128 => ?_)
                      · refine V.iinc (pc := 167) (v := nI (j + 1)) (lv' := [(0, .ref (G.2.2 96)), (1, .int (nI x)), (2, .int (pv (swB a.S (swA a.S i) i j).1)), (3, .int (pv (swB a.S (swA a.S i) i j).2.1)), (4, .int (nI ((swB a.S (swA a.S i) i j).2.2))), (5, .int (nI i)), (6, .int (nI (j + 1))), (7, .int (nI (swSet a.S i j)))]) 6 dX9_exchange_167 rfl (nn_inc _) (by decide) rfl ?_
                        refine V.goto (pc := 170) 63 dX9_exchange_170 (by decide) ?_
                        refine V.sub (lv' := [(0, .ref (G.2.2 96)), (1, .int (nI x)), (2, .int (pv (swB a.S (swA a.S i) i j).1)), (3, .int (pv (swB a.S (swA a.S i) i j).2.1)), (4, .int (nI ((swB a.S (swA a.S i) i j).2.2))), (5, .int (nI i)), (6, .int (nI (j + 1)))]) [0, 1, 2, 3, 4, 5, 6] rfl ?_
                        have e_2 : pv (swB a.S (swA a.S i) i j).1 = pv (swB a.S (swA a.S i) i (j + 1)).1 := by rw [swB, (show swStep a.S (swB a.S (swA a.S i) i j) i j = _ from if_neg (fun z => by have := z.2.2.1; omega))]
                        have e_3 : pv (swB a.S (swA a.S i) i j).2.1 = pv (swB a.S (swA a.S i) i (j + 1)).2.1 := by rw [swB, (show swStep a.S (swB a.S (swA a.S i) i j) i j = _ from if_neg (fun z => by have := z.2.2.1; omega))]
                        have e_4 : nI ((swB a.S (swA a.S i) i j).2.2) = nI ((swB a.S (swA a.S i) i (j + 1)).2.2) := by rw [swB, (show swStep a.S (swB a.S (swA a.S i) i j) i j = _ from if_neg (fun z => by have := z.2.2.1; omega))]
                        refine V.lvs (lv' := [(0, .ref (G.2.2 96)), (1, .int (nI x)), (2, .int (pv (swB a.S (swA a.S i) i (j + 1)).1)), (3, .int (pv (swB a.S (swA a.S i) i j).2.1)), (4, .int (nI ((swB a.S (swA a.S i) i j).2.2))), (5, .int (nI i)), (6, .int (nI (j + 1)))]) (congrArg (fun z => ([(0, .ref (G.2.2 96)), (1, .int (nI x)), (2, .int z), (3, .int (pv (swB a.S (swA a.S i) i j).2.1)), (4, .int (nI ((swB a.S (swA a.S i) i j).2.2))), (5, .int (nI i)), (6, .int (nI (j + 1)))] : List (Nat × Value))) e_2) ?_
                        refine V.lvs (lv' := [(0, .ref (G.2.2 96)), (1, .int (nI x)), (2, .int (pv (swB a.S (swA a.S i) i (j + 1)).1)), (3, .int (pv (swB a.S (swA a.S i) i (j + 1)).2.1)), (4, .int (nI ((swB a.S (swA a.S i) i j).2.2))), (5, .int (nI i)), (6, .int (nI (j + 1)))]) (congrArg (fun z => ([(0, .ref (G.2.2 96)), (1, .int (nI x)), (2, .int (pv (swB a.S (swA a.S i) i (j + 1)).1)), (3, .int z), (4, .int (nI ((swB a.S (swA a.S i) i j).2.2))), (5, .int (nI i)), (6, .int (nI (j + 1)))] : List (Nat × Value))) e_3) ?_
                        refine V.lvs (lv' := [(0, .ref (G.2.2 96)), (1, .int (nI x)), (2, .int (pv (swB a.S (swA a.S i) i (j + 1)).1)), (3, .int (pv (swB a.S (swA a.S i) i (j + 1)).2.1)), (4, .int (nI ((swB a.S (swA a.S i) i (j + 1)).2.2))), (5, .int (nI i)), (6, .int (nI (j + 1)))]) (congrArg (fun z => ([(0, .ref (G.2.2 96)), (1, .int (nI x)), (2, .int (pv (swB a.S (swA a.S i) i (j + 1)).1)), (3, .int (pv (swB a.S (swA a.S i) i (j + 1)).2.1)), (4, .int z), (5, .int (nI i)), (6, .int (nI (j + 1)))] : List (Nat × Value))) e_4) ?_
                        exact ih63 (j + 1) (by omega) (by omega)
                      · refine V.aload_n (pc := 131) 0 dX9_exchange_131 rfl ?_
                        refine gf_X9_49 (pc := 132) dX9_exchange_132 ?_
                        refine V.iload (pc := 135) 7 dX9_exchange_135 rfl ?_
                        refine V.iald (pc := 137) (k := 115) (n := 65536) (v := nI (lenOf a.S (swSet a.S i j))) (Nat.le_of_ble_eq_true rfl) (fun _ _ => rfl) (swSet a.S i j) (by omega) (by decide) dX9_exchange_137 (hL (swSet a.S i j) (by omega)).2 ?_
                        refine V.i2l (pc := 138) (v := lN (lenOf a.S (swSet a.S i j))) dX9_exchange_138 (nI_l (by omega)) ?_
                        refine V.aload_n (pc := 139) 0 dX9_exchange_139 rfl ?_
                        refine gf_X9_20 (pc := 140) dX9_exchange_140 ?_
                        refine V.iconst (pc := 143) (v := nI 2) dX9_exchange_143 (by decide) ?_
                        refine V.lald (pc := 144) (k := 99) (n := 645) (v := lN a.S.B) (Nat.le_of_ble_eq_true rfl) (fun _ _ => rfl) 2 (by omega) (by decide) dX9_exchange_144 hR.B ?_
                        refine V.lcmpN_le (pc := 145) 152 dX9_exchange_145 dX9_exchange_146 (by decide) (by omega) (by omega) (fun h_145 => ?_) (fun h_145 => ?_)
                        · refine V.aload_n (pc := 152) 0 dX9_exchange_152 rfl ?_
                          refine gf_X9_46 (pc := 153) dX9_exchange_153 ?_
                          refine V.iload (pc := 156) 7 dX9_exchange_156 rfl ?_
                          refine V.iald (pc := 158) (k := 114) (n := 65536) (v := nI (cov a.S (swSet a.S i j))) (Nat.le_of_ble_eq_true rfl) (fun _ _ => rfl) (swSet a.S i j) (by omega) (by decide) dX9_exchange_158 ((hL (swSet a.S i j) (by omega)).1.trans (cv_t hw)) ?_
                          refine V.istore (pc := 159) (lv' := [(0, .ref (G.2.2 96)), (1, .int (nI x)), (2, .int (pv (swB a.S (swA a.S i) i j).1)), (3, .int (pv (swB a.S (swA a.S i) i j).2.1)), (4, .int (nI (cov a.S (swSet a.S i j)))), (5, .int (nI i)), (6, .int (nI j)), (7, .int (nI (swSet a.S i j)))]) dX9_exchange_159 (by decide) rfl ?_
                          refine V.iload (pc := 161) 5 dX9_exchange_161 rfl ?_
                          refine V.istore_n (pc := 163) (lv' := [(0, .ref (G.2.2 96)), (1, .int (nI x)), (2, .int (nI i)), (3, .int (pv (swB a.S (swA a.S i) i j).2.1)), (4, .int (nI (cov a.S (swSet a.S i j)))), (5, .int (nI i)), (6, .int (nI j)), (7, .int (nI (swSet a.S i j)))]) dX9_exchange_163 (by decide) rfl ?_
                          refine V.iload (pc := 164) 6 dX9_exchange_164 rfl ?_
                          refine V.istore_n (pc := 166) (lv' := [(0, .ref (G.2.2 96)), (1, .int (nI x)), (2, .int (nI i)), (3, .int (nI j)), (4, .int (nI (cov a.S (swSet a.S i j)))), (5, .int (nI i)), (6, .int (nI j)), (7, .int (nI (swSet a.S i j)))]) dX9_exchange_166 (by decide) rfl ?_
                          refine V.iinc (pc := 167) (v := nI (j + 1)) (lv' := [(0, .ref (G.2.2 96)), (1, .int (nI x)), (2, .int (nI i)), (3, .int (nI j)), (4, .int (nI (cov a.S (swSet a.S i j)))), (5, .int (nI i)), (6, .int (nI (j + 1))), (7, .int (nI (swSet a.S i j)))]) 6 dX9_exchange_167 rfl (nn_inc _) (by decide) rfl ?_
                          refine V.goto (pc := 170) 63 dX9_exchange_170 (by decide) ?_
                          refine V.sub (lv' := [(0, .ref (G.2.2 96)), (1, .int (nI x)), (2, .int (nI i)), (3, .int (nI j)), (4, .int (nI (cov a.S (swSet a.S i j)))), (5, .int (nI i)), (6, .int (nI (j + 1)))]) [0, 1, 2, 3, 4, 5, 6] rfl ?_
                          have e_2 : nI i = pv (swB a.S (swA a.S i) i (j + 1)).1 := by rw [swB, (show swStep a.S (swB a.S (swA a.S i) i j) i j = _ from if_pos ⟨h_82, h_95, by omega, by omega, hw⟩)]; rfl
                          have e_3 : nI j = pv (swB a.S (swA a.S i) i (j + 1)).2.1 := by rw [swB, (show swStep a.S (swB a.S (swA a.S i) i j) i j = _ from if_pos ⟨h_82, h_95, by omega, by omega, hw⟩)]; rfl
                          have e_4 : nI (cov a.S (swSet a.S i j)) = nI ((swB a.S (swA a.S i) i (j + 1)).2.2) := by rw [swB, (show swStep a.S (swB a.S (swA a.S i) i j) i j = _ from if_pos ⟨h_82, h_95, by omega, by omega, hw⟩)]
                          refine V.lvs (lv' := [(0, .ref (G.2.2 96)), (1, .int (nI x)), (2, .int (pv (swB a.S (swA a.S i) i (j + 1)).1)), (3, .int (nI j)), (4, .int (nI (cov a.S (swSet a.S i j)))), (5, .int (nI i)), (6, .int (nI (j + 1)))]) (congrArg (fun z => ([(0, .ref (G.2.2 96)), (1, .int (nI x)), (2, .int z), (3, .int (nI j)), (4, .int (nI (cov a.S (swSet a.S i j)))), (5, .int (nI i)), (6, .int (nI (j + 1)))] : List (Nat × Value))) e_2) ?_
                          refine V.lvs (lv' := [(0, .ref (G.2.2 96)), (1, .int (nI x)), (2, .int (pv (swB a.S (swA a.S i) i (j + 1)).1)), (3, .int (pv (swB a.S (swA a.S i) i (j + 1)).2.1)), (4, .int (nI (cov a.S (swSet a.S i j)))), (5, .int (nI i)), (6, .int (nI (j + 1)))]) (congrArg (fun z => ([(0, .ref (G.2.2 96)), (1, .int (nI x)), (2, .int (pv (swB a.S (swA a.S i) i (j + 1)).1)), (3, .int z), (4, .int (nI (cov a.S (swSet a.S i j)))), (5, .int (nI i)), (6, .int (nI (j + 1)))] : List (Nat × Value))) e_3) ?_
                          refine V.lvs (lv' := [(0, .ref (G.2.2 96)), (1, .int (nI x)), (2, .int (pv (swB a.S (swA a.S i) i (j + 1)).1)), (3, .int (pv (swB a.S (swA a.S i) i (j + 1)).2.1)), (4, .int (nI ((swB a.S (swA a.S i) i (j + 1)).2.2))), (5, .int (nI i)), (6, .int (nI (j + 1)))]) (congrArg (fun z => ([(0, .ref (G.2.2 96)), (1, .int (nI x)), (2, .int (pv (swB a.S (swA a.S i) i (j + 1)).1)), (3, .int (pv (swB a.S (swA a.S i) i (j + 1)).2.1)), (4, .int z), (5, .int (nI i)), (6, .int (nI (j + 1)))] : List (Nat × Value))) e_4) ?_
                          exact ih63 (j + 1) (by omega) (by omega)
                        · refine V.goto (pc := 149) 167 dX9_exchange_149 (by decide) ?_
                          refine V.iinc (pc := 167) (v := nI (j + 1)) (lv' := [(0, .ref (G.2.2 96)), (1, .int (nI x)), (2, .int (pv (swB a.S (swA a.S i) i j).1)), (3, .int (pv (swB a.S (swA a.S i) i j).2.1)), (4, .int (nI ((swB a.S (swA a.S i) i j).2.2))), (5, .int (nI i)), (6, .int (nI (j + 1))), (7, .int (nI (swSet a.S i j)))]) 6 dX9_exchange_167 rfl (nn_inc _) (by decide) rfl ?_
                          refine V.goto (pc := 170) 63 dX9_exchange_170 (by decide) ?_
                          refine V.sub (lv' := [(0, .ref (G.2.2 96)), (1, .int (nI x)), (2, .int (pv (swB a.S (swA a.S i) i j).1)), (3, .int (pv (swB a.S (swA a.S i) i j).2.1)), (4, .int (nI ((swB a.S (swA a.S i) i j).2.2))), (5, .int (nI i)), (6, .int (nI (j + 1)))]) [0, 1, 2, 3, 4, 5, 6] rfl ?_
                          have e_2 : pv (swB a.S (swA a.S i) i j).1 = pv (swB a.S (swA a.S i) i (j + 1)).1 := by rw [swB, (show swStep a.S (swB a.S (swA a.S i) i j) i j = _ from if_neg (fun z => by have := z.2.2.2.1; omega))]
                          have e_3 : pv (swB a.S (swA a.S i) i j).2.1 = pv (swB a.S (swA a.S i) i (j + 1)).2.1 := by rw [swB, (show swStep a.S (swB a.S (swA a.S i) i j) i j = _ from if_neg (fun z => by have := z.2.2.2.1; omega))]
                          have e_4 : nI ((swB a.S (swA a.S i) i j).2.2) = nI ((swB a.S (swA a.S i) i (j + 1)).2.2) := by rw [swB, (show swStep a.S (swB a.S (swA a.S i) i j) i j = _ from if_neg (fun z => by have := z.2.2.2.1; omega))]
                          refine V.lvs (lv' := [(0, .ref (G.2.2 96)), (1, .int (nI x)), (2, .int (pv (swB a.S (swA a.S i) i (j + 1)).1)), (3, .int (pv (swB a.S (swA a.S i) i j).2.1)), (4, .int (nI ((swB a.S (swA a.S i) i j).2.2))), (5, .int (nI i)), (6, .int (nI (j + 1)))]) (congrArg (fun z => ([(0, .ref (G.2.2 96)), (1, .int (nI x)), (2, .int z), (3, .int (pv (swB a.S (swA a.S i) i j).2.1)), (4, .int (nI ((swB a.S (swA a.S i) i j).2.2))), (5, .int (nI i)), (6, .int (nI (j + 1)))] : List (Nat × Value))) e_2) ?_
                          refine V.lvs (lv' := [(0, .ref (G.2.2 96)), (1, .int (nI x)), (2, .int (pv (swB a.S (swA a.S i) i (j + 1)).1)), (3, .int (pv (swB a.S (swA a.S i) i (j + 1)).2.1)), (4, .int (nI ((swB a.S (swA a.S i) i j).2.2))), (5, .int (nI i)), (6, .int (nI (j + 1)))]) (congrArg (fun z => ([(0, .ref (G.2.2 96)), (1, .int (nI x)), (2, .int (pv (swB a.S (swA a.S i) i (j + 1)).1)), (3, .int z), (4, .int (nI ((swB a.S (swA a.S i) i j).2.2))), (5, .int (nI i)), (6, .int (nI (j + 1)))] : List (Nat × Value))) e_3) ?_
                          refine V.lvs (lv' := [(0, .ref (G.2.2 96)), (1, .int (nI x)), (2, .int (pv (swB a.S (swA a.S i) i (j + 1)).1)), (3, .int (pv (swB a.S (swA a.S i) i (j + 1)).2.1)), (4, .int (nI ((swB a.S (swA a.S i) i (j + 1)).2.2))), (5, .int (nI i)), (6, .int (nI (j + 1)))]) (congrArg (fun z => ([(0, .ref (G.2.2 96)), (1, .int (nI x)), (2, .int (pv (swB a.S (swA a.S i) i (j + 1)).1)), (3, .int (pv (swB a.S (swA a.S i) i (j + 1)).2.1)), (4, .int z), (5, .int (nI i)), (6, .int (nI (j + 1)))] : List (Nat × Value))) e_4) ?_
                          exact ih63 (j + 1) (by omega) (by omega)
                    · refine V.aload_n (pc := 119) 0 dX9_exchange_119 rfl ?_
                      refine gf_X9_46 (pc := 120) dX9_exchange_120 ?_
                      refine V.iload (pc := 123) 7 dX9_exchange_123 rfl ?_
                      refine V.iald (pc := 125) (k := 114) (n := 65536) (v := (-1)) (Nat.le_of_ble_eq_true rfl) (fun _ _ => rfl) (swSet a.S i j) (by omega) (by decide) dX9_exchange_125 ((hL (swSet a.S i j) (by omega)).1.trans (cv_f hw)) ?_
                      refine V.iload (pc := 126) 4 dX9_exchange_126 rfl ?_
                      refine V.icmp_le (pc := 128) 167 dX9_exchange_128 (by decide) (fun h_128 => ?_) (fun h_128 => ?_)
                      · refine V.iinc (pc := 167) (v := nI (j + 1)) (lv' := [(0, .ref (G.2.2 96)), (1, .int (nI x)), (2, .int (pv (swB a.S (swA a.S i) i j).1)), (3, .int (pv (swB a.S (swA a.S i) i j).2.1)), (4, .int (nI ((swB a.S (swA a.S i) i j).2.2))), (5, .int (nI i)), (6, .int (nI (j + 1))), (7, .int (nI (swSet a.S i j)))]) 6 dX9_exchange_167 rfl (nn_inc _) (by decide) rfl ?_
                        refine V.goto (pc := 170) 63 dX9_exchange_170 (by decide) ?_
                        refine V.sub (lv' := [(0, .ref (G.2.2 96)), (1, .int (nI x)), (2, .int (pv (swB a.S (swA a.S i) i j).1)), (3, .int (pv (swB a.S (swA a.S i) i j).2.1)), (4, .int (nI ((swB a.S (swA a.S i) i j).2.2))), (5, .int (nI i)), (6, .int (nI (j + 1)))]) [0, 1, 2, 3, 4, 5, 6] rfl ?_
                        have e_2 : pv (swB a.S (swA a.S i) i j).1 = pv (swB a.S (swA a.S i) i (j + 1)).1 := by rw [swB, (show swStep a.S (swB a.S (swA a.S i) i j) i j = _ from if_neg (fun z => hw z.2.2.2.2))]
                        have e_3 : pv (swB a.S (swA a.S i) i j).2.1 = pv (swB a.S (swA a.S i) i (j + 1)).2.1 := by rw [swB, (show swStep a.S (swB a.S (swA a.S i) i j) i j = _ from if_neg (fun z => hw z.2.2.2.2))]
                        have e_4 : nI ((swB a.S (swA a.S i) i j).2.2) = nI ((swB a.S (swA a.S i) i (j + 1)).2.2) := by rw [swB, (show swStep a.S (swB a.S (swA a.S i) i j) i j = _ from if_neg (fun z => hw z.2.2.2.2))]
                        refine V.lvs (lv' := [(0, .ref (G.2.2 96)), (1, .int (nI x)), (2, .int (pv (swB a.S (swA a.S i) i (j + 1)).1)), (3, .int (pv (swB a.S (swA a.S i) i j).2.1)), (4, .int (nI ((swB a.S (swA a.S i) i j).2.2))), (5, .int (nI i)), (6, .int (nI (j + 1)))]) (congrArg (fun z => ([(0, .ref (G.2.2 96)), (1, .int (nI x)), (2, .int z), (3, .int (pv (swB a.S (swA a.S i) i j).2.1)), (4, .int (nI ((swB a.S (swA a.S i) i j).2.2))), (5, .int (nI i)), (6, .int (nI (j + 1)))] : List (Nat × Value))) e_2) ?_
                        refine V.lvs (lv' := [(0, .ref (G.2.2 96)), (1, .int (nI x)), (2, .int (pv (swB a.S (swA a.S i) i (j + 1)).1)), (3, .int (pv (swB a.S (swA a.S i) i (j + 1)).2.1)), (4, .int (nI ((swB a.S (swA a.S i) i j).2.2))), (5, .int (nI i)), (6, .int (nI (j + 1)))]) (congrArg (fun z => ([(0, .ref (G.2.2 96)), (1, .int (nI x)), (2, .int (pv (swB a.S (swA a.S i) i (j + 1)).1)), (3, .int z), (4, .int (nI ((swB a.S (swA a.S i) i j).2.2))), (5, .int (nI i)), (6, .int (nI (j + 1)))] : List (Nat × Value))) e_3) ?_
                        refine V.lvs (lv' := [(0, .ref (G.2.2 96)), (1, .int (nI x)), (2, .int (pv (swB a.S (swA a.S i) i (j + 1)).1)), (3, .int (pv (swB a.S (swA a.S i) i (j + 1)).2.1)), (4, .int (nI ((swB a.S (swA a.S i) i (j + 1)).2.2))), (5, .int (nI i)), (6, .int (nI (j + 1)))]) (congrArg (fun z => ([(0, .ref (G.2.2 96)), (1, .int (nI x)), (2, .int (pv (swB a.S (swA a.S i) i (j + 1)).1)), (3, .int (pv (swB a.S (swA a.S i) i (j + 1)).2.1)), (4, .int z), (5, .int (nI i)), (6, .int (nI (j + 1)))] : List (Nat × Value))) e_4) ?_
                        exact ih63 (j + 1) (by omega) (by omega)
                      · exact absurd (m1_le (by omega)) h_128
                  · refine V.goto (pc := 98) 167 dX9_exchange_98 (by decide) ?_
                    refine V.iinc (pc := 167) (v := nI (j + 1)) (lv' := [(0, .ref (G.2.2 96)), (1, .int (nI x)), (2, .int (pv (swB a.S (swA a.S i) i j).1)), (3, .int (pv (swB a.S (swA a.S i) i j).2.1)), (4, .int (nI ((swB a.S (swA a.S i) i j).2.2))), (5, .int (nI i)), (6, .int (nI (j + 1)))]) 6 dX9_exchange_167 rfl (nn_inc _) (by decide) rfl ?_
                    refine V.goto (pc := 170) 63 dX9_exchange_170 (by decide) ?_
                    have e_2 : pv (swB a.S (swA a.S i) i j).1 = pv (swB a.S (swA a.S i) i (j + 1)).1 := by rw [swB, (show swStep a.S (swB a.S (swA a.S i) i j) i j = _ from if_neg (fun z => by rw [h_95] at z; exact absurd z.2.1 (by decide)))]
                    have e_3 : pv (swB a.S (swA a.S i) i j).2.1 = pv (swB a.S (swA a.S i) i (j + 1)).2.1 := by rw [swB, (show swStep a.S (swB a.S (swA a.S i) i j) i j = _ from if_neg (fun z => by rw [h_95] at z; exact absurd z.2.1 (by decide)))]
                    have e_4 : nI ((swB a.S (swA a.S i) i j).2.2) = nI ((swB a.S (swA a.S i) i (j + 1)).2.2) := by rw [swB, (show swStep a.S (swB a.S (swA a.S i) i j) i j = _ from if_neg (fun z => by rw [h_95] at z; exact absurd z.2.1 (by decide)))]
                    refine V.lvs (lv' := [(0, .ref (G.2.2 96)), (1, .int (nI x)), (2, .int (pv (swB a.S (swA a.S i) i (j + 1)).1)), (3, .int (pv (swB a.S (swA a.S i) i j).2.1)), (4, .int (nI ((swB a.S (swA a.S i) i j).2.2))), (5, .int (nI i)), (6, .int (nI (j + 1)))]) (congrArg (fun z => ([(0, .ref (G.2.2 96)), (1, .int (nI x)), (2, .int z), (3, .int (pv (swB a.S (swA a.S i) i j).2.1)), (4, .int (nI ((swB a.S (swA a.S i) i j).2.2))), (5, .int (nI i)), (6, .int (nI (j + 1)))] : List (Nat × Value))) e_2) ?_
                    refine V.lvs (lv' := [(0, .ref (G.2.2 96)), (1, .int (nI x)), (2, .int (pv (swB a.S (swA a.S i) i (j + 1)).1)), (3, .int (pv (swB a.S (swA a.S i) i (j + 1)).2.1)), (4, .int (nI ((swB a.S (swA a.S i) i j).2.2))), (5, .int (nI i)), (6, .int (nI (j + 1)))]) (congrArg (fun z => ([(0, .ref (G.2.2 96)), (1, .int (nI x)), (2, .int (pv (swB a.S (swA a.S i) i (j + 1)).1)), (3, .int z), (4, .int (nI ((swB a.S (swA a.S i) i j).2.2))), (5, .int (nI i)), (6, .int (nI (j + 1)))] : List (Nat × Value))) e_3) ?_
                    refine V.lvs (lv' := [(0, .ref (G.2.2 96)), (1, .int (nI x)), (2, .int (pv (swB a.S (swA a.S i) i (j + 1)).1)), (3, .int (pv (swB a.S (swA a.S i) i (j + 1)).2.1)), (4, .int (nI ((swB a.S (swA a.S i) i (j + 1)).2.2))), (5, .int (nI i)), (6, .int (nI (j + 1)))]) (congrArg (fun z => ([(0, .ref (G.2.2 96)), (1, .int (nI x)), (2, .int (pv (swB a.S (swA a.S i) i (j + 1)).1)), (3, .int (pv (swB a.S (swA a.S i) i (j + 1)).2.1)), (4, .int z), (5, .int (nI i)), (6, .int (nI (j + 1)))] : List (Nat × Value))) e_4) ?_
                    exact ih63 (j + 1) (by omega) (by omega)
          have e_2 : pv (swA a.S i).1 = pv (swB a.S (swA a.S i) i 0).1 := rfl
          have e_3 : pv (swA a.S i).2.1 = pv (swB a.S (swA a.S i) i 0).2.1 := rfl
          have e_4 : nI ((swA a.S i).2.2) = nI ((swB a.S (swA a.S i) i 0).2.2) := rfl
          refine V.lvs (lv' := [(0, .ref (G.2.2 96)), (1, .int (nI x)), (2, .int (pv (swB a.S (swA a.S i) i 0).1)), (3, .int (pv (swA a.S i).2.1)), (4, .int (nI ((swA a.S i).2.2))), (5, .int (nI i)), (6, .int (nI 0))]) (congrArg (fun z => ([(0, .ref (G.2.2 96)), (1, .int (nI x)), (2, .int z), (3, .int (pv (swA a.S i).2.1)), (4, .int (nI ((swA a.S i).2.2))), (5, .int (nI i)), (6, .int (nI 0))] : List (Nat × Value))) e_2) ?_
          refine V.lvs (lv' := [(0, .ref (G.2.2 96)), (1, .int (nI x)), (2, .int (pv (swB a.S (swA a.S i) i 0).1)), (3, .int (pv (swB a.S (swA a.S i) i 0).2.1)), (4, .int (nI ((swA a.S i).2.2))), (5, .int (nI i)), (6, .int (nI 0))]) (congrArg (fun z => ([(0, .ref (G.2.2 96)), (1, .int (nI x)), (2, .int (pv (swB a.S (swA a.S i) i 0).1)), (3, .int z), (4, .int (nI ((swA a.S i).2.2))), (5, .int (nI i)), (6, .int (nI 0))] : List (Nat × Value))) e_3) ?_
          refine V.lvs (lv' := [(0, .ref (G.2.2 96)), (1, .int (nI x)), (2, .int (pv (swB a.S (swA a.S i) i 0).1)), (3, .int (pv (swB a.S (swA a.S i) i 0).2.1)), (4, .int (nI ((swB a.S (swA a.S i) i 0).2.2))), (5, .int (nI i)), (6, .int (nI 0))]) (congrArg (fun z => ([(0, .ref (G.2.2 96)), (1, .int (nI x)), (2, .int (pv (swB a.S (swA a.S i) i 0).1)), (3, .int (pv (swB a.S (swA a.S i) i 0).2.1)), (4, .int z), (5, .int (nI i)), (6, .int (nI 0))] : List (Nat × Value))) e_4) ?_
          exact L63 _ 0 (by omega) (Nat.lt_succ_self _)
    have e_2 : (-1) = pv (swA a.S 0).1 := rfl
    have e_3 : (-1) = pv (swA a.S 0).2.1 := rfl
    have e_4 : nI (cov a.S a.S.T) = nI ((swA a.S 0).2.2) := rfl
    refine V.lvs (lv' := [(0, .ref (G.2.2 96)), (1, .int (nI x)), (2, .int (pv (swA a.S 0).1)), (3, .int (-1)), (4, .int (nI (cov a.S a.S.T))), (5, .int (nI 0))]) (congrArg (fun z => ([(0, .ref (G.2.2 96)), (1, .int (nI x)), (2, .int z), (3, .int (-1)), (4, .int (nI (cov a.S a.S.T))), (5, .int (nI 0))] : List (Nat × Value))) e_2) ?_
    refine V.lvs (lv' := [(0, .ref (G.2.2 96)), (1, .int (nI x)), (2, .int (pv (swA a.S 0).1)), (3, .int (pv (swA a.S 0).2.1)), (4, .int (nI (cov a.S a.S.T))), (5, .int (nI 0))]) (congrArg (fun z => ([(0, .ref (G.2.2 96)), (1, .int (nI x)), (2, .int (pv (swA a.S 0).1)), (3, .int z), (4, .int (nI (cov a.S a.S.T))), (5, .int (nI 0))] : List (Nat × Value))) e_3) ?_
    refine V.lvs (lv' := [(0, .ref (G.2.2 96)), (1, .int (nI x)), (2, .int (pv (swA a.S 0).1)), (3, .int (pv (swA a.S 0).2.1)), (4, .int (nI ((swA a.S 0).2.2))), (5, .int (nI 0))]) (congrArg (fun z => ([(0, .ref (G.2.2 96)), (1, .int (nI x)), (2, .int (pv (swA a.S 0).1)), (3, .int (pv (swA a.S 0).2.1)), (4, .int z), (5, .int (nI 0))] : List (Nat × Value))) e_4) ?_
    exact L51 _ 0 (by omega) (Nat.lt_succ_self _)
  · have hx1 := of_decide_eq_false h_12
    refine V.iconst (pc := 15) (v := nI 1) dX9_exchange_15 (by decide) ?_
    refine V.goto (pc := 16) 20 dX9_exchange_16 (by decide) ?_
    refine V.iconst (pc := 20) (v := nI 1) dX9_exchange_20 (by decide) ?_
    refine V.iconst (pc := 21) (v := nI 1) dX9_exchange_21 (by decide) ?_
    refine cl_X9_119 (pc := 22) dX9_exchange_22 (ok_bad1 1 1 hth (by decide) (by decide) (by decide)) (by omega) (Nat.le_of_ble_eq_true rfl) (fun r_ μ_ h_ => ?_)
    obtain ⟨rfl, rfl⟩ := h_
    refine V.ifN_eq (pc := 25) 30 dX9_exchange_25 (by decide) (by decide) (fun h_ => absurd h_ (by decide)) (fun h_25 => ?_)
    refine V.iconst (pc := 28) (v := nI 0) dX9_exchange_28 (by decide) ?_
    exact V.iret (pc := 29) hF dX9_exchange_29 (RP.no (if_neg (by omega)) (by decide) hR0 (by decide) hC0)
def nxV (S : TS) (f : Bool) (b : Nat) : Nat := if f = true then lenOf S b + 1 else 0
theorem nxV_0 {S : TS} {f : Bool} {b : Nat} (h : nxV S f b = 0) : f = false := by
  cases f with
  | false => rfl
  | true => exact absurd h (by show ¬ lenOf S b + 1 = 0; omega)
theorem nxV_1 {S : TS} {f : Bool} {b : Nat} (h : nxV S f b ≠ 0) : f = true := by
  cases f with
  | false => exact absurd rfl h
  | true => rfl
theorem nx_keep {S : TS} (hv : VS S) {br mL lC x b : Nat} (h : Best S 2 br mL lC (fun y => y < x) true b) (hc : Cand S br mL lC x) (hl : ¬ lenOf S x < lenOf S b) : ∃ b', Best S 2 br mL lC (fun y => y < x + 1) true b' ∧ lenOf S b' = lenOf S b := by
  rcases Bt.tri S 2 x b with e | e | e
  · refine ⟨x, B_take h hc (fun _ => e), ?_⟩
    have e2 : lenOf S x < lenOf S b ∨ (lenOf S x = lenOf S b ∧ _) := e
    omega
  · have := (B_cand h).1
    omega
  · exact ⟨b, B_stay h rfl e, rfl⟩
theorem ok_X9_next {G : Gx} {μ : Mu} (a : AS) (hRf : Rf μ a) (m : Nat) (hm : m < 2 ^ 32) (f1 : Bool) (b1 : Nat) (hB : Best a.S 0 0 m 0 (fun _ => True) f1 b1) (f2 : Bool) (b2 : Nat) (hB2 : Best a.S 2 0 2147483647 (cov a.S b1 + 1) (fun _ => True) f2 b2) : Runs 8 M_X9_next [.ref (G.2.2 96), .int (nI m)] G μ (RP μ (sp_next a m f2 b2)) := by
  refine Runs.go RX9 rfl (by decide) [(0, .ref (G.2.2 96)), (1, .int (nI m))] (Nat.le_of_ble_eq_true rfl) rfl (fun X hF => ?_)
  refine V.aload_n (pc := 0) 0 dX9_next_0 rfl ?_
  refine V.iconst (pc := 1) (v := nI 0) dX9_next_1 (by decide) ?_
  refine pf_X9_60 (pc := 2) dX9_next_2 ?_
  obtain ⟨μ0, hμ0⟩ : ∃ m, m = si μ 96 0 (nI 0) := ⟨_, rfl⟩
  rw [← hμ0]
  have hR0 : Rf μ0 a := by rw [hμ0]; exact hRf.fld 0 _ (by decide)
  have hth : μ0.1 96 0 = nI 0 := by rw [hμ0, si_s]
  have hC0 : Fr μ μ0 RK := by rw [hμ0]; exact (Fr.refl μ RK).si _ _ (by unfold RK; decide)
  clear hμ0
  have hR := hR0.rw
  have hvs := hR.vs
  have hn16 := hvs.n16
  have hu48 := hvs.u48
  have hT2 := hvs.tk
  have hp16 := pow16 hvs
  have hB9 := hvs.B9
  have hp48 := pow48 hvs
  have hLL := hvs.le
  refine V.aload_n (pc := 5) 0 dX9_next_5 rfl ?_
  refine V.iload_n (pc := 6) 1 dX9_next_6 rfl ?_
  refine V.iconst (pc := 7) (v := nI 0) dX9_next_7 (by decide) ?_
  refine V.sipush (pc := 8) (v := nI 9999) dX9_next_8 (by decide) ?_
  refine cp_X9_116 (pc := 11) dX9_next_11 (ok_X9_in m 10000 hm (by decide)) (by omega) (Nat.le_of_ble_eq_true rfl) ?_
  refine V.ifB_ne (pc := 14) 21 dX9_next_14 (by decide) (fun h_14 => ?_) (fun h_14 => ?_)
  · have hm1 := of_decide_eq_true h_14
    refine V.iconst (pc := 21) (v := nI 0) dX9_next_21 (by decide) ?_
    refine V.iconst (pc := 22) (v := nI 1) dX9_next_22 (by decide) ?_
    refine V.iconst (pc := 23) (v := nI 1) dX9_next_23 (by decide) ?_
    refine cp_X9_119 (pc := 24) dX9_next_24 (ok_bad0 1 1 hth) (by omega) (Nat.le_of_ble_eq_true rfl) ?_
    refine V.ifN_eq (pc := 27) 32 dX9_next_27 (by decide) (by decide) (fun h_27 => ?_) (fun h_ => absurd h_ (by decide))
    refine V.aload_n (pc := 32) 0 dX9_next_32 rfl ?_
    have hpp := Nat.two_pow_pos a.S.n
    have hb1c := (b_true hB).2
    have hb1l := hb1c.1
    have hc1 : cov a.S b1 ≤ 48000 := wOf_le hvs _
    refine cl_X9_245 (pc := 33) dX9_next_33 (ok_X9_laysSets a hR0) (by omega) (Nat.le_of_ble_eq_true rfl) (fun r_ μ_ h_ => ?_)
    obtain ⟨rfl, hRf1, hL, hth1, hfr1⟩ := h_
    have hth1 := hth1.trans hth
    have hC1 := hC0.trans hfr1 (fun _ z => z) (fun _ z => z)
    have hR1 := hRf1.rw
    have hR := hR1
    refine V.aload_n (pc := 36) 0 dX9_next_36 rfl ?_
    refine gf_X9_46 (pc := 37) dX9_next_37 ?_
    refine V.aload_n (pc := 40) 0 dX9_next_40 rfl ?_
    refine V.iload_n (pc := 41) 1 dX9_next_41 rfl ?_
    refine V.iconst (pc := 42) (v := (-1)) dX9_next_42 (by decide) ?_
    refine cp_X9_248 (pc := 43) dX9_next_43 (ok_X9_bestWithin a.S hR hL m 0 (by omega) (by omega) f1 b1 hB) (by omega) (Nat.le_of_ble_eq_true rfl) ?_
    refine V.iald (pc := 46) (k := 114) (n := 65536) (v := nI (cov a.S b1)) (Nat.le_of_ble_eq_true rfl) (fun _ _ => rfl) b1 (by omega) (by decide) dX9_next_46 ((hL b1 (by omega)).1.trans (cv_t hb1c.2.1)) ?_
    refine V.istore_n (pc := 47) (lv' := [(0, .ref (G.2.2 96)), (1, .int (nI m)), (2, .int (nI (cov a.S b1)))]) dX9_next_47 (by decide) rfl ?_
    refine V.iconst (pc := 48) (v := (-1)) dX9_next_48 (by decide) ?_
    refine V.istore_n (pc := 49) (lv' := [(0, .ref (G.2.2 96)), (1, .int (nI m)), (2, .int (nI (cov a.S b1))), (3, .int (-1))]) dX9_next_49 (by decide) rfl ?_
    refine V.iconst (pc := 50) (v := nI 0) dX9_next_50 (by decide) ?_
    refine V.istore (pc := 51) (lv' := [(0, .ref (G.2.2 96)), (1, .int (nI m)), (2, .int (nI (cov a.S b1))), (3, .int (-1)), (4, .int (nI 0))]) dX9_next_51 (by decide) rfl ?_
    have L53 : ∀ (n_ : Nat) (y : Nat) ( f : Bool) ( bb : Nat), (y ≤ 2 ^ a.S.n) → (Best a.S 2 0 2147483647 (cov a.S b1 + 1) (fun z => z < y) f bb) → 2 ^ a.S.n - y < n_ → V G RX9 cX9_next 5 8 X 53 [(0, .ref (G.2.2 96)), (1, .int (nI m)), (2, .int (nI (cov a.S b1))), (3, .int (pv (nxV a.S f bb))), (4, .int (nI y))] [] μ_ := by
      intro n_
      induction n_ with
      | zero => intro y f bb hy hB3 hm_; exact absurd hm_ (Nat.not_lt_zero _)
      | succ n_ ih53 =>
        intro y f bb hy hB3 hm_
        have hnv : nxV a.S f bb ≤ 5281 := by have := lenOf_le hvs bb; unfold nxV; split <;> omega
        refine V.iload (pc := 53) 4 dX9_next_53 rfl ?_
        refine V.iconst (pc := 55) (v := nI 1) dX9_next_55 (by decide) ?_
        refine V.aload_n (pc := 56) 0 dX9_next_56 rfl ?_
        refine cp_X9_133 (pc := 57) dX9_next_57 (ok_X9_many a.S hR) (by omega) (Nat.le_of_ble_eq_true rfl) ?_
        refine V.ishl (pc := 60) (v := nI (2 ^ a.S.n)) dX9_next_60 (nn_shl1 (by omega)) ?_
        refine V.icmpN_ge (pc := 61) 105 dX9_next_61 (by decide) (by omega) (by omega) (fun h_61 => ?_) (fun h_61 => ?_)
        · have hyE : y = 2 ^ a.S.n := by omega
          subst hyE
          obtain ⟨hfe, hbe⟩ := hB2.one (B_all hB3)
          subst hfe
          subst hbe
          refine V.iload_n (pc := 105) 3 dX9_next_105 rfl ?_
          exact V.iret (pc := 106) hF dX9_next_106 (RP.mk ((if_pos (by omega)).trans (congrArg (fun v => rOk v a) (by unfold nxV; cases f <;> rfl))) hRf1 hth1 hC1)
        · have hcx : cov a.S y ≤ 48000 := wOf_le hvs _
          have hlx := lenOf_le hvs y
          have hcb : cov a.S bb ≤ 48000 := wOf_le hvs _
          have hlb := lenOf_le hvs bb
          by_cases hw : whole a.S y = true
          · refine V.aload_n (pc := 64) 0 dX9_next_64 rfl ?_
            refine gf_X9_46 (pc := 65) dX9_next_65 ?_
            refine V.iload (pc := 68) 4 dX9_next_68 rfl ?_
            refine V.iald (pc := 70) (k := 114) (n := 65536) (v := nI (cov a.S y)) (Nat.le_of_ble_eq_true rfl) (fun _ _ => rfl) y (by omega) (by decide) dX9_next_70 ((hL y (by omega)).1.trans (cv_t hw)) ?_
            refine V.iload_n (pc := 71) 2 dX9_next_71 rfl ?_
            refine V.icmpN_le (pc := 72) 99 dX9_next_72 (by decide) (by omega) (by omega) (fun h_72 => ?_) (fun h_72 => ?_)
            · refine V.iinc (pc := 99) (v := nI (y + 1)) (lv' := [(0, .ref (G.2.2 96)), (1, .int (nI m)), (2, .int (nI (cov a.S b1))), (3, .int (pv (nxV a.S f bb))), (4, .int (nI (y + 1)))]) 4 dX9_next_99 rfl (nn_inc _) (by decide) rfl ?_
              refine V.goto (pc := 102) 53 dX9_next_102 (by decide) ?_
              exact ih53 (y + 1) f bb (by omega) (B_skip hB3 (fun z => by have := z.2.2.2.2; omega)) (by omega)
            · refine V.iload_n (pc := 75) 3 dX9_next_75 rfl ?_
              refine V.iconst (pc := 76) (v := (-1)) dX9_next_76 (by decide) ?_
              refine V.icmp_eq (pc := 77) 91 dX9_next_77 (by decide) (fun h_77 => ?_) (fun h_77 => ?_)
              · have hf : f = false := nxV_0 ((pv_ne (by omega)).mp h_77)
                refine V.aload_n (pc := 91) 0 dX9_next_91 rfl ?_
                refine gf_X9_49 (pc := 92) dX9_next_92 ?_
                refine V.iload (pc := 95) 4 dX9_next_95 rfl ?_
                refine V.iald (pc := 97) (k := 115) (n := 65536) (v := nI (lenOf a.S y)) (Nat.le_of_ble_eq_true rfl) (fun _ _ => rfl) y (by omega) (by decide) dX9_next_97 (hL y (by omega)).2 ?_
                refine V.istore_n (pc := 98) (lv' := [(0, .ref (G.2.2 96)), (1, .int (nI m)), (2, .int (nI (cov a.S b1))), (3, .int (nI (lenOf a.S y))), (4, .int (nI y))]) dX9_next_98 (by decide) rfl ?_
                refine V.iinc (pc := 99) (v := nI (y + 1)) (lv' := [(0, .ref (G.2.2 96)), (1, .int (nI m)), (2, .int (nI (cov a.S b1))), (3, .int (nI (lenOf a.S y))), (4, .int (nI (y + 1)))]) 4 dX9_next_99 rfl (nn_inc _) (by decide) rfl ?_
                refine V.goto (pc := 102) 53 dX9_next_102 (by decide) ?_
                have e_3 : nI (lenOf a.S y) = pv (nxV a.S true y) := rfl
                refine V.lvs (lv' := [(0, .ref (G.2.2 96)), (1, .int (nI m)), (2, .int (nI (cov a.S b1))), (3, .int (pv (nxV a.S true y))), (4, .int (nI (y + 1)))]) (congrArg (fun z => ([(0, .ref (G.2.2 96)), (1, .int (nI m)), (2, .int (nI (cov a.S b1))), (3, .int z), (4, .int (nI (y + 1)))] : List (Nat × Value))) e_3) ?_
                exact ih53 (y + 1) true y (by omega) (B_take hB3 ⟨by omega, hw, fun s e => absurd e (by omega), by omega, by omega⟩ (fun z => by rw [hf] at z; cases z)) (by omega)
              · have hf : f = true := nxV_1 (fun z => h_77 ((pv_ne (by omega)).mpr z))
                refine V.aload_n (pc := 80) 0 dX9_next_80 rfl ?_
                refine gf_X9_49 (pc := 81) dX9_next_81 ?_
                refine V.iload (pc := 84) 4 dX9_next_84 rfl ?_
                refine V.iald (pc := 86) (k := 115) (n := 65536) (v := nI (lenOf a.S y)) (Nat.le_of_ble_eq_true rfl) (fun _ _ => rfl) y (by omega) (by decide) dX9_next_86 (hL y (by omega)).2 ?_
                refine V.iload_n (pc := 87) 3 dX9_next_87 rfl ?_
                refine V.st (st' := [.int (nI (lenOf a.S bb)), .int (nI (lenOf a.S y))]) (by rw [hf]; rfl) ?_
                refine V.icmpN_ge (pc := 88) 99 dX9_next_88 (by decide) (by omega) (by omega) (fun h_88 => ?_) (fun h_88 => ?_)
                · obtain ⟨b4, hB4, hl4⟩ := nx_keep hvs (by rw [hf] at hB3; exact hB3) ⟨by omega, hw, fun s e => absurd e (by omega), by omega, by omega⟩ (by omega)
                  refine V.iinc (pc := 99) (v := nI (y + 1)) (lv' := [(0, .ref (G.2.2 96)), (1, .int (nI m)), (2, .int (nI (cov a.S b1))), (3, .int (pv (nxV a.S f bb))), (4, .int (nI (y + 1)))]) 4 dX9_next_99 rfl (nn_inc _) (by decide) rfl ?_
                  refine V.goto (pc := 102) 53 dX9_next_102 (by decide) ?_
                  have e_3 : pv (nxV a.S f bb) = pv (nxV a.S true b4) := by rw [hf]; show nI (lenOf a.S bb) = nI (lenOf a.S b4); rw [hl4]
                  refine V.lvs (lv' := [(0, .ref (G.2.2 96)), (1, .int (nI m)), (2, .int (nI (cov a.S b1))), (3, .int (pv (nxV a.S true b4))), (4, .int (nI (y + 1)))]) (congrArg (fun z => ([(0, .ref (G.2.2 96)), (1, .int (nI m)), (2, .int (nI (cov a.S b1))), (3, .int z), (4, .int (nI (y + 1)))] : List (Nat × Value))) e_3) ?_
                  exact ih53 (y + 1) true b4 (by omega) hB4 (by omega)
                · refine V.aload_n (pc := 91) 0 dX9_next_91 rfl ?_
                  refine gf_X9_49 (pc := 92) dX9_next_92 ?_
                  refine V.iload (pc := 95) 4 dX9_next_95 rfl ?_
                  refine V.iald (pc := 97) (k := 115) (n := 65536) (v := nI (lenOf a.S y)) (Nat.le_of_ble_eq_true rfl) (fun _ _ => rfl) y (by omega) (by decide) dX9_next_97 (hL y (by omega)).2 ?_
                  refine V.istore_n (pc := 98) (lv' := [(0, .ref (G.2.2 96)), (1, .int (nI m)), (2, .int (nI (cov a.S b1))), (3, .int (nI (lenOf a.S y))), (4, .int (nI y))]) dX9_next_98 (by decide) rfl ?_
                  refine V.iinc (pc := 99) (v := nI (y + 1)) (lv' := [(0, .ref (G.2.2 96)), (1, .int (nI m)), (2, .int (nI (cov a.S b1))), (3, .int (nI (lenOf a.S y))), (4, .int (nI (y + 1)))]) 4 dX9_next_99 rfl (nn_inc _) (by decide) rfl ?_
                  refine V.goto (pc := 102) 53 dX9_next_102 (by decide) ?_
                  have e_3 : nI (lenOf a.S y) = pv (nxV a.S true y) := rfl
                  refine V.lvs (lv' := [(0, .ref (G.2.2 96)), (1, .int (nI m)), (2, .int (nI (cov a.S b1))), (3, .int (pv (nxV a.S true y))), (4, .int (nI (y + 1)))]) (congrArg (fun z => ([(0, .ref (G.2.2 96)), (1, .int (nI m)), (2, .int (nI (cov a.S b1))), (3, .int z), (4, .int (nI (y + 1)))] : List (Nat × Value))) e_3) ?_
                  exact ih53 (y + 1) true y (by omega) (B_take hB3 ⟨by omega, hw, fun s e => absurd e (by omega), by omega, by omega⟩ (fun _ => bt2 hcx hcb (by omega))) (by omega)
          · refine V.aload_n (pc := 64) 0 dX9_next_64 rfl ?_
            refine gf_X9_46 (pc := 65) dX9_next_65 ?_
            refine V.iload (pc := 68) 4 dX9_next_68 rfl ?_
            refine V.iald (pc := 70) (k := 114) (n := 65536) (v := (-1)) (Nat.le_of_ble_eq_true rfl) (fun _ _ => rfl) y (by omega) (by decide) dX9_next_70 ((hL y (by omega)).1.trans (cv_f hw)) ?_
            refine V.iload_n (pc := 71) 2 dX9_next_71 rfl ?_
            refine V.icmp_le (pc := 72) 99 dX9_next_72 (by decide) (fun h_72 => ?_) (fun h_72 => ?_)
            · refine V.iinc (pc := 99) (v := nI (y + 1)) (lv' := [(0, .ref (G.2.2 96)), (1, .int (nI m)), (2, .int (nI (cov a.S b1))), (3, .int (pv (nxV a.S f bb))), (4, .int (nI (y + 1)))]) 4 dX9_next_99 rfl (nn_inc _) (by decide) rfl ?_
              refine V.goto (pc := 102) 53 dX9_next_102 (by decide) ?_
              exact ih53 (y + 1) f bb (by omega) (B_skip hB3 (fun z => hw z.2.1)) (by omega)
            · exact absurd (m1_le (by omega)) h_72
    have e_3 : (-1) = pv (nxV a.S false 0) := rfl
    refine V.lvs (lv' := [(0, .ref (G.2.2 96)), (1, .int (nI m)), (2, .int (nI (cov a.S b1))), (3, .int (pv (nxV a.S false 0))), (4, .int (nI 0))]) (congrArg (fun z => ([(0, .ref (G.2.2 96)), (1, .int (nI m)), (2, .int (nI (cov a.S b1))), (3, .int z), (4, .int (nI 0))] : List (Nat × Value))) e_3) ?_
    exact L53 _ 0 false 0 (by omega) (B_zero _ _ _ _ _) (Nat.lt_succ_self _)
  · have hm1 := of_decide_eq_false h_14
    refine V.iconst (pc := 17) (v := nI 1) dX9_next_17 (by decide) ?_
    refine V.goto (pc := 18) 22 dX9_next_18 (by decide) ?_
    refine V.iconst (pc := 22) (v := nI 1) dX9_next_22 (by decide) ?_
    refine V.iconst (pc := 23) (v := nI 1) dX9_next_23 (by decide) ?_
    refine cl_X9_119 (pc := 24) dX9_next_24 (ok_bad1 1 1 hth (by decide) (by decide) (by decide)) (by omega) (Nat.le_of_ble_eq_true rfl) (fun r_ μ_ h_ => ?_)
    obtain ⟨rfl, rfl⟩ := h_
    refine V.ifN_eq (pc := 27) 32 dX9_next_27 (by decide) (by decide) (fun h_ => absurd h_ (by decide)) (fun h_27 => ?_)
    refine V.iconst (pc := 30) (v := nI 0) dX9_next_30 (by decide) ?_
    exact V.iret (pc := 31) hF dX9_next_31 (RP.no (if_neg (by omega)) (by decide) hR0 (by decide) hC0)
