/-! the reference's tables of all sets -/
def Ks (μ μ1 : Mu) : Prop := (∀ i, i ≠ 13 → μ1.1 96 i = μ.1 96 i) ∧ μ1.1 96 13 = nI 1 ∧ (∀ c, c < 114 → c ≠ 96 → μ1.1 c = μ.1 c) ∧ μ1.2 = μ.2
theorem Ks.rw {μ μ1 : Mu} {S : TS} (h : Ks μ μ1) (hR : Rw μ 99 S) : Rw μ1 99 S := hR.row (by rw [h.2.2.2])
theorem Ks.arr {μ μ1 : Mu} (h : Ks μ μ1) {c : Nat} (i : Nat) (v : Int32) (hc : 114 ≤ c) : Ks μ (si μ1 c i v) := ⟨fun j hj => (congrFun (si_c _ _ _ (by omega)) j).trans (h.1 j hj), (congrFun (si_c _ _ _ (by omega)) 13).trans h.2.1, fun d h1 h2 => (si_c _ _ _ (by omega)).trans (h.2.2.1 d h1 h2), h.2.2.2⟩
theorem Ks.fr {μ μ1 : Mu} (h : Ks μ μ1) : Fr μ μ1 RK := fun c hc => ⟨h.2.2.1 c (by unfold RK at hc; omega) (by unfold RK at hc; omega), by rw [h.2.2.2]⟩
theorem Ks.rf {μ μ1 : Mu} {a : AS} (h : Ks μ μ1) (hR : Rf μ a) (hL : Laid μ1 a.S) : Rf μ1 a := by
  obtain ⟨g1, g2, g3, g4, g5, g6, g7, g8, g9, q, g10, g11⟩ := hR
  exact ⟨by rw [h.1 _ (by decide)]; exact g1, g2, fun i hi => by rw [h.2.2.1 _ (by decide) (by decide)]; exact g3 i hi, by rw [h.1 _ (by decide)]; exact g4, fun r hr => by rw [h.2.2.1 _ (by decide) (by decide)]; exact g5 r hr, h.rw g6, by rw [h.1 _ (by decide)]; exact g7, g8, fun i hi => (g9 i hi).row (by rw [h.2.2.2]), true, h.2.1, fun _ => hL⟩
def cvI (S : TS) (x : Nat) : Int32 := if whole S x = true then nI (cov S x) else -1
def LaidUp (μ : Mu) (S : TS) (x : Nat) : Prop := ∀ y, y < x → μ.1 114 y = cvI S y ∧ μ.1 115 y = nI (lenOf S y)
theorem LaidUp.put {μ : Mu} {S : TS} {x : Nat} (h : LaidUp μ S x) (v : Int32) (hv : v = cvI S x) {μ' : Mu} (h4 : μ'.1 114 = upd (μ.1 114) x v) (h5 : μ'.1 115 = upd (μ.1 115) x (nI (lenOf S x))) : LaidUp μ' S (x + 1) := by
  intro y hy
  rw [h4, h5]
  by_cases e : y = x
  · subst e; unfold upd; rw [if_pos rfl, if_pos rfl]; exact ⟨hv, rfl⟩
  · unfold upd; rw [if_neg e, if_neg e]; exact h y (by omega)
theorem arr_up {μ1 : Mu} {c i : Nat} {g : Nat → Nat} (h : ∀ j, j < i → μ1.1 c j = nI (g j)) : ∀ j, j < i + 1 → (si μ1 c i (nI (g i))).1 c j = nI (g j) := by
  intro j hj
  by_cases e : j = i
  · subst e; rw [si_s]
  · rw [si_i _ _ _ e]; exact h j (by omega)
def LsP (μ μ' : Mu) (a : AS) : Prop := Rf μ' a ∧ Laid μ' a.S ∧ μ'.1 96 0 = μ.1 96 0 ∧ Fr μ μ' RK
theorem whole_end {S : TS} {x i : Nat} (h : i = S.n ∨ wholeUp S x i = false) (hi : i ≤ S.n) : wholeUp S x i = whole S x := by
  rcases h with h | h
  · rw [h]; rfl
  · unfold whole
    cases i with
    | zero => exact absurd h (by show ¬ true = false; decide)
    | succ i =>
      have := wholeUp_no h (S.n - (i + 1))
      rw [show i + 1 + (S.n - (i + 1)) = S.n by omega] at this
      rw [h, this]
theorem upd_upd (f : Nat → Int32) (i : Nat) (v w : Int32) : upd (upd f i v) i w = upd f i w := by
  funext j; unfold upd; split <;> rfl
theorem ok_X9_laysSets {G : Gx} {μ : Mu} (a : AS) (hRf : Rf μ a) : Runs 6 M_X9_laysSets [.ref (G.2.2 96)] G μ (fun r μ' => r = none ∧ LsP μ μ' a) := by
  obtain ⟨q, hq1, hq2⟩ := hRf.2.2.2.2.2.2.2.2.2
  have hR := hRf.rw
  have hvs := hR.vs
  have hn16 := hvs.n16
  have hu48 := hvs.u48
  have hT2 := hvs.tk
  have hp16 := pow16 hvs
  have hB9 := hvs.B9
  have hp48 := pow48 hvs
  have hLL := hvs.le
  have hpp := Nat.two_pow_pos a.S.n
  refine Runs.go RX9 rfl (by decide) [(0, .ref (G.2.2 96))] (Nat.le_of_ble_eq_true rfl) rfl (fun X hF => ?_)
  refine V.aload_n (pc := 0) 0 dX9_laysSets_0 rfl ?_
  refine gf_X9_173 (pc := 1) (v := nI q.toNat) dX9_laysSets_1 hq1 ?_
  refine V.ifB_eq (pc := 4) 8 dX9_laysSets_4 (by decide) (fun h_4 => ?_) (fun h_4 => ?_)
  · refine V.aload_n (pc := 8) 0 dX9_laysSets_8 rfl ?_
    refine V.iconst (pc := 9) (v := nI 1) dX9_laysSets_9 (by decide) ?_
    refine pf_X9_173 (pc := 10) (by decide) (by decide) dX9_laysSets_10 ?_
    refine V.iconst (pc := 13) (v := nI 0) dX9_laysSets_13 (by decide) ?_
    refine V.istore_n (pc := 14) (lv' := [(0, .ref (G.2.2 96)), (1, .int (nI 0))]) dX9_laysSets_14 (by decide) rfl ?_
    have L15 : ∀ (n_ : Nat) (i : Nat) ( μ1 : Mu), (i ≤ a.S.u) → (Ks μ μ1) → (∀ j, j < i → μ1.1 116 j = nI (a.S.wt j)) → a.S.u - i < n_ → V G RX9 cX9_laysSets 7 6 X 15 [(0, .ref (G.2.2 96)), (1, .int (nI i))] [] μ1 := by
      intro n_
      induction n_ with
      | zero => intro i μ1 hi hks h116 hm_; exact absurd hm_ (Nat.not_lt_zero _)
      | succ n_ ih15 =>
        intro i μ1 hi hks h116 hm_
        have hR1 := hks.rw hR
        refine V.iload_n (pc := 15) 1 dX9_laysSets_15 rfl ?_
        refine V.aload_n (pc := 16) 0 dX9_laysSets_16 rfl ?_
        refine cp_X9_147 (pc := 17) dX9_laysSets_17 (ok_X9_wordMany a.S hR1) (by omega) (Nat.le_of_ble_eq_true rfl) ?_
        refine V.icmpN_ge (pc := 20) 40 dX9_laysSets_20 (by decide) (by omega) (by omega) (fun h_20 => ?_) (fun h_20 => ?_)
        · refine V.iconst (pc := 40) (v := nI 0) dX9_laysSets_40 (by decide) ?_
          refine V.istore_n (pc := 41) (lv' := [(0, .ref (G.2.2 96)), (1, .int (nI 0))]) dX9_laysSets_41 (by decide) rfl ?_
          have L42 : ∀ (n_ : Nat) (i : Nat) ( μ1 : Mu), (i ≤ a.S.n) → (Ks μ μ1) → (∀ j, j < a.S.u → μ1.1 116 j = nI (a.S.wt j)) → (∀ j, j < i → μ1.1 117 j = nI (chain a.S j)) → a.S.n - i < n_ → V G RX9 cX9_laysSets 7 6 X 42 [(0, .ref (G.2.2 96)), (1, .int (nI i))] [] μ1 := by
            intro n_
            induction n_ with
            | zero => intro i μ1 hi hks h116 h117 hm_; exact absurd hm_ (Nat.not_lt_zero _)
            | succ n_ ih42 =>
              intro i μ1 hi hks h116 h117 hm_
              have hR1 := hks.rw hR
              refine V.iload_n (pc := 42) 1 dX9_laysSets_42 rfl ?_
              refine V.aload_n (pc := 43) 0 dX9_laysSets_43 rfl ?_
              refine cp_X9_133 (pc := 44) dX9_laysSets_44 (ok_X9_many a.S hR1) (by omega) (Nat.le_of_ble_eq_true rfl) ?_
              refine V.icmpN_ge (pc := 47) 67 dX9_laysSets_47 (by decide) (by omega) (by omega) (fun h_47 => ?_) (fun h_47 => ?_)
              · refine V.iconst (pc := 67) (v := nI 0) dX9_laysSets_67 (by decide) ?_
                refine V.istore_n (pc := 68) (lv' := [(0, .ref (G.2.2 96)), (1, .int (nI 0))]) dX9_laysSets_68 (by decide) rfl ?_
                have L69 : ∀ (n_ : Nat) (x : Nat) ( μ1 : Mu), (x ≤ 2 ^ a.S.n) → (Ks μ μ1) → (∀ j, j < a.S.u → μ1.1 116 j = nI (a.S.wt j)) → (∀ j, j < a.S.n → μ1.1 117 j = nI (chain a.S j)) → (LaidUp μ1 a.S x) → 2 ^ a.S.n - x < n_ → V G RX9 cX9_laysSets 7 6 X 69 [(0, .ref (G.2.2 96)), (1, .int (nI x))] [] μ1 := by
                  intro n_
                  induction n_ with
                  | zero => intro x μ1 hx hks h116 h117 hlu hm_; exact absurd hm_ (Nat.not_lt_zero _)
                  | succ n_ ih69 =>
                    intro x μ1 hx hks h116 h117 hlu hm_
                    have hR1 := hks.rw hR
                    have hbg := bagOf_lt hvs x
                    refine V.iload_n (pc := 69) 1 dX9_laysSets_69 rfl ?_
                    refine V.iconst (pc := 70) (v := nI 1) dX9_laysSets_70 (by decide) ?_
                    refine V.aload_n (pc := 71) 0 dX9_laysSets_71 rfl ?_
                    refine cp_X9_133 (pc := 72) dX9_laysSets_72 (ok_X9_many a.S hR1) (by omega) (Nat.le_of_ble_eq_true rfl) ?_
                    refine V.ishl (pc := 75) (v := nI (2 ^ a.S.n)) dX9_laysSets_75 (nn_shl1 (by omega)) ?_
                    refine V.icmpN_ge (pc := 76) 220 dX9_laysSets_76 (by decide) (by omega) (by omega) (fun h_76 => ?_) (fun h_76 => ?_)
                    · exact V.vret (pc := 220) hF dX9_laysSets_220 ⟨rfl, hks.rf hRf (fun y hy => hlu y (by omega)), fun y hy => hlu y (by omega), hks.1 0 (by decide), hks.fr⟩
                    · refine V.iconst (pc := 79) (v := nI 1) dX9_laysSets_79 (by decide) ?_
                      refine V.istore_n (pc := 80) (lv' := [(0, .ref (G.2.2 96)), (1, .int (nI x)), (2, .int (nI 1))]) dX9_laysSets_80 (by decide) rfl ?_
                      refine V.iconst (pc := 81) (v := nI 0) dX9_laysSets_81 (by decide) ?_
                      refine V.istore_n (pc := 82) (lv' := [(0, .ref (G.2.2 96)), (1, .int (nI x)), (2, .int (nI 1)), (3, .int (nI 0))]) dX9_laysSets_82 (by decide) rfl ?_
                      have L83 : ∀ (n_ : Nat) (i : Nat), (i ≤ a.S.n) → a.S.n - i < n_ → V G RX9 cX9_laysSets 7 6 X 83 [(0, .ref (G.2.2 96)), (1, .int (nI x)), (2, .int (nI (wholeUp a.S x i).toNat)), (3, .int (nI i))] [] μ1 := by
                        intro n_
                        induction n_ with
                        | zero => intro i hi hm_; exact absurd hm_ (Nat.not_lt_zero _)
                        | succ n_ ih83 =>
                          intro i hi hm_
                          refine V.iload_n (pc := 83) 3 dX9_laysSets_83 rfl ?_
                          refine V.aload_n (pc := 84) 0 dX9_laysSets_84 rfl ?_
                          refine cp_X9_133 (pc := 85) dX9_laysSets_85 (ok_X9_many a.S hR1) (by omega) (Nat.le_of_ble_eq_true rfl) ?_
                          refine V.icmpN_ge (pc := 88) 129 dX9_laysSets_88 (by decide) (by omega) (by omega) (fun h_88 => ?_) (fun h_88 => ?_)
                          · have hwe := whole_end (x := x) (Or.inl (show i = a.S.n by omega)) hi
                            refine V.aload_n (pc := 129) 0 dX9_laysSets_129 rfl ?_
                            refine gf_X9_49 (pc := 130) dX9_laysSets_130 ?_
                            refine V.iload_n (pc := 133) 1 dX9_laysSets_133 rfl ?_
                            refine V.aload_n (pc := 134) 0 dX9_laysSets_134 rfl ?_
                            refine V.iload_n (pc := 135) 1 dX9_laysSets_135 rfl ?_
                            refine cp_X9_166 (pc := 136) dX9_laysSets_136 (ok_X9_length a.S hR1 x (by omega)) (by omega) (Nat.le_of_ble_eq_true rfl) ?_
                            refine V.iast (pc := 139) (k := 115) (n := 65536) (v := nI (lenOf a.S x)) (Nat.le_of_ble_eq_true rfl) (fun _ _ => rfl) x (by omega) (by decide) dX9_laysSets_139 rfl ?_
                            refine V.aload_n (pc := 140) 0 dX9_laysSets_140 rfl ?_
                            refine gf_X9_46 (pc := 141) dX9_laysSets_141 ?_
                            refine V.iload_n (pc := 144) 1 dX9_laysSets_144 rfl ?_
                            refine V.iconst (pc := 145) (v := (-1)) dX9_laysSets_145 (by decide) ?_
                            refine V.iast (pc := 146) (k := 114) (n := 65536) (v := (-1)) (Nat.le_of_ble_eq_true rfl) (fun _ _ => rfl) x (by omega) (by decide) dX9_laysSets_146 rfl ?_
                            refine V.iload_n (pc := 147) 2 dX9_laysSets_147 rfl ?_
                            refine V.ifB_ne (pc := 148) 154 dX9_laysSets_148 (by decide) (fun h_148 => ?_) (fun h_148 => ?_)
                            · refine V.aload_n (pc := 154) 0 dX9_laysSets_154 rfl ?_
                              refine V.iload_n (pc := 155) 1 dX9_laysSets_155 rfl ?_
                              refine cp_X9_153 (pc := 156) dX9_laysSets_156 (ok_X9_wordsIn a.S hR1.sx.sx x (by omega)) (by omega) (Nat.le_of_ble_eq_true rfl) ?_
                              refine V.lstore_n (pc := 159) (lv' := [(0, .ref (G.2.2 96)), (1, .int (nI x)), (2, .int (nI (wholeUp a.S x i).toNat)), (3, .long (lN (bagOf a.S x)))]) dX9_laysSets_159 (by decide) rfl ?_
                              refine V.iconst (pc := 160) (v := nI 0) dX9_laysSets_160 (by decide) ?_
                              refine V.istore (pc := 161) (lv' := [(0, .ref (G.2.2 96)), (1, .int (nI x)), (2, .int (nI (wholeUp a.S x i).toNat)), (3, .long (lN (bagOf a.S x))), (5, .int (nI 0))]) dX9_laysSets_161 (by decide) rfl ?_
                              refine V.iconst (pc := 163) (v := nI 0) dX9_laysSets_163 (by decide) ?_
                              refine V.istore (pc := 164) (lv' := [(0, .ref (G.2.2 96)), (1, .int (nI x)), (2, .int (nI (wholeUp a.S x i).toNat)), (3, .long (lN (bagOf a.S x))), (5, .int (nI 0)), (6, .int (nI 0))]) dX9_laysSets_164 (by decide) rfl ?_
                              have L166 : ∀ (n_ : Nat) (i : Nat), (i ≤ a.S.u) → a.S.u - i < n_ → V G RX9 cX9_laysSets 7 6 X 166 [(0, .ref (G.2.2 96)), (1, .int (nI x)), (3, .long (lN (bagOf a.S x))), (5, .int (nI (wUp a.S (bagOf a.S x) i))), (6, .int (nI i))] [] (si (si μ1 115 x (nI (lenOf a.S x))) 114 x (-1)) := by
                                intro n_
                                induction n_ with
                                | zero => intro i hi hm_; exact absurd hm_ (Nat.not_lt_zero _)
                                | succ n_ ih166 =>
                                  intro i hi hm_
                                  refine V.iload (pc := 166) 4 dX9_laysSets_166 rfl ?_
                                  refine V.aload_n (pc := 168) 0 dX9_laysSets_168 rfl ?_
                                  refine cp_X9_147 (pc := 169) dX9_laysSets_169 (ok_X9_wordMany a.S hR1.sx.sx) (by omega) (Nat.le_of_ble_eq_true rfl) ?_
                                  refine V.icmpN_ge (pc := 172) 206 dX9_laysSets_172 (by decide) (by omega) (by omega) (fun h_172 => ?_) (fun h_172 => ?_)
                                  · have hie : a.S.u = i := by omega
                                    subst hie
                                    · refine V.sub [0, 1, 2, 3] rfl ?_
                                      refine V.lvs (lv' := [(0, .ref (G.2.2 96)), (1, .int (nI x)), (3, .long (lN (bagOf a.S x))), (5, .int (nI (cov a.S x)))]) rfl ?_
                                      refine V.aload_n (pc := 206) 0 dX9_laysSets_206 rfl ?_
                                      refine gf_X9_46 (pc := 207) dX9_laysSets_207 ?_
                                      refine V.iload_n (pc := 210) 1 dX9_laysSets_210 rfl ?_
                                      refine V.iload (pc := 211) 3 dX9_laysSets_211 rfl ?_
                                      refine V.iast (pc := 213) (k := 114) (n := 65536) (v := nI (cov a.S x)) (Nat.le_of_ble_eq_true rfl) (fun _ _ => rfl) x (by omega) (by decide) dX9_laysSets_213 rfl ?_
                                      refine V.iinc (pc := 214) (v := nI (x + 1)) (lv' := [(0, .ref (G.2.2 96)), (1, .int (nI (x + 1))), (3, .long (lN (bagOf a.S x))), (5, .int (nI (cov a.S x)))]) 1 dX9_laysSets_214 rfl (nn_inc _) (by decide) rfl ?_
                                      refine V.goto (pc := 217) 69 dX9_laysSets_217 (by decide) ?_
                                      refine V.sub (lv' := [(0, .ref (G.2.2 96)), (1, .int (nI (x + 1)))]) [0, 1] rfl ?_
                                      exact ih69 (x + 1) (si (si (si μ1 115 x (nI (lenOf a.S x))) 114 x (-1)) 114 x (nI (cov a.S x))) (by omega) (((hks.arr _ _ (by decide)).arr _ _ (by decide)).arr _ _ (by decide)) h116 h117 (hlu.put (nI (cov a.S x)) (by rw [cvI, if_pos (by rw [← hwe, h_148])]) (upd_upd _ _ _ _) rfl) (by omega)
                                  · refine V.iload (pc := 175) 3 dX9_laysSets_175 rfl ?_
                                    refine V.lload_n (pc := 177) 2 dX9_laysSets_177 rfl ?_
                                    refine V.iload (pc := 178) 4 dX9_laysSets_178 rfl ?_
                                    refine cp_X9_140 (pc := 180) dX9_laysSets_180 (ok_X9_has (bagOf a.S x) i (by omega) (by omega)) (by omega) (Nat.le_of_ble_eq_true rfl) ?_
                                    refine V.ifB_eq (pc := 183) 196 dX9_laysSets_183 (by decide) (fun h_183 => ?_) (fun h_183 => ?_)
                                    · refine V.iconst (pc := 196) (v := nI 0) dX9_laysSets_196 (by decide) ?_
                                      refine V.iadd (pc := 197) (v := nI (wUp a.S (bagOf a.S x) i + 0)) dX9_laysSets_197 (nI_add _ _) ?_
                                      refine V.istore (pc := 198) (lv' := [(0, .ref (G.2.2 96)), (1, .int (nI x)), (3, .long (lN (bagOf a.S x))), (5, .int (nI (wUp a.S (bagOf a.S x) i + 0))), (6, .int (nI i))]) dX9_laysSets_198 (by decide) rfl ?_
                                      refine V.iinc (pc := 200) (v := nI (i + 1)) (lv' := [(0, .ref (G.2.2 96)), (1, .int (nI x)), (3, .long (lN (bagOf a.S x))), (5, .int (nI (wUp a.S (bagOf a.S x) i + 0))), (6, .int (nI (i + 1)))]) 4 dX9_laysSets_200 rfl (nn_inc _) (by decide) rfl ?_
                                      refine V.goto (pc := 203) 166 dX9_laysSets_203 (by decide) ?_
                                      have e_5 : nI (wUp a.S (bagOf a.S x) i + 0) = nI (wUp a.S (bagOf a.S x) (i + 1)) := congrArg nI (wUp_f h_183)
                                      refine V.lvs (lv' := [(0, .ref (G.2.2 96)), (1, .int (nI x)), (3, .long (lN (bagOf a.S x))), (5, .int (nI (wUp a.S (bagOf a.S x) (i + 1)))), (6, .int (nI (i + 1)))]) (congrArg (fun z => ([(0, .ref (G.2.2 96)), (1, .int (nI x)), (3, .long (lN (bagOf a.S x))), (5, .int z), (6, .int (nI (i + 1)))] : List (Nat × Value))) e_5) ?_
                                      exact ih166 (i + 1) (by omega) (by omega)
                                    · refine V.aload_n (pc := 186) 0 dX9_laysSets_186 rfl ?_
                                      refine gf_X9_52 (pc := 187) dX9_laysSets_187 ?_
                                      refine V.iload (pc := 190) 4 dX9_laysSets_190 rfl ?_
                                      refine V.iald (pc := 192) (k := 116) (n := 48) (v := nI (a.S.wt i)) (Nat.le_of_ble_eq_true rfl) (fun _ _ => rfl) i (by omega) (by decide) dX9_laysSets_192 (Eq.trans (congrFun (si_c _ _ _ (by decide)) _) (Eq.trans (congrFun (si_c _ _ _ (by decide)) _) (h116 i (by omega)))) ?_
                                      refine V.goto (pc := 193) 197 dX9_laysSets_193 (by decide) ?_
                                      refine V.iadd (pc := 197) (v := nI (wUp a.S (bagOf a.S x) i + (a.S.wt i))) dX9_laysSets_197 (nI_add _ _) ?_
                                      refine V.istore (pc := 198) (lv' := [(0, .ref (G.2.2 96)), (1, .int (nI x)), (3, .long (lN (bagOf a.S x))), (5, .int (nI (wUp a.S (bagOf a.S x) i + (a.S.wt i)))), (6, .int (nI i))]) dX9_laysSets_198 (by decide) rfl ?_
                                      refine V.iinc (pc := 200) (v := nI (i + 1)) (lv' := [(0, .ref (G.2.2 96)), (1, .int (nI x)), (3, .long (lN (bagOf a.S x))), (5, .int (nI (wUp a.S (bagOf a.S x) i + (a.S.wt i)))), (6, .int (nI (i + 1)))]) 4 dX9_laysSets_200 rfl (nn_inc _) (by decide) rfl ?_
                                      refine V.goto (pc := 203) 166 dX9_laysSets_203 (by decide) ?_
                                      have e_5 : nI (wUp a.S (bagOf a.S x) i + (a.S.wt i)) = nI (wUp a.S (bagOf a.S x) (i + 1)) := congrArg nI (wUp_t h_183)
                                      refine V.lvs (lv' := [(0, .ref (G.2.2 96)), (1, .int (nI x)), (3, .long (lN (bagOf a.S x))), (5, .int (nI (wUp a.S (bagOf a.S x) (i + 1)))), (6, .int (nI (i + 1)))]) (congrArg (fun z => ([(0, .ref (G.2.2 96)), (1, .int (nI x)), (3, .long (lN (bagOf a.S x))), (5, .int z), (6, .int (nI (i + 1)))] : List (Nat × Value))) e_5) ?_
                                      exact ih166 (i + 1) (by omega) (by omega)
                              refine V.sub (lv' := [(0, .ref (G.2.2 96)), (1, .int (nI x)), (3, .long (lN (bagOf a.S x))), (5, .int (nI 0)), (6, .int (nI 0))]) [0, 1, 3, 4, 5] rfl ?_
                              have e_5 : nI 0 = nI (wUp a.S (bagOf a.S x) 0) := rfl
                              refine V.lvs (lv' := [(0, .ref (G.2.2 96)), (1, .int (nI x)), (3, .long (lN (bagOf a.S x))), (5, .int (nI (wUp a.S (bagOf a.S x) 0))), (6, .int (nI 0))]) (congrArg (fun z => ([(0, .ref (G.2.2 96)), (1, .int (nI x)), (3, .long (lN (bagOf a.S x))), (5, .int z), (6, .int (nI 0))] : List (Nat × Value))) e_5) ?_
                              exact L166 _ 0 (by omega) (Nat.lt_succ_self _)
                            · refine V.goto (pc := 151) 214 dX9_laysSets_151 (by decide) ?_
                              refine V.iinc (pc := 214) (v := nI (x + 1)) (lv' := [(0, .ref (G.2.2 96)), (1, .int (nI (x + 1))), (2, .int (nI (wholeUp a.S x i).toNat)), (3, .int (nI i))]) 1 dX9_laysSets_214 rfl (nn_inc _) (by decide) rfl ?_
                              refine V.goto (pc := 217) 69 dX9_laysSets_217 (by decide) ?_
                              refine V.sub (lv' := [(0, .ref (G.2.2 96)), (1, .int (nI (x + 1)))]) [0, 1] rfl ?_
                              exact ih69 (x + 1) (si (si μ1 115 x (nI (lenOf a.S x))) 114 x (-1)) (by omega) ((hks.arr _ _ (by decide)).arr _ _ (by decide)) h116 h117 (hlu.put _ (by rw [cvI, if_neg (by rw [← hwe, h_148]; decide)]) rfl rfl) (by omega)
                          · refine V.iload_n (pc := 91) 2 dX9_laysSets_91 rfl ?_
                            refine V.ifB_eq (pc := 92) 129 dX9_laysSets_92 (by decide) (fun h_92 => ?_) (fun h_92 => ?_)
                            · have hwe := whole_end (x := x) (Or.inr h_92) hi
                              refine V.aload_n (pc := 129) 0 dX9_laysSets_129 rfl ?_
                              refine gf_X9_49 (pc := 130) dX9_laysSets_130 ?_
                              refine V.iload_n (pc := 133) 1 dX9_laysSets_133 rfl ?_
                              refine V.aload_n (pc := 134) 0 dX9_laysSets_134 rfl ?_
                              refine V.iload_n (pc := 135) 1 dX9_laysSets_135 rfl ?_
                              refine cp_X9_166 (pc := 136) dX9_laysSets_136 (ok_X9_length a.S hR1 x (by omega)) (by omega) (Nat.le_of_ble_eq_true rfl) ?_
                              refine V.iast (pc := 139) (k := 115) (n := 65536) (v := nI (lenOf a.S x)) (Nat.le_of_ble_eq_true rfl) (fun _ _ => rfl) x (by omega) (by decide) dX9_laysSets_139 rfl ?_
                              refine V.aload_n (pc := 140) 0 dX9_laysSets_140 rfl ?_
                              refine gf_X9_46 (pc := 141) dX9_laysSets_141 ?_
                              refine V.iload_n (pc := 144) 1 dX9_laysSets_144 rfl ?_
                              refine V.iconst (pc := 145) (v := (-1)) dX9_laysSets_145 (by decide) ?_
                              refine V.iast (pc := 146) (k := 114) (n := 65536) (v := (-1)) (Nat.le_of_ble_eq_true rfl) (fun _ _ => rfl) x (by omega) (by decide) dX9_laysSets_146 rfl ?_
                              refine V.iload_n (pc := 147) 2 dX9_laysSets_147 rfl ?_
                              refine V.ifB_ne (pc := 148) 154 dX9_laysSets_148 (by decide) (fun h_148 => ?_) (fun h_148 => ?_)
                              · refine V.aload_n (pc := 154) 0 dX9_laysSets_154 rfl ?_
                                refine V.iload_n (pc := 155) 1 dX9_laysSets_155 rfl ?_
                                refine cp_X9_153 (pc := 156) dX9_laysSets_156 (ok_X9_wordsIn a.S hR1.sx.sx x (by omega)) (by omega) (Nat.le_of_ble_eq_true rfl) ?_
                                refine V.lstore_n (pc := 159) (lv' := [(0, .ref (G.2.2 96)), (1, .int (nI x)), (2, .int (nI (wholeUp a.S x i).toNat)), (3, .long (lN (bagOf a.S x)))]) dX9_laysSets_159 (by decide) rfl ?_
                                refine V.iconst (pc := 160) (v := nI 0) dX9_laysSets_160 (by decide) ?_
                                refine V.istore (pc := 161) (lv' := [(0, .ref (G.2.2 96)), (1, .int (nI x)), (2, .int (nI (wholeUp a.S x i).toNat)), (3, .long (lN (bagOf a.S x))), (5, .int (nI 0))]) dX9_laysSets_161 (by decide) rfl ?_
                                refine V.iconst (pc := 163) (v := nI 0) dX9_laysSets_163 (by decide) ?_
                                refine V.istore (pc := 164) (lv' := [(0, .ref (G.2.2 96)), (1, .int (nI x)), (2, .int (nI (wholeUp a.S x i).toNat)), (3, .long (lN (bagOf a.S x))), (5, .int (nI 0)), (6, .int (nI 0))]) dX9_laysSets_164 (by decide) rfl ?_
                                have L166 : ∀ (n_ : Nat) (i : Nat), (i ≤ a.S.u) → a.S.u - i < n_ → V G RX9 cX9_laysSets 7 6 X 166 [(0, .ref (G.2.2 96)), (1, .int (nI x)), (3, .long (lN (bagOf a.S x))), (5, .int (nI (wUp a.S (bagOf a.S x) i))), (6, .int (nI i))] [] (si (si μ1 115 x (nI (lenOf a.S x))) 114 x (-1)) := by
                                  intro n_
                                  induction n_ with
                                  | zero => intro i hi hm_; exact absurd hm_ (Nat.not_lt_zero _)
                                  | succ n_ ih166 =>
                                    intro i hi hm_
                                    refine V.iload (pc := 166) 4 dX9_laysSets_166 rfl ?_
                                    refine V.aload_n (pc := 168) 0 dX9_laysSets_168 rfl ?_
                                    refine cp_X9_147 (pc := 169) dX9_laysSets_169 (ok_X9_wordMany a.S hR1.sx.sx) (by omega) (Nat.le_of_ble_eq_true rfl) ?_
                                    refine V.icmpN_ge (pc := 172) 206 dX9_laysSets_172 (by decide) (by omega) (by omega) (fun h_172 => ?_) (fun h_172 => ?_)
                                    · have hie : a.S.u = i := by omega
                                      subst hie
                                      · refine V.sub [0, 1, 2, 3] rfl ?_
                                        refine V.lvs (lv' := [(0, .ref (G.2.2 96)), (1, .int (nI x)), (3, .long (lN (bagOf a.S x))), (5, .int (nI (cov a.S x)))]) rfl ?_
                                        refine V.aload_n (pc := 206) 0 dX9_laysSets_206 rfl ?_
                                        refine gf_X9_46 (pc := 207) dX9_laysSets_207 ?_
                                        refine V.iload_n (pc := 210) 1 dX9_laysSets_210 rfl ?_
                                        refine V.iload (pc := 211) 3 dX9_laysSets_211 rfl ?_
                                        refine V.iast (pc := 213) (k := 114) (n := 65536) (v := nI (cov a.S x)) (Nat.le_of_ble_eq_true rfl) (fun _ _ => rfl) x (by omega) (by decide) dX9_laysSets_213 rfl ?_
                                        refine V.iinc (pc := 214) (v := nI (x + 1)) (lv' := [(0, .ref (G.2.2 96)), (1, .int (nI (x + 1))), (3, .long (lN (bagOf a.S x))), (5, .int (nI (cov a.S x)))]) 1 dX9_laysSets_214 rfl (nn_inc _) (by decide) rfl ?_
                                        refine V.goto (pc := 217) 69 dX9_laysSets_217 (by decide) ?_
                                        refine V.sub (lv' := [(0, .ref (G.2.2 96)), (1, .int (nI (x + 1)))]) [0, 1] rfl ?_
                                        exact ih69 (x + 1) (si (si (si μ1 115 x (nI (lenOf a.S x))) 114 x (-1)) 114 x (nI (cov a.S x))) (by omega) (((hks.arr _ _ (by decide)).arr _ _ (by decide)).arr _ _ (by decide)) h116 h117 (hlu.put (nI (cov a.S x)) (by rw [cvI, if_pos (by rw [← hwe, h_148])]) (upd_upd _ _ _ _) rfl) (by omega)
                                    · refine V.iload (pc := 175) 3 dX9_laysSets_175 rfl ?_
                                      refine V.lload_n (pc := 177) 2 dX9_laysSets_177 rfl ?_
                                      refine V.iload (pc := 178) 4 dX9_laysSets_178 rfl ?_
                                      refine cp_X9_140 (pc := 180) dX9_laysSets_180 (ok_X9_has (bagOf a.S x) i (by omega) (by omega)) (by omega) (Nat.le_of_ble_eq_true rfl) ?_
                                      refine V.ifB_eq (pc := 183) 196 dX9_laysSets_183 (by decide) (fun h_183 => ?_) (fun h_183 => ?_)
                                      · refine V.iconst (pc := 196) (v := nI 0) dX9_laysSets_196 (by decide) ?_
                                        refine V.iadd (pc := 197) (v := nI (wUp a.S (bagOf a.S x) i + 0)) dX9_laysSets_197 (nI_add _ _) ?_
                                        refine V.istore (pc := 198) (lv' := [(0, .ref (G.2.2 96)), (1, .int (nI x)), (3, .long (lN (bagOf a.S x))), (5, .int (nI (wUp a.S (bagOf a.S x) i + 0))), (6, .int (nI i))]) dX9_laysSets_198 (by decide) rfl ?_
                                        refine V.iinc (pc := 200) (v := nI (i + 1)) (lv' := [(0, .ref (G.2.2 96)), (1, .int (nI x)), (3, .long (lN (bagOf a.S x))), (5, .int (nI (wUp a.S (bagOf a.S x) i + 0))), (6, .int (nI (i + 1)))]) 4 dX9_laysSets_200 rfl (nn_inc _) (by decide) rfl ?_
                                        refine V.goto (pc := 203) 166 dX9_laysSets_203 (by decide) ?_
                                        have e_5 : nI (wUp a.S (bagOf a.S x) i + 0) = nI (wUp a.S (bagOf a.S x) (i + 1)) := congrArg nI (wUp_f h_183)
                                        refine V.lvs (lv' := [(0, .ref (G.2.2 96)), (1, .int (nI x)), (3, .long (lN (bagOf a.S x))), (5, .int (nI (wUp a.S (bagOf a.S x) (i + 1)))), (6, .int (nI (i + 1)))]) (congrArg (fun z => ([(0, .ref (G.2.2 96)), (1, .int (nI x)), (3, .long (lN (bagOf a.S x))), (5, .int z), (6, .int (nI (i + 1)))] : List (Nat × Value))) e_5) ?_
                                        exact ih166 (i + 1) (by omega) (by omega)
                                      · refine V.aload_n (pc := 186) 0 dX9_laysSets_186 rfl ?_
                                        refine gf_X9_52 (pc := 187) dX9_laysSets_187 ?_
                                        refine V.iload (pc := 190) 4 dX9_laysSets_190 rfl ?_
                                        refine V.iald (pc := 192) (k := 116) (n := 48) (v := nI (a.S.wt i)) (Nat.le_of_ble_eq_true rfl) (fun _ _ => rfl) i (by omega) (by decide) dX9_laysSets_192 (Eq.trans (congrFun (si_c _ _ _ (by decide)) _) (Eq.trans (congrFun (si_c _ _ _ (by decide)) _) (h116 i (by omega)))) ?_
                                        refine V.goto (pc := 193) 197 dX9_laysSets_193 (by decide) ?_
                                        refine V.iadd (pc := 197) (v := nI (wUp a.S (bagOf a.S x) i + (a.S.wt i))) dX9_laysSets_197 (nI_add _ _) ?_
                                        refine V.istore (pc := 198) (lv' := [(0, .ref (G.2.2 96)), (1, .int (nI x)), (3, .long (lN (bagOf a.S x))), (5, .int (nI (wUp a.S (bagOf a.S x) i + (a.S.wt i)))), (6, .int (nI i))]) dX9_laysSets_198 (by decide) rfl ?_
                                        refine V.iinc (pc := 200) (v := nI (i + 1)) (lv' := [(0, .ref (G.2.2 96)), (1, .int (nI x)), (3, .long (lN (bagOf a.S x))), (5, .int (nI (wUp a.S (bagOf a.S x) i + (a.S.wt i)))), (6, .int (nI (i + 1)))]) 4 dX9_laysSets_200 rfl (nn_inc _) (by decide) rfl ?_
                                        refine V.goto (pc := 203) 166 dX9_laysSets_203 (by decide) ?_
                                        have e_5 : nI (wUp a.S (bagOf a.S x) i + (a.S.wt i)) = nI (wUp a.S (bagOf a.S x) (i + 1)) := congrArg nI (wUp_t h_183)
                                        refine V.lvs (lv' := [(0, .ref (G.2.2 96)), (1, .int (nI x)), (3, .long (lN (bagOf a.S x))), (5, .int (nI (wUp a.S (bagOf a.S x) (i + 1)))), (6, .int (nI (i + 1)))]) (congrArg (fun z => ([(0, .ref (G.2.2 96)), (1, .int (nI x)), (3, .long (lN (bagOf a.S x))), (5, .int z), (6, .int (nI (i + 1)))] : List (Nat × Value))) e_5) ?_
                                        exact ih166 (i + 1) (by omega) (by omega)
                                refine V.sub (lv' := [(0, .ref (G.2.2 96)), (1, .int (nI x)), (3, .long (lN (bagOf a.S x))), (5, .int (nI 0)), (6, .int (nI 0))]) [0, 1, 3, 4, 5] rfl ?_
                                have e_5 : nI 0 = nI (wUp a.S (bagOf a.S x) 0) := rfl
                                refine V.lvs (lv' := [(0, .ref (G.2.2 96)), (1, .int (nI x)), (3, .long (lN (bagOf a.S x))), (5, .int (nI (wUp a.S (bagOf a.S x) 0))), (6, .int (nI 0))]) (congrArg (fun z => ([(0, .ref (G.2.2 96)), (1, .int (nI x)), (3, .long (lN (bagOf a.S x))), (5, .int z), (6, .int (nI 0))] : List (Nat × Value))) e_5) ?_
                                exact L166 _ 0 (by omega) (Nat.lt_succ_self _)
                              · refine V.goto (pc := 151) 214 dX9_laysSets_151 (by decide) ?_
                                refine V.iinc (pc := 214) (v := nI (x + 1)) (lv' := [(0, .ref (G.2.2 96)), (1, .int (nI (x + 1))), (2, .int (nI (wholeUp a.S x i).toNat)), (3, .int (nI i))]) 1 dX9_laysSets_214 rfl (nn_inc _) (by decide) rfl ?_
                                refine V.goto (pc := 217) 69 dX9_laysSets_217 (by decide) ?_
                                refine V.sub (lv' := [(0, .ref (G.2.2 96)), (1, .int (nI (x + 1)))]) [0, 1] rfl ?_
                                exact ih69 (x + 1) (si (si μ1 115 x (nI (lenOf a.S x))) 114 x (-1)) (by omega) ((hks.arr _ _ (by decide)).arr _ _ (by decide)) h116 h117 (hlu.put _ (by rw [cvI, if_neg (by rw [← hwe, h_148]; decide)]) rfl rfl) (by omega)
                            · refine V.iload_n (pc := 95) 1 dX9_laysSets_95 rfl ?_
                              refine V.i2l (pc := 96) (v := lN x) dX9_laysSets_96 (nI_l (by omega)) ?_
                              refine V.iload_n (pc := 97) 3 dX9_laysSets_97 rfl ?_
                              refine cp_X9_140 (pc := 98) dX9_laysSets_98 (ok_X9_has x i (by omega) (by omega)) (by omega) (Nat.le_of_ble_eq_true rfl) ?_
                              refine V.ifB_eq (pc := 101) 117 dX9_laysSets_101 (by decide) (fun h_101 => ?_) (fun h_101 => ?_)
                              · refine V.iconst (pc := 117) (v := nI 1) dX9_laysSets_117 (by decide) ?_
                                refine V.goto (pc := 118) 122 dX9_laysSets_118 (by decide) ?_
                                refine V.istore_n (pc := 122) (lv' := [(0, .ref (G.2.2 96)), (1, .int (nI x)), (2, .int (nI 1)), (3, .int (nI i))]) dX9_laysSets_122 (by decide) rfl ?_
                                refine V.iinc (pc := 123) (v := nI (i + 1)) (lv' := [(0, .ref (G.2.2 96)), (1, .int (nI x)), (2, .int (nI 1)), (3, .int (nI (i + 1)))]) 3 dX9_laysSets_123 rfl (nn_inc _) (by decide) rfl ?_
                                refine V.goto (pc := 126) 83 dX9_laysSets_126 (by decide) ?_
                                have e_2 : nI 1 = nI (wholeUp a.S x (i + 1)).toNat := by rw [wholeUp, h_92, h_101]; rfl
                                refine V.lvs (lv' := [(0, .ref (G.2.2 96)), (1, .int (nI x)), (2, .int (nI (wholeUp a.S x (i + 1)).toNat)), (3, .int (nI (i + 1)))]) (congrArg (fun z => ([(0, .ref (G.2.2 96)), (1, .int (nI x)), (2, .int z), (3, .int (nI (i + 1)))] : List (Nat × Value))) e_2) ?_
                                exact ih83 (i + 1) (by omega) (by omega)
                              · have hcl := chain_ltn (S := a.S) h_88
                                have had := adn_le (chain a.S i) x
                                refine V.aload_n (pc := 104) 0 dX9_laysSets_104 rfl ?_
                                refine gf_X9_55 (pc := 105) dX9_laysSets_105 ?_
                                refine V.iload_n (pc := 108) 3 dX9_laysSets_108 rfl ?_
                                refine V.iald (pc := 109) (k := 117) (n := 16) (v := nI (chain a.S i)) (Nat.le_of_ble_eq_true rfl) (fun _ _ => rfl) i (by omega) (by decide) dX9_laysSets_109 (h117 i (by omega)) ?_
                                refine V.iload_n (pc := 110) 1 dX9_laysSets_110 rfl ?_
                                refine V.iconst (pc := 111) (v := (-1)) dX9_laysSets_111 (by decide) ?_
                                refine V.ixor (pc := 112) (v := nI x ^^^ (-1)) dX9_laysSets_112 rfl ?_
                                refine V.iand (pc := 113) (v := nI (adn (chain a.S i) x)) dX9_laysSets_113 (nn_adn _ _) ?_
                                refine V.ifN_ne (pc := 114) 121 dX9_laysSets_114 (by decide) (by omega) (fun h_114 => ?_) (fun h_114 => ?_)
                                · refine V.iconst (pc := 121) (v := nI 0) dX9_laysSets_121 (by decide) ?_
                                  refine V.istore_n (pc := 122) (lv' := [(0, .ref (G.2.2 96)), (1, .int (nI x)), (2, .int (nI 0)), (3, .int (nI i))]) dX9_laysSets_122 (by decide) rfl ?_
                                  refine V.iinc (pc := 123) (v := nI (i + 1)) (lv' := [(0, .ref (G.2.2 96)), (1, .int (nI x)), (2, .int (nI 0)), (3, .int (nI (i + 1)))]) 3 dX9_laysSets_123 rfl (nn_inc _) (by decide) rfl ?_
                                  refine V.goto (pc := 126) 83 dX9_laysSets_126 (by decide) ?_
                                  have e_2 : nI 0 = nI (wholeUp a.S x (i + 1)).toNat := by rw [wholeUp, h_92, h_101]; show nI 0 = nI (adn (chain a.S i) x == 0).toNat; rw [show (adn (chain a.S i) x == 0) = false from by simp; omega]; rfl
                                  refine V.lvs (lv' := [(0, .ref (G.2.2 96)), (1, .int (nI x)), (2, .int (nI (wholeUp a.S x (i + 1)).toNat)), (3, .int (nI (i + 1)))]) (congrArg (fun z => ([(0, .ref (G.2.2 96)), (1, .int (nI x)), (2, .int z), (3, .int (nI (i + 1)))] : List (Nat × Value))) e_2) ?_
                                  exact ih83 (i + 1) (by omega) (by omega)
                                · refine V.iconst (pc := 117) (v := nI 1) dX9_laysSets_117 (by decide) ?_
                                  refine V.goto (pc := 118) 122 dX9_laysSets_118 (by decide) ?_
                                  refine V.istore_n (pc := 122) (lv' := [(0, .ref (G.2.2 96)), (1, .int (nI x)), (2, .int (nI 1)), (3, .int (nI i))]) dX9_laysSets_122 (by decide) rfl ?_
                                  refine V.iinc (pc := 123) (v := nI (i + 1)) (lv' := [(0, .ref (G.2.2 96)), (1, .int (nI x)), (2, .int (nI 1)), (3, .int (nI (i + 1)))]) 3 dX9_laysSets_123 rfl (nn_inc _) (by decide) rfl ?_
                                  refine V.goto (pc := 126) 83 dX9_laysSets_126 (by decide) ?_
                                  have e_2 : nI 1 = nI (wholeUp a.S x (i + 1)).toNat := by rw [wholeUp, h_92, h_101, h_114]; rfl
                                  refine V.lvs (lv' := [(0, .ref (G.2.2 96)), (1, .int (nI x)), (2, .int (nI (wholeUp a.S x (i + 1)).toNat)), (3, .int (nI (i + 1)))]) (congrArg (fun z => ([(0, .ref (G.2.2 96)), (1, .int (nI x)), (2, .int z), (3, .int (nI (i + 1)))] : List (Nat × Value))) e_2) ?_
                                  exact ih83 (i + 1) (by omega) (by omega)
                      have e_2 : nI 1 = nI (wholeUp a.S x 0).toNat := rfl
                      refine V.lvs (lv' := [(0, .ref (G.2.2 96)), (1, .int (nI x)), (2, .int (nI (wholeUp a.S x 0).toNat)), (3, .int (nI 0))]) (congrArg (fun z => ([(0, .ref (G.2.2 96)), (1, .int (nI x)), (2, .int z), (3, .int (nI 0))] : List (Nat × Value))) e_2) ?_
                      exact L83 _ 0 (by omega) (Nat.lt_succ_self _)
                exact L69 _ 0 μ1 (by omega) hks h116 (fun j hj => h117 j (by omega)) (fun y hy => absurd hy (by omega)) (Nat.lt_succ_self _)
              · refine V.aload_n (pc := 50) 0 dX9_laysSets_50 rfl ?_
                refine gf_X9_55 (pc := 51) dX9_laysSets_51 ?_
                refine V.iload_n (pc := 54) 1 dX9_laysSets_54 rfl ?_
                refine V.aload_n (pc := 55) 0 dX9_laysSets_55 rfl ?_
                refine V.iload_n (pc := 56) 1 dX9_laysSets_56 rfl ?_
                refine cp_X9_163 (pc := 57) dX9_laysSets_57 (ok_X9_chain a.S hR1 i (by omega)) (by omega) (Nat.le_of_ble_eq_true rfl) ?_
                refine V.iast (pc := 60) (k := 117) (n := 16) (v := nI (chain a.S i)) (Nat.le_of_ble_eq_true rfl) (fun _ _ => rfl) i (by omega) (by decide) dX9_laysSets_60 rfl ?_
                refine V.iinc (pc := 61) (v := nI (i + 1)) (lv' := [(0, .ref (G.2.2 96)), (1, .int (nI (i + 1)))]) 1 dX9_laysSets_61 rfl (nn_inc _) (by decide) rfl ?_
                refine V.goto (pc := 64) 42 dX9_laysSets_64 (by decide) ?_
                exact ih42 (i + 1) (si μ1 117 i (nI (chain a.S i))) (by omega) (hks.arr _ _ (by decide)) (fun j hj => (congrFun (si_c _ _ _ (by decide)) j).trans (h116 j hj)) (arr_up h117) (by omega)
          exact L42 _ 0 μ1 (by omega) hks (fun j hj => h116 j (by omega)) (fun j hj => absurd hj (by omega)) (Nat.lt_succ_self _)
        · refine V.aload_n (pc := 23) 0 dX9_laysSets_23 rfl ?_
          refine gf_X9_52 (pc := 24) dX9_laysSets_24 ?_
          refine V.iload_n (pc := 27) 1 dX9_laysSets_27 rfl ?_
          refine V.aload_n (pc := 28) 0 dX9_laysSets_28 rfl ?_
          refine V.iload_n (pc := 29) 1 dX9_laysSets_29 rfl ?_
          refine cp_X9_150 (pc := 30) dX9_laysSets_30 (ok_X9_weightOf a.S hR1 i (by omega)) (by omega) (Nat.le_of_ble_eq_true rfl) ?_
          refine V.iast (pc := 33) (k := 116) (n := 48) (v := nI (a.S.wt i)) (Nat.le_of_ble_eq_true rfl) (fun _ _ => rfl) i (by omega) (by decide) dX9_laysSets_33 rfl ?_
          refine V.iinc (pc := 34) (v := nI (i + 1)) (lv' := [(0, .ref (G.2.2 96)), (1, .int (nI (i + 1)))]) 1 dX9_laysSets_34 rfl (nn_inc _) (by decide) rfl ?_
          refine V.goto (pc := 37) 15 dX9_laysSets_37 (by decide) ?_
          exact ih15 (i + 1) (si μ1 116 i (nI (a.S.wt i))) (by omega) (hks.arr _ _ (by decide)) (arr_up h116) (by omega)
    exact L15 _ 0 (si μ 96 13 (nI 1)) (by omega) (⟨fun i hi => si_i _ _ _ hi _, si_s _ _ _ _, fun c _ hc => si_c _ _ _ hc, rfl⟩) (fun j hj => absurd hj (by omega)) (Nat.lt_succ_self _)
  · exact V.vret (pc := 7) hF dX9_laysSets_7 ⟨rfl, hRf, hq2 h_4, rfl, Fr.refl _ _⟩
/-! best of the sets so far -/
theorem B_step {S : TS} {o br mL lC x : Nat} {f : Bool} {b : Nat} (h : Best S o br mL lC (fun y => y < x ∨ y = x) f b) : Best S o br mL lC (fun y => y < x + 1) f b := h.cong (fun y _ => by constructor <;> intro z <;> omega)
theorem B_skip {S : TS} {o br mL lC x : Nat} {f : Bool} {b : Nat} (h : Best S o br mL lC (fun y => y < x) f b) (hn : ¬ Cand S br mL lC x) : Best S o br mL lC (fun y => y < x + 1) f b := B_step (h.skip (D := fun y => y = x) (fun y hy hc => absurd (hy ▸ hc) hn))
theorem B_take {S : TS} {o br mL lC x : Nat} {f : Bool} {b : Nat} (h : Best S o br mL lC (fun y => y < x) f b) (hc : Cand S br mL lC x) (hb : f = true → Bt S o x b) : Best S o br mL lC (fun y => y < x + 1) true x := B_step (h.take (D := fun y => y = x) rfl hc (fun y hy _ => Or.inl hy) hb)
theorem B_stay {S : TS} {o br mL lC x : Nat} {f : Bool} {b : Nat} (h : Best S o br mL lC (fun y => y < x) f b) (hf : f = true) (hb : Bt S o b x) : Best S o br mL lC (fun y => y < x + 1) f b := B_step (h.skip (D := fun y => y = x) (fun y hy _ => ⟨hf, hy ▸ hb⟩))
theorem B_zero (S : TS) (o br mL lC : Nat) : Best S o br mL lC (fun y => y < 0) false 0 := Or.inl ⟨rfl, rfl, fun y hy => absurd hy (by omega)⟩
theorem B_all {S : TS} {o br mL lC : Nat} {f : Bool} {b : Nat} (h : Best S o br mL lC (fun y => y < 2 ^ S.n) f b) : Best S o br mL lC (fun _ => True) f b := h.cong (fun y hy => ⟨fun _ => trivial, fun _ => hy⟩)
theorem B_cand {S : TS} {o br mL lC : Nat} {C : Nat → Prop} {b : Nat} (h : Best S o br mL lC C true b) : C b ∧ Cand S br mL lC b := by
  rcases h with ⟨h1, -⟩ | ⟨-, h2, h3, -⟩
  · cases h1
  · exact ⟨h2, h3⟩
theorem best_ex (S : TS) (o br mL lC : Nat) : ∃ f b, Best S o br mL lC (fun _ => True) f b := by
  have key : ∀ x, ∃ f b, Best S o br mL lC (fun y => y < x) f b := by
    intro x
    induction x with
    | zero => exact ⟨_, _, B_zero S o br mL lC⟩
    | succ x ih =>
      obtain ⟨f, b, h⟩ := ih
      by_cases hc : Cand S br mL lC x
      · rcases Bt.tri S o x b with e | e | e
        · exact ⟨_, _, B_take h hc (fun _ => e)⟩
        · cases f with
          | false => exact ⟨_, _, B_take h hc (fun z => absurd z (by decide))⟩
          | true =>
            have := (B_cand h).1
            omega
        · cases f with
          | false => exact ⟨_, _, B_take h hc (fun z => absurd z (by decide))⟩
          | true => exact ⟨_, _, B_stay h rfl e⟩
      · exact ⟨_, _, B_skip h hc⟩
  obtain ⟨f, b, h⟩ := key (2 ^ S.n)
  exact ⟨f, b, B_all h⟩
theorem whole_0 (S : TS) : whole S 0 = true := whole_iff.mpr (fun s _ h => absurd h (by rw [Nat.zero_testBit]; decide))
theorem lenUp_z (S : TS) : ∀ i, lenUp S 0 i = 0
  | 0 => rfl
  | i + 1 => by rw [lenUp, Nat.zero_testBit, lenUp_z S i]; rfl
theorem cand_0 (S : TS) (br m : Nat) : Cand S br m 0 0 := ⟨Nat.two_pow_pos _, whole_0 S, fun s _ => Nat.zero_testBit s, by show lenUp S 0 S.n ≤ m; rw [lenUp_z]; omega, Nat.zero_le _⟩
theorem full_bit {n i : Nat} (h : i < n) : (2 ^ n - 1).testBit i = true := by rw [Nat.testBit_two_pow_sub_one]; exact decide_eq_true h
theorem whole_full (S : TS) : whole S (2 ^ S.n - 1) = true := whole_iff.mpr (fun s hs _ => adn_zero.mpr (fun i hi => full_bit (bit_lt hi (chain_ltn hs))))
theorem cov_full {S : TS} {x : Nat} (hx : x < 2 ^ S.n) : cov S x ≤ cov S (2 ^ S.n - 1) := by
  apply wOf_mono
  intro w hw
  rw [bagOf_bit] at hw ⊢
  obtain ⟨s, h1, h2, h3⟩ := hw
  exact ⟨s, h1, full_bit h1, h3⟩
theorem cv_t {S : TS} {x : Nat} (h : whole S x = true) : cvI S x = nI (cov S x) := if_pos h
theorem cv_f {S : TS} {x : Nat} (h : ¬ whole S x = true) : cvI S x = -1 := if_neg h
theorem bt0 {S : TS} {x y : Nat} (hx : cov S x ≤ 48000) (hy : cov S y ≤ 48000) (h : cov S y < cov S x ∨ (cov S x = cov S y ∧ (lenOf S x < lenOf S y ∨ (lenOf S x = lenOf S y ∧ x < y)))) : Bt S 0 x y := by
  show 50000 - cov S x < 50000 - cov S y ∨ (50000 - cov S x = 50000 - cov S y ∧ (lenOf S x < lenOf S y ∨ (lenOf S x = lenOf S y ∧ x < y)))
  omega
theorem ok_X9_bestWithin {G : Gx} {μ : Mu} (S : TS) (hR : Rw μ 99 S) (hL : Laid μ S) (m br : Nat) (hm : m < 2 ^ 31) (hbr : br ≤ S.n) (f1 : Bool) (b1 : Nat) (hB1 : Best S 0 br m 0 (fun _ => True) f1 b1) : RunsP 1 M_X9_bestWithin [.ref (G.2.2 96), .int (nI m), .int (pv br)] G μ (.int (nI b1)) := by
  have hvs := hR.vs
  have hn16 := hvs.n16
  have hu48 := hvs.u48
  have hT2 := hvs.tk
  have hp16 := pow16 hvs
  have hB9 := hvs.B9
  have hp48 := pow48 hvs
  have hLL := hvs.le
  have hpp := Nat.two_pow_pos S.n
  refine Runs.go RX9 rfl (by decide) [(0, .ref (G.2.2 96)), (1, .int (nI m)), (2, .int (pv br))] (Nat.le_of_ble_eq_true rfl) rfl (fun X hF => ?_)
  refine V.iconst (pc := 0) (v := nI 0) dX9_bestWithin_0 (by decide) ?_
  refine V.istore_n (pc := 1) (lv' := [(0, .ref (G.2.2 96)), (1, .int (nI m)), (2, .int (pv br)), (3, .int (nI 0))]) dX9_bestWithin_1 (by decide) rfl ?_
  refine V.iconst (pc := 2) (v := nI 1) dX9_bestWithin_2 (by decide) ?_
  refine V.istore (pc := 3) (lv' := [(0, .ref (G.2.2 96)), (1, .int (nI m)), (2, .int (pv br)), (3, .int (nI 0)), (4, .int (nI 1))]) dX9_bestWithin_3 (by decide) rfl ?_
  have L5 : ∀ (n_ : Nat) (x bb : Nat), (1 ≤ x ∧ x ≤ 2 ^ S.n) → (Best S 0 br m 0 (fun y => y < x) true bb) → 2 ^ S.n - x < n_ → V G RX9 cX9_bestWithin 5 1 X 5 [(0, .ref (G.2.2 96)), (1, .int (nI m)), (2, .int (pv br)), (3, .int (nI bb)), (4, .int (nI x))] [] μ := by
    intro n_
    induction n_ with
    | zero => intro x bb hx hB hm_; exact absurd hm_ (Nat.not_lt_zero _)
    | succ n_ ih5 =>
      intro x bb hx hB hm_
      have hbb := B_cand hB
      have hbx := hbb.1
      have hwb := hbb.2.2.1
      have hcb : cov S bb ≤ 48000 := wOf_le hvs _
      have hlb := lenOf_le hvs bb
      refine V.iload (pc := 5) 4 dX9_bestWithin_5 rfl ?_
      refine V.iconst (pc := 7) (v := nI 1) dX9_bestWithin_7 (by decide) ?_
      refine V.aload_n (pc := 8) 0 dX9_bestWithin_8 rfl ?_
      refine cp_X9_133 (pc := 9) dX9_bestWithin_9 (ok_X9_many S hR) (by omega) (Nat.le_of_ble_eq_true rfl) ?_
      refine V.ishl (pc := 12) (v := nI (2 ^ S.n)) dX9_bestWithin_12 (nn_shl1 (by omega)) ?_
      refine V.icmpN_ge (pc := 13) 113 dX9_bestWithin_13 (by decide) (by omega) (by omega) (fun h_13 => ?_) (fun h_13 => ?_)
      · obtain ⟨-, hbe⟩ := hB1.one (B_all (by rw [show 2 ^ S.n = x by omega]; exact hB))
        refine V.iload_n (pc := 113) 3 dX9_bestWithin_113 rfl ?_
        exact V.iret (pc := 114) hF dX9_bestWithin_114 ⟨by rw [hbe], rfl⟩
      · have hcx : cov S x ≤ 48000 := wOf_le hvs _
        have hlx := lenOf_le hvs x
        by_cases hw : whole S x = true
        · refine V.aload_n (pc := 16) 0 dX9_bestWithin_16 rfl ?_
          refine gf_X9_46 (pc := 17) dX9_bestWithin_17 ?_
          refine V.iload (pc := 20) 4 dX9_bestWithin_20 rfl ?_
          refine V.iald (pc := 22) (k := 114) (n := 65536) (v := nI (cov S x)) (Nat.le_of_ble_eq_true rfl) (fun _ _ => rfl) x (by omega) (by decide) dX9_bestWithin_22 ((hL x (by omega)).1.trans (cv_t hw)) ?_
          refine V.iconst (pc := 23) (v := (-1)) dX9_bestWithin_23 (by decide) ?_
          refine V.icmp_eq (pc := 24) 107 dX9_bestWithin_24 (by decide) (fun h_24 => ?_) (fun h_24 => ?_)
          · exact absurd h_24 (nn_ne_m1 (by omega))
          · refine V.aload_n (pc := 27) 0 dX9_bestWithin_27 rfl ?_
            refine gf_X9_49 (pc := 28) dX9_bestWithin_28 ?_
            refine V.iload (pc := 31) 4 dX9_bestWithin_31 rfl ?_
            refine V.iald (pc := 33) (k := 115) (n := 65536) (v := nI (lenOf S x)) (Nat.le_of_ble_eq_true rfl) (fun _ _ => rfl) x (by omega) (by decide) dX9_bestWithin_33 (hL x (by omega)).2 ?_
            refine V.iload_n (pc := 34) 1 dX9_bestWithin_34 rfl ?_
            refine V.icmpN_gt (pc := 35) 107 dX9_bestWithin_35 (by decide) (by omega) (by omega) (fun h_35 => ?_) (fun h_35 => ?_)
            · refine V.iinc (pc := 107) (v := nI (x + 1)) (lv' := [(0, .ref (G.2.2 96)), (1, .int (nI m)), (2, .int (pv br)), (3, .int (nI bb)), (4, .int (nI (x + 1)))]) 4 dX9_bestWithin_107 rfl (nn_inc _) (by decide) rfl ?_
              refine V.goto (pc := 110) 5 dX9_bestWithin_110 (by decide) ?_
              exact ih5 (x + 1) bb (by omega) (B_skip hB (fun z => by have := z.2.2.2.1; omega)) (by omega)
            · refine V.iload_n (pc := 38) 2 dX9_bestWithin_38 rfl ?_
              refine V.iconst (pc := 39) (v := (-1)) dX9_bestWithin_39 (by decide) ?_
              refine V.icmp_eq (pc := 40) 56 dX9_bestWithin_40 (by decide) (fun h_40 => ?_) (fun h_40 => ?_)
              · have hbz : br = 0 := (pv_ne (by omega)).mp h_40
                refine V.aload_n (pc := 56) 0 dX9_bestWithin_56 rfl ?_
                refine gf_X9_46 (pc := 57) dX9_bestWithin_57 ?_
                refine V.iload (pc := 60) 4 dX9_bestWithin_60 rfl ?_
                refine V.iald (pc := 62) (k := 114) (n := 65536) (v := nI (cov S x)) (Nat.le_of_ble_eq_true rfl) (fun _ _ => rfl) x (by omega) (by decide) dX9_bestWithin_62 ((hL x (by omega)).1.trans (cv_t hw)) ?_
                refine V.aload_n (pc := 63) 0 dX9_bestWithin_63 rfl ?_
                refine gf_X9_46 (pc := 64) dX9_bestWithin_64 ?_
                refine V.iload_n (pc := 67) 3 dX9_bestWithin_67 rfl ?_
                refine V.iald (pc := 68) (k := 114) (n := 65536) (v := nI (cov S bb)) (Nat.le_of_ble_eq_true rfl) (fun _ _ => rfl) bb (by omega) (by decide) dX9_bestWithin_68 ((hL bb (by omega)).1.trans (cv_t hwb)) ?_
                refine V.icmpN_gt (pc := 69) 104 dX9_bestWithin_69 (by decide) (by omega) (by omega) (fun h_69 => ?_) (fun h_69 => ?_)
                · refine V.iload (pc := 104) 4 dX9_bestWithin_104 rfl ?_
                  refine V.istore_n (pc := 106) (lv' := [(0, .ref (G.2.2 96)), (1, .int (nI m)), (2, .int (pv br)), (3, .int (nI x)), (4, .int (nI x))]) dX9_bestWithin_106 (by decide) rfl ?_
                  refine V.iinc (pc := 107) (v := nI (x + 1)) (lv' := [(0, .ref (G.2.2 96)), (1, .int (nI m)), (2, .int (pv br)), (3, .int (nI x)), (4, .int (nI (x + 1)))]) 4 dX9_bestWithin_107 rfl (nn_inc _) (by decide) rfl ?_
                  refine V.goto (pc := 110) 5 dX9_bestWithin_110 (by decide) ?_
                  exact ih5 (x + 1) x (by omega) (B_take hB ⟨h_13, hw, fun s e => by omega, by omega, Nat.zero_le _⟩ (fun _ => bt0 hcx hcb (Or.inl (by omega)))) (by omega)
                · refine V.aload_n (pc := 72) 0 dX9_bestWithin_72 rfl ?_
                  refine gf_X9_46 (pc := 73) dX9_bestWithin_73 ?_
                  refine V.iload (pc := 76) 4 dX9_bestWithin_76 rfl ?_
                  refine V.iald (pc := 78) (k := 114) (n := 65536) (v := nI (cov S x)) (Nat.le_of_ble_eq_true rfl) (fun _ _ => rfl) x (by omega) (by decide) dX9_bestWithin_78 ((hL x (by omega)).1.trans (cv_t hw)) ?_
                  refine V.aload_n (pc := 79) 0 dX9_bestWithin_79 rfl ?_
                  refine gf_X9_46 (pc := 80) dX9_bestWithin_80 ?_
                  refine V.iload_n (pc := 83) 3 dX9_bestWithin_83 rfl ?_
                  refine V.iald (pc := 84) (k := 114) (n := 65536) (v := nI (cov S bb)) (Nat.le_of_ble_eq_true rfl) (fun _ _ => rfl) bb (by omega) (by decide) dX9_bestWithin_84 ((hL bb (by omega)).1.trans (cv_t hwb)) ?_
                  refine V.icmpN_ne (pc := 85) 107 dX9_bestWithin_85 (by decide) (by omega) (by omega) (fun h_85 => ?_) (fun h_85 => ?_)
                  · refine V.iinc (pc := 107) (v := nI (x + 1)) (lv' := [(0, .ref (G.2.2 96)), (1, .int (nI m)), (2, .int (pv br)), (3, .int (nI bb)), (4, .int (nI (x + 1)))]) 4 dX9_bestWithin_107 rfl (nn_inc _) (by decide) rfl ?_
                    refine V.goto (pc := 110) 5 dX9_bestWithin_110 (by decide) ?_
                    exact ih5 (x + 1) bb (by omega) (B_stay hB rfl (bt0 hcb hcx (Or.inl (by omega)))) (by omega)
                  · refine V.aload_n (pc := 88) 0 dX9_bestWithin_88 rfl ?_
                    refine gf_X9_49 (pc := 89) dX9_bestWithin_89 ?_
                    refine V.iload (pc := 92) 4 dX9_bestWithin_92 rfl ?_
                    refine V.iald (pc := 94) (k := 115) (n := 65536) (v := nI (lenOf S x)) (Nat.le_of_ble_eq_true rfl) (fun _ _ => rfl) x (by omega) (by decide) dX9_bestWithin_94 (hL x (by omega)).2 ?_
                    refine V.aload_n (pc := 95) 0 dX9_bestWithin_95 rfl ?_
                    refine gf_X9_49 (pc := 96) dX9_bestWithin_96 ?_
                    refine V.iload_n (pc := 99) 3 dX9_bestWithin_99 rfl ?_
                    refine V.iald (pc := 100) (k := 115) (n := 65536) (v := nI (lenOf S bb)) (Nat.le_of_ble_eq_true rfl) (fun _ _ => rfl) bb (by omega) (by decide) dX9_bestWithin_100 (hL bb (by omega)).2 ?_
                    refine V.icmpN_ge (pc := 101) 107 dX9_bestWithin_101 (by decide) (by omega) (by omega) (fun h_101 => ?_) (fun h_101 => ?_)
                    · refine V.iinc (pc := 107) (v := nI (x + 1)) (lv' := [(0, .ref (G.2.2 96)), (1, .int (nI m)), (2, .int (pv br)), (3, .int (nI bb)), (4, .int (nI (x + 1)))]) 4 dX9_bestWithin_107 rfl (nn_inc _) (by decide) rfl ?_
                      refine V.goto (pc := 110) 5 dX9_bestWithin_110 (by decide) ?_
                      exact ih5 (x + 1) bb (by omega) (B_stay hB rfl (bt0 hcb hcx (Or.inr ⟨by omega, by omega⟩))) (by omega)
                    · refine V.iload (pc := 104) 4 dX9_bestWithin_104 rfl ?_
                      refine V.istore_n (pc := 106) (lv' := [(0, .ref (G.2.2 96)), (1, .int (nI m)), (2, .int (pv br)), (3, .int (nI x)), (4, .int (nI x))]) dX9_bestWithin_106 (by decide) rfl ?_
                      refine V.iinc (pc := 107) (v := nI (x + 1)) (lv' := [(0, .ref (G.2.2 96)), (1, .int (nI m)), (2, .int (pv br)), (3, .int (nI x)), (4, .int (nI (x + 1)))]) 4 dX9_bestWithin_107 rfl (nn_inc _) (by decide) rfl ?_
                      refine V.goto (pc := 110) 5 dX9_bestWithin_110 (by decide) ?_
                      exact ih5 (x + 1) x (by omega) (B_take hB ⟨h_13, hw, fun s e => by omega, by omega, Nat.zero_le _⟩ (fun _ => bt0 hcx hcb (Or.inr ⟨by omega, by omega⟩))) (by omega)
              · have hbz : br ≠ 0 := fun z => h_40 ((pv_ne (by omega)).mpr z)
                refine V.iload (pc := 43) 4 dX9_bestWithin_43 rfl ?_
                refine V.i2l (pc := 45) (v := lN x) dX9_bestWithin_45 (nI_l (by omega)) ?_
                refine V.iload_n (pc := 46) 2 dX9_bestWithin_46 rfl ?_
                refine V.st (st' := [.int (nI (br - 1)), .long (lN x)]) (by rw [show pv br = nI (br - 1) from if_neg hbz]) ?_
                refine cp_X9_140 (pc := 47) dX9_bestWithin_47 (ok_X9_has x (br - 1) (by omega) (by omega)) (by omega) (Nat.le_of_ble_eq_true rfl) ?_
                refine V.ifB_eq (pc := 50) 56 dX9_bestWithin_50 (by decide) (fun h_50 => ?_) (fun h_50 => ?_)
                · refine V.aload_n (pc := 56) 0 dX9_bestWithin_56 rfl ?_
                  refine gf_X9_46 (pc := 57) dX9_bestWithin_57 ?_
                  refine V.iload (pc := 60) 4 dX9_bestWithin_60 rfl ?_
                  refine V.iald (pc := 62) (k := 114) (n := 65536) (v := nI (cov S x)) (Nat.le_of_ble_eq_true rfl) (fun _ _ => rfl) x (by omega) (by decide) dX9_bestWithin_62 ((hL x (by omega)).1.trans (cv_t hw)) ?_
                  refine V.aload_n (pc := 63) 0 dX9_bestWithin_63 rfl ?_
                  refine gf_X9_46 (pc := 64) dX9_bestWithin_64 ?_
                  refine V.iload_n (pc := 67) 3 dX9_bestWithin_67 rfl ?_
                  refine V.iald (pc := 68) (k := 114) (n := 65536) (v := nI (cov S bb)) (Nat.le_of_ble_eq_true rfl) (fun _ _ => rfl) bb (by omega) (by decide) dX9_bestWithin_68 ((hL bb (by omega)).1.trans (cv_t hwb)) ?_
                  refine V.icmpN_gt (pc := 69) 104 dX9_bestWithin_69 (by decide) (by omega) (by omega) (fun h_69 => ?_) (fun h_69 => ?_)
                  · refine V.iload (pc := 104) 4 dX9_bestWithin_104 rfl ?_
                    refine V.istore_n (pc := 106) (lv' := [(0, .ref (G.2.2 96)), (1, .int (nI m)), (2, .int (pv br)), (3, .int (nI x)), (4, .int (nI x))]) dX9_bestWithin_106 (by decide) rfl ?_
                    refine V.iinc (pc := 107) (v := nI (x + 1)) (lv' := [(0, .ref (G.2.2 96)), (1, .int (nI m)), (2, .int (pv br)), (3, .int (nI x)), (4, .int (nI (x + 1)))]) 4 dX9_bestWithin_107 rfl (nn_inc _) (by decide) rfl ?_
                    refine V.goto (pc := 110) 5 dX9_bestWithin_110 (by decide) ?_
                    exact ih5 (x + 1) x (by omega) (B_take hB ⟨h_13, hw, fun s e => by rw [show s = br - 1 by omega]; exact h_50, by omega, Nat.zero_le _⟩ (fun _ => bt0 hcx hcb (Or.inl (by omega)))) (by omega)
                  · refine V.aload_n (pc := 72) 0 dX9_bestWithin_72 rfl ?_
                    refine gf_X9_46 (pc := 73) dX9_bestWithin_73 ?_
                    refine V.iload (pc := 76) 4 dX9_bestWithin_76 rfl ?_
                    refine V.iald (pc := 78) (k := 114) (n := 65536) (v := nI (cov S x)) (Nat.le_of_ble_eq_true rfl) (fun _ _ => rfl) x (by omega) (by decide) dX9_bestWithin_78 ((hL x (by omega)).1.trans (cv_t hw)) ?_
                    refine V.aload_n (pc := 79) 0 dX9_bestWithin_79 rfl ?_
                    refine gf_X9_46 (pc := 80) dX9_bestWithin_80 ?_
                    refine V.iload_n (pc := 83) 3 dX9_bestWithin_83 rfl ?_
                    refine V.iald (pc := 84) (k := 114) (n := 65536) (v := nI (cov S bb)) (Nat.le_of_ble_eq_true rfl) (fun _ _ => rfl) bb (by omega) (by decide) dX9_bestWithin_84 ((hL bb (by omega)).1.trans (cv_t hwb)) ?_
                    refine V.icmpN_ne (pc := 85) 107 dX9_bestWithin_85 (by decide) (by omega) (by omega) (fun h_85 => ?_) (fun h_85 => ?_)
                    · refine V.iinc (pc := 107) (v := nI (x + 1)) (lv' := [(0, .ref (G.2.2 96)), (1, .int (nI m)), (2, .int (pv br)), (3, .int (nI bb)), (4, .int (nI (x + 1)))]) 4 dX9_bestWithin_107 rfl (nn_inc _) (by decide) rfl ?_
                      refine V.goto (pc := 110) 5 dX9_bestWithin_110 (by decide) ?_
                      exact ih5 (x + 1) bb (by omega) (B_stay hB rfl (bt0 hcb hcx (Or.inl (by omega)))) (by omega)
                    · refine V.aload_n (pc := 88) 0 dX9_bestWithin_88 rfl ?_
                      refine gf_X9_49 (pc := 89) dX9_bestWithin_89 ?_
                      refine V.iload (pc := 92) 4 dX9_bestWithin_92 rfl ?_
                      refine V.iald (pc := 94) (k := 115) (n := 65536) (v := nI (lenOf S x)) (Nat.le_of_ble_eq_true rfl) (fun _ _ => rfl) x (by omega) (by decide) dX9_bestWithin_94 (hL x (by omega)).2 ?_
                      refine V.aload_n (pc := 95) 0 dX9_bestWithin_95 rfl ?_
                      refine gf_X9_49 (pc := 96) dX9_bestWithin_96 ?_
                      refine V.iload_n (pc := 99) 3 dX9_bestWithin_99 rfl ?_
                      refine V.iald (pc := 100) (k := 115) (n := 65536) (v := nI (lenOf S bb)) (Nat.le_of_ble_eq_true rfl) (fun _ _ => rfl) bb (by omega) (by decide) dX9_bestWithin_100 (hL bb (by omega)).2 ?_
                      refine V.icmpN_ge (pc := 101) 107 dX9_bestWithin_101 (by decide) (by omega) (by omega) (fun h_101 => ?_) (fun h_101 => ?_)
                      · refine V.iinc (pc := 107) (v := nI (x + 1)) (lv' := [(0, .ref (G.2.2 96)), (1, .int (nI m)), (2, .int (pv br)), (3, .int (nI bb)), (4, .int (nI (x + 1)))]) 4 dX9_bestWithin_107 rfl (nn_inc _) (by decide) rfl ?_
                        refine V.goto (pc := 110) 5 dX9_bestWithin_110 (by decide) ?_
                        exact ih5 (x + 1) bb (by omega) (B_stay hB rfl (bt0 hcb hcx (Or.inr ⟨by omega, by omega⟩))) (by omega)
                      · refine V.iload (pc := 104) 4 dX9_bestWithin_104 rfl ?_
                        refine V.istore_n (pc := 106) (lv' := [(0, .ref (G.2.2 96)), (1, .int (nI m)), (2, .int (pv br)), (3, .int (nI x)), (4, .int (nI x))]) dX9_bestWithin_106 (by decide) rfl ?_
                        refine V.iinc (pc := 107) (v := nI (x + 1)) (lv' := [(0, .ref (G.2.2 96)), (1, .int (nI m)), (2, .int (pv br)), (3, .int (nI x)), (4, .int (nI (x + 1)))]) 4 dX9_bestWithin_107 rfl (nn_inc _) (by decide) rfl ?_
                        refine V.goto (pc := 110) 5 dX9_bestWithin_110 (by decide) ?_
                        exact ih5 (x + 1) x (by omega) (B_take hB ⟨h_13, hw, fun s e => by rw [show s = br - 1 by omega]; exact h_50, by omega, Nat.zero_le _⟩ (fun _ => bt0 hcx hcb (Or.inr ⟨by omega, by omega⟩))) (by omega)
                · refine V.goto (pc := 53) 107 dX9_bestWithin_53 (by decide) ?_
                  refine V.iinc (pc := 107) (v := nI (x + 1)) (lv' := [(0, .ref (G.2.2 96)), (1, .int (nI m)), (2, .int (pv br)), (3, .int (nI bb)), (4, .int (nI (x + 1)))]) 4 dX9_bestWithin_107 rfl (nn_inc _) (by decide) rfl ?_
                  refine V.goto (pc := 110) 5 dX9_bestWithin_110 (by decide) ?_
                  exact ih5 (x + 1) bb (by omega) (B_skip hB (fun z => by have := z.2.2.1 (br - 1) (by omega); rw [h_50] at this; cases this)) (by omega)
        · refine V.aload_n (pc := 16) 0 dX9_bestWithin_16 rfl ?_
          refine gf_X9_46 (pc := 17) dX9_bestWithin_17 ?_
          refine V.iload (pc := 20) 4 dX9_bestWithin_20 rfl ?_
          refine V.iald (pc := 22) (k := 114) (n := 65536) (v := (-1)) (Nat.le_of_ble_eq_true rfl) (fun _ _ => rfl) x (by omega) (by decide) dX9_bestWithin_22 ((hL x (by omega)).1.trans (cv_f hw)) ?_
          refine V.iconst (pc := 23) (v := (-1)) dX9_bestWithin_23 (by decide) ?_
          refine V.icmp_eq (pc := 24) 107 dX9_bestWithin_24 (by decide) (fun h_24 => ?_) (fun h_24 => ?_)
          · refine V.iinc (pc := 107) (v := nI (x + 1)) (lv' := [(0, .ref (G.2.2 96)), (1, .int (nI m)), (2, .int (pv br)), (3, .int (nI bb)), (4, .int (nI (x + 1)))]) 4 dX9_bestWithin_107 rfl (nn_inc _) (by decide) rfl ?_
            refine V.goto (pc := 110) 5 dX9_bestWithin_110 (by decide) ?_
            exact ih5 (x + 1) bb (by omega) (B_skip hB (fun z => hw z.2.1)) (by omega)
          · exact absurd rfl h_24
  exact L5 _ 1 0 (by omega) (B_take (B_zero S 0 br m 0) (cand_0 S br m) (fun z => absurd z (by decide))) (Nat.lt_succ_self _)
theorem b_true {S : TS} {br m : Nat} {f : Bool} {b : Nat} (h : Best S 0 br m 0 (fun _ => True) f b) : f = true ∧ Cand S br m 0 b := by
  rcases h with ⟨-, -, h3⟩ | ⟨h1, -, h3, -⟩
  · exact absurd (cand_0 S br m) (h3 0 trivial)
  · exact ⟨h1, h3⟩
theorem ok_X9_best {G : Gx} {μ : Mu} (a : AS) (hRf : Rf μ a) (m x : Nat) (hm : m < 2 ^ 32) (hx : x < 2 ^ 32) (f1 : Bool) (b1 : Nat) (hB : Best a.S 0 0 m 0 (fun _ => True) f1 b1) : Runs 8 M_X9_best [.ref (G.2.2 96), .int (nI m), .int (nI x)] G μ (RP μ (sp_best a m x b1)) := by
  refine Runs.go RX9 rfl (by decide) [(0, .ref (G.2.2 96)), (1, .int (nI m)), (2, .int (nI x))] (Nat.le_of_ble_eq_true rfl) rfl (fun X hF => ?_)
  refine V.aload_n (pc := 0) 0 dX9_best_0 rfl ?_
  refine V.iconst (pc := 1) (v := nI 0) dX9_best_1 (by decide) ?_
  refine pf_X9_60 (pc := 2) dX9_best_2 ?_
  obtain ⟨μ0, hμ0⟩ : ∃ m, m = si μ 96 0 (nI 0) := ⟨_, rfl⟩
  rw [← hμ0]
  have hR0 : Rf μ0 a := by rw [hμ0]; exact hRf.fld 0 _ (by decide)
  have hth : μ0.1 96 0 = nI 0 := by rw [hμ0, si_s]
  have hC0 : Fr μ μ0 RK := by rw [hμ0]; exact (Fr.refl μ RK).si _ _ (by unfold RK; decide)
  clear hμ0
  have hR := hR0.rw
  have hvs := hR.vs
  have hn16 := hvs.n16
  have hu48 := hvs.u48
  have hT2 := hvs.tk
  have hp16 := pow16 hvs
  have hB9 := hvs.B9
  have hp48 := pow48 hvs
  have hLL := hvs.le
  refine V.aload_n (pc := 5) 0 dX9_best_5 rfl ?_
  refine V.iload_n (pc := 6) 1 dX9_best_6 rfl ?_
  refine V.iconst (pc := 7) (v := nI 0) dX9_best_7 (by decide) ?_
  refine V.sipush (pc := 8) (v := nI 9999) dX9_best_8 (by decide) ?_
  refine cp_X9_116 (pc := 11) dX9_best_11 (ok_X9_in m 10000 hm (by decide)) (by omega) (Nat.le_of_ble_eq_true rfl) ?_
  refine V.ifB_eq (pc := 14) 26 dX9_best_14 (by decide) (fun h_14 => ?_) (fun h_14 => ?_)
  · have hm1 := of_decide_eq_false h_14
    refine V.iconst (pc := 26) (v := nI 1) dX9_best_26 (by decide) ?_
    refine V.goto (pc := 27) 31 dX9_best_27 (by decide) ?_
    refine V.iconst (pc := 31) (v := nI 1) dX9_best_31 (by decide) ?_
    refine V.iconst (pc := 32) (v := nI 1) dX9_best_32 (by decide) ?_
    refine cl_X9_119 (pc := 33) dX9_best_33 (ok_bad1 1 1 hth (by decide) (by decide) (by decide)) (by omega) (Nat.le_of_ble_eq_true rfl) (fun r_ μ_ h_ => ?_)
    obtain ⟨rfl, rfl⟩ := h_
    refine V.ifN_eq (pc := 36) 41 dX9_best_36 (by decide) (by decide) (fun h_ => absurd h_ (by decide)) (fun h_36 => ?_)
    refine V.iconst (pc := 39) (v := nI 0) dX9_best_39 (by decide) ?_
    exact V.iret (pc := 40) hF dX9_best_40 (RP.no (if_neg (by omega)) (by decide) hR0 (by decide) hC0)
  · have hm1 := of_decide_eq_true h_14
    refine V.iload_n (pc := 17) 2 dX9_best_17 rfl ?_
    refine V.iconst (pc := 18) (v := nI 0) dX9_best_18 (by decide) ?_
    refine V.iconst (pc := 19) (v := nI 2) dX9_best_19 (by decide) ?_
    refine cp_X9_116 (pc := 20) dX9_best_20 (ok_X9_in x 3 hx (by decide)) (by omega) (Nat.le_of_ble_eq_true rfl) ?_
    refine V.ifB_ne (pc := 23) 30 dX9_best_23 (by decide) (fun h_23 => ?_) (fun h_23 => ?_)
    · have hx1 := of_decide_eq_true h_23
      refine V.iconst (pc := 30) (v := nI 0) dX9_best_30 (by decide) ?_
      refine V.iconst (pc := 31) (v := nI 1) dX9_best_31 (by decide) ?_
      refine V.iconst (pc := 32) (v := nI 1) dX9_best_32 (by decide) ?_
      refine cp_X9_119 (pc := 33) dX9_best_33 (ok_bad0 1 1 hth) (by omega) (Nat.le_of_ble_eq_true rfl) ?_
      refine V.ifN_eq (pc := 36) 41 dX9_best_36 (by decide) (by decide) (fun h_36 => ?_) (fun h_ => absurd h_ (by decide))
      have hbc := (b_true hB).2
      have hbl := hbc.1
      refine V.aload_n (pc := 41) 0 dX9_best_41 rfl ?_
      refine cl_X9_245 (pc := 42) dX9_best_42 (ok_X9_laysSets a hR0) (by omega) (Nat.le_of_ble_eq_true rfl) (fun r_ μ_ h_ => ?_)
      obtain ⟨rfl, hRf1, hL, hth1, hfr1⟩ := h_
      have hth1 := hth1.trans hth
      have hC1 := hC0.trans hfr1 (fun _ z => z) (fun _ z => z)
      have hR1 := hRf1.rw
      have hR := hR1
      refine V.aload_n (pc := 45) 0 dX9_best_45 rfl ?_
      refine V.iload_n (pc := 46) 1 dX9_best_46 rfl ?_
      refine V.iconst (pc := 47) (v := (-1)) dX9_best_47 (by decide) ?_
      refine cp_X9_248 (pc := 48) dX9_best_48 (ok_X9_bestWithin a.S hR hL m 0 (by omega) (by omega) f1 b1 hB) (by omega) (Nat.le_of_ble_eq_true rfl) ?_
      refine V.istore_n (pc := 51) (lv' := [(0, .ref (G.2.2 96)), (1, .int (nI m)), (2, .int (nI x)), (3, .int (nI b1))]) dX9_best_51 (by decide) rfl ?_
      refine V.iload_n (pc := 52) 2 dX9_best_52 rfl ?_
      refine V.ifN_ne (pc := 53) 60 dX9_best_53 (by decide) (by omega) (fun h_53 => ?_) (fun h_53 => ?_)
      · refine V.iload_n (pc := 60) 2 dX9_best_60 rfl ?_
        refine V.iconst (pc := 61) (v := nI 1) dX9_best_61 (by decide) ?_
        refine V.icmpN_ne (pc := 62) 74 dX9_best_62 (by decide) (by omega) (by omega) (fun h_62 => ?_) (fun h_62 => ?_)
        · refine V.aload_n (pc := 74) 0 dX9_best_74 rfl ?_
          refine gf_X9_49 (pc := 75) dX9_best_75 ?_
          refine V.iload_n (pc := 78) 3 dX9_best_78 rfl ?_
          refine V.iald (pc := 79) (k := 115) (n := 65536) (v := nI (lenOf a.S b1)) (Nat.le_of_ble_eq_true rfl) (fun _ _ => rfl) b1 (by omega) (by decide) dX9_best_79 (hL b1 (by omega)).2 ?_
          exact V.iret (pc := 80) hF dX9_best_80 (RP.mk ((if_pos (by omega)).trans <| (if_pos (by omega)).trans <| (by rw [show x = 2 by omega]; rfl)) hRf1 hth1 hC1)
        · refine V.aload_n (pc := 65) 0 dX9_best_65 rfl ?_
          refine gf_X9_46 (pc := 66) dX9_best_66 ?_
          refine V.iload_n (pc := 69) 3 dX9_best_69 rfl ?_
          refine V.iald (pc := 70) (k := 114) (n := 65536) (v := nI (cov a.S b1)) (Nat.le_of_ble_eq_true rfl) (fun _ _ => rfl) b1 (by omega) (by decide) dX9_best_70 ((hL b1 (by omega)).1.trans (cv_t hbc.2.1)) ?_
          refine V.goto (pc := 71) 80 dX9_best_71 (by decide) ?_
          exact V.iret (pc := 80) hF dX9_best_80 (RP.mk ((if_pos (by omega)).trans <| (if_pos (by omega)).trans <| (by rw [show x = 1 by omega]; rfl)) hRf1 hth1 hC1)
      · refine V.iload_n (pc := 56) 3 dX9_best_56 rfl ?_
        refine V.goto (pc := 57) 80 dX9_best_57 (by decide) ?_
        exact V.iret (pc := 80) hF dX9_best_80 (RP.mk ((if_pos (by omega)).trans <| (if_pos (by omega)).trans <| (by rw [show x = 0 by omega]; rfl)) hRf1 hth1 hC1)
    · have hx1 := of_decide_eq_false h_23
      refine V.iconst (pc := 26) (v := nI 1) dX9_best_26 (by decide) ?_
      refine V.goto (pc := 27) 31 dX9_best_27 (by decide) ?_
      refine V.iconst (pc := 31) (v := nI 1) dX9_best_31 (by decide) ?_
      refine V.iconst (pc := 32) (v := nI 1) dX9_best_32 (by decide) ?_
      refine cl_X9_119 (pc := 33) dX9_best_33 (ok_bad1 1 1 hth (by decide) (by decide) (by decide)) (by omega) (Nat.le_of_ble_eq_true rfl) (fun r_ μ_ h_ => ?_)
      obtain ⟨rfl, rfl⟩ := h_
      refine V.ifN_eq (pc := 36) 41 dX9_best_36 (by decide) (by decide) (fun h_ => absurd h_ (by decide)) (fun h_36 => ?_)
      refine V.iconst (pc := 39) (v := nI 0) dX9_best_39 (by decide) ?_
      exact V.iret (pc := 40) hF dX9_best_40 (RP.no ((if_pos (by omega)).trans (if_neg (by omega))) (by decide) hR0 (by decide) hC0)
theorem bt1 {S : TS} {x y : Nat} (h : cntB x 16 < cntB y 16 ∨ (cntB x 16 = cntB y 16 ∧ (lenOf S x < lenOf S y ∨ (lenOf S x = lenOf S y ∧ x < y)))) : Bt S 1 x y := h
theorem F_step {S : TS} {o br mL lC x A : Nat} {f : Bool} {b : Nat} (h : Best S o br mL lC (fun y => (y < x ∨ y = A) ∨ y = x) f b) : Best S o br mL lC (fun y => y < x + 1 ∨ y = A) f b := h.cong (fun y _ => by constructor <;> intro z <;> omega)
theorem F_skip {S : TS} {o br mL lC x A : Nat} {f : Bool} {b : Nat} (h : Best S o br mL lC (fun y => y < x ∨ y = A) f b) (hn : ¬ Cand S br mL lC x) : Best S o br mL lC (fun y => y < x + 1 ∨ y = A) f b := F_step (h.skip (D := fun y => y = x) (fun y hy hc => absurd (hy ▸ hc) hn))
theorem F_take {S : TS} {o br mL lC x A b : Nat} {f : Bool} (h : Best S o br mL lC (fun y => y < x ∨ y = A) f b) (hc : Cand S br mL lC x) (hb : Bt S o x b) : Best S o br mL lC (fun y => y < x + 1 ∨ y = A) true x := F_step (h.take (D := fun y => y = x) rfl hc (fun y hy _ => Or.inl hy) (fun _ => hb))
theorem F_stay {S : TS} {o br mL lC x A b : Nat} (h : Best S o br mL lC (fun y => y < x ∨ y = A) true b) (hb : Bt S o b x) : Best S o br mL lC (fun y => y < x + 1 ∨ y = A) true b := F_step (h.skip (D := fun y => y = x) (fun y hy _ => ⟨rfl, hy ▸ hb⟩))
theorem F_init (S : TS) : Best S 1 0 2147483647 (cov S (2 ^ S.n - 1)) (fun y => y < 0 ∨ y = 2 ^ S.n - 1) true (2 ^ S.n - 1) ∨ ¬ lenOf S (2 ^ S.n - 1) ≤ 2147483647 := by
  by_cases h : lenOf S (2 ^ S.n - 1) ≤ 2147483647
  · refine Or.inl (Or.inr ⟨rfl, Or.inr rfl, ⟨by have := Nat.two_pow_pos S.n; omega, whole_full S, fun s e => absurd e (by omega), h, Nat.le_refl _⟩, fun x hx _ => Or.inl (by omega)⟩)
  · exact Or.inr h
theorem ok_X9_fewest {G : Gx} {μ : Mu} (a : AS) (hRf : Rf μ a) (x : Nat) (hx : x < 2 ^ 32) (f1 : Bool) (b1 : Nat) (hB : Best a.S 1 0 2147483647 (cov a.S (2 ^ a.S.n - 1)) (fun _ => True) f1 b1) : Runs 8 M_X9_fewest [.ref (G.2.2 96), .int (nI x)] G μ (RP μ (sp_fewest a x b1)) := by
  refine Runs.go RX9 rfl (by decide) [(0, .ref (G.2.2 96)), (1, .int (nI x))] (Nat.le_of_ble_eq_true rfl) rfl (fun X hF => ?_)
  refine V.aload_n (pc := 0) 0 dX9_fewest_0 rfl ?_
  refine V.iconst (pc := 1) (v := nI 0) dX9_fewest_1 (by decide) ?_
  refine pf_X9_60 (pc := 2) dX9_fewest_2 ?_
  obtain ⟨μ0, hμ0⟩ : ∃ m, m = si μ 96 0 (nI 0) := ⟨_, rfl⟩
  rw [← hμ0]
  have hR0 : Rf μ0 a := by rw [hμ0]; exact hRf.fld 0 _ (by decide)
  have hth : μ0.1 96 0 = nI 0 := by rw [hμ0, si_s]
  have hC0 : Fr μ μ0 RK := by rw [hμ0]; exact (Fr.refl μ RK).si _ _ (by unfold RK; decide)
  clear hμ0
  have hR := hR0.rw
  have hvs := hR.vs
  have hn16 := hvs.n16
  have hu48 := hvs.u48
  have hT2 := hvs.tk
  have hp16 := pow16 hvs
  have hB9 := hvs.B9
  have hp48 := pow48 hvs
  have hLL := hvs.le
  refine V.aload_n (pc := 5) 0 dX9_fewest_5 rfl ?_
  refine V.iload_n (pc := 6) 1 dX9_fewest_6 rfl ?_
  refine V.iconst (pc := 7) (v := nI 0) dX9_fewest_7 (by decide) ?_
  refine V.iconst (pc := 8) (v := nI 2) dX9_fewest_8 (by decide) ?_
  refine cp_X9_116 (pc := 9) dX9_fewest_9 (ok_X9_in x 3 hx (by decide)) (by omega) (Nat.le_of_ble_eq_true rfl) ?_
  refine V.ifB_ne (pc := 12) 19 dX9_fewest_12 (by decide) (fun h_12 => ?_) (fun h_12 => ?_)
  · have hx1 := of_decide_eq_true h_12
    refine V.iconst (pc := 19) (v := nI 0) dX9_fewest_19 (by decide) ?_
    refine V.iconst (pc := 20) (v := nI 1) dX9_fewest_20 (by decide) ?_
    refine V.iconst (pc := 21) (v := nI 1) dX9_fewest_21 (by decide) ?_
    refine cp_X9_119 (pc := 22) dX9_fewest_22 (ok_bad0 1 1 hth) (by omega) (Nat.le_of_ble_eq_true rfl) ?_
    refine V.ifN_eq (pc := 25) 30 dX9_fewest_25 (by decide) (by decide) (fun h_25 => ?_) (fun h_ => absurd h_ (by decide))
    refine V.aload_n (pc := 30) 0 dX9_fewest_30 rfl ?_
    have hpp := Nat.two_pow_pos a.S.n
    have hlf := lenOf_le hvs (2 ^ a.S.n - 1)
    have hcf : cov a.S (2 ^ a.S.n - 1) ≤ 48000 := wOf_le hvs _
    refine cl_X9_245 (pc := 31) dX9_fewest_31 (ok_X9_laysSets a hR0) (by omega) (Nat.le_of_ble_eq_true rfl) (fun r_ μ_ h_ => ?_)
    obtain ⟨rfl, hRf1, hL, hth1, hfr1⟩ := h_
    have hth1 := hth1.trans hth
    have hC1 := hC0.trans hfr1 (fun _ z => z) (fun _ z => z)
    have hR1 := hRf1.rw
    have hR := hR1
    refine V.iconst (pc := 34) (v := nI 1) dX9_fewest_34 (by decide) ?_
    refine V.aload_n (pc := 35) 0 dX9_fewest_35 rfl ?_
    refine cp_X9_133 (pc := 36) dX9_fewest_36 (ok_X9_many a.S hR) (by omega) (Nat.le_of_ble_eq_true rfl) ?_
    refine V.ishl (pc := 39) (v := nI (2 ^ a.S.n)) dX9_fewest_39 (nn_shl1 (by omega)) ?_
    refine V.iconst (pc := 40) (v := nI 1) dX9_fewest_40 (by decide) ?_
    refine V.isub (pc := 41) (v := nI ((2 ^ a.S.n) - 1)) dX9_fewest_41 (pk_sub (by omega)) ?_
    refine V.istore_n (pc := 42) (lv' := [(0, .ref (G.2.2 96)), (1, .int (nI x)), (2, .int (nI ((2 ^ a.S.n) - 1)))]) dX9_fewest_42 (by decide) rfl ?_
    refine V.iload_n (pc := 43) 2 dX9_fewest_43 rfl ?_
    refine V.istore_n (pc := 44) (lv' := [(0, .ref (G.2.2 96)), (1, .int (nI x)), (2, .int (nI ((2 ^ a.S.n) - 1))), (3, .int (nI ((2 ^ a.S.n) - 1)))]) dX9_fewest_44 (by decide) rfl ?_
    refine V.iconst (pc := 45) (v := nI 0) dX9_fewest_45 (by decide) ?_
    refine V.istore (pc := 46) (lv' := [(0, .ref (G.2.2 96)), (1, .int (nI x)), (2, .int (nI ((2 ^ a.S.n) - 1))), (3, .int (nI ((2 ^ a.S.n) - 1))), (4, .int (nI 0))]) dX9_fewest_46 (by decide) rfl ?_
    have L48 : ∀ (n_ : Nat) (y bb : Nat), (y ≤ (2 ^ a.S.n - 1)) → (Best a.S 1 0 2147483647 (cov a.S (2 ^ a.S.n - 1)) (fun z => z < y ∨ z = (2 ^ a.S.n - 1)) true bb) → (2 ^ a.S.n - 1) - y < n_ → V G RX9 cX9_fewest 5 8 X 48 [(0, .ref (G.2.2 96)), (1, .int (nI x)), (2, .int (nI (2 ^ a.S.n - 1))), (3, .int (nI bb)), (4, .int (nI y))] [] μ_ := by
      intro n_
      induction n_ with
      | zero => intro y bb hy hB2 hm_; exact absurd hm_ (Nat.not_lt_zero _)
      | succ n_ ih48 =>
        intro y bb hy hB2 hm_
        have hbb := B_cand hB2
        have hbx := hbb.2.1
        have hlb := lenOf_le hvs bb
        refine V.iload (pc := 48) 4 dX9_fewest_48 rfl ?_
        refine V.iload_n (pc := 50) 2 dX9_fewest_50 rfl ?_
        refine V.icmpN_ge (pc := 51) 162 dX9_fewest_51 (by decide) (by omega) (by omega) (fun h_51 => ?_) (fun h_51 => ?_)
        · obtain ⟨-, hbe⟩ := hB.one (hB2.cong (D := fun _ => True) (fun z hz => ⟨fun _ => trivial, fun _ => by omega⟩))
          subst hbe
          refine V.iload_n (pc := 162) 1 dX9_fewest_162 rfl ?_
          refine V.ifN_ne (pc := 163) 170 dX9_fewest_163 (by decide) (by omega) (fun h_163 => ?_) (fun h_163 => ?_)
          · refine V.iload_n (pc := 170) 1 dX9_fewest_170 rfl ?_
            refine V.iconst (pc := 171) (v := nI 1) dX9_fewest_171 (by decide) ?_
            refine V.icmpN_ne (pc := 172) 183 dX9_fewest_172 (by decide) (by omega) (by omega) (fun h_172 => ?_) (fun h_172 => ?_)
            · refine V.aload_n (pc := 183) 0 dX9_fewest_183 rfl ?_
              refine gf_X9_49 (pc := 184) dX9_fewest_184 ?_
              refine V.iload_n (pc := 187) 3 dX9_fewest_187 rfl ?_
              refine V.iald (pc := 188) (k := 115) (n := 65536) (v := nI (lenOf a.S bb)) (Nat.le_of_ble_eq_true rfl) (fun _ _ => rfl) bb (by omega) (by decide) dX9_fewest_188 (hL bb (by omega)).2 ?_
              exact V.iret (pc := 189) hF dX9_fewest_189 (RP.mk ((if_pos (by omega)).trans <| (by rw [show x = 2 by omega]; rfl)) hRf1 hth1 hC1)
            · refine V.iload_n (pc := 175) 3 dX9_fewest_175 rfl ?_
              refine V.i2l (pc := 176) (v := lN bb) dX9_fewest_176 (nI_l (by omega)) ?_
              refine cp_X9_199 (pc := 177) dX9_fewest_177 (ok_X9_ones bb 16 (by omega) (by decide)) (by omega) (Nat.le_of_ble_eq_true rfl) ?_
              refine V.goto (pc := 180) 189 dX9_fewest_180 (by decide) ?_
              exact V.iret (pc := 189) hF dX9_fewest_189 (RP.mk ((if_pos (by omega)).trans <| (by rw [show x = 1 by omega]; rfl)) hRf1 hth1 hC1)
          · have hbl := hbb.2.1
            have hbc1 := cntB_le bb 16
            refine V.iload_n (pc := 166) 3 dX9_fewest_166 rfl ?_
            refine V.goto (pc := 167) 189 dX9_fewest_167 (by decide) ?_
            exact V.iret (pc := 189) hF dX9_fewest_189 (RP.mk ((if_pos (by omega)).trans <| (by rw [show x = 0 by omega]; rfl)) hRf1 hth1 hC1)
        · have hcx : cov a.S y ≤ 48000 := wOf_le hvs _
          have hlx := lenOf_le hvs y
          have hc1 := cntB_le y 16
          have hc2 := cntB_le bb 16
          by_cases hw : whole a.S y = true
          · refine V.aload_n (pc := 54) 0 dX9_fewest_54 rfl ?_
            refine gf_X9_46 (pc := 55) dX9_fewest_55 ?_
            refine V.iload (pc := 58) 4 dX9_fewest_58 rfl ?_
            refine V.iald (pc := 60) (k := 114) (n := 65536) (v := nI (cov a.S y)) (Nat.le_of_ble_eq_true rfl) (fun _ _ => rfl) y (by omega) (by decide) dX9_fewest_60 ((hL y (by omega)).1.trans (cv_t hw)) ?_
            refine V.aload_n (pc := 61) 0 dX9_fewest_61 rfl ?_
            refine gf_X9_46 (pc := 62) dX9_fewest_62 ?_
            refine V.iload_n (pc := 65) 2 dX9_fewest_65 rfl ?_
            refine V.iald (pc := 66) (k := 114) (n := 65536) (v := nI (cov a.S (2 ^ a.S.n - 1))) (Nat.le_of_ble_eq_true rfl) (fun _ _ => rfl) (2 ^ a.S.n - 1) (by omega) (by decide) dX9_fewest_66 ((hL (2 ^ a.S.n - 1) (by omega)).1.trans (cv_t (whole_full a.S))) ?_
            refine V.icmpN_ne (pc := 67) 156 dX9_fewest_67 (by decide) (by omega) (by omega) (fun h_67 => ?_) (fun h_67 => ?_)
            · refine V.iinc (pc := 156) (v := nI (y + 1)) (lv' := [(0, .ref (G.2.2 96)), (1, .int (nI x)), (2, .int (nI (2 ^ a.S.n - 1))), (3, .int (nI bb)), (4, .int (nI (y + 1)))]) 4 dX9_fewest_156 rfl (nn_inc _) (by decide) rfl ?_
              refine V.goto (pc := 159) 48 dX9_fewest_159 (by decide) ?_
              exact ih48 (y + 1) bb (by omega) (F_skip hB2 (fun z => h_67 (by have := z.2.2.2.2; have := cov_full z.1; omega))) (by omega)
            · refine V.iload (pc := 70) 4 dX9_fewest_70 rfl ?_
              refine V.i2l (pc := 72) (v := lN y) dX9_fewest_72 (nI_l (by omega)) ?_
              refine cp_X9_199 (pc := 73) dX9_fewest_73 (ok_X9_ones y 16 (by omega) (by decide)) (by omega) (Nat.le_of_ble_eq_true rfl) ?_
              refine V.iload_n (pc := 76) 3 dX9_fewest_76 rfl ?_
              refine V.i2l (pc := 77) (v := lN bb) dX9_fewest_77 (nI_l (by omega)) ?_
              refine cp_X9_199 (pc := 78) dX9_fewest_78 (ok_X9_ones bb 16 (by omega) (by decide)) (by omega) (Nat.le_of_ble_eq_true rfl) ?_
              refine V.icmpN_gt (pc := 81) 156 dX9_fewest_81 (by decide) (by omega) (by omega) (fun h_81 => ?_) (fun h_81 => ?_)
              · refine V.iinc (pc := 156) (v := nI (y + 1)) (lv' := [(0, .ref (G.2.2 96)), (1, .int (nI x)), (2, .int (nI (2 ^ a.S.n - 1))), (3, .int (nI bb)), (4, .int (nI (y + 1)))]) 4 dX9_fewest_156 rfl (nn_inc _) (by decide) rfl ?_
                refine V.goto (pc := 159) 48 dX9_fewest_159 (by decide) ?_
                exact ih48 (y + 1) bb (by omega) (F_stay hB2 (bt1 (Or.inl (by omega)))) (by omega)
              · refine V.iload (pc := 84) 4 dX9_fewest_84 rfl ?_
                refine V.i2l (pc := 86) (v := lN y) dX9_fewest_86 (nI_l (by omega)) ?_
                refine cp_X9_199 (pc := 87) dX9_fewest_87 (ok_X9_ones y 16 (by omega) (by decide)) (by omega) (Nat.le_of_ble_eq_true rfl) ?_
                refine V.iload_n (pc := 90) 3 dX9_fewest_90 rfl ?_
                refine V.i2l (pc := 91) (v := lN bb) dX9_fewest_91 (nI_l (by omega)) ?_
                refine cp_X9_199 (pc := 92) dX9_fewest_92 (ok_X9_ones bb 16 (by omega) (by decide)) (by omega) (Nat.le_of_ble_eq_true rfl) ?_
                refine V.icmpN_ne (pc := 95) 117 dX9_fewest_95 (by decide) (by omega) (by omega) (fun h_95 => ?_) (fun h_95 => ?_)
                · refine V.iload (pc := 117) 4 dX9_fewest_117 rfl ?_
                  refine V.i2l (pc := 119) (v := lN y) dX9_fewest_119 (nI_l (by omega)) ?_
                  refine cp_X9_199 (pc := 120) dX9_fewest_120 (ok_X9_ones y 16 (by omega) (by decide)) (by omega) (Nat.le_of_ble_eq_true rfl) ?_
                  refine V.iload_n (pc := 123) 3 dX9_fewest_123 rfl ?_
                  refine V.i2l (pc := 124) (v := lN bb) dX9_fewest_124 (nI_l (by omega)) ?_
                  refine cp_X9_199 (pc := 125) dX9_fewest_125 (ok_X9_ones bb 16 (by omega) (by decide)) (by omega) (Nat.le_of_ble_eq_true rfl) ?_
                  refine V.icmpN_lt (pc := 128) 153 dX9_fewest_128 (by decide) (by omega) (by omega) (fun h_128 => ?_) (fun h_128 => ?_)
                  · refine V.iload (pc := 153) 4 dX9_fewest_153 rfl ?_
                    refine V.istore_n (pc := 155) (lv' := [(0, .ref (G.2.2 96)), (1, .int (nI x)), (2, .int (nI (2 ^ a.S.n - 1))), (3, .int (nI y)), (4, .int (nI y))]) dX9_fewest_155 (by decide) rfl ?_
                    refine V.iinc (pc := 156) (v := nI (y + 1)) (lv' := [(0, .ref (G.2.2 96)), (1, .int (nI x)), (2, .int (nI (2 ^ a.S.n - 1))), (3, .int (nI y)), (4, .int (nI (y + 1)))]) 4 dX9_fewest_156 rfl (nn_inc _) (by decide) rfl ?_
                    refine V.goto (pc := 159) 48 dX9_fewest_159 (by decide) ?_
                    exact ih48 (y + 1) y (by omega) (F_take hB2 ⟨by omega, hw, fun s e => absurd e (by omega), by omega, by omega⟩ (bt1 (Or.inl (by omega)))) (by omega)
                  · refine V.aload_n (pc := 131) 0 dX9_fewest_131 rfl ?_
                    refine gf_X9_49 (pc := 132) dX9_fewest_132 ?_
                    refine V.iload (pc := 135) 4 dX9_fewest_135 rfl ?_
                    refine V.iald (pc := 137) (k := 115) (n := 65536) (v := nI (lenOf a.S y)) (Nat.le_of_ble_eq_true rfl) (fun _ _ => rfl) y (by omega) (by decide) dX9_fewest_137 (hL y (by omega)).2 ?_
                    refine V.aload_n (pc := 138) 0 dX9_fewest_138 rfl ?_
                    refine gf_X9_49 (pc := 139) dX9_fewest_139 ?_
                    refine V.iload_n (pc := 142) 3 dX9_fewest_142 rfl ?_
                    refine V.iald (pc := 143) (k := 115) (n := 65536) (v := nI (lenOf a.S bb)) (Nat.le_of_ble_eq_true rfl) (fun _ _ => rfl) bb (by omega) (by decide) dX9_fewest_143 (hL bb (by omega)).2 ?_
                    refine V.icmpN_lt (pc := 144) 153 dX9_fewest_144 (by decide) (by omega) (by omega) (fun h_144 => ?_) (fun h_144 => ?_)
                    · refine V.iload (pc := 153) 4 dX9_fewest_153 rfl ?_
                      refine V.istore_n (pc := 155) (lv' := [(0, .ref (G.2.2 96)), (1, .int (nI x)), (2, .int (nI (2 ^ a.S.n - 1))), (3, .int (nI y)), (4, .int (nI y))]) dX9_fewest_155 (by decide) rfl ?_
                      refine V.iinc (pc := 156) (v := nI (y + 1)) (lv' := [(0, .ref (G.2.2 96)), (1, .int (nI x)), (2, .int (nI (2 ^ a.S.n - 1))), (3, .int (nI y)), (4, .int (nI (y + 1)))]) 4 dX9_fewest_156 rfl (nn_inc _) (by decide) rfl ?_
                      refine V.goto (pc := 159) 48 dX9_fewest_159 (by decide) ?_
                      exact ih48 (y + 1) y (by omega) (F_take hB2 ⟨by omega, hw, fun s e => absurd e (by omega), by omega, by omega⟩ (bt1 (by omega))) (by omega)
                    · refine V.iload (pc := 147) 4 dX9_fewest_147 rfl ?_
                      refine V.iload_n (pc := 149) 3 dX9_fewest_149 rfl ?_
                      refine V.icmpN_ge (pc := 150) 156 dX9_fewest_150 (by decide) (by omega) (by omega) (fun h_150 => ?_) (fun h_150 => ?_)
                      · refine V.iinc (pc := 156) (v := nI (y + 1)) (lv' := [(0, .ref (G.2.2 96)), (1, .int (nI x)), (2, .int (nI (2 ^ a.S.n - 1))), (3, .int (nI bb)), (4, .int (nI (y + 1)))]) 4 dX9_fewest_156 rfl (nn_inc _) (by decide) rfl ?_
                        refine V.goto (pc := 159) 48 dX9_fewest_159 (by decide) ?_
                        exact ih48 (y + 1) bb (by omega) (F_stay hB2 (bt1 (by omega))) (by omega)
                      · refine V.iload (pc := 153) 4 dX9_fewest_153 rfl ?_
                        refine V.istore_n (pc := 155) (lv' := [(0, .ref (G.2.2 96)), (1, .int (nI x)), (2, .int (nI (2 ^ a.S.n - 1))), (3, .int (nI y)), (4, .int (nI y))]) dX9_fewest_155 (by decide) rfl ?_
                        refine V.iinc (pc := 156) (v := nI (y + 1)) (lv' := [(0, .ref (G.2.2 96)), (1, .int (nI x)), (2, .int (nI (2 ^ a.S.n - 1))), (3, .int (nI y)), (4, .int (nI (y + 1)))]) 4 dX9_fewest_156 rfl (nn_inc _) (by decide) rfl ?_
                        refine V.goto (pc := 159) 48 dX9_fewest_159 (by decide) ?_
                        exact ih48 (y + 1) y (by omega) (F_take hB2 ⟨by omega, hw, fun s e => absurd e (by omega), by omega, by omega⟩ (bt1 (by omega))) (by omega)
                · refine V.aload_n (pc := 98) 0 dX9_fewest_98 rfl ?_
                  refine gf_X9_49 (pc := 99) dX9_fewest_99 ?_
                  refine V.iload (pc := 102) 4 dX9_fewest_102 rfl ?_
                  refine V.iald (pc := 104) (k := 115) (n := 65536) (v := nI (lenOf a.S y)) (Nat.le_of_ble_eq_true rfl) (fun _ _ => rfl) y (by omega) (by decide) dX9_fewest_104 (hL y (by omega)).2 ?_
                  refine V.aload_n (pc := 105) 0 dX9_fewest_105 rfl ?_
                  refine gf_X9_49 (pc := 106) dX9_fewest_106 ?_
                  refine V.iload_n (pc := 109) 3 dX9_fewest_109 rfl ?_
                  refine V.iald (pc := 110) (k := 115) (n := 65536) (v := nI (lenOf a.S bb)) (Nat.le_of_ble_eq_true rfl) (fun _ _ => rfl) bb (by omega) (by decide) dX9_fewest_110 (hL bb (by omega)).2 ?_
                  refine V.icmpN_le (pc := 111) 117 dX9_fewest_111 (by decide) (by omega) (by omega) (fun h_111 => ?_) (fun h_111 => ?_)
                  · refine V.iload (pc := 117) 4 dX9_fewest_117 rfl ?_
                    refine V.i2l (pc := 119) (v := lN y) dX9_fewest_119 (nI_l (by omega)) ?_
                    refine cp_X9_199 (pc := 120) dX9_fewest_120 (ok_X9_ones y 16 (by omega) (by decide)) (by omega) (Nat.le_of_ble_eq_true rfl) ?_
                    refine V.iload_n (pc := 123) 3 dX9_fewest_123 rfl ?_
                    refine V.i2l (pc := 124) (v := lN bb) dX9_fewest_124 (nI_l (by omega)) ?_
                    refine cp_X9_199 (pc := 125) dX9_fewest_125 (ok_X9_ones bb 16 (by omega) (by decide)) (by omega) (Nat.le_of_ble_eq_true rfl) ?_
                    refine V.icmpN_lt (pc := 128) 153 dX9_fewest_128 (by decide) (by omega) (by omega) (fun h_128 => ?_) (fun h_128 => ?_)
                    · refine V.iload (pc := 153) 4 dX9_fewest_153 rfl ?_
                      refine V.istore_n (pc := 155) (lv' := [(0, .ref (G.2.2 96)), (1, .int (nI x)), (2, .int (nI (2 ^ a.S.n - 1))), (3, .int (nI y)), (4, .int (nI y))]) dX9_fewest_155 (by decide) rfl ?_
                      refine V.iinc (pc := 156) (v := nI (y + 1)) (lv' := [(0, .ref (G.2.2 96)), (1, .int (nI x)), (2, .int (nI (2 ^ a.S.n - 1))), (3, .int (nI y)), (4, .int (nI (y + 1)))]) 4 dX9_fewest_156 rfl (nn_inc _) (by decide) rfl ?_
                      refine V.goto (pc := 159) 48 dX9_fewest_159 (by decide) ?_
                      exact ih48 (y + 1) y (by omega) (F_take hB2 ⟨by omega, hw, fun s e => absurd e (by omega), by omega, by omega⟩ (bt1 (Or.inl (by omega)))) (by omega)
                    · refine V.aload_n (pc := 131) 0 dX9_fewest_131 rfl ?_
                      refine gf_X9_49 (pc := 132) dX9_fewest_132 ?_
                      refine V.iload (pc := 135) 4 dX9_fewest_135 rfl ?_
                      refine V.iald (pc := 137) (k := 115) (n := 65536) (v := nI (lenOf a.S y)) (Nat.le_of_ble_eq_true rfl) (fun _ _ => rfl) y (by omega) (by decide) dX9_fewest_137 (hL y (by omega)).2 ?_
                      refine V.aload_n (pc := 138) 0 dX9_fewest_138 rfl ?_
                      refine gf_X9_49 (pc := 139) dX9_fewest_139 ?_
                      refine V.iload_n (pc := 142) 3 dX9_fewest_142 rfl ?_
                      refine V.iald (pc := 143) (k := 115) (n := 65536) (v := nI (lenOf a.S bb)) (Nat.le_of_ble_eq_true rfl) (fun _ _ => rfl) bb (by omega) (by decide) dX9_fewest_143 (hL bb (by omega)).2 ?_
                      refine V.icmpN_lt (pc := 144) 153 dX9_fewest_144 (by decide) (by omega) (by omega) (fun h_144 => ?_) (fun h_144 => ?_)
                      · refine V.iload (pc := 153) 4 dX9_fewest_153 rfl ?_
                        refine V.istore_n (pc := 155) (lv' := [(0, .ref (G.2.2 96)), (1, .int (nI x)), (2, .int (nI (2 ^ a.S.n - 1))), (3, .int (nI y)), (4, .int (nI y))]) dX9_fewest_155 (by decide) rfl ?_
                        refine V.iinc (pc := 156) (v := nI (y + 1)) (lv' := [(0, .ref (G.2.2 96)), (1, .int (nI x)), (2, .int (nI (2 ^ a.S.n - 1))), (3, .int (nI y)), (4, .int (nI (y + 1)))]) 4 dX9_fewest_156 rfl (nn_inc _) (by decide) rfl ?_
                        refine V.goto (pc := 159) 48 dX9_fewest_159 (by decide) ?_
                        exact ih48 (y + 1) y (by omega) (F_take hB2 ⟨by omega, hw, fun s e => absurd e (by omega), by omega, by omega⟩ (bt1 (by omega))) (by omega)
                      · refine V.iload (pc := 147) 4 dX9_fewest_147 rfl ?_
                        refine V.iload_n (pc := 149) 3 dX9_fewest_149 rfl ?_
                        refine V.icmpN_ge (pc := 150) 156 dX9_fewest_150 (by decide) (by omega) (by omega) (fun h_150 => ?_) (fun h_150 => ?_)
                        · refine V.iinc (pc := 156) (v := nI (y + 1)) (lv' := [(0, .ref (G.2.2 96)), (1, .int (nI x)), (2, .int (nI (2 ^ a.S.n - 1))), (3, .int (nI bb)), (4, .int (nI (y + 1)))]) 4 dX9_fewest_156 rfl (nn_inc _) (by decide) rfl ?_
                          refine V.goto (pc := 159) 48 dX9_fewest_159 (by decide) ?_
                          exact ih48 (y + 1) bb (by omega) (F_stay hB2 (bt1 (by omega))) (by omega)
                        · refine V.iload (pc := 153) 4 dX9_fewest_153 rfl ?_
                          refine V.istore_n (pc := 155) (lv' := [(0, .ref (G.2.2 96)), (1, .int (nI x)), (2, .int (nI (2 ^ a.S.n - 1))), (3, .int (nI y)), (4, .int (nI y))]) dX9_fewest_155 (by decide) rfl ?_
                          refine V.iinc (pc := 156) (v := nI (y + 1)) (lv' := [(0, .ref (G.2.2 96)), (1, .int (nI x)), (2, .int (nI (2 ^ a.S.n - 1))), (3, .int (nI y)), (4, .int (nI (y + 1)))]) 4 dX9_fewest_156 rfl (nn_inc _) (by decide) rfl ?_
                          refine V.goto (pc := 159) 48 dX9_fewest_159 (by decide) ?_
                          exact ih48 (y + 1) y (by omega) (F_take hB2 ⟨by omega, hw, fun s e => absurd e (by omega), by omega, by omega⟩ (bt1 (by omega))) (by omega)
                  · refine V.goto (pc := 114) 156 dX9_fewest_114 (by decide) ?_
                    refine V.iinc (pc := 156) (v := nI (y + 1)) (lv' := [(0, .ref (G.2.2 96)), (1, .int (nI x)), (2, .int (nI (2 ^ a.S.n - 1))), (3, .int (nI bb)), (4, .int (nI (y + 1)))]) 4 dX9_fewest_156 rfl (nn_inc _) (by decide) rfl ?_
                    refine V.goto (pc := 159) 48 dX9_fewest_159 (by decide) ?_
                    exact ih48 (y + 1) bb (by omega) (F_stay hB2 (bt1 (Or.inr ⟨by omega, Or.inl (by omega)⟩))) (by omega)
          · refine V.aload_n (pc := 54) 0 dX9_fewest_54 rfl ?_
            refine gf_X9_46 (pc := 55) dX9_fewest_55 ?_
            refine V.iload (pc := 58) 4 dX9_fewest_58 rfl ?_
            refine V.iald (pc := 60) (k := 114) (n := 65536) (v := (-1)) (Nat.le_of_ble_eq_true rfl) (fun _ _ => rfl) y (by omega) (by decide) dX9_fewest_60 ((hL y (by omega)).1.trans (cv_f hw)) ?_
            refine V.aload_n (pc := 61) 0 dX9_fewest_61 rfl ?_
            refine gf_X9_46 (pc := 62) dX9_fewest_62 ?_
            refine V.iload_n (pc := 65) 2 dX9_fewest_65 rfl ?_
            refine V.iald (pc := 66) (k := 114) (n := 65536) (v := nI (cov a.S (2 ^ a.S.n - 1))) (Nat.le_of_ble_eq_true rfl) (fun _ _ => rfl) (2 ^ a.S.n - 1) (by omega) (by decide) dX9_fewest_66 ((hL (2 ^ a.S.n - 1) (by omega)).1.trans (cv_t (whole_full a.S))) ?_
            refine V.icmp_ne (pc := 67) 156 dX9_fewest_67 (by decide) (fun h_67 => ?_) (fun h_67 => ?_)
            · refine V.iinc (pc := 156) (v := nI (y + 1)) (lv' := [(0, .ref (G.2.2 96)), (1, .int (nI x)), (2, .int (nI (2 ^ a.S.n - 1))), (3, .int (nI bb)), (4, .int (nI (y + 1)))]) 4 dX9_fewest_156 rfl (nn_inc _) (by decide) rfl ?_
              refine V.goto (pc := 159) 48 dX9_fewest_159 (by decide) ?_
              exact ih48 (y + 1) bb (by omega) (F_skip hB2 (fun z => hw z.2.1)) (by omega)
            · exact absurd h_67.symm (nn_ne_m1 (by omega))
    have e_2 : nI ((2 ^ a.S.n) - 1) = nI (2 ^ a.S.n - 1) := congrArg nI (by omega)
    have e_3 : nI ((2 ^ a.S.n) - 1) = nI (2 ^ a.S.n - 1) := congrArg nI (by omega)
    refine V.lvs (lv' := [(0, .ref (G.2.2 96)), (1, .int (nI x)), (2, .int (nI (2 ^ a.S.n - 1))), (3, .int (nI ((2 ^ a.S.n) - 1))), (4, .int (nI 0))]) (congrArg (fun z => ([(0, .ref (G.2.2 96)), (1, .int (nI x)), (2, .int z), (3, .int (nI ((2 ^ a.S.n) - 1))), (4, .int (nI 0))] : List (Nat × Value))) e_2) ?_
    refine V.lvs (lv' := [(0, .ref (G.2.2 96)), (1, .int (nI x)), (2, .int (nI (2 ^ a.S.n - 1))), (3, .int (nI (2 ^ a.S.n - 1))), (4, .int (nI 0))]) (congrArg (fun z => ([(0, .ref (G.2.2 96)), (1, .int (nI x)), (2, .int (nI (2 ^ a.S.n - 1))), (3, .int z), (4, .int (nI 0))] : List (Nat × Value))) e_3) ?_
    exact L48 _ 0 (2 ^ a.S.n - 1) (by omega) ((F_init a.S).resolve_right (by omega)) (Nat.lt_succ_self _)
  · have hx1 := of_decide_eq_false h_12
    refine V.iconst (pc := 15) (v := nI 1) dX9_fewest_15 (by decide) ?_
    refine V.goto (pc := 16) 20 dX9_fewest_16 (by decide) ?_
    refine V.iconst (pc := 20) (v := nI 1) dX9_fewest_20 (by decide) ?_
    refine V.iconst (pc := 21) (v := nI 1) dX9_fewest_21 (by decide) ?_
    refine cl_X9_119 (pc := 22) dX9_fewest_22 (ok_bad1 1 1 hth (by decide) (by decide) (by decide)) (by omega) (Nat.le_of_ble_eq_true rfl) (fun r_ μ_ h_ => ?_)
    obtain ⟨rfl, rfl⟩ := h_
    refine V.ifN_eq (pc := 25) 30 dX9_fewest_25 (by decide) (by decide) (fun h_ => absurd h_ (by decide)) (fun h_25 => ?_)
    refine V.iconst (pc := 28) (v := nI 0) dX9_fewest_28 (by decide) ?_
    exact V.iret (pc := 29) hF dX9_fewest_29 (RP.no (if_neg (by omega)) (by decide) hR0 (by decide) hC0)
