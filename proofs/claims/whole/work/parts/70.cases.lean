theorem n2_text (a : AS) (w : Nat) : (sp_text a w ).1 ≠ 2 := by
  unfold sp_text
  (repeat' split) <;> first | exact (by decide : (0 : Nat) ≠ 2) | exact (by decide : (1 : Nat) ≠ 2)
theorem n2_lean (a : AS) (w : Nat) (q : Bool) : (sp_lean a w  q ).1 ≠ 2 := by
  unfold sp_lean
  (repeat' split) <;> first | exact (by decide : (0 : Nat) ≠ 2) | exact (by decide : (1 : Nat) ≠ 2)
theorem n2_budget (a : AS) (w : Nat) : (sp_budget a w ).1 ≠ 2 := by
  unfold sp_budget
  (repeat' split) <;> first | exact (by decide : (0 : Nat) ≠ 2) | exact (by decide : (1 : Nat) ≠ 2)
theorem n2_told (a : AS) (w : Nat) : (sp_told a w ).1 ≠ 2 := by
  unfold sp_told
  (repeat' split) <;> first | exact (by decide : (0 : Nat) ≠ 2) | exact (by decide : (1 : Nat) ≠ 2)
theorem n2_letter (a : AS) (w v : Nat) : (sp_letter a w v ).1 ≠ 2 := by
  unfold sp_letter
  (repeat' split) <;> first | exact (by decide : (0 : Nat) ≠ 2) | exact (by decide : (1 : Nat) ≠ 2)
theorem n2_greedy (a : AS) (w v K : Nat) : (sp_greedy a w v K ).1 ≠ 2 := by
  unfold sp_greedy
  (repeat' split) <;> first | exact (by decide : (0 : Nat) ≠ 2) | exact (by decide : (1 : Nat) ≠ 2)
theorem n2_lazy (a : AS) (w K Q : Nat) : (sp_lazy a w K Q ).1 ≠ 2 := by
  unfold sp_lazy
  (repeat' split) <;> first | exact (by decide : (0 : Nat) ≠ 2) | exact (by decide : (1 : Nat) ≠ 2)
theorem n2_bound (a : AS) (w K : Nat) : (sp_bound a w K ).1 ≠ 2 := by
  unfold sp_bound
  (repeat' split) <;> first | exact (by decide : (0 : Nat) ≠ 2) | exact (by decide : (1 : Nat) ≠ 2)
theorem n2_best (a : AS) (w v b : Nat) : (sp_best a w v b ).1 ≠ 2 := by
  unfold sp_best
  (repeat' split) <;> first | exact (by decide : (0 : Nat) ≠ 2) | exact (by decide : (1 : Nat) ≠ 2)
theorem n2_fewest (a : AS) (w b : Nat) : (sp_fewest a w b ).1 ≠ 2 := by
  unfold sp_fewest
  (repeat' split) <;> first | exact (by decide : (0 : Nat) ≠ 2) | exact (by decide : (1 : Nat) ≠ 2)
theorem n2_shortest (a : AS) (w v b : Nat) : (sp_shortest a w v b ).1 ≠ 2 := by
  unfold sp_shortest
  (repeat' split) <;> first | exact (by decide : (0 : Nat) ≠ 2) | exact (by decide : (1 : Nat) ≠ 2)
theorem n2_worth (a : AS) (w b c : Nat) : (sp_worth a w b c ).1 ≠ 2 := by
  unfold sp_worth
  (repeat' split) <;> first | exact (by decide : (0 : Nat) ≠ 2) | exact (by decide : (1 : Nat) ≠ 2)
theorem n2_exchange (a : AS) (w : Nat) : (sp_exchange a w ).1 ≠ 2 := by
  unfold sp_exchange
  (repeat' split) <;> first | exact (by decide : (0 : Nat) ≠ 2) | exact (by decide : (1 : Nat) ≠ 2)
theorem n2_next (a : AS) (w : Nat) (f : Bool) (b : Nat) : (sp_next a w  f  b ).1 ≠ 2 := by
  unfold sp_next
  (repeat' split) <;> first | exact (by decide : (0 : Nat) ≠ 2) | exact (by decide : (1 : Nat) ≠ 2)
abbrev lv0 (G : Gx) (b i : Nat) : List (Nat × Value) := [(0, .ref b), (1, .ref (G.2.2 80)), (2, .ref (G.2.2 96)), (3, .ref (G.2.2 95)), (4, .int (nI i))]
abbrev Nx (G : Gx) (b L i k : Nat) (y : Nat → Nat) : Prop := ∀ (X' : Cx) (k' : Nat) (μ' : Mu) (a' : AS), k' ≤ k + 1 → FinW G X' b L y k' → Kl μ' a' → Rf μ' a' → V G RL cL_law 8 100 X' 1681 (lv0 G b i) [] μ'
theorem mu_2_79 : Cond.methodLink RL 90 yX8_feed ∈ TT := tt_in (tb_2 (List.mem_of_getElem? (i := 79) (by decide +kernel))) (by decide +kernel)
theorem mu_2_80 : Cond.instanceMethod yX8_feed ∈ TT := tt_in (tb_2 (List.mem_of_getElem? (i := 80) (by decide +kernel))) (by decide +kernel)
theorem mu_2_81 : Cond.selects RX8 yX8_feed yX8_feed ∈ TT := tt_in (tb_2 (List.mem_of_getElem? (i := 81) (by decide +kernel))) (by decide +kernel)
theorem mu_1_1 : Cond.initialized RX8 ∈ TT := tt_in (tb_1 (List.mem_of_getElem? (i := 1) (by decide +kernel))) (by decide +kernel)
theorem mu_2_82 : Cond.code yX8_feed cX8_feed 6 (some .int) ∈ TT := tt_in (tb_2 (List.mem_of_getElem? (i := 82) (by decide +kernel))) (by decide +kernel)
theorem mu_5_22 : Cond.methodLink RL 94 yX9_feed ∈ TT := tt_in (tb_5 (List.mem_of_getElem? (i := 22) (by decide +kernel))) (by decide +kernel)
theorem mu_5_23 : Cond.instanceMethod yX9_feed ∈ TT := tt_in (tb_5 (List.mem_of_getElem? (i := 23) (by decide +kernel))) (by decide +kernel)
theorem mu_5_24 : Cond.selects RX9 yX9_feed yX9_feed ∈ TT := tt_in (tb_5 (List.mem_of_getElem? (i := 24) (by decide +kernel))) (by decide +kernel)
theorem mu_1_10 : Cond.initialized RX9 ∈ TT := tt_in (tb_1 (List.mem_of_getElem? (i := 10) (by decide +kernel))) (by decide +kernel)
theorem mu_5_25 : Cond.code yX9_feed cX9_feed 8 (some .int) ∈ TT := tt_in (tb_5 (List.mem_of_getElem? (i := 25) (by decide +kernel))) (by decide +kernel)
set_option maxHeartbeats 1000000 in
theorem lc_feed {G : Gx} {X : Cx} {b L k i : Nat} {y : Nat → Nat} {μ : Mu} {a : AS} (hF : FinW G X b L y k) (hk : k < 512) (hL : L ≤ 3072) (hi : i + 6 ≤ L) (hy : ∀ j, y j < 2 ^ 32) (hKl : Kl μ a) (hRf : Rf μ a) (nx : Nx G b L i k y) : V G RL cL_law 8 100 X 164 (lv0 G b i) [] μ := by
  obtain ⟨q, hq⟩ : ∃ q : Res, q = sp_feed a (y (i + 1)) (y (i + 2)) (y (i + 3)) (y (i + 4)) (y (i + 5)) := ⟨_, rfl⟩
  have hC : Runs 1 M_X8_feed [.ref (G.2.2 80), .int (nI (y (i + 1))), .int (nI (y (i + 2))), .int (nI (y (i + 3))), .int (nI (y (i + 4))), .int (nI (y (i + 5)))] G μ (CF μ q) := by rw [hq]; exact ok_X8_feed a hKl (y (i + 1)) (y (i + 2)) (y (i + 3)) (y (i + 4)) (y (i + 5)) (hy _) (hy _) (hy _) (hy _) (hy _)
  have hM : ∀ μ1 : Mu, Rf μ1 a → Runs 1 M_X9_feed [.ref (G.2.2 96), .int (nI (y (i + 1))), .int (nI (y (i + 2))), .int (nI (y (i + 3))), .int (nI (y (i + 4))), .int (nI (y (i + 5)))] G μ1 (RP μ1 q) := fun μ1 h => by rw [hq]; exact ok_X9_feed a h (y (i + 1)) (y (i + 2)) (y (i + 3)) (y (i + 4)) (y (i + 5)) (hy _) (hy _) (hy _) (hy _) (hy _)
  clear hq
  refine V.aload_n (pc := 164) 1 dL_law_164 rfl ?_
  refine V.aload_n (pc := 165) 0 dL_law_165 rfl ?_
  refine V.iload (pc := 166) 4 dL_law_166 rfl ?_
  refine V.iconst (pc := 168) (v := nI 1) dL_law_168 (by decide) ?_
  refine V.iadd (pc := 169) dL_law_169 (nI_add _ _) ?_
  refine V.sld (pc := 170) hF (i + 1) (by omega) hL dL_law_170 ?_
  refine V.aload_n (pc := 171) 0 dL_law_171 rfl ?_
  refine V.iload (pc := 172) 4 dL_law_172 rfl ?_
  refine V.iconst (pc := 174) (v := nI 2) dL_law_174 (by decide) ?_
  refine V.iadd (pc := 175) dL_law_175 (nI_add _ _) ?_
  refine V.sld (pc := 176) hF (i + 2) (by omega) hL dL_law_176 ?_
  refine V.aload_n (pc := 177) 0 dL_law_177 rfl ?_
  refine V.iload (pc := 178) 4 dL_law_178 rfl ?_
  refine V.iconst (pc := 180) (v := nI 3) dL_law_180 (by decide) ?_
  refine V.iadd (pc := 181) dL_law_181 (nI_add _ _) ?_
  refine V.sld (pc := 182) hF (i + 3) (by omega) hL dL_law_182 ?_
  refine V.aload_n (pc := 183) 0 dL_law_183 rfl ?_
  refine V.iload (pc := 184) 4 dL_law_184 rfl ?_
  refine V.iconst (pc := 186) (v := nI 4) dL_law_186 (by decide) ?_
  refine V.iadd (pc := 187) dL_law_187 (nI_add _ _) ?_
  refine V.sld (pc := 188) hF (i + 4) (by omega) hL dL_law_188 ?_
  refine V.aload_n (pc := 189) 0 dL_law_189 rfl ?_
  refine V.iload (pc := 190) 4 dL_law_190 rfl ?_
  refine V.iconst (pc := 192) (v := nI 5) dL_law_192 (by decide) ?_
  refine V.iadd (pc := 193) dL_law_193 (nI_add _ _) ?_
  refine V.sld (pc := 194) hF (i + 5) (by omega) hL dL_law_194 ?_
  refine V.callV (pc := 195) (k := 80) (ci := 8) (T := TX8) (N := 12) (n := 5) (As := [.int (nI (y (i + 1))), .int (nI (y (i + 2))), .int (nI (y (i + 3))), .int (nI (y (i + 4))), .int (nI (y (i + 5)))]) (rest := []) hC (Nat.le_of_ble_eq_true rfl) (Nat.le_of_ble_eq_true rfl) (Nat.le_of_ble_eq_true rfl) (fun _ _ => rfl) rfl mu_2_79 mu_2_80 mu_2_81 mu_1_1 mu_2_82 ⟨by decide, by decide, by decide +kernel⟩ rfl rfl (Nat.le_of_ble_eq_true rfl) dL_law_195 (fun r1 μ1 h1 => ?_)
  obtain ⟨hq0, rfl, hK1, hf1⟩ := h1
  have hR1 := hRf.out hf1 (fun c (h : c < 95) => by omega)
  refine V.aload_n (pc := 198) 2 dL_law_198 rfl ?_
  refine V.aload_n (pc := 199) 0 dL_law_199 rfl ?_
  refine V.iload (pc := 200) 4 dL_law_200 rfl ?_
  refine V.iconst (pc := 202) (v := nI 1) dL_law_202 (by decide) ?_
  refine V.iadd (pc := 203) dL_law_203 (nI_add _ _) ?_
  refine V.sld (pc := 204) hF (i + 1) (by omega) hL dL_law_204 ?_
  refine V.aload_n (pc := 205) 0 dL_law_205 rfl ?_
  refine V.iload (pc := 206) 4 dL_law_206 rfl ?_
  refine V.iconst (pc := 208) (v := nI 2) dL_law_208 (by decide) ?_
  refine V.iadd (pc := 209) dL_law_209 (nI_add _ _) ?_
  refine V.sld (pc := 210) hF (i + 2) (by omega) hL dL_law_210 ?_
  refine V.aload_n (pc := 211) 0 dL_law_211 rfl ?_
  refine V.iload (pc := 212) 4 dL_law_212 rfl ?_
  refine V.iconst (pc := 214) (v := nI 3) dL_law_214 (by decide) ?_
  refine V.iadd (pc := 215) dL_law_215 (nI_add _ _) ?_
  refine V.sld (pc := 216) hF (i + 3) (by omega) hL dL_law_216 ?_
  refine V.aload_n (pc := 217) 0 dL_law_217 rfl ?_
  refine V.iload (pc := 218) 4 dL_law_218 rfl ?_
  refine V.iconst (pc := 220) (v := nI 4) dL_law_220 (by decide) ?_
  refine V.iadd (pc := 221) dL_law_221 (nI_add _ _) ?_
  refine V.sld (pc := 222) hF (i + 4) (by omega) hL dL_law_222 ?_
  refine V.aload_n (pc := 223) 0 dL_law_223 rfl ?_
  refine V.iload (pc := 224) 4 dL_law_224 rfl ?_
  refine V.iconst (pc := 226) (v := nI 5) dL_law_226 (by decide) ?_
  refine V.iadd (pc := 227) dL_law_227 (nI_add _ _) ?_
  refine V.sld (pc := 228) hF (i + 5) (by omega) hL dL_law_228 ?_
  refine V.callV (pc := 229) (k := 96) (ci := 9) (T := TX9) (N := 27) (n := 5) (As := [.int (nI (y (i + 1))), .int (nI (y (i + 2))), .int (nI (y (i + 3))), .int (nI (y (i + 4))), .int (nI (y (i + 5)))]) (rest := [.int q.2.1]) (hM μ1 hR1) (Nat.le_of_ble_eq_true rfl) (Nat.le_of_ble_eq_true rfl) (Nat.le_of_ble_eq_true rfl) (fun _ _ => rfl) rfl mu_5_22 mu_5_23 mu_5_24 mu_1_10 mu_5_25 ⟨by decide, by decide, by decide +kernel⟩ rfl rfl (Nat.le_of_ble_eq_true rfl) dL_law_229 (fun r2 μ2 h2 => ?_)
  obtain ⟨hR2, ht2, ⟨v2, rfl, hv2⟩, hf2⟩ := h2
  refine V.icmp_eq (pc := 232) 1681 dL_law_232 (by decide) (fun _ => ?_) (fun h => absurd (hv2 hq0).symm h)
  exact nx _ _ _ _ (Nat.le_succ _) hF (hK1.out hf2) hR2
theorem mu_2_139 : Cond.methodLink RL 95 yL_text ∈ TT := tt_in (tb_2 (List.mem_of_getElem? (i := 139) (by decide +kernel))) (by decide +kernel)
theorem mu_2_140 : Cond.static yL_text ∈ TT := tt_in (tb_2 (List.mem_of_getElem? (i := 140) (by decide +kernel))) (by decide +kernel)
theorem mu_1_0 : Cond.initialized RL ∈ TT := tt_in (tb_1 (List.mem_of_getElem? (i := 0) (by decide +kernel))) (by decide +kernel)
theorem mu_2_141 : Cond.codeWith yL_text cL_text 4 (some .int) hh_text ∈ TT := tt_in (tb_2 (List.mem_of_getElem? (i := 141) (by decide +kernel))) (by decide +kernel)
theorem mu_5_26 : Cond.methodLink RL 100 yX9_text ∈ TT := tt_in (tb_5 (List.mem_of_getElem? (i := 26) (by decide +kernel))) (by decide +kernel)
theorem mu_5_27 : Cond.instanceMethod yX9_text ∈ TT := tt_in (tb_5 (List.mem_of_getElem? (i := 27) (by decide +kernel))) (by decide +kernel)
theorem mu_5_28 : Cond.selects RX9 yX9_text yX9_text ∈ TT := tt_in (tb_5 (List.mem_of_getElem? (i := 28) (by decide +kernel))) (by decide +kernel)
theorem mu_5_29 : Cond.code yX9_text cX9_text 3 (some .int) ∈ TT := tt_in (tb_5 (List.mem_of_getElem? (i := 29) (by decide +kernel))) (by decide +kernel)
theorem mu_5_18 : Cond.methodLink RL 101 yX9_thrown ∈ TT := tt_in (tb_5 (List.mem_of_getElem? (i := 18) (by decide +kernel))) (by decide +kernel)
theorem mu_5_19 : Cond.instanceMethod yX9_thrown ∈ TT := tt_in (tb_5 (List.mem_of_getElem? (i := 19) (by decide +kernel))) (by decide +kernel)
theorem mu_5_20 : Cond.selects RX9 yX9_thrown yX9_thrown ∈ TT := tt_in (tb_5 (List.mem_of_getElem? (i := 20) (by decide +kernel))) (by decide +kernel)
theorem mu_5_21 : Cond.code yX9_thrown cX9_thrown 1 (some .int) ∈ TT := tt_in (tb_5 (List.mem_of_getElem? (i := 21) (by decide +kernel))) (by decide +kernel)
set_option maxHeartbeats 1000000 in
theorem lc_text {G : Gx} {X : Cx} {b L k i : Nat} {y : Nat → Nat} {μ : Mu} {a : AS} (hF : FinW G X b L y k) (hk : k < 512) (hL : L ≤ 3072) (hi : i + 6 ≤ L) (hy : ∀ j, y j < 2 ^ 32) (hKl : Kl μ a) (hRf : Rf μ a) (nx : Nx G b L i k y) : V G RL cL_law 8 100 X 237 (lv0 G b i) [] μ := by
  obtain ⟨q, hq⟩ : ∃ q : Res, q = sp_text a (y (i + 1)) := ⟨_, rfl⟩
  have hC : RunsX 9 4 M_X8_text [.ref (G.2.2 80), .int (nI (y (i + 1)))] G μ (CF μ q) (CT nIA nIA μ q) := by rw [hq]; exact ok_X8_text a hKl (y (i + 1)) (hy _)
  have hM : ∀ μ1 : Mu, Rf μ1 a → Runs 6 M_X9_text [.ref (G.2.2 96), .int (nI (y (i + 1)))] G μ1 (RP μ1 q) := fun μ1 h => by rw [hq]; exact ok_X9_text a h (y (i + 1)) (hy _)
  have hq2 : q.1 ≠ 2 := by rw [hq]; exact n2_text a (y (i + 1))
  clear hq
  refine V.aload_n (pc := 237) 1 dL_law_237 rfl ?_
  refine V.aload_n (pc := 238) 0 dL_law_238 rfl ?_
  refine V.iload (pc := 239) 4 dL_law_239 rfl ?_
  refine V.iconst (pc := 241) (v := nI 1) dL_law_241 (by decide) ?_
  refine V.iadd (pc := 242) dL_law_242 (nI_add _ _) ?_
  refine V.sld (pc := 243) hF (i + 1) (by omega) hL dL_law_243 ?_
  refine V.aload_n (pc := 244) 3 dL_law_244 rfl ?_
  refine V.callL (pc := 245) (n := 3) (As := [.ref (G.2.2 80), .int (nI (y (i + 1))), .ref (G.2.2 95)]) (rest := []) hF hk (ok_L_text (Nat.le_of_ble_eq_true rfl) hq2 hC) (Nat.le_of_ble_eq_true rfl) (Nat.le_of_ble_eq_true rfl) mu_2_139 mu_2_140 mu_1_0 mu_2_141 ⟨by decide, by decide, by decide +kernel⟩ rfl rfl (Nat.le_of_ble_eq_true rfl) dL_law_245 (fun X1 hF1 r1 μ1 h1 => ?_)
  obtain ⟨rfl, hK1, hO1, hf1, hq1⟩ := h1
  have hR1 := hRf.out hf1 (fun _ q => q)
  refine V.istore (pc := 248) (lv' := [(0, .ref b), (1, .ref (G.2.2 80)), (2, .ref (G.2.2 96)), (3, .ref (G.2.2 95)), (4, .int (nI i)), (5, .int (nI q.1))]) dL_law_248 (Nat.le_of_ble_eq_true rfl) rfl ?_
  refine V.aload_n (pc := 250) 2 dL_law_250 rfl ?_
  refine V.aload_n (pc := 251) 0 dL_law_251 rfl ?_
  refine V.iload (pc := 252) 4 dL_law_252 rfl ?_
  refine V.iconst (pc := 254) (v := nI 1) dL_law_254 (by decide) ?_
  refine V.iadd (pc := 255) dL_law_255 (nI_add _ _) ?_
  refine V.sld (pc := 256) hF1 (i + 1) (by omega) hL dL_law_256 ?_
  refine V.callV (pc := 257) (k := 96) (ci := 9) (T := TX9) (N := 27) (n := 1) (As := [.int (nI (y (i + 1)))]) (rest := []) (hM μ1 hR1) (Nat.le_of_ble_eq_true rfl) (Nat.le_of_ble_eq_true rfl) (Nat.le_of_ble_eq_true rfl) (fun _ _ => rfl) rfl mu_5_26 mu_5_27 mu_5_28 mu_1_10 mu_5_29 ⟨by decide, by decide, by decide +kernel⟩ rfl rfl (Nat.le_of_ble_eq_true rfl) dL_law_257 (fun r2 μ2 h2 => ?_)
  obtain ⟨hR2, ht2, ⟨v2, rfl, hv2⟩, hf2⟩ := h2
  have hK2 := hK1.out hf2
  refine V.istore (pc := 260) (lv' := [(0, .ref b), (1, .ref (G.2.2 80)), (2, .ref (G.2.2 96)), (3, .ref (G.2.2 95)), (4, .int (nI i)), (5, .int (nI q.1)), (6, .int v2)]) dL_law_260 (Nat.le_of_ble_eq_true rfl) rfl ?_
  refine V.aload_n (pc := 262) 2 dL_law_262 rfl ?_
  refine V.callV (pc := 263) (k := 96) (ci := 9) (T := TX9) (N := 27) (n := 0) (As := []) (rest := []) (ok_X9_thrown q.1 ht2) (Nat.le_of_ble_eq_true rfl) (Nat.le_of_ble_eq_true rfl) (Nat.le_of_ble_eq_true rfl) (fun _ _ => rfl) rfl mu_5_18 mu_5_19 mu_5_20 mu_1_10 mu_5_21 ⟨by decide, by decide, by decide +kernel⟩ rfl rfl (Nat.le_of_ble_eq_true rfl) dL_law_263 (fun r3 μ3 h3 => ?_)
  obtain ⟨rfl, rfl⟩ := h3
  refine V.iload (pc := 266) 5 dL_law_266 rfl ?_
  refine V.icmp_eq (pc := 268) 273 dL_law_268 (by decide) (fun _ => ?_) (fun h => absurd rfl h)
  refine V.iload (pc := 273) 5 dL_law_273 rfl ?_
  refine V.if_ne (pc := 275) 290 dL_law_275 (by decide) (fun h0 => ?_) (fun h0 => ?_)
  · refine V.goto (pc := 290) 1681 dL_law_290 (by decide) ?_
    refine V.sub [0, 1, 2, 3, 4] rfl ?_
    exact nx _ _ _ _ (Nat.le_refl _) hF1 hK2 hR2
  · have hz : q.1 = 0 := (nI_nz (by omega)).mp h0
    refine V.aload_n (pc := 278) 3 dL_law_278 rfl ?_
    refine V.iconst (pc := 279) (v := nI 0) dL_law_279 (by decide) ?_
    refine V.lald (pc := 280) (k := 95) (n := 1) (v := q.2.1.toInt64) (Nat.le_of_ble_eq_true rfl) (fun _ _ => rfl) 0 (Nat.le_of_ble_eq_true rfl) (Nat.le_of_ble_eq_true rfl) dL_law_280 ((congrFun (hf2 95 (fun z : 96 ≤ 95 => absurd z (by decide))).2 0).trans (hO1 hz)) ?_
    refine V.iload (pc := 281) 6 dL_law_281 rfl ?_
    refine V.i2l (pc := 283) (v := q.2.1.toInt64) dL_law_283 (by rw [hv2 hz]) ?_
    refine V.lcmp (pc := 284) dL_law_284 ?_
    refine V.if_eq (pc := 285) 290 dL_law_285 (by decide) (fun _ => ?_) (fun h => absurd (lcmp_eq _) h)
    refine V.goto (pc := 290) 1681 dL_law_290 (by decide) ?_
    refine V.sub [0, 1, 2, 3, 4] rfl ?_
    exact nx _ _ _ _ (Nat.le_refl _) hF1 hK2 hR2
theorem mu_2_87 : Cond.methodLink RL 105 yX8_fault ∈ TT := tt_in (tb_2 (List.mem_of_getElem? (i := 87) (by decide +kernel))) (by decide +kernel)
theorem mu_2_88 : Cond.instanceMethod yX8_fault ∈ TT := tt_in (tb_2 (List.mem_of_getElem? (i := 88) (by decide +kernel))) (by decide +kernel)
theorem mu_2_89 : Cond.selects RX8 yX8_fault yX8_fault ∈ TT := tt_in (tb_2 (List.mem_of_getElem? (i := 89) (by decide +kernel))) (by decide +kernel)
theorem mu_2_90 : Cond.code yX8_fault cX8_fault 1 (some .int) ∈ TT := tt_in (tb_2 (List.mem_of_getElem? (i := 90) (by decide +kernel))) (by decide +kernel)
theorem mu_5_87 : Cond.methodLink RL 108 yX9_fault ∈ TT := tt_in (tb_5 (List.mem_of_getElem? (i := 87) (by decide +kernel))) (by decide +kernel)
theorem mu_5_88 : Cond.instanceMethod yX9_fault ∈ TT := tt_in (tb_5 (List.mem_of_getElem? (i := 88) (by decide +kernel))) (by decide +kernel)
theorem mu_5_89 : Cond.selects RX9 yX9_fault yX9_fault ∈ TT := tt_in (tb_5 (List.mem_of_getElem? (i := 89) (by decide +kernel))) (by decide +kernel)
theorem mu_5_90 : Cond.code yX9_fault cX9_fault 1 (some .int) ∈ TT := tt_in (tb_5 (List.mem_of_getElem? (i := 90) (by decide +kernel))) (by decide +kernel)
set_option maxHeartbeats 1000000 in
theorem lc_fault {G : Gx} {X : Cx} {b L k i : Nat} {y : Nat → Nat} {μ : Mu} {a : AS} (hF : FinW G X b L y k) (hk : k < 512) (hL : L ≤ 3072) (hi : i + 6 ≤ L) (hy : ∀ j, y j < 2 ^ 32) (hKl : Kl μ a) (hRf : Rf μ a) (nx : Nx G b L i k y) : V G RL cL_law 8 100 X 293 (lv0 G b i) [] μ := by
  obtain ⟨q, hq⟩ : ∃ q : Res, q = sp_fault a := ⟨_, rfl⟩
  have hC : Runs 0 M_X8_fault [.ref (G.2.2 80)] G μ (CF μ q) := by rw [hq]; exact ok_X8_fault a hKl 
  have hM : ∀ μ1 : Mu, Rf μ1 a → Runs 0 M_X9_fault [.ref (G.2.2 96)] G μ1 (RP μ1 q) := fun μ1 h => by rw [hq]; exact ok_X9_fault a h 
  clear hq
  refine V.aload_n (pc := 293) 1 dL_law_293 rfl ?_
  refine V.callV (pc := 294) (k := 80) (ci := 8) (T := TX8) (N := 12) (n := 0) (As := []) (rest := []) hC (Nat.le_of_ble_eq_true rfl) (Nat.le_of_ble_eq_true rfl) (Nat.le_of_ble_eq_true rfl) (fun _ _ => rfl) rfl mu_2_87 mu_2_88 mu_2_89 mu_1_1 mu_2_90 ⟨by decide, by decide, by decide +kernel⟩ rfl rfl (Nat.le_of_ble_eq_true rfl) dL_law_294 (fun r1 μ1 h1 => ?_)
  obtain ⟨hq0, rfl, hK1, hf1⟩ := h1
  have hR1 := hRf.out hf1 (fun c (h : c < 95) => by omega)
  refine V.aload_n (pc := 297) 2 dL_law_297 rfl ?_
  refine V.callV (pc := 298) (k := 96) (ci := 9) (T := TX9) (N := 27) (n := 0) (As := []) (rest := [.int q.2.1]) (hM μ1 hR1) (Nat.le_of_ble_eq_true rfl) (Nat.le_of_ble_eq_true rfl) (Nat.le_of_ble_eq_true rfl) (fun _ _ => rfl) rfl mu_5_87 mu_5_88 mu_5_89 mu_1_10 mu_5_90 ⟨by decide, by decide, by decide +kernel⟩ rfl rfl (Nat.le_of_ble_eq_true rfl) dL_law_298 (fun r2 μ2 h2 => ?_)
  obtain ⟨hR2, ht2, ⟨v2, rfl, hv2⟩, hf2⟩ := h2
  refine V.icmp_eq (pc := 301) 1681 dL_law_301 (by decide) (fun _ => ?_) (fun h => absurd (hv2 hq0).symm h)
  exact nx _ _ _ _ (Nat.le_succ _) hF (hK1.out hf2) hR2
theorem mu_3_30 : Cond.methodLink RL 109 yL_weigh ∈ TT := tt_in (tb_3 (List.mem_of_getElem? (i := 30) (by decide +kernel))) (by decide +kernel)
theorem mu_3_31 : Cond.static yL_weigh ∈ TT := tt_in (tb_3 (List.mem_of_getElem? (i := 31) (by decide +kernel))) (by decide +kernel)
theorem mu_3_32 : Cond.codeWith yL_weigh cL_weigh 5 (some .int) hh_weigh ∈ TT := tt_in (tb_3 (List.mem_of_getElem? (i := 32) (by decide +kernel))) (by decide +kernel)
theorem mu_5_95 : Cond.methodLink RL 112 yX9_weigh ∈ TT := tt_in (tb_5 (List.mem_of_getElem? (i := 95) (by decide +kernel))) (by decide +kernel)
theorem mu_5_96 : Cond.instanceMethod yX9_weigh ∈ TT := tt_in (tb_5 (List.mem_of_getElem? (i := 96) (by decide +kernel))) (by decide +kernel)
theorem mu_5_97 : Cond.selects RX9 yX9_weigh yX9_weigh ∈ TT := tt_in (tb_5 (List.mem_of_getElem? (i := 97) (by decide +kernel))) (by decide +kernel)
theorem mu_5_98 : Cond.code yX9_weigh cX9_weigh 4 (some .int) ∈ TT := tt_in (tb_5 (List.mem_of_getElem? (i := 98) (by decide +kernel))) (by decide +kernel)
set_option maxHeartbeats 1000000 in
theorem lc_weigh {G : Gx} {X : Cx} {b L k i : Nat} {y : Nat → Nat} {μ : Mu} {a : AS} (hF : FinW G X b L y k) (hk : k < 512) (hL : L ≤ 3072) (hi : i + 6 ≤ L) (hy : ∀ j, y j < 2 ^ 32) (hKl : Kl μ a) (hRf : Rf μ a) (nx : Nx G b L i k y) : V G RL cL_law 8 100 X 306 (lv0 G b i) [] μ := by
  obtain ⟨q, hq⟩ : ∃ q : Res, q = sp_weigh a (y (i + 1)) (y (i + 2)) := ⟨_, rfl⟩
  have hC : RunsX 9 4 M_X8_weigh [.ref (G.2.2 80), .int (nI (y (i + 1))), .int (nI (y (i + 2)))] G μ (CF μ q) (CT nNS nIA μ q) := by rw [hq]; exact ok_X8_weigh a hKl (y (i + 1)) (y (i + 2)) (hy _) (hy _)
  have hM : ∀ μ1 : Mu, Rf μ1 a → Runs 4 M_X9_weigh [.ref (G.2.2 96), .int (nI (y (i + 1))), .int (nI (y (i + 2)))] G μ1 (RP μ1 q) := fun μ1 h => by rw [hq]; exact ok_X9_weigh a h (y (i + 1)) (y (i + 2)) (hy _) (hy _)
  clear hq
  refine V.aload_n (pc := 306) 1 dL_law_306 rfl ?_
  refine V.aload_n (pc := 307) 0 dL_law_307 rfl ?_
  refine V.iload (pc := 308) 4 dL_law_308 rfl ?_
  refine V.iconst (pc := 310) (v := nI 1) dL_law_310 (by decide) ?_
  refine V.iadd (pc := 311) dL_law_311 (nI_add _ _) ?_
  refine V.sld (pc := 312) hF (i + 1) (by omega) hL dL_law_312 ?_
  refine V.aload_n (pc := 313) 0 dL_law_313 rfl ?_
  refine V.iload (pc := 314) 4 dL_law_314 rfl ?_
  refine V.iconst (pc := 316) (v := nI 2) dL_law_316 (by decide) ?_
  refine V.iadd (pc := 317) dL_law_317 (nI_add _ _) ?_
  refine V.sld (pc := 318) hF (i + 2) (by omega) hL dL_law_318 ?_
  refine V.aload_n (pc := 319) 3 dL_law_319 rfl ?_
  refine V.callL (pc := 320) (n := 4) (As := [.ref (G.2.2 80), .int (nI (y (i + 1))), .int (nI (y (i + 2))), .ref (G.2.2 95)]) (rest := []) hF hk (ok_L_weigh (Nat.le_of_ble_eq_true rfl) hC) (Nat.le_of_ble_eq_true rfl) (Nat.le_of_ble_eq_true rfl) mu_3_30 mu_3_31 mu_1_0 mu_3_32 ⟨by decide, by decide, by decide +kernel⟩ rfl rfl (Nat.le_of_ble_eq_true rfl) dL_law_320 (fun X1 hF1 r1 μ1 h1 => ?_)
  obtain ⟨rfl, hK1, hO1, hf1, hq1⟩ := h1
  have hR1 := hRf.out hf1 (fun _ q => q)
  refine V.istore (pc := 323) (lv' := [(0, .ref b), (1, .ref (G.2.2 80)), (2, .ref (G.2.2 96)), (3, .ref (G.2.2 95)), (4, .int (nI i)), (5, .int (nI q.1))]) dL_law_323 (Nat.le_of_ble_eq_true rfl) rfl ?_
  refine V.aload_n (pc := 325) 2 dL_law_325 rfl ?_
  refine V.aload_n (pc := 326) 0 dL_law_326 rfl ?_
  refine V.iload (pc := 327) 4 dL_law_327 rfl ?_
  refine V.iconst (pc := 329) (v := nI 1) dL_law_329 (by decide) ?_
  refine V.iadd (pc := 330) dL_law_330 (nI_add _ _) ?_
  refine V.sld (pc := 331) hF1 (i + 1) (by omega) hL dL_law_331 ?_
  refine V.aload_n (pc := 332) 0 dL_law_332 rfl ?_
  refine V.iload (pc := 333) 4 dL_law_333 rfl ?_
  refine V.iconst (pc := 335) (v := nI 2) dL_law_335 (by decide) ?_
  refine V.iadd (pc := 336) dL_law_336 (nI_add _ _) ?_
  refine V.sld (pc := 337) hF1 (i + 2) (by omega) hL dL_law_337 ?_
  refine V.callV (pc := 338) (k := 96) (ci := 9) (T := TX9) (N := 27) (n := 2) (As := [.int (nI (y (i + 1))), .int (nI (y (i + 2)))]) (rest := []) (hM μ1 hR1) (Nat.le_of_ble_eq_true rfl) (Nat.le_of_ble_eq_true rfl) (Nat.le_of_ble_eq_true rfl) (fun _ _ => rfl) rfl mu_5_95 mu_5_96 mu_5_97 mu_1_10 mu_5_98 ⟨by decide, by decide, by decide +kernel⟩ rfl rfl (Nat.le_of_ble_eq_true rfl) dL_law_338 (fun r2 μ2 h2 => ?_)
  obtain ⟨hR2, ht2, ⟨v2, rfl, hv2⟩, hf2⟩ := h2
  have hK2 := hK1.out hf2
  refine V.istore (pc := 341) (lv' := [(0, .ref b), (1, .ref (G.2.2 80)), (2, .ref (G.2.2 96)), (3, .ref (G.2.2 95)), (4, .int (nI i)), (5, .int (nI q.1)), (6, .int v2)]) dL_law_341 (Nat.le_of_ble_eq_true rfl) rfl ?_
  refine V.aload_n (pc := 343) 2 dL_law_343 rfl ?_
  refine V.callV (pc := 344) (k := 96) (ci := 9) (T := TX9) (N := 27) (n := 0) (As := []) (rest := []) (ok_X9_thrown q.1 ht2) (Nat.le_of_ble_eq_true rfl) (Nat.le_of_ble_eq_true rfl) (Nat.le_of_ble_eq_true rfl) (fun _ _ => rfl) rfl mu_5_18 mu_5_19 mu_5_20 mu_1_10 mu_5_21 ⟨by decide, by decide, by decide +kernel⟩ rfl rfl (Nat.le_of_ble_eq_true rfl) dL_law_344 (fun r3 μ3 h3 => ?_)
  obtain ⟨rfl, rfl⟩ := h3
  refine V.iload (pc := 347) 5 dL_law_347 rfl ?_
  refine V.icmp_eq (pc := 349) 354 dL_law_349 (by decide) (fun _ => ?_) (fun h => absurd rfl h)
  refine V.iload (pc := 354) 5 dL_law_354 rfl ?_
  refine V.if_ne (pc := 356) 371 dL_law_356 (by decide) (fun h0 => ?_) (fun h0 => ?_)
  · refine V.goto (pc := 371) 1681 dL_law_371 (by decide) ?_
    refine V.sub [0, 1, 2, 3, 4] rfl ?_
    exact nx _ _ _ _ (Nat.le_refl _) hF1 hK2 hR2
  · have hz : q.1 = 0 := (nI_nz (by omega)).mp h0
    refine V.aload_n (pc := 359) 3 dL_law_359 rfl ?_
    refine V.iconst (pc := 360) (v := nI 0) dL_law_360 (by decide) ?_
    refine V.lald (pc := 361) (k := 95) (n := 1) (v := q.2.1.toInt64) (Nat.le_of_ble_eq_true rfl) (fun _ _ => rfl) 0 (Nat.le_of_ble_eq_true rfl) (Nat.le_of_ble_eq_true rfl) dL_law_361 ((congrFun (hf2 95 (fun z : 96 ≤ 95 => absurd z (by decide))).2 0).trans (hO1 hz)) ?_
    refine V.iload (pc := 362) 6 dL_law_362 rfl ?_
    refine V.i2l (pc := 364) (v := q.2.1.toInt64) dL_law_364 (by rw [hv2 hz]) ?_
    refine V.lcmp (pc := 365) dL_law_365 ?_
    refine V.if_eq (pc := 366) 371 dL_law_366 (by decide) (fun _ => ?_) (fun h => absurd (lcmp_eq _) h)
    refine V.goto (pc := 371) 1681 dL_law_371 (by decide) ?_
    refine V.sub [0, 1, 2, 3, 4] rfl ?_
    exact nx _ _ _ _ (Nat.le_refl _) hF1 hK2 hR2
theorem mu_3_62 : Cond.methodLink RL 113 yL_lean ∈ TT := tt_in (tb_3 (List.mem_of_getElem? (i := 62) (by decide +kernel))) (by decide +kernel)
theorem mu_3_63 : Cond.static yL_lean ∈ TT := tt_in (tb_3 (List.mem_of_getElem? (i := 63) (by decide +kernel))) (by decide +kernel)
theorem mu_3_64 : Cond.codeWith yL_lean cL_lean 5 (some .int) hh_lean ∈ TT := tt_in (tb_3 (List.mem_of_getElem? (i := 64) (by decide +kernel))) (by decide +kernel)
theorem mu_5_122 : Cond.methodLink RL 116 yX9_lean ∈ TT := tt_in (tb_5 (List.mem_of_getElem? (i := 122) (by decide +kernel))) (by decide +kernel)
theorem mu_5_123 : Cond.instanceMethod yX9_lean ∈ TT := tt_in (tb_5 (List.mem_of_getElem? (i := 123) (by decide +kernel))) (by decide +kernel)
theorem mu_5_124 : Cond.selects RX9 yX9_lean yX9_lean ∈ TT := tt_in (tb_5 (List.mem_of_getElem? (i := 124) (by decide +kernel))) (by decide +kernel)
theorem mu_5_125 : Cond.code yX9_lean cX9_lean 4 (some .int) ∈ TT := tt_in (tb_5 (List.mem_of_getElem? (i := 125) (by decide +kernel))) (by decide +kernel)
set_option maxHeartbeats 1000000 in
theorem lc_lean {G : Gx} {X : Cx} {b L k i : Nat} {y : Nat → Nat} {μ : Mu} {a : AS} (hF : FinW G X b L y k) (hk : k < 512) (hL : L ≤ 3072) (hi : i + 6 ≤ L) (hy : ∀ j, y j < 2 ^ 32) (hKl : Kl μ a) (hRf : Rf μ a) (nx : Nx G b L i k y) : V G RL cL_law 8 100 X 374 (lv0 G b i) [] μ := by
  by_cases hb : y (i + 2) = 0
  · obtain ⟨q, hq⟩ : ∃ q : Res, q = sp_lean a (y (i + 1)) false := ⟨_, rfl⟩
    have hC : RunsX 9 4 M_X8_lean [.ref (G.2.2 80), .int (nI (y (i + 1))), .int (nI 0)] G μ (CF μ q) (CT nNS nNS μ q) := by rw [hq]; exact ok_X8_lean a hKl (y (i + 1)) false (hy _)
    have hM : ∀ μ1 : Mu, Rf μ1 a → Runs 4 M_X9_lean [.ref (G.2.2 96), .int (nI (y (i + 1))), .int (nI 0)] G μ1 (RP μ1 q) := fun μ1 h => by rw [hq]; exact ok_X9_lean a h (y (i + 1)) false (hy _)
    have hq2 : q.1 ≠ 2 := by rw [hq]; exact n2_lean a (y (i + 1)) false
    clear hq
    refine V.aload_n (pc := 374) 1 dL_law_374 rfl ?_
    refine V.aload_n (pc := 375) 0 dL_law_375 rfl ?_
    refine V.iload (pc := 376) 4 dL_law_376 rfl ?_
    refine V.iconst (pc := 378) (v := nI 1) dL_law_378 (by decide) ?_
    refine V.iadd (pc := 379) dL_law_379 (nI_add _ _) ?_
    refine V.sld (pc := 380) hF (i + 1) (by omega) hL dL_law_380 ?_
    refine V.aload_n (pc := 381) 0 dL_law_381 rfl ?_
    refine V.iload (pc := 382) 4 dL_law_382 rfl ?_
    refine V.iconst (pc := 384) (v := nI 2) dL_law_384 (by decide) ?_
    refine V.iadd (pc := 385) dL_law_385 (nI_add _ _) ?_
    refine V.sld (pc := 386) hF (i + 2) (by omega) hL dL_law_386 ?_
    refine V.if_eq (pc := 387) 394 dL_law_387 (by decide) (fun _ => ?_) (fun h => absurd ((nI_nz (hy _)).mpr hb) h)
    refine V.iconst (pc := 394) (v := nI 0) dL_law_394 (by decide) ?_
    refine V.aload_n (pc := 395) 3 dL_law_395 rfl ?_
    refine V.callL (pc := 396) (n := 4) (As := [.ref (G.2.2 80), .int (nI (y (i + 1))), .int (nI 0), .ref (G.2.2 95)]) (rest := []) hF hk (ok_L_lean (Nat.le_of_ble_eq_true rfl) hq2 hC) (Nat.le_of_ble_eq_true rfl) (Nat.le_of_ble_eq_true rfl) mu_3_62 mu_3_63 mu_1_0 mu_3_64 ⟨by decide, by decide, by decide +kernel⟩ rfl rfl (Nat.le_of_ble_eq_true rfl) dL_law_396 (fun X1 hF1 r1 μ1 h1 => ?_)
    obtain ⟨rfl, hK1, hO1, hf1, hq1⟩ := h1
    have hR1 := hRf.out hf1 (fun _ q => q)
    refine V.istore (pc := 399) (lv' := [(0, .ref b), (1, .ref (G.2.2 80)), (2, .ref (G.2.2 96)), (3, .ref (G.2.2 95)), (4, .int (nI i)), (5, .int (nI q.1))]) dL_law_399 (Nat.le_of_ble_eq_true rfl) rfl ?_
    refine V.aload_n (pc := 401) 2 dL_law_401 rfl ?_
    refine V.aload_n (pc := 402) 0 dL_law_402 rfl ?_
    refine V.iload (pc := 403) 4 dL_law_403 rfl ?_
    refine V.iconst (pc := 405) (v := nI 1) dL_law_405 (by decide) ?_
    refine V.iadd (pc := 406) dL_law_406 (nI_add _ _) ?_
    refine V.sld (pc := 407) hF1 (i + 1) (by omega) hL dL_law_407 ?_
    refine V.aload_n (pc := 408) 0 dL_law_408 rfl ?_
    refine V.iload (pc := 409) 4 dL_law_409 rfl ?_
    refine V.iconst (pc := 411) (v := nI 2) dL_law_411 (by decide) ?_
    refine V.iadd (pc := 412) dL_law_412 (nI_add _ _) ?_
    refine V.sld (pc := 413) hF1 (i + 2) (by omega) hL dL_law_413 ?_
    refine V.if_eq (pc := 414) 421 dL_law_414 (by decide) (fun _ => ?_) (fun h => absurd ((nI_nz (hy _)).mpr hb) h)
    refine V.iconst (pc := 421) (v := nI 0) dL_law_421 (by decide) ?_
    refine V.callV (pc := 422) (k := 96) (ci := 9) (T := TX9) (N := 27) (n := 2) (As := [.int (nI (y (i + 1))), .int (nI 0)]) (rest := []) (hM μ1 hR1) (Nat.le_of_ble_eq_true rfl) (Nat.le_of_ble_eq_true rfl) (Nat.le_of_ble_eq_true rfl) (fun _ _ => rfl) rfl mu_5_122 mu_5_123 mu_5_124 mu_1_10 mu_5_125 ⟨by decide, by decide, by decide +kernel⟩ rfl rfl (Nat.le_of_ble_eq_true rfl) dL_law_422 (fun r2 μ2 h2 => ?_)
    obtain ⟨hR2, ht2, ⟨v2, rfl, hv2⟩, hf2⟩ := h2
    have hK2 := hK1.out hf2
    refine V.istore (pc := 425) (lv' := [(0, .ref b), (1, .ref (G.2.2 80)), (2, .ref (G.2.2 96)), (3, .ref (G.2.2 95)), (4, .int (nI i)), (5, .int (nI q.1)), (6, .int v2)]) dL_law_425 (Nat.le_of_ble_eq_true rfl) rfl ?_
    refine V.aload_n (pc := 427) 2 dL_law_427 rfl ?_
    refine V.callV (pc := 428) (k := 96) (ci := 9) (T := TX9) (N := 27) (n := 0) (As := []) (rest := []) (ok_X9_thrown q.1 ht2) (Nat.le_of_ble_eq_true rfl) (Nat.le_of_ble_eq_true rfl) (Nat.le_of_ble_eq_true rfl) (fun _ _ => rfl) rfl mu_5_18 mu_5_19 mu_5_20 mu_1_10 mu_5_21 ⟨by decide, by decide, by decide +kernel⟩ rfl rfl (Nat.le_of_ble_eq_true rfl) dL_law_428 (fun r3 μ3 h3 => ?_)
    obtain ⟨rfl, rfl⟩ := h3
    refine V.iload (pc := 431) 5 dL_law_431 rfl ?_
    refine V.icmp_eq (pc := 433) 438 dL_law_433 (by decide) (fun _ => ?_) (fun h => absurd rfl h)
    refine V.iload (pc := 438) 5 dL_law_438 rfl ?_
    refine V.if_ne (pc := 440) 455 dL_law_440 (by decide) (fun h0 => ?_) (fun h0 => ?_)
    · refine V.goto (pc := 455) 1681 dL_law_455 (by decide) ?_
      refine V.sub [0, 1, 2, 3, 4] rfl ?_
      exact nx _ _ _ _ (Nat.le_refl _) hF1 hK2 hR2
    · have hz : q.1 = 0 := (nI_nz (by omega)).mp h0
      refine V.aload_n (pc := 443) 3 dL_law_443 rfl ?_
      refine V.iconst (pc := 444) (v := nI 0) dL_law_444 (by decide) ?_
      refine V.lald (pc := 445) (k := 95) (n := 1) (v := q.2.1.toInt64) (Nat.le_of_ble_eq_true rfl) (fun _ _ => rfl) 0 (Nat.le_of_ble_eq_true rfl) (Nat.le_of_ble_eq_true rfl) dL_law_445 ((congrFun (hf2 95 (fun z : 96 ≤ 95 => absurd z (by decide))).2 0).trans (hO1 hz)) ?_
      refine V.iload (pc := 446) 6 dL_law_446 rfl ?_
      refine V.i2l (pc := 448) (v := q.2.1.toInt64) dL_law_448 (by rw [hv2 hz]) ?_
      refine V.lcmp (pc := 449) dL_law_449 ?_
      refine V.if_eq (pc := 450) 455 dL_law_450 (by decide) (fun _ => ?_) (fun h => absurd (lcmp_eq _) h)
      refine V.goto (pc := 455) 1681 dL_law_455 (by decide) ?_
      refine V.sub [0, 1, 2, 3, 4] rfl ?_
      exact nx _ _ _ _ (Nat.le_refl _) hF1 hK2 hR2
  · obtain ⟨q, hq⟩ : ∃ q : Res, q = sp_lean a (y (i + 1)) true := ⟨_, rfl⟩
    have hC : RunsX 9 4 M_X8_lean [.ref (G.2.2 80), .int (nI (y (i + 1))), .int (nI 1)] G μ (CF μ q) (CT nNS nNS μ q) := by rw [hq]; exact ok_X8_lean a hKl (y (i + 1)) true (hy _)
    have hM : ∀ μ1 : Mu, Rf μ1 a → Runs 4 M_X9_lean [.ref (G.2.2 96), .int (nI (y (i + 1))), .int (nI 1)] G μ1 (RP μ1 q) := fun μ1 h => by rw [hq]; exact ok_X9_lean a h (y (i + 1)) true (hy _)
    have hq2 : q.1 ≠ 2 := by rw [hq]; exact n2_lean a (y (i + 1)) true
    clear hq
    refine V.aload_n (pc := 374) 1 dL_law_374 rfl ?_
    refine V.aload_n (pc := 375) 0 dL_law_375 rfl ?_
    refine V.iload (pc := 376) 4 dL_law_376 rfl ?_
    refine V.iconst (pc := 378) (v := nI 1) dL_law_378 (by decide) ?_
    refine V.iadd (pc := 379) dL_law_379 (nI_add _ _) ?_
    refine V.sld (pc := 380) hF (i + 1) (by omega) hL dL_law_380 ?_
    refine V.aload_n (pc := 381) 0 dL_law_381 rfl ?_
    refine V.iload (pc := 382) 4 dL_law_382 rfl ?_
    refine V.iconst (pc := 384) (v := nI 2) dL_law_384 (by decide) ?_
    refine V.iadd (pc := 385) dL_law_385 (nI_add _ _) ?_
    refine V.sld (pc := 386) hF (i + 2) (by omega) hL dL_law_386 ?_
    refine V.if_eq (pc := 387) 394 dL_law_387 (by decide) (fun h => absurd ((nI_nz (hy _)).mp h) hb) (fun _ => ?_)
    refine V.iconst (pc := 390) (v := nI 1) dL_law_390 (by decide) ?_
    refine V.goto (pc := 391) 395 dL_law_391 (by decide) ?_
    refine V.aload_n (pc := 395) 3 dL_law_395 rfl ?_
    refine V.callL (pc := 396) (n := 4) (As := [.ref (G.2.2 80), .int (nI (y (i + 1))), .int (nI 1), .ref (G.2.2 95)]) (rest := []) hF hk (ok_L_lean (Nat.le_of_ble_eq_true rfl) hq2 hC) (Nat.le_of_ble_eq_true rfl) (Nat.le_of_ble_eq_true rfl) mu_3_62 mu_3_63 mu_1_0 mu_3_64 ⟨by decide, by decide, by decide +kernel⟩ rfl rfl (Nat.le_of_ble_eq_true rfl) dL_law_396 (fun X1 hF1 r1 μ1 h1 => ?_)
    obtain ⟨rfl, hK1, hO1, hf1, hq1⟩ := h1
    have hR1 := hRf.out hf1 (fun _ q => q)
    refine V.istore (pc := 399) (lv' := [(0, .ref b), (1, .ref (G.2.2 80)), (2, .ref (G.2.2 96)), (3, .ref (G.2.2 95)), (4, .int (nI i)), (5, .int (nI q.1))]) dL_law_399 (Nat.le_of_ble_eq_true rfl) rfl ?_
    refine V.aload_n (pc := 401) 2 dL_law_401 rfl ?_
    refine V.aload_n (pc := 402) 0 dL_law_402 rfl ?_
    refine V.iload (pc := 403) 4 dL_law_403 rfl ?_
    refine V.iconst (pc := 405) (v := nI 1) dL_law_405 (by decide) ?_
    refine V.iadd (pc := 406) dL_law_406 (nI_add _ _) ?_
    refine V.sld (pc := 407) hF1 (i + 1) (by omega) hL dL_law_407 ?_
    refine V.aload_n (pc := 408) 0 dL_law_408 rfl ?_
    refine V.iload (pc := 409) 4 dL_law_409 rfl ?_
    refine V.iconst (pc := 411) (v := nI 2) dL_law_411 (by decide) ?_
    refine V.iadd (pc := 412) dL_law_412 (nI_add _ _) ?_
    refine V.sld (pc := 413) hF1 (i + 2) (by omega) hL dL_law_413 ?_
    refine V.if_eq (pc := 414) 421 dL_law_414 (by decide) (fun h => absurd ((nI_nz (hy _)).mp h) hb) (fun _ => ?_)
    refine V.iconst (pc := 417) (v := nI 1) dL_law_417 (by decide) ?_
    refine V.goto (pc := 418) 422 dL_law_418 (by decide) ?_
    refine V.callV (pc := 422) (k := 96) (ci := 9) (T := TX9) (N := 27) (n := 2) (As := [.int (nI (y (i + 1))), .int (nI 1)]) (rest := []) (hM μ1 hR1) (Nat.le_of_ble_eq_true rfl) (Nat.le_of_ble_eq_true rfl) (Nat.le_of_ble_eq_true rfl) (fun _ _ => rfl) rfl mu_5_122 mu_5_123 mu_5_124 mu_1_10 mu_5_125 ⟨by decide, by decide, by decide +kernel⟩ rfl rfl (Nat.le_of_ble_eq_true rfl) dL_law_422 (fun r2 μ2 h2 => ?_)
    obtain ⟨hR2, ht2, ⟨v2, rfl, hv2⟩, hf2⟩ := h2
    have hK2 := hK1.out hf2
    refine V.istore (pc := 425) (lv' := [(0, .ref b), (1, .ref (G.2.2 80)), (2, .ref (G.2.2 96)), (3, .ref (G.2.2 95)), (4, .int (nI i)), (5, .int (nI q.1)), (6, .int v2)]) dL_law_425 (Nat.le_of_ble_eq_true rfl) rfl ?_
    refine V.aload_n (pc := 427) 2 dL_law_427 rfl ?_
    refine V.callV (pc := 428) (k := 96) (ci := 9) (T := TX9) (N := 27) (n := 0) (As := []) (rest := []) (ok_X9_thrown q.1 ht2) (Nat.le_of_ble_eq_true rfl) (Nat.le_of_ble_eq_true rfl) (Nat.le_of_ble_eq_true rfl) (fun _ _ => rfl) rfl mu_5_18 mu_5_19 mu_5_20 mu_1_10 mu_5_21 ⟨by decide, by decide, by decide +kernel⟩ rfl rfl (Nat.le_of_ble_eq_true rfl) dL_law_428 (fun r3 μ3 h3 => ?_)
    obtain ⟨rfl, rfl⟩ := h3
    refine V.iload (pc := 431) 5 dL_law_431 rfl ?_
    refine V.icmp_eq (pc := 433) 438 dL_law_433 (by decide) (fun _ => ?_) (fun h => absurd rfl h)
    refine V.iload (pc := 438) 5 dL_law_438 rfl ?_
    refine V.if_ne (pc := 440) 455 dL_law_440 (by decide) (fun h0 => ?_) (fun h0 => ?_)
    · refine V.goto (pc := 455) 1681 dL_law_455 (by decide) ?_
      refine V.sub [0, 1, 2, 3, 4] rfl ?_
      exact nx _ _ _ _ (Nat.le_refl _) hF1 hK2 hR2
    · have hz : q.1 = 0 := (nI_nz (by omega)).mp h0
      refine V.aload_n (pc := 443) 3 dL_law_443 rfl ?_
      refine V.iconst (pc := 444) (v := nI 0) dL_law_444 (by decide) ?_
      refine V.lald (pc := 445) (k := 95) (n := 1) (v := q.2.1.toInt64) (Nat.le_of_ble_eq_true rfl) (fun _ _ => rfl) 0 (Nat.le_of_ble_eq_true rfl) (Nat.le_of_ble_eq_true rfl) dL_law_445 ((congrFun (hf2 95 (fun z : 96 ≤ 95 => absurd z (by decide))).2 0).trans (hO1 hz)) ?_
      refine V.iload (pc := 446) 6 dL_law_446 rfl ?_
      refine V.i2l (pc := 448) (v := q.2.1.toInt64) dL_law_448 (by rw [hv2 hz]) ?_
      refine V.lcmp (pc := 449) dL_law_449 ?_
      refine V.if_eq (pc := 450) 455 dL_law_450 (by decide) (fun _ => ?_) (fun h => absurd (lcmp_eq _) h)
      refine V.goto (pc := 455) 1681 dL_law_455 (by decide) ?_
      refine V.sub [0, 1, 2, 3, 4] rfl ?_
      exact nx _ _ _ _ (Nat.le_refl _) hF1 hK2 hR2
theorem mu_3_71 : Cond.methodLink RL 117 yL_budget ∈ TT := tt_in (tb_3 (List.mem_of_getElem? (i := 71) (by decide +kernel))) (by decide +kernel)
theorem mu_3_72 : Cond.static yL_budget ∈ TT := tt_in (tb_3 (List.mem_of_getElem? (i := 72) (by decide +kernel))) (by decide +kernel)
theorem mu_3_73 : Cond.codeWith yL_budget cL_budget 4 (some .int) hh_budget ∈ TT := tt_in (tb_3 (List.mem_of_getElem? (i := 73) (by decide +kernel))) (by decide +kernel)
theorem mu_5_126 : Cond.methodLink RL 119 yX9_budget ∈ TT := tt_in (tb_5 (List.mem_of_getElem? (i := 126) (by decide +kernel))) (by decide +kernel)
theorem mu_5_127 : Cond.instanceMethod yX9_budget ∈ TT := tt_in (tb_5 (List.mem_of_getElem? (i := 127) (by decide +kernel))) (by decide +kernel)
theorem mu_5_128 : Cond.selects RX9 yX9_budget yX9_budget ∈ TT := tt_in (tb_5 (List.mem_of_getElem? (i := 128) (by decide +kernel))) (by decide +kernel)
theorem mu_5_129 : Cond.code yX9_budget cX9_budget 3 (some .int) ∈ TT := tt_in (tb_5 (List.mem_of_getElem? (i := 129) (by decide +kernel))) (by decide +kernel)
set_option maxHeartbeats 1000000 in
theorem lc_budget {G : Gx} {X : Cx} {b L k i : Nat} {y : Nat → Nat} {μ : Mu} {a : AS} (hF : FinW G X b L y k) (hk : k < 512) (hL : L ≤ 3072) (hi : i + 6 ≤ L) (hy : ∀ j, y j < 2 ^ 32) (hKl : Kl μ a) (hRf : Rf μ a) (nx : Nx G b L i k y) : V G RL cL_law 8 100 X 458 (lv0 G b i) [] μ := by
  obtain ⟨q, hq⟩ : ∃ q : Res, q = sp_budget a (y (i + 1)) := ⟨_, rfl⟩
  have hC : RunsX 9 4 M_X8_budget [.ref (G.2.2 80), .int (nI (y (i + 1)))] G μ (CF μ q) (CT nIA nIA μ q) := by rw [hq]; exact ok_X8_budget a hKl (y (i + 1)) (hy _)
  have hM : ∀ μ1 : Mu, Rf μ1 a → Runs 4 M_X9_budget [.ref (G.2.2 96), .int (nI (y (i + 1)))] G μ1 (RP μ1 q) := fun μ1 h => by rw [hq]; exact ok_X9_budget a h (y (i + 1)) (hy _)
  have hq2 : q.1 ≠ 2 := by rw [hq]; exact n2_budget a (y (i + 1))
  clear hq
  refine V.aload_n (pc := 458) 1 dL_law_458 rfl ?_
  refine V.aload_n (pc := 459) 0 dL_law_459 rfl ?_
  refine V.iload (pc := 460) 4 dL_law_460 rfl ?_
  refine V.iconst (pc := 462) (v := nI 1) dL_law_462 (by decide) ?_
  refine V.iadd (pc := 463) dL_law_463 (nI_add _ _) ?_
  refine V.sld (pc := 464) hF (i + 1) (by omega) hL dL_law_464 ?_
  refine V.aload_n (pc := 465) 3 dL_law_465 rfl ?_
  refine V.callL (pc := 466) (n := 3) (As := [.ref (G.2.2 80), .int (nI (y (i + 1))), .ref (G.2.2 95)]) (rest := []) hF hk (ok_L_budget (Nat.le_of_ble_eq_true rfl) hq2 hC) (Nat.le_of_ble_eq_true rfl) (Nat.le_of_ble_eq_true rfl) mu_3_71 mu_3_72 mu_1_0 mu_3_73 ⟨by decide, by decide, by decide +kernel⟩ rfl rfl (Nat.le_of_ble_eq_true rfl) dL_law_466 (fun X1 hF1 r1 μ1 h1 => ?_)
  obtain ⟨rfl, hK1, hO1, hf1, hq1⟩ := h1
  have hR1 := hRf.out hf1 (fun _ q => q)
  refine V.istore (pc := 469) (lv' := [(0, .ref b), (1, .ref (G.2.2 80)), (2, .ref (G.2.2 96)), (3, .ref (G.2.2 95)), (4, .int (nI i)), (5, .int (nI q.1))]) dL_law_469 (Nat.le_of_ble_eq_true rfl) rfl ?_
  refine V.aload_n (pc := 471) 2 dL_law_471 rfl ?_
  refine V.aload_n (pc := 472) 0 dL_law_472 rfl ?_
  refine V.iload (pc := 473) 4 dL_law_473 rfl ?_
  refine V.iconst (pc := 475) (v := nI 1) dL_law_475 (by decide) ?_
  refine V.iadd (pc := 476) dL_law_476 (nI_add _ _) ?_
  refine V.sld (pc := 477) hF1 (i + 1) (by omega) hL dL_law_477 ?_
  refine V.callV (pc := 478) (k := 96) (ci := 9) (T := TX9) (N := 27) (n := 1) (As := [.int (nI (y (i + 1)))]) (rest := []) (hM μ1 hR1) (Nat.le_of_ble_eq_true rfl) (Nat.le_of_ble_eq_true rfl) (Nat.le_of_ble_eq_true rfl) (fun _ _ => rfl) rfl mu_5_126 mu_5_127 mu_5_128 mu_1_10 mu_5_129 ⟨by decide, by decide, by decide +kernel⟩ rfl rfl (Nat.le_of_ble_eq_true rfl) dL_law_478 (fun r2 μ2 h2 => ?_)
  obtain ⟨hR2, ht2, ⟨v2, rfl, hv2⟩, hf2⟩ := h2
  have hK2 := hK1.out hf2
  refine V.istore (pc := 481) (lv' := [(0, .ref b), (1, .ref (G.2.2 80)), (2, .ref (G.2.2 96)), (3, .ref (G.2.2 95)), (4, .int (nI i)), (5, .int (nI q.1)), (6, .int v2)]) dL_law_481 (Nat.le_of_ble_eq_true rfl) rfl ?_
  refine V.aload_n (pc := 483) 2 dL_law_483 rfl ?_
  refine V.callV (pc := 484) (k := 96) (ci := 9) (T := TX9) (N := 27) (n := 0) (As := []) (rest := []) (ok_X9_thrown q.1 ht2) (Nat.le_of_ble_eq_true rfl) (Nat.le_of_ble_eq_true rfl) (Nat.le_of_ble_eq_true rfl) (fun _ _ => rfl) rfl mu_5_18 mu_5_19 mu_5_20 mu_1_10 mu_5_21 ⟨by decide, by decide, by decide +kernel⟩ rfl rfl (Nat.le_of_ble_eq_true rfl) dL_law_484 (fun r3 μ3 h3 => ?_)
  obtain ⟨rfl, rfl⟩ := h3
  refine V.iload (pc := 487) 5 dL_law_487 rfl ?_
  refine V.icmp_eq (pc := 489) 494 dL_law_489 (by decide) (fun _ => ?_) (fun h => absurd rfl h)
  refine V.iload (pc := 494) 5 dL_law_494 rfl ?_
  refine V.if_ne (pc := 496) 511 dL_law_496 (by decide) (fun h0 => ?_) (fun h0 => ?_)
  · refine V.goto (pc := 511) 1681 dL_law_511 (by decide) ?_
    refine V.sub [0, 1, 2, 3, 4] rfl ?_
    exact nx _ _ _ _ (Nat.le_refl _) hF1 hK2 hR2
  · have hz : q.1 = 0 := (nI_nz (by omega)).mp h0
    refine V.aload_n (pc := 499) 3 dL_law_499 rfl ?_
    refine V.iconst (pc := 500) (v := nI 0) dL_law_500 (by decide) ?_
    refine V.lald (pc := 501) (k := 95) (n := 1) (v := q.2.1.toInt64) (Nat.le_of_ble_eq_true rfl) (fun _ _ => rfl) 0 (Nat.le_of_ble_eq_true rfl) (Nat.le_of_ble_eq_true rfl) dL_law_501 ((congrFun (hf2 95 (fun z : 96 ≤ 95 => absurd z (by decide))).2 0).trans (hO1 hz)) ?_
    refine V.iload (pc := 502) 6 dL_law_502 rfl ?_
    refine V.i2l (pc := 504) (v := q.2.1.toInt64) dL_law_504 (by rw [hv2 hz]) ?_
    refine V.lcmp (pc := 505) dL_law_505 ?_
    refine V.if_eq (pc := 506) 511 dL_law_506 (by decide) (fun _ => ?_) (fun h => absurd (lcmp_eq _) h)
    refine V.goto (pc := 511) 1681 dL_law_511 (by decide) ?_
    refine V.sub [0, 1, 2, 3, 4] rfl ?_
    exact nx _ _ _ _ (Nat.le_refl _) hF1 hK2 hR2
theorem mu_3_78 : Cond.methodLink RL 120 yL_take ∈ TT := tt_in (tb_3 (List.mem_of_getElem? (i := 78) (by decide +kernel))) (by decide +kernel)
theorem mu_3_79 : Cond.static yL_take ∈ TT := tt_in (tb_3 (List.mem_of_getElem? (i := 79) (by decide +kernel))) (by decide +kernel)
theorem mu_3_80 : Cond.codeWith yL_take cL_take 4 (some .int) hh_take ∈ TT := tt_in (tb_3 (List.mem_of_getElem? (i := 80) (by decide +kernel))) (by decide +kernel)
theorem mu_5_130 : Cond.methodLink RL 122 yX9_take ∈ TT := tt_in (tb_5 (List.mem_of_getElem? (i := 130) (by decide +kernel))) (by decide +kernel)
theorem mu_5_131 : Cond.instanceMethod yX9_take ∈ TT := tt_in (tb_5 (List.mem_of_getElem? (i := 131) (by decide +kernel))) (by decide +kernel)
theorem mu_5_132 : Cond.selects RX9 yX9_take yX9_take ∈ TT := tt_in (tb_5 (List.mem_of_getElem? (i := 132) (by decide +kernel))) (by decide +kernel)
theorem mu_5_133 : Cond.code yX9_take cX9_take 3 (some .int) ∈ TT := tt_in (tb_5 (List.mem_of_getElem? (i := 133) (by decide +kernel))) (by decide +kernel)
set_option maxHeartbeats 1000000 in
theorem lc_take {G : Gx} {X : Cx} {b L k i : Nat} {y : Nat → Nat} {μ : Mu} {a : AS} (hF : FinW G X b L y k) (hk : k < 512) (hL : L ≤ 3072) (hi : i + 6 ≤ L) (hy : ∀ j, y j < 2 ^ 32) (hKl : Kl μ a) (hRf : Rf μ a) (nx : Nx G b L i k y) : V G RL cL_law 8 100 X 514 (lv0 G b i) [] μ := by
  obtain ⟨q, hq⟩ : ∃ q : Res, q = sp_take a (y (i + 1)) := ⟨_, rfl⟩
  have hC : RunsX 9 4 M_X8_take [.ref (G.2.2 80), .int (nI (y (i + 1)))] G μ (CF μ q) (CT nNS nIS μ q) := by rw [hq]; exact ok_X8_take a hKl (y (i + 1)) (hy _)
  have hM : ∀ μ1 : Mu, Rf μ1 a → Runs 6 M_X9_take [.ref (G.2.2 96), .int (nI (y (i + 1)))] G μ1 (RP μ1 q) := fun μ1 h => by rw [hq]; exact ok_X9_take a h (y (i + 1)) (hy _)
  clear hq
  refine V.aload_n (pc := 514) 1 dL_law_514 rfl ?_
  refine V.aload_n (pc := 515) 0 dL_law_515 rfl ?_
  refine V.iload (pc := 516) 4 dL_law_516 rfl ?_
  refine V.iconst (pc := 518) (v := nI 1) dL_law_518 (by decide) ?_
  refine V.iadd (pc := 519) dL_law_519 (nI_add _ _) ?_
  refine V.sld (pc := 520) hF (i + 1) (by omega) hL dL_law_520 ?_
  refine V.aload_n (pc := 521) 3 dL_law_521 rfl ?_
  refine V.callL (pc := 522) (n := 3) (As := [.ref (G.2.2 80), .int (nI (y (i + 1))), .ref (G.2.2 95)]) (rest := []) hF hk (ok_L_take (Nat.le_of_ble_eq_true rfl) hC) (Nat.le_of_ble_eq_true rfl) (Nat.le_of_ble_eq_true rfl) mu_3_78 mu_3_79 mu_1_0 mu_3_80 ⟨by decide, by decide, by decide +kernel⟩ rfl rfl (Nat.le_of_ble_eq_true rfl) dL_law_522 (fun X1 hF1 r1 μ1 h1 => ?_)
  obtain ⟨rfl, hK1, hO1, hf1, hq1⟩ := h1
  have hR1 := hRf.out hf1 (fun _ q => q)
  refine V.istore (pc := 525) (lv' := [(0, .ref b), (1, .ref (G.2.2 80)), (2, .ref (G.2.2 96)), (3, .ref (G.2.2 95)), (4, .int (nI i)), (5, .int (nI q.1))]) dL_law_525 (Nat.le_of_ble_eq_true rfl) rfl ?_
  refine V.aload_n (pc := 527) 2 dL_law_527 rfl ?_
  refine V.aload_n (pc := 528) 0 dL_law_528 rfl ?_
  refine V.iload (pc := 529) 4 dL_law_529 rfl ?_
  refine V.iconst (pc := 531) (v := nI 1) dL_law_531 (by decide) ?_
  refine V.iadd (pc := 532) dL_law_532 (nI_add _ _) ?_
  refine V.sld (pc := 533) hF1 (i + 1) (by omega) hL dL_law_533 ?_
  refine V.callV (pc := 534) (k := 96) (ci := 9) (T := TX9) (N := 27) (n := 1) (As := [.int (nI (y (i + 1)))]) (rest := []) (hM μ1 hR1) (Nat.le_of_ble_eq_true rfl) (Nat.le_of_ble_eq_true rfl) (Nat.le_of_ble_eq_true rfl) (fun _ _ => rfl) rfl mu_5_130 mu_5_131 mu_5_132 mu_1_10 mu_5_133 ⟨by decide, by decide, by decide +kernel⟩ rfl rfl (Nat.le_of_ble_eq_true rfl) dL_law_534 (fun r2 μ2 h2 => ?_)
  obtain ⟨hR2, ht2, ⟨v2, rfl, hv2⟩, hf2⟩ := h2
  have hK2 := hK1.out hf2
  refine V.istore (pc := 537) (lv' := [(0, .ref b), (1, .ref (G.2.2 80)), (2, .ref (G.2.2 96)), (3, .ref (G.2.2 95)), (4, .int (nI i)), (5, .int (nI q.1)), (6, .int v2)]) dL_law_537 (Nat.le_of_ble_eq_true rfl) rfl ?_
  refine V.aload_n (pc := 539) 2 dL_law_539 rfl ?_
  refine V.callV (pc := 540) (k := 96) (ci := 9) (T := TX9) (N := 27) (n := 0) (As := []) (rest := []) (ok_X9_thrown q.1 ht2) (Nat.le_of_ble_eq_true rfl) (Nat.le_of_ble_eq_true rfl) (Nat.le_of_ble_eq_true rfl) (fun _ _ => rfl) rfl mu_5_18 mu_5_19 mu_5_20 mu_1_10 mu_5_21 ⟨by decide, by decide, by decide +kernel⟩ rfl rfl (Nat.le_of_ble_eq_true rfl) dL_law_540 (fun r3 μ3 h3 => ?_)
  obtain ⟨rfl, rfl⟩ := h3
  refine V.iload (pc := 543) 5 dL_law_543 rfl ?_
  refine V.icmp_eq (pc := 545) 550 dL_law_545 (by decide) (fun _ => ?_) (fun h => absurd rfl h)
  refine V.iload (pc := 550) 5 dL_law_550 rfl ?_
  refine V.if_ne (pc := 552) 567 dL_law_552 (by decide) (fun h0 => ?_) (fun h0 => ?_)
  · refine V.goto (pc := 567) 1681 dL_law_567 (by decide) ?_
    refine V.sub [0, 1, 2, 3, 4] rfl ?_
    exact nx _ _ _ _ (Nat.le_refl _) hF1 hK2 hR2
  · have hz : q.1 = 0 := (nI_nz (by omega)).mp h0
    refine V.aload_n (pc := 555) 3 dL_law_555 rfl ?_
    refine V.iconst (pc := 556) (v := nI 0) dL_law_556 (by decide) ?_
    refine V.lald (pc := 557) (k := 95) (n := 1) (v := q.2.1.toInt64) (Nat.le_of_ble_eq_true rfl) (fun _ _ => rfl) 0 (Nat.le_of_ble_eq_true rfl) (Nat.le_of_ble_eq_true rfl) dL_law_557 ((congrFun (hf2 95 (fun z : 96 ≤ 95 => absurd z (by decide))).2 0).trans (hO1 hz)) ?_
    refine V.iload (pc := 558) 6 dL_law_558 rfl ?_
    refine V.i2l (pc := 560) (v := q.2.1.toInt64) dL_law_560 (by rw [hv2 hz]) ?_
    refine V.lcmp (pc := 561) dL_law_561 ?_
    refine V.if_eq (pc := 562) 567 dL_law_562 (by decide) (fun _ => ?_) (fun h => absurd (lcmp_eq _) h)
    refine V.goto (pc := 567) 1681 dL_law_567 (by decide) ?_
    refine V.sub [0, 1, 2, 3, 4] rfl ?_
    exact nx _ _ _ _ (Nat.le_refl _) hF1 hK2 hR2
theorem mu_3_118 : Cond.methodLink RL 123 yL_drop ∈ TT := tt_in (tb_3 (List.mem_of_getElem? (i := 118) (by decide +kernel))) (by decide +kernel)
theorem mu_3_119 : Cond.static yL_drop ∈ TT := tt_in (tb_3 (List.mem_of_getElem? (i := 119) (by decide +kernel))) (by decide +kernel)
theorem mu_3_120 : Cond.codeWith yL_drop cL_drop 4 (some .int) hh_drop ∈ TT := tt_in (tb_3 (List.mem_of_getElem? (i := 120) (by decide +kernel))) (by decide +kernel)
theorem mu_5_174 : Cond.methodLink RL 125 yX9_drop ∈ TT := tt_in (tb_5 (List.mem_of_getElem? (i := 174) (by decide +kernel))) (by decide +kernel)
theorem mu_5_175 : Cond.instanceMethod yX9_drop ∈ TT := tt_in (tb_5 (List.mem_of_getElem? (i := 175) (by decide +kernel))) (by decide +kernel)
theorem mu_5_176 : Cond.selects RX9 yX9_drop yX9_drop ∈ TT := tt_in (tb_5 (List.mem_of_getElem? (i := 176) (by decide +kernel))) (by decide +kernel)
theorem mu_5_177 : Cond.code yX9_drop cX9_drop 5 (some .int) ∈ TT := tt_in (tb_5 (List.mem_of_getElem? (i := 177) (by decide +kernel))) (by decide +kernel)
set_option maxHeartbeats 1000000 in
theorem lc_drop {G : Gx} {X : Cx} {b L k i : Nat} {y : Nat → Nat} {μ : Mu} {a : AS} (hF : FinW G X b L y k) (hk : k < 512) (hL : L ≤ 3072) (hi : i + 6 ≤ L) (hy : ∀ j, y j < 2 ^ 32) (hKl : Kl μ a) (hRf : Rf μ a) (nx : Nx G b L i k y) : V G RL cL_law 8 100 X 570 (lv0 G b i) [] μ := by
  obtain ⟨q, hq⟩ : ∃ q : Res, q = sp_drop a (y (i + 1)) := ⟨_, rfl⟩
  have hC : RunsX 9 4 M_X8_drop [.ref (G.2.2 80), .int (nI (y (i + 1)))] G μ (CF μ q) (CT nNS nIS μ q) := by rw [hq]; exact ok_X8_drop a hKl (y (i + 1)) (hy _)
  have hM : ∀ μ1 : Mu, Rf μ1 a → Runs 6 M_X9_drop [.ref (G.2.2 96), .int (nI (y (i + 1)))] G μ1 (RP μ1 q) := fun μ1 h => by rw [hq]; exact ok_X9_drop a h (y (i + 1)) (hy _)
  clear hq
  refine V.aload_n (pc := 570) 1 dL_law_570 rfl ?_
  refine V.aload_n (pc := 571) 0 dL_law_571 rfl ?_
  refine V.iload (pc := 572) 4 dL_law_572 rfl ?_
  refine V.iconst (pc := 574) (v := nI 1) dL_law_574 (by decide) ?_
  refine V.iadd (pc := 575) dL_law_575 (nI_add _ _) ?_
  refine V.sld (pc := 576) hF (i + 1) (by omega) hL dL_law_576 ?_
  refine V.aload_n (pc := 577) 3 dL_law_577 rfl ?_
  refine V.callL (pc := 578) (n := 3) (As := [.ref (G.2.2 80), .int (nI (y (i + 1))), .ref (G.2.2 95)]) (rest := []) hF hk (ok_L_drop (Nat.le_of_ble_eq_true rfl) hC) (Nat.le_of_ble_eq_true rfl) (Nat.le_of_ble_eq_true rfl) mu_3_118 mu_3_119 mu_1_0 mu_3_120 ⟨by decide, by decide, by decide +kernel⟩ rfl rfl (Nat.le_of_ble_eq_true rfl) dL_law_578 (fun X1 hF1 r1 μ1 h1 => ?_)
  obtain ⟨rfl, hK1, hO1, hf1, hq1⟩ := h1
  have hR1 := hRf.out hf1 (fun _ q => q)
  refine V.istore (pc := 581) (lv' := [(0, .ref b), (1, .ref (G.2.2 80)), (2, .ref (G.2.2 96)), (3, .ref (G.2.2 95)), (4, .int (nI i)), (5, .int (nI q.1))]) dL_law_581 (Nat.le_of_ble_eq_true rfl) rfl ?_
  refine V.aload_n (pc := 583) 2 dL_law_583 rfl ?_
  refine V.aload_n (pc := 584) 0 dL_law_584 rfl ?_
  refine V.iload (pc := 585) 4 dL_law_585 rfl ?_
  refine V.iconst (pc := 587) (v := nI 1) dL_law_587 (by decide) ?_
  refine V.iadd (pc := 588) dL_law_588 (nI_add _ _) ?_
  refine V.sld (pc := 589) hF1 (i + 1) (by omega) hL dL_law_589 ?_
  refine V.callV (pc := 590) (k := 96) (ci := 9) (T := TX9) (N := 27) (n := 1) (As := [.int (nI (y (i + 1)))]) (rest := []) (hM μ1 hR1) (Nat.le_of_ble_eq_true rfl) (Nat.le_of_ble_eq_true rfl) (Nat.le_of_ble_eq_true rfl) (fun _ _ => rfl) rfl mu_5_174 mu_5_175 mu_5_176 mu_1_10 mu_5_177 ⟨by decide, by decide, by decide +kernel⟩ rfl rfl (Nat.le_of_ble_eq_true rfl) dL_law_590 (fun r2 μ2 h2 => ?_)
  obtain ⟨hR2, ht2, ⟨v2, rfl, hv2⟩, hf2⟩ := h2
  have hK2 := hK1.out hf2
  refine V.istore (pc := 593) (lv' := [(0, .ref b), (1, .ref (G.2.2 80)), (2, .ref (G.2.2 96)), (3, .ref (G.2.2 95)), (4, .int (nI i)), (5, .int (nI q.1)), (6, .int v2)]) dL_law_593 (Nat.le_of_ble_eq_true rfl) rfl ?_
  refine V.aload_n (pc := 595) 2 dL_law_595 rfl ?_
  refine V.callV (pc := 596) (k := 96) (ci := 9) (T := TX9) (N := 27) (n := 0) (As := []) (rest := []) (ok_X9_thrown q.1 ht2) (Nat.le_of_ble_eq_true rfl) (Nat.le_of_ble_eq_true rfl) (Nat.le_of_ble_eq_true rfl) (fun _ _ => rfl) rfl mu_5_18 mu_5_19 mu_5_20 mu_1_10 mu_5_21 ⟨by decide, by decide, by decide +kernel⟩ rfl rfl (Nat.le_of_ble_eq_true rfl) dL_law_596 (fun r3 μ3 h3 => ?_)
  obtain ⟨rfl, rfl⟩ := h3
  refine V.iload (pc := 599) 5 dL_law_599 rfl ?_
  refine V.icmp_eq (pc := 601) 606 dL_law_601 (by decide) (fun _ => ?_) (fun h => absurd rfl h)
  refine V.iload (pc := 606) 5 dL_law_606 rfl ?_
  refine V.if_ne (pc := 608) 623 dL_law_608 (by decide) (fun h0 => ?_) (fun h0 => ?_)
  · refine V.goto (pc := 623) 1681 dL_law_623 (by decide) ?_
    refine V.sub [0, 1, 2, 3, 4] rfl ?_
    exact nx _ _ _ _ (Nat.le_refl _) hF1 hK2 hR2
  · have hz : q.1 = 0 := (nI_nz (by omega)).mp h0
    refine V.aload_n (pc := 611) 3 dL_law_611 rfl ?_
    refine V.iconst (pc := 612) (v := nI 0) dL_law_612 (by decide) ?_
    refine V.lald (pc := 613) (k := 95) (n := 1) (v := q.2.1.toInt64) (Nat.le_of_ble_eq_true rfl) (fun _ _ => rfl) 0 (Nat.le_of_ble_eq_true rfl) (Nat.le_of_ble_eq_true rfl) dL_law_613 ((congrFun (hf2 95 (fun z : 96 ≤ 95 => absurd z (by decide))).2 0).trans (hO1 hz)) ?_
    refine V.iload (pc := 614) 6 dL_law_614 rfl ?_
    refine V.i2l (pc := 616) (v := q.2.1.toInt64) dL_law_616 (by rw [hv2 hz]) ?_
    refine V.lcmp (pc := 617) dL_law_617 ?_
    refine V.if_eq (pc := 618) 623 dL_law_618 (by decide) (fun _ => ?_) (fun h => absurd (lcmp_eq _) h)
    refine V.goto (pc := 623) 1681 dL_law_623 (by decide) ?_
    refine V.sub [0, 1, 2, 3, 4] rfl ?_
    exact nx _ _ _ _ (Nat.le_refl _) hF1 hK2 hR2
theorem mu_2_91 : Cond.methodLink RL 126 yX8_undo ∈ TT := tt_in (tb_2 (List.mem_of_getElem? (i := 91) (by decide +kernel))) (by decide +kernel)
theorem mu_2_92 : Cond.instanceMethod yX8_undo ∈ TT := tt_in (tb_2 (List.mem_of_getElem? (i := 92) (by decide +kernel))) (by decide +kernel)
theorem mu_2_93 : Cond.selects RX8 yX8_undo yX8_undo ∈ TT := tt_in (tb_2 (List.mem_of_getElem? (i := 93) (by decide +kernel))) (by decide +kernel)
theorem mu_2_94 : Cond.code yX8_undo cX8_undo 1 (some .int) ∈ TT := tt_in (tb_2 (List.mem_of_getElem? (i := 94) (by decide +kernel))) (by decide +kernel)
theorem mu_5_91 : Cond.methodLink RL 129 yX9_undo ∈ TT := tt_in (tb_5 (List.mem_of_getElem? (i := 91) (by decide +kernel))) (by decide +kernel)
theorem mu_5_92 : Cond.instanceMethod yX9_undo ∈ TT := tt_in (tb_5 (List.mem_of_getElem? (i := 92) (by decide +kernel))) (by decide +kernel)
theorem mu_5_93 : Cond.selects RX9 yX9_undo yX9_undo ∈ TT := tt_in (tb_5 (List.mem_of_getElem? (i := 93) (by decide +kernel))) (by decide +kernel)
theorem mu_5_94 : Cond.code yX9_undo cX9_undo 1 (some .int) ∈ TT := tt_in (tb_5 (List.mem_of_getElem? (i := 94) (by decide +kernel))) (by decide +kernel)
set_option maxHeartbeats 1000000 in
theorem lc_undo {G : Gx} {X : Cx} {b L k i : Nat} {y : Nat → Nat} {μ : Mu} {a : AS} (hF : FinW G X b L y k) (hk : k < 512) (hL : L ≤ 3072) (hi : i + 6 ≤ L) (hy : ∀ j, y j < 2 ^ 32) (hKl : Kl μ a) (hRf : Rf μ a) (nx : Nx G b L i k y) : V G RL cL_law 8 100 X 626 (lv0 G b i) [] μ := by
  obtain ⟨q, hq⟩ : ∃ q : Res, q = sp_undo a := ⟨_, rfl⟩
  have hC : Runs 4 M_X8_undo [.ref (G.2.2 80)] G μ (CF μ q) := by rw [hq]; exact ok_X8_undo a hKl 
  have hM : ∀ μ1 : Mu, Rf μ1 a → Runs 1 M_X9_undo [.ref (G.2.2 96)] G μ1 (RP μ1 q) := fun μ1 h => by rw [hq]; exact ok_X9_undo a h 
  clear hq
  refine V.aload_n (pc := 626) 1 dL_law_626 rfl ?_
  refine V.callV (pc := 627) (k := 80) (ci := 8) (T := TX8) (N := 12) (n := 0) (As := []) (rest := []) hC (Nat.le_of_ble_eq_true rfl) (Nat.le_of_ble_eq_true rfl) (Nat.le_of_ble_eq_true rfl) (fun _ _ => rfl) rfl mu_2_91 mu_2_92 mu_2_93 mu_1_1 mu_2_94 ⟨by decide, by decide, by decide +kernel⟩ rfl rfl (Nat.le_of_ble_eq_true rfl) dL_law_627 (fun r1 μ1 h1 => ?_)
  obtain ⟨hq0, rfl, hK1, hf1⟩ := h1
  have hR1 := hRf.out hf1 (fun c (h : c < 95) => by omega)
  refine V.aload_n (pc := 630) 2 dL_law_630 rfl ?_
  refine V.callV (pc := 631) (k := 96) (ci := 9) (T := TX9) (N := 27) (n := 0) (As := []) (rest := [.int q.2.1]) (hM μ1 hR1) (Nat.le_of_ble_eq_true rfl) (Nat.le_of_ble_eq_true rfl) (Nat.le_of_ble_eq_true rfl) (fun _ _ => rfl) rfl mu_5_91 mu_5_92 mu_5_93 mu_1_10 mu_5_94 ⟨by decide, by decide, by decide +kernel⟩ rfl rfl (Nat.le_of_ble_eq_true rfl) dL_law_631 (fun r2 μ2 h2 => ?_)
  obtain ⟨hR2, ht2, ⟨v2, rfl, hv2⟩, hf2⟩ := h2
  refine V.icmp_eq (pc := 634) 1681 dL_law_634 (by decide) (fun _ => ?_) (fun h => absurd (hv2 hq0).symm h)
  exact nx _ _ _ _ (Nat.le_succ _) hF (hK1.out hf2) hR2
theorem mu_3_134 : Cond.methodLink RL 130 yL_told ∈ TT := tt_in (tb_3 (List.mem_of_getElem? (i := 134) (by decide +kernel))) (by decide +kernel)
theorem mu_3_135 : Cond.static yL_told ∈ TT := tt_in (tb_3 (List.mem_of_getElem? (i := 135) (by decide +kernel))) (by decide +kernel)
theorem mu_3_136 : Cond.codeWith yL_told cL_told 4 (some .int) hh_told ∈ TT := tt_in (tb_3 (List.mem_of_getElem? (i := 136) (by decide +kernel))) (by decide +kernel)
theorem mu_5_182 : Cond.methodLink RL 132 yX9_told ∈ TT := tt_in (tb_5 (List.mem_of_getElem? (i := 182) (by decide +kernel))) (by decide +kernel)
theorem mu_5_183 : Cond.instanceMethod yX9_told ∈ TT := tt_in (tb_5 (List.mem_of_getElem? (i := 183) (by decide +kernel))) (by decide +kernel)
theorem mu_5_184 : Cond.selects RX9 yX9_told yX9_told ∈ TT := tt_in (tb_5 (List.mem_of_getElem? (i := 184) (by decide +kernel))) (by decide +kernel)
theorem mu_5_185 : Cond.code yX9_told cX9_told 3 (some .int) ∈ TT := tt_in (tb_5 (List.mem_of_getElem? (i := 185) (by decide +kernel))) (by decide +kernel)
set_option maxHeartbeats 1000000 in
theorem lc_told {G : Gx} {X : Cx} {b L k i : Nat} {y : Nat → Nat} {μ : Mu} {a : AS} (hF : FinW G X b L y k) (hk : k < 512) (hL : L ≤ 3072) (hi : i + 6 ≤ L) (hy : ∀ j, y j < 2 ^ 32) (hKl : Kl μ a) (hRf : Rf μ a) (nx : Nx G b L i k y) : V G RL cL_law 8 100 X 639 (lv0 G b i) [] μ := by
  obtain ⟨q, hq⟩ : ∃ q : Res, q = sp_told a (y (i + 1)) := ⟨_, rfl⟩
  have hC : RunsX 9 4 M_X8_told [.ref (G.2.2 80), .int (nI (y (i + 1)))] G μ (CF μ q) (CT nIA nIA μ q) := by rw [hq]; exact ok_X8_told a hKl (y (i + 1)) (hy _)
  have hM : ∀ μ1 : Mu, Rf μ1 a → Runs 6 M_X9_told [.ref (G.2.2 96), .int (nI (y (i + 1)))] G μ1 (RP μ1 q) := fun μ1 h => by rw [hq]; exact ok_X9_told a h (y (i + 1)) (hy _)
  have hq2 : q.1 ≠ 2 := by rw [hq]; exact n2_told a (y (i + 1))
  clear hq
  refine V.aload_n (pc := 639) 1 dL_law_639 rfl ?_
  refine V.aload_n (pc := 640) 0 dL_law_640 rfl ?_
  refine V.iload (pc := 641) 4 dL_law_641 rfl ?_
  refine V.iconst (pc := 643) (v := nI 1) dL_law_643 (by decide) ?_
  refine V.iadd (pc := 644) dL_law_644 (nI_add _ _) ?_
  refine V.sld (pc := 645) hF (i + 1) (by omega) hL dL_law_645 ?_
  refine V.aload_n (pc := 646) 3 dL_law_646 rfl ?_
  refine V.callL (pc := 647) (n := 3) (As := [.ref (G.2.2 80), .int (nI (y (i + 1))), .ref (G.2.2 95)]) (rest := []) hF hk (ok_L_told (Nat.le_of_ble_eq_true rfl) hq2 hC) (Nat.le_of_ble_eq_true rfl) (Nat.le_of_ble_eq_true rfl) mu_3_134 mu_3_135 mu_1_0 mu_3_136 ⟨by decide, by decide, by decide +kernel⟩ rfl rfl (Nat.le_of_ble_eq_true rfl) dL_law_647 (fun X1 hF1 r1 μ1 h1 => ?_)
  obtain ⟨rfl, hK1, hO1, hf1, hq1⟩ := h1
  have hR1 := hRf.out hf1 (fun _ q => q)
  refine V.istore (pc := 650) (lv' := [(0, .ref b), (1, .ref (G.2.2 80)), (2, .ref (G.2.2 96)), (3, .ref (G.2.2 95)), (4, .int (nI i)), (5, .int (nI q.1))]) dL_law_650 (Nat.le_of_ble_eq_true rfl) rfl ?_
  refine V.aload_n (pc := 652) 2 dL_law_652 rfl ?_
  refine V.aload_n (pc := 653) 0 dL_law_653 rfl ?_
  refine V.iload (pc := 654) 4 dL_law_654 rfl ?_
  refine V.iconst (pc := 656) (v := nI 1) dL_law_656 (by decide) ?_
  refine V.iadd (pc := 657) dL_law_657 (nI_add _ _) ?_
  refine V.sld (pc := 658) hF1 (i + 1) (by omega) hL dL_law_658 ?_
  refine V.callV (pc := 659) (k := 96) (ci := 9) (T := TX9) (N := 27) (n := 1) (As := [.int (nI (y (i + 1)))]) (rest := []) (hM μ1 hR1) (Nat.le_of_ble_eq_true rfl) (Nat.le_of_ble_eq_true rfl) (Nat.le_of_ble_eq_true rfl) (fun _ _ => rfl) rfl mu_5_182 mu_5_183 mu_5_184 mu_1_10 mu_5_185 ⟨by decide, by decide, by decide +kernel⟩ rfl rfl (Nat.le_of_ble_eq_true rfl) dL_law_659 (fun r2 μ2 h2 => ?_)
  obtain ⟨hR2, ht2, ⟨v2, rfl, hv2⟩, hf2⟩ := h2
  have hK2 := hK1.out hf2
  refine V.istore (pc := 662) (lv' := [(0, .ref b), (1, .ref (G.2.2 80)), (2, .ref (G.2.2 96)), (3, .ref (G.2.2 95)), (4, .int (nI i)), (5, .int (nI q.1)), (6, .int v2)]) dL_law_662 (Nat.le_of_ble_eq_true rfl) rfl ?_
  refine V.aload_n (pc := 664) 2 dL_law_664 rfl ?_
  refine V.callV (pc := 665) (k := 96) (ci := 9) (T := TX9) (N := 27) (n := 0) (As := []) (rest := []) (ok_X9_thrown q.1 ht2) (Nat.le_of_ble_eq_true rfl) (Nat.le_of_ble_eq_true rfl) (Nat.le_of_ble_eq_true rfl) (fun _ _ => rfl) rfl mu_5_18 mu_5_19 mu_5_20 mu_1_10 mu_5_21 ⟨by decide, by decide, by decide +kernel⟩ rfl rfl (Nat.le_of_ble_eq_true rfl) dL_law_665 (fun r3 μ3 h3 => ?_)
  obtain ⟨rfl, rfl⟩ := h3
  refine V.iload (pc := 668) 5 dL_law_668 rfl ?_
  refine V.icmp_eq (pc := 670) 675 dL_law_670 (by decide) (fun _ => ?_) (fun h => absurd rfl h)
  refine V.iload (pc := 675) 5 dL_law_675 rfl ?_
  refine V.if_ne (pc := 677) 692 dL_law_677 (by decide) (fun h0 => ?_) (fun h0 => ?_)
  · refine V.goto (pc := 692) 1681 dL_law_692 (by decide) ?_
    refine V.sub [0, 1, 2, 3, 4] rfl ?_
    exact nx _ _ _ _ (Nat.le_refl _) hF1 hK2 hR2
  · have hz : q.1 = 0 := (nI_nz (by omega)).mp h0
    refine V.aload_n (pc := 680) 3 dL_law_680 rfl ?_
    refine V.iconst (pc := 681) (v := nI 0) dL_law_681 (by decide) ?_
    refine V.lald (pc := 682) (k := 95) (n := 1) (v := q.2.1.toInt64) (Nat.le_of_ble_eq_true rfl) (fun _ _ => rfl) 0 (Nat.le_of_ble_eq_true rfl) (Nat.le_of_ble_eq_true rfl) dL_law_682 ((congrFun (hf2 95 (fun z : 96 ≤ 95 => absurd z (by decide))).2 0).trans (hO1 hz)) ?_
    refine V.iload (pc := 683) 6 dL_law_683 rfl ?_
    refine V.i2l (pc := 685) (v := q.2.1.toInt64) dL_law_685 (by rw [hv2 hz]) ?_
    refine V.lcmp (pc := 686) dL_law_686 ?_
    refine V.if_eq (pc := 687) 692 dL_law_687 (by decide) (fun _ => ?_) (fun h => absurd (lcmp_eq _) h)
    refine V.goto (pc := 692) 1681 dL_law_692 (by decide) ?_
    refine V.sub [0, 1, 2, 3, 4] rfl ?_
    exact nx _ _ _ _ (Nat.le_refl _) hF1 hK2 hR2
theorem mu_3_146 : Cond.methodLink RL 133 yL_sentence ∈ TT := tt_in (tb_3 (List.mem_of_getElem? (i := 146) (by decide +kernel))) (by decide +kernel)
theorem mu_3_147 : Cond.static yL_sentence ∈ TT := tt_in (tb_3 (List.mem_of_getElem? (i := 147) (by decide +kernel))) (by decide +kernel)
theorem mu_3_148 : Cond.codeWith yL_sentence cL_sentence 5 (some .int) hh_sentence ∈ TT := tt_in (tb_3 (List.mem_of_getElem? (i := 148) (by decide +kernel))) (by decide +kernel)
theorem mu_5_186 : Cond.methodLink RL 135 yX9_sentence ∈ TT := tt_in (tb_5 (List.mem_of_getElem? (i := 186) (by decide +kernel))) (by decide +kernel)
theorem mu_5_187 : Cond.instanceMethod yX9_sentence ∈ TT := tt_in (tb_5 (List.mem_of_getElem? (i := 187) (by decide +kernel))) (by decide +kernel)
theorem mu_5_188 : Cond.selects RX9 yX9_sentence yX9_sentence ∈ TT := tt_in (tb_5 (List.mem_of_getElem? (i := 188) (by decide +kernel))) (by decide +kernel)
theorem mu_5_189 : Cond.code yX9_sentence cX9_sentence 3 (some .int) ∈ TT := tt_in (tb_5 (List.mem_of_getElem? (i := 189) (by decide +kernel))) (by decide +kernel)
set_option maxHeartbeats 1000000 in
theorem lc_sentence {G : Gx} {X : Cx} {b L k i : Nat} {y : Nat → Nat} {μ : Mu} {a : AS} (hF : FinW G X b L y k) (hk : k < 512) (hL : L ≤ 3072) (hi : i + 6 ≤ L) (hy : ∀ j, y j < 2 ^ 32) (hKl : Kl μ a) (hRf : Rf μ a) (nx : Nx G b L i k y) : V G RL cL_law 8 100 X 695 (lv0 G b i) [] μ := by
  obtain ⟨q, hq⟩ : ∃ q : Res, q = sp_sentence a (y (i + 1)) (y (i + 2)) := ⟨_, rfl⟩
  have hC : RunsX 9 4 M_X8_sentence [.ref (G.2.2 80), .int (nI (y (i + 1))), .int (nI (y (i + 2)))] G μ (CF μ q) (CT nNS nIA μ q) := by rw [hq]; exact ok_X8_sentence a hKl (y (i + 1)) (y (i + 2)) (hy _) (hy _)
  have hM : ∀ μ1 : Mu, Rf μ1 a → Runs 6 M_X9_sentence [.ref (G.2.2 96), .int (nI (y (i + 1))), .int (nI (y (i + 2)))] G μ1 (RP μ1 q) := fun μ1 h => by rw [hq]; exact ok_X9_sentence a h (y (i + 1)) (y (i + 2)) (hy _) (hy _)
  clear hq
  refine V.aload_n (pc := 695) 1 dL_law_695 rfl ?_
  refine V.aload_n (pc := 696) 0 dL_law_696 rfl ?_
  refine V.iload (pc := 697) 4 dL_law_697 rfl ?_
  refine V.iconst (pc := 699) (v := nI 1) dL_law_699 (by decide) ?_
  refine V.iadd (pc := 700) dL_law_700 (nI_add _ _) ?_
  refine V.sld (pc := 701) hF (i + 1) (by omega) hL dL_law_701 ?_
  refine V.aload_n (pc := 702) 0 dL_law_702 rfl ?_
  refine V.iload (pc := 703) 4 dL_law_703 rfl ?_
  refine V.iconst (pc := 705) (v := nI 2) dL_law_705 (by decide) ?_
  refine V.iadd (pc := 706) dL_law_706 (nI_add _ _) ?_
  refine V.sld (pc := 707) hF (i + 2) (by omega) hL dL_law_707 ?_
  refine V.aload_n (pc := 708) 3 dL_law_708 rfl ?_
  refine V.callL (pc := 709) (n := 4) (As := [.ref (G.2.2 80), .int (nI (y (i + 1))), .int (nI (y (i + 2))), .ref (G.2.2 95)]) (rest := []) hF hk (ok_L_sentence (Nat.le_of_ble_eq_true rfl) hC) (Nat.le_of_ble_eq_true rfl) (Nat.le_of_ble_eq_true rfl) mu_3_146 mu_3_147 mu_1_0 mu_3_148 ⟨by decide, by decide, by decide +kernel⟩ rfl rfl (Nat.le_of_ble_eq_true rfl) dL_law_709 (fun X1 hF1 r1 μ1 h1 => ?_)
  obtain ⟨rfl, hK1, hO1, hf1, hq1⟩ := h1
  have hR1 := hRf.out hf1 (fun _ q => q)
  refine V.istore (pc := 712) (lv' := [(0, .ref b), (1, .ref (G.2.2 80)), (2, .ref (G.2.2 96)), (3, .ref (G.2.2 95)), (4, .int (nI i)), (5, .int (nI q.1))]) dL_law_712 (Nat.le_of_ble_eq_true rfl) rfl ?_
  refine V.aload_n (pc := 714) 2 dL_law_714 rfl ?_
  refine V.aload_n (pc := 715) 0 dL_law_715 rfl ?_
  refine V.iload (pc := 716) 4 dL_law_716 rfl ?_
  refine V.iconst (pc := 718) (v := nI 1) dL_law_718 (by decide) ?_
  refine V.iadd (pc := 719) dL_law_719 (nI_add _ _) ?_
  refine V.sld (pc := 720) hF1 (i + 1) (by omega) hL dL_law_720 ?_
  refine V.aload_n (pc := 721) 0 dL_law_721 rfl ?_
  refine V.iload (pc := 722) 4 dL_law_722 rfl ?_
  refine V.iconst (pc := 724) (v := nI 2) dL_law_724 (by decide) ?_
  refine V.iadd (pc := 725) dL_law_725 (nI_add _ _) ?_
  refine V.sld (pc := 726) hF1 (i + 2) (by omega) hL dL_law_726 ?_
  refine V.callV (pc := 727) (k := 96) (ci := 9) (T := TX9) (N := 27) (n := 2) (As := [.int (nI (y (i + 1))), .int (nI (y (i + 2)))]) (rest := []) (hM μ1 hR1) (Nat.le_of_ble_eq_true rfl) (Nat.le_of_ble_eq_true rfl) (Nat.le_of_ble_eq_true rfl) (fun _ _ => rfl) rfl mu_5_186 mu_5_187 mu_5_188 mu_1_10 mu_5_189 ⟨by decide, by decide, by decide +kernel⟩ rfl rfl (Nat.le_of_ble_eq_true rfl) dL_law_727 (fun r2 μ2 h2 => ?_)
  obtain ⟨hR2, ht2, ⟨v2, rfl, hv2⟩, hf2⟩ := h2
  have hK2 := hK1.out hf2
  refine V.istore (pc := 730) (lv' := [(0, .ref b), (1, .ref (G.2.2 80)), (2, .ref (G.2.2 96)), (3, .ref (G.2.2 95)), (4, .int (nI i)), (5, .int (nI q.1)), (6, .int v2)]) dL_law_730 (Nat.le_of_ble_eq_true rfl) rfl ?_
  refine V.aload_n (pc := 732) 2 dL_law_732 rfl ?_
  refine V.callV (pc := 733) (k := 96) (ci := 9) (T := TX9) (N := 27) (n := 0) (As := []) (rest := []) (ok_X9_thrown q.1 ht2) (Nat.le_of_ble_eq_true rfl) (Nat.le_of_ble_eq_true rfl) (Nat.le_of_ble_eq_true rfl) (fun _ _ => rfl) rfl mu_5_18 mu_5_19 mu_5_20 mu_1_10 mu_5_21 ⟨by decide, by decide, by decide +kernel⟩ rfl rfl (Nat.le_of_ble_eq_true rfl) dL_law_733 (fun r3 μ3 h3 => ?_)
  obtain ⟨rfl, rfl⟩ := h3
  refine V.iload (pc := 736) 5 dL_law_736 rfl ?_
  refine V.icmp_eq (pc := 738) 743 dL_law_738 (by decide) (fun _ => ?_) (fun h => absurd rfl h)
  refine V.iload (pc := 743) 5 dL_law_743 rfl ?_
  refine V.if_ne (pc := 745) 760 dL_law_745 (by decide) (fun h0 => ?_) (fun h0 => ?_)
  · refine V.goto (pc := 760) 1681 dL_law_760 (by decide) ?_
    refine V.sub [0, 1, 2, 3, 4] rfl ?_
    exact nx _ _ _ _ (Nat.le_refl _) hF1 hK2 hR2
  · have hz : q.1 = 0 := (nI_nz (by omega)).mp h0
    refine V.aload_n (pc := 748) 3 dL_law_748 rfl ?_
    refine V.iconst (pc := 749) (v := nI 0) dL_law_749 (by decide) ?_
    refine V.lald (pc := 750) (k := 95) (n := 1) (v := q.2.1.toInt64) (Nat.le_of_ble_eq_true rfl) (fun _ _ => rfl) 0 (Nat.le_of_ble_eq_true rfl) (Nat.le_of_ble_eq_true rfl) dL_law_750 ((congrFun (hf2 95 (fun z : 96 ≤ 95 => absurd z (by decide))).2 0).trans (hO1 hz)) ?_
    refine V.iload (pc := 751) 6 dL_law_751 rfl ?_
    refine V.i2l (pc := 753) (v := q.2.1.toInt64) dL_law_753 (by rw [hv2 hz]) ?_
    refine V.lcmp (pc := 754) dL_law_754 ?_
    refine V.if_eq (pc := 755) 760 dL_law_755 (by decide) (fun _ => ?_) (fun h => absurd (lcmp_eq _) h)
    refine V.goto (pc := 760) 1681 dL_law_760 (by decide) ?_
    refine V.sub [0, 1, 2, 3, 4] rfl ?_
    exact nx _ _ _ _ (Nat.le_refl _) hF1 hK2 hR2
theorem mu_3_163 : Cond.methodLink RL 136 yL_words ∈ TT := tt_in (tb_3 (List.mem_of_getElem? (i := 163) (by decide +kernel))) (by decide +kernel)
theorem mu_3_164 : Cond.static yL_words ∈ TT := tt_in (tb_3 (List.mem_of_getElem? (i := 164) (by decide +kernel))) (by decide +kernel)
theorem mu_3_165 : Cond.codeWith yL_words cL_words 4 (some .int) hh_words ∈ TT := tt_in (tb_3 (List.mem_of_getElem? (i := 165) (by decide +kernel))) (by decide +kernel)
theorem mu_5_193 : Cond.methodLink RL 138 yX9_words ∈ TT := tt_in (tb_5 (List.mem_of_getElem? (i := 193) (by decide +kernel))) (by decide +kernel)
theorem mu_5_194 : Cond.instanceMethod yX9_words ∈ TT := tt_in (tb_5 (List.mem_of_getElem? (i := 194) (by decide +kernel))) (by decide +kernel)
theorem mu_5_195 : Cond.selects RX9 yX9_words yX9_words ∈ TT := tt_in (tb_5 (List.mem_of_getElem? (i := 195) (by decide +kernel))) (by decide +kernel)
theorem mu_5_196 : Cond.code yX9_words cX9_words 2 (some .long) ∈ TT := tt_in (tb_5 (List.mem_of_getElem? (i := 196) (by decide +kernel))) (by decide +kernel)
set_option maxHeartbeats 1000000 in
theorem lc_words {G : Gx} {X : Cx} {b L k i : Nat} {y : Nat → Nat} {μ : Mu} {a : AS} (hF : FinW G X b L y k) (hk : k < 512) (hL : L ≤ 3072) (hi : i + 6 ≤ L) (hy : ∀ j, y j < 2 ^ 32) (hKl : Kl μ a) (hRf : Rf μ a) (nx : Nx G b L i k y) : V G RL cL_law 8 100 X 763 (lv0 G b i) [] μ := by
  refine V.aload_n (pc := 763) 1 dL_law_763 rfl ?_
  refine V.aload_n (pc := 764) 0 dL_law_764 rfl ?_
  refine V.iload (pc := 765) 4 dL_law_765 rfl ?_
  refine V.iconst (pc := 767) (v := nI 1) dL_law_767 (by decide) ?_
  refine V.iadd (pc := 768) dL_law_768 (nI_add _ _) ?_
  refine V.sld (pc := 769) hF (i + 1) (by omega) hL dL_law_769 ?_
  refine V.aload_n (pc := 770) 3 dL_law_770 rfl ?_
  refine V.callL (pc := 771) (n := 3) (As := [.ref (G.2.2 80), .int (nI (y (i + 1))), .ref (G.2.2 95)]) (rest := []) hF hk (ok_L_words (ok_X8_words a hKl (y (i + 1)) (hy _))) (Nat.le_of_ble_eq_true rfl) (Nat.le_of_ble_eq_true rfl) mu_3_163 mu_3_164 mu_1_0 mu_3_165 ⟨by decide, by decide, by decide +kernel⟩ rfl rfl (Nat.le_of_ble_eq_true rfl) dL_law_771 (fun X1 hF1 r1 μ1 h1 => ?_)
  rcases h1 with ⟨hp, rfl, rfl⟩ | ⟨hp, rfl, rfl⟩
  · have hf1 : Fr μ (sj μ 95 0 (lN (a.S.bag (y (i + 1))))) (fun c => c = 95) := fun c hc => ⟨rfl, sj_c μ 0 _ hc⟩
    have hR1 := hRf.out hf1 (fun c h => by omega)
    have hK1 := hKl.fr hf1 (fun c h => Or.inl (by omega))
    refine V.istore (pc := 774) (lv' := [(0, .ref b), (1, .ref (G.2.2 80)), (2, .ref (G.2.2 96)), (3, .ref (G.2.2 95)), (4, .int (nI i)), (5, .int (nI 0))]) dL_law_774 (Nat.le_of_ble_eq_true rfl) rfl ?_
    refine V.aload_n (pc := 776) 2 dL_law_776 rfl ?_
    refine V.aload_n (pc := 777) 0 dL_law_777 rfl ?_
    refine V.iload (pc := 778) 4 dL_law_778 rfl ?_
    refine V.iconst (pc := 780) (v := nI 1) dL_law_780 (by decide) ?_
    refine V.iadd (pc := 781) dL_law_781 (nI_add _ _) ?_
    refine V.sld (pc := 782) hF1 (i + 1) (by omega) hL dL_law_782 ?_
    refine V.callV (pc := 783) (k := 96) (ci := 9) (T := TX9) (N := 27) (n := 1) (As := [.int (nI (y (i + 1)))]) (rest := []) (ok_X9_words a hR1 (y (i + 1)) (hy _)) (Nat.le_of_ble_eq_true rfl) (Nat.le_of_ble_eq_true rfl) (Nat.le_of_ble_eq_true rfl) (fun _ _ => rfl) rfl mu_5_193 mu_5_194 mu_5_195 mu_1_10 mu_5_196 ⟨by decide, by decide, by decide +kernel⟩ rfl rfl (Nat.le_of_ble_eq_true rfl) dL_law_783 (fun r2 μ2 h2 => ?_)
    obtain ⟨-, rfl, hR2, ht2, hf2⟩ := h2.elim id (fun z => absurd hp z.1)
    have hK2 := hK1.out hf2
    refine V.lstore (pc := 786) (lv' := [(0, .ref b), (1, .ref (G.2.2 80)), (2, .ref (G.2.2 96)), (3, .ref (G.2.2 95)), (4, .int (nI i)), (5, .int (nI 0)), (6, .long (lN (a.S.bag (y (i + 1)))))]) dL_law_786 (Nat.le_of_ble_eq_true rfl) rfl ?_
    refine V.aload_n (pc := 788) 2 dL_law_788 rfl ?_
    refine V.callV (pc := 789) (k := 96) (ci := 9) (T := TX9) (N := 27) (n := 0) (As := []) (rest := []) (ok_X9_thrown 0 ht2) (Nat.le_of_ble_eq_true rfl) (Nat.le_of_ble_eq_true rfl) (Nat.le_of_ble_eq_true rfl) (fun _ _ => rfl) rfl mu_5_18 mu_5_19 mu_5_20 mu_1_10 mu_5_21 ⟨by decide, by decide, by decide +kernel⟩ rfl rfl (Nat.le_of_ble_eq_true rfl) dL_law_789 (fun r3 μ3 h3 => ?_)
    obtain ⟨rfl, rfl⟩ := h3
    refine V.iload (pc := 792) 5 dL_law_792 rfl ?_
    refine V.icmp_eq (pc := 794) 799 dL_law_794 (by decide) (fun _ => ?_) (fun h => absurd rfl h)
    refine V.iload (pc := 799) 5 dL_law_799 rfl ?_
    refine V.if_ne (pc := 801) 815 dL_law_801 (by decide) (fun h0 => absurd nI_0 h0) (fun _ => ?_)
    refine V.aload_n (pc := 804) 3 dL_law_804 rfl ?_
    refine V.iconst (pc := 805) (v := nI 0) dL_law_805 (by decide) ?_
    refine V.lald (pc := 806) (k := 95) (n := 1) (v := lN (a.S.bag (y (i + 1)))) (Nat.le_of_ble_eq_true rfl) (fun _ _ => rfl) 0 (Nat.le_of_ble_eq_true rfl) (Nat.le_of_ble_eq_true rfl) dL_law_806 ((congrFun (hf2 95 (fun z : 96 ≤ 95 => absurd z (by decide))).2 0).trans (sj_s μ 95 0 _)) ?_
    refine V.lload (pc := 807) 6 dL_law_807 rfl ?_
    refine V.lcmp (pc := 809) dL_law_809 ?_
    refine V.if_eq (pc := 810) 815 dL_law_810 (by decide) (fun _ => ?_) (fun h => absurd (lcmp_eq _) h)
    refine V.goto (pc := 815) 1681 dL_law_815 (by decide) ?_
    refine V.sub [0, 1, 2, 3, 4] rfl ?_
    exact nx _ _ _ _ (Nat.le_refl _) hF1 hK2 hR2
  · have hf1 : Fr μ (rB μ 0) (fun c => c = 82) := fun c hc => ⟨si_c μ 0 _ hc, rfl⟩
    have hR1 := hRf.out hf1 (fun c h => by omega)
    have hK1 := hKl.refB (r := 0) (by decide)
    refine V.istore (pc := 774) (lv' := [(0, .ref b), (1, .ref (G.2.2 80)), (2, .ref (G.2.2 96)), (3, .ref (G.2.2 95)), (4, .int (nI i)), (5, .int (nI 1))]) dL_law_774 (Nat.le_of_ble_eq_true rfl) rfl ?_
    refine V.aload_n (pc := 776) 2 dL_law_776 rfl ?_
    refine V.aload_n (pc := 777) 0 dL_law_777 rfl ?_
    refine V.iload (pc := 778) 4 dL_law_778 rfl ?_
    refine V.iconst (pc := 780) (v := nI 1) dL_law_780 (by decide) ?_
    refine V.iadd (pc := 781) dL_law_781 (nI_add _ _) ?_
    refine V.sld (pc := 782) hF1 (i + 1) (by omega) hL dL_law_782 ?_
    refine V.callV (pc := 783) (k := 96) (ci := 9) (T := TX9) (N := 27) (n := 1) (As := [.int (nI (y (i + 1)))]) (rest := []) (ok_X9_words a hR1 (y (i + 1)) (hy _)) (Nat.le_of_ble_eq_true rfl) (Nat.le_of_ble_eq_true rfl) (Nat.le_of_ble_eq_true rfl) (fun _ _ => rfl) rfl mu_5_193 mu_5_194 mu_5_195 mu_1_10 mu_5_196 ⟨by decide, by decide, by decide +kernel⟩ rfl rfl (Nat.le_of_ble_eq_true rfl) dL_law_783 (fun r2 μ2 h2 => ?_)
    obtain ⟨-, ⟨v2, rfl⟩, hR2, ht2, hf2⟩ := h2.elim (fun z => absurd z.1 hp) id
    have hK2 := hK1.out hf2
    refine V.lstore (pc := 786) (lv' := [(0, .ref b), (1, .ref (G.2.2 80)), (2, .ref (G.2.2 96)), (3, .ref (G.2.2 95)), (4, .int (nI i)), (5, .int (nI 1)), (6, .long (v2))]) dL_law_786 (Nat.le_of_ble_eq_true rfl) rfl ?_
    refine V.aload_n (pc := 788) 2 dL_law_788 rfl ?_
    refine V.callV (pc := 789) (k := 96) (ci := 9) (T := TX9) (N := 27) (n := 0) (As := []) (rest := []) (ok_X9_thrown 1 ht2) (Nat.le_of_ble_eq_true rfl) (Nat.le_of_ble_eq_true rfl) (Nat.le_of_ble_eq_true rfl) (fun _ _ => rfl) rfl mu_5_18 mu_5_19 mu_5_20 mu_1_10 mu_5_21 ⟨by decide, by decide, by decide +kernel⟩ rfl rfl (Nat.le_of_ble_eq_true rfl) dL_law_789 (fun r3 μ3 h3 => ?_)
    obtain ⟨rfl, rfl⟩ := h3
    refine V.iload (pc := 792) 5 dL_law_792 rfl ?_
    refine V.icmp_eq (pc := 794) 799 dL_law_794 (by decide) (fun _ => ?_) (fun h => absurd rfl h)
    refine V.iload (pc := 799) 5 dL_law_799 rfl ?_
    refine V.if_ne (pc := 801) 815 dL_law_801 (by decide) (fun _ => ?_) (fun h0 => absurd h0 (by decide))
    refine V.goto (pc := 815) 1681 dL_law_815 (by decide) ?_
    refine V.sub [0, 1, 2, 3, 4] rfl ?_
    exact nx _ _ _ _ (Nat.le_refl _) hF1 hK2 hR2
theorem mu_3_170 : Cond.methodLink RL 139 yL_word ∈ TT := tt_in (tb_3 (List.mem_of_getElem? (i := 170) (by decide +kernel))) (by decide +kernel)
theorem mu_3_171 : Cond.static yL_word ∈ TT := tt_in (tb_3 (List.mem_of_getElem? (i := 171) (by decide +kernel))) (by decide +kernel)
theorem mu_3_172 : Cond.codeWith yL_word cL_word 5 (some .int) hh_word ∈ TT := tt_in (tb_3 (List.mem_of_getElem? (i := 172) (by decide +kernel))) (by decide +kernel)
theorem mu_5_197 : Cond.methodLink RL 141 yX9_word ∈ TT := tt_in (tb_5 (List.mem_of_getElem? (i := 197) (by decide +kernel))) (by decide +kernel)
theorem mu_5_198 : Cond.instanceMethod yX9_word ∈ TT := tt_in (tb_5 (List.mem_of_getElem? (i := 198) (by decide +kernel))) (by decide +kernel)
theorem mu_5_199 : Cond.selects RX9 yX9_word yX9_word ∈ TT := tt_in (tb_5 (List.mem_of_getElem? (i := 199) (by decide +kernel))) (by decide +kernel)
theorem mu_5_200 : Cond.code yX9_word cX9_word 3 (some .int) ∈ TT := tt_in (tb_5 (List.mem_of_getElem? (i := 200) (by decide +kernel))) (by decide +kernel)
set_option maxHeartbeats 1000000 in
theorem lc_word {G : Gx} {X : Cx} {b L k i : Nat} {y : Nat → Nat} {μ : Mu} {a : AS} (hF : FinW G X b L y k) (hk : k < 512) (hL : L ≤ 3072) (hi : i + 6 ≤ L) (hy : ∀ j, y j < 2 ^ 32) (hKl : Kl μ a) (hRf : Rf μ a) (nx : Nx G b L i k y) : V G RL cL_law 8 100 X 818 (lv0 G b i) [] μ := by
  obtain ⟨q, hq⟩ : ∃ q : Res, q = sp_word a (y (i + 1)) (y (i + 2)) := ⟨_, rfl⟩
  have hC : RunsX 9 4 M_X8_word [.ref (G.2.2 80), .int (nI (y (i + 1))), .int (nI (y (i + 2)))] G μ (CF μ q) (CT nNS nIA μ q) := by rw [hq]; exact ok_X8_word a hKl (y (i + 1)) (y (i + 2)) (hy _) (hy _)
  have hM : ∀ μ1 : Mu, Rf μ1 a → Runs 6 M_X9_word [.ref (G.2.2 96), .int (nI (y (i + 1))), .int (nI (y (i + 2)))] G μ1 (RP μ1 q) := fun μ1 h => by rw [hq]; exact ok_X9_word a h (y (i + 1)) (y (i + 2)) (hy _) (hy _)
  clear hq
  refine V.aload_n (pc := 818) 1 dL_law_818 rfl ?_
  refine V.aload_n (pc := 819) 0 dL_law_819 rfl ?_
  refine V.iload (pc := 820) 4 dL_law_820 rfl ?_
  refine V.iconst (pc := 822) (v := nI 1) dL_law_822 (by decide) ?_
  refine V.iadd (pc := 823) dL_law_823 (nI_add _ _) ?_
  refine V.sld (pc := 824) hF (i + 1) (by omega) hL dL_law_824 ?_
  refine V.aload_n (pc := 825) 0 dL_law_825 rfl ?_
  refine V.iload (pc := 826) 4 dL_law_826 rfl ?_
  refine V.iconst (pc := 828) (v := nI 2) dL_law_828 (by decide) ?_
  refine V.iadd (pc := 829) dL_law_829 (nI_add _ _) ?_
  refine V.sld (pc := 830) hF (i + 2) (by omega) hL dL_law_830 ?_
  refine V.aload_n (pc := 831) 3 dL_law_831 rfl ?_
  refine V.callL (pc := 832) (n := 4) (As := [.ref (G.2.2 80), .int (nI (y (i + 1))), .int (nI (y (i + 2))), .ref (G.2.2 95)]) (rest := []) hF hk (ok_L_word (Nat.le_of_ble_eq_true rfl) hC) (Nat.le_of_ble_eq_true rfl) (Nat.le_of_ble_eq_true rfl) mu_3_170 mu_3_171 mu_1_0 mu_3_172 ⟨by decide, by decide, by decide +kernel⟩ rfl rfl (Nat.le_of_ble_eq_true rfl) dL_law_832 (fun X1 hF1 r1 μ1 h1 => ?_)
  obtain ⟨rfl, hK1, hO1, hf1, hq1⟩ := h1
  have hR1 := hRf.out hf1 (fun _ q => q)
  refine V.istore (pc := 835) (lv' := [(0, .ref b), (1, .ref (G.2.2 80)), (2, .ref (G.2.2 96)), (3, .ref (G.2.2 95)), (4, .int (nI i)), (5, .int (nI q.1))]) dL_law_835 (Nat.le_of_ble_eq_true rfl) rfl ?_
  refine V.aload_n (pc := 837) 2 dL_law_837 rfl ?_
  refine V.aload_n (pc := 838) 0 dL_law_838 rfl ?_
  refine V.iload (pc := 839) 4 dL_law_839 rfl ?_
  refine V.iconst (pc := 841) (v := nI 1) dL_law_841 (by decide) ?_
  refine V.iadd (pc := 842) dL_law_842 (nI_add _ _) ?_
  refine V.sld (pc := 843) hF1 (i + 1) (by omega) hL dL_law_843 ?_
  refine V.aload_n (pc := 844) 0 dL_law_844 rfl ?_
  refine V.iload (pc := 845) 4 dL_law_845 rfl ?_
  refine V.iconst (pc := 847) (v := nI 2) dL_law_847 (by decide) ?_
  refine V.iadd (pc := 848) dL_law_848 (nI_add _ _) ?_
  refine V.sld (pc := 849) hF1 (i + 2) (by omega) hL dL_law_849 ?_
  refine V.callV (pc := 850) (k := 96) (ci := 9) (T := TX9) (N := 27) (n := 2) (As := [.int (nI (y (i + 1))), .int (nI (y (i + 2)))]) (rest := []) (hM μ1 hR1) (Nat.le_of_ble_eq_true rfl) (Nat.le_of_ble_eq_true rfl) (Nat.le_of_ble_eq_true rfl) (fun _ _ => rfl) rfl mu_5_197 mu_5_198 mu_5_199 mu_1_10 mu_5_200 ⟨by decide, by decide, by decide +kernel⟩ rfl rfl (Nat.le_of_ble_eq_true rfl) dL_law_850 (fun r2 μ2 h2 => ?_)
  obtain ⟨hR2, ht2, ⟨v2, rfl, hv2⟩, hf2⟩ := h2
  have hK2 := hK1.out hf2
  refine V.istore (pc := 853) (lv' := [(0, .ref b), (1, .ref (G.2.2 80)), (2, .ref (G.2.2 96)), (3, .ref (G.2.2 95)), (4, .int (nI i)), (5, .int (nI q.1)), (6, .int v2)]) dL_law_853 (Nat.le_of_ble_eq_true rfl) rfl ?_
  refine V.aload_n (pc := 855) 2 dL_law_855 rfl ?_
  refine V.callV (pc := 856) (k := 96) (ci := 9) (T := TX9) (N := 27) (n := 0) (As := []) (rest := []) (ok_X9_thrown q.1 ht2) (Nat.le_of_ble_eq_true rfl) (Nat.le_of_ble_eq_true rfl) (Nat.le_of_ble_eq_true rfl) (fun _ _ => rfl) rfl mu_5_18 mu_5_19 mu_5_20 mu_1_10 mu_5_21 ⟨by decide, by decide, by decide +kernel⟩ rfl rfl (Nat.le_of_ble_eq_true rfl) dL_law_856 (fun r3 μ3 h3 => ?_)
  obtain ⟨rfl, rfl⟩ := h3
  refine V.iload (pc := 859) 5 dL_law_859 rfl ?_
  refine V.icmp_eq (pc := 861) 866 dL_law_861 (by decide) (fun _ => ?_) (fun h => absurd rfl h)
  refine V.iload (pc := 866) 5 dL_law_866 rfl ?_
  refine V.if_ne (pc := 868) 883 dL_law_868 (by decide) (fun h0 => ?_) (fun h0 => ?_)
  · refine V.goto (pc := 883) 1681 dL_law_883 (by decide) ?_
    refine V.sub [0, 1, 2, 3, 4] rfl ?_
    exact nx _ _ _ _ (Nat.le_refl _) hF1 hK2 hR2
  · have hz : q.1 = 0 := (nI_nz (by omega)).mp h0
    refine V.aload_n (pc := 871) 3 dL_law_871 rfl ?_
    refine V.iconst (pc := 872) (v := nI 0) dL_law_872 (by decide) ?_
    refine V.lald (pc := 873) (k := 95) (n := 1) (v := q.2.1.toInt64) (Nat.le_of_ble_eq_true rfl) (fun _ _ => rfl) 0 (Nat.le_of_ble_eq_true rfl) (Nat.le_of_ble_eq_true rfl) dL_law_873 ((congrFun (hf2 95 (fun z : 96 ≤ 95 => absurd z (by decide))).2 0).trans (hO1 hz)) ?_
    refine V.iload (pc := 874) 6 dL_law_874 rfl ?_
    refine V.i2l (pc := 876) (v := q.2.1.toInt64) dL_law_876 (by rw [hv2 hz]) ?_
    refine V.lcmp (pc := 877) dL_law_877 ?_
    refine V.if_eq (pc := 878) 883 dL_law_878 (by decide) (fun _ => ?_) (fun h => absurd (lcmp_eq _) h)
    refine V.goto (pc := 883) 1681 dL_law_883 (by decide) ?_
    refine V.sub [0, 1, 2, 3, 4] rfl ?_
    exact nx _ _ _ _ (Nat.le_refl _) hF1 hK2 hR2
theorem mu_3_189 : Cond.methodLink RL 142 yL_letter ∈ TT := tt_in (tb_3 (List.mem_of_getElem? (i := 189) (by decide +kernel))) (by decide +kernel)
theorem mu_3_190 : Cond.static yL_letter ∈ TT := tt_in (tb_3 (List.mem_of_getElem? (i := 190) (by decide +kernel))) (by decide +kernel)
theorem mu_3_191 : Cond.codeWith yL_letter cL_letter 5 (some .int) hh_letter ∈ TT := tt_in (tb_3 (List.mem_of_getElem? (i := 191) (by decide +kernel))) (by decide +kernel)
theorem mu_5_201 : Cond.methodLink RL 144 yX9_letter ∈ TT := tt_in (tb_5 (List.mem_of_getElem? (i := 201) (by decide +kernel))) (by decide +kernel)
theorem mu_5_202 : Cond.instanceMethod yX9_letter ∈ TT := tt_in (tb_5 (List.mem_of_getElem? (i := 202) (by decide +kernel))) (by decide +kernel)
theorem mu_5_203 : Cond.selects RX9 yX9_letter yX9_letter ∈ TT := tt_in (tb_5 (List.mem_of_getElem? (i := 203) (by decide +kernel))) (by decide +kernel)
theorem mu_5_204 : Cond.code yX9_letter cX9_letter 3 (some .int) ∈ TT := tt_in (tb_5 (List.mem_of_getElem? (i := 204) (by decide +kernel))) (by decide +kernel)
set_option maxHeartbeats 1000000 in
theorem lc_letter {G : Gx} {X : Cx} {b L k i : Nat} {y : Nat → Nat} {μ : Mu} {a : AS} (hF : FinW G X b L y k) (hk : k < 512) (hL : L ≤ 3072) (hi : i + 6 ≤ L) (hy : ∀ j, y j < 2 ^ 32) (hKl : Kl μ a) (hRf : Rf μ a) (nx : Nx G b L i k y) : V G RL cL_law 8 100 X 886 (lv0 G b i) [] μ := by
  obtain ⟨q, hq⟩ : ∃ q : Res, q = sp_letter a (y (i + 1)) (y (i + 2)) := ⟨_, rfl⟩
  have hC : RunsX 9 4 M_X8_letter [.ref (G.2.2 80), .int (nI (y (i + 1))), .int (nI (y (i + 2)))] G μ (CF μ q) (CT nNS nNS μ q) := by rw [hq]; exact ok_X8_letter a hKl (y (i + 1)) (y (i + 2)) (hy _) (hy _)
  have hM : ∀ μ1 : Mu, Rf μ1 a → Runs 6 M_X9_letter [.ref (G.2.2 96), .int (nI (y (i + 1))), .int (nI (y (i + 2)))] G μ1 (RP μ1 q) := fun μ1 h => by rw [hq]; exact ok_X9_letter a h (y (i + 1)) (y (i + 2)) (hy _) (hy _)
  have hq2 : q.1 ≠ 2 := by rw [hq]; exact n2_letter a (y (i + 1)) (y (i + 2))
  clear hq
  refine V.aload_n (pc := 886) 1 dL_law_886 rfl ?_
  refine V.aload_n (pc := 887) 0 dL_law_887 rfl ?_
  refine V.iload (pc := 888) 4 dL_law_888 rfl ?_
  refine V.iconst (pc := 890) (v := nI 1) dL_law_890 (by decide) ?_
  refine V.iadd (pc := 891) dL_law_891 (nI_add _ _) ?_
  refine V.sld (pc := 892) hF (i + 1) (by omega) hL dL_law_892 ?_
  refine V.aload_n (pc := 893) 0 dL_law_893 rfl ?_
  refine V.iload (pc := 894) 4 dL_law_894 rfl ?_
  refine V.iconst (pc := 896) (v := nI 2) dL_law_896 (by decide) ?_
  refine V.iadd (pc := 897) dL_law_897 (nI_add _ _) ?_
  refine V.sld (pc := 898) hF (i + 2) (by omega) hL dL_law_898 ?_
  refine V.aload_n (pc := 899) 3 dL_law_899 rfl ?_
  refine V.callL (pc := 900) (n := 4) (As := [.ref (G.2.2 80), .int (nI (y (i + 1))), .int (nI (y (i + 2))), .ref (G.2.2 95)]) (rest := []) hF hk (ok_L_letter (Nat.le_of_ble_eq_true rfl) hq2 hC) (Nat.le_of_ble_eq_true rfl) (Nat.le_of_ble_eq_true rfl) mu_3_189 mu_3_190 mu_1_0 mu_3_191 ⟨by decide, by decide, by decide +kernel⟩ rfl rfl (Nat.le_of_ble_eq_true rfl) dL_law_900 (fun X1 hF1 r1 μ1 h1 => ?_)
  obtain ⟨rfl, hK1, hO1, hf1, hq1⟩ := h1
  have hR1 := hRf.out hf1 (fun _ q => q)
  refine V.istore (pc := 903) (lv' := [(0, .ref b), (1, .ref (G.2.2 80)), (2, .ref (G.2.2 96)), (3, .ref (G.2.2 95)), (4, .int (nI i)), (5, .int (nI q.1))]) dL_law_903 (Nat.le_of_ble_eq_true rfl) rfl ?_
  refine V.aload_n (pc := 905) 2 dL_law_905 rfl ?_
  refine V.aload_n (pc := 906) 0 dL_law_906 rfl ?_
  refine V.iload (pc := 907) 4 dL_law_907 rfl ?_
  refine V.iconst (pc := 909) (v := nI 1) dL_law_909 (by decide) ?_
  refine V.iadd (pc := 910) dL_law_910 (nI_add _ _) ?_
  refine V.sld (pc := 911) hF1 (i + 1) (by omega) hL dL_law_911 ?_
  refine V.aload_n (pc := 912) 0 dL_law_912 rfl ?_
  refine V.iload (pc := 913) 4 dL_law_913 rfl ?_
  refine V.iconst (pc := 915) (v := nI 2) dL_law_915 (by decide) ?_
  refine V.iadd (pc := 916) dL_law_916 (nI_add _ _) ?_
  refine V.sld (pc := 917) hF1 (i + 2) (by omega) hL dL_law_917 ?_
  refine V.callV (pc := 918) (k := 96) (ci := 9) (T := TX9) (N := 27) (n := 2) (As := [.int (nI (y (i + 1))), .int (nI (y (i + 2)))]) (rest := []) (hM μ1 hR1) (Nat.le_of_ble_eq_true rfl) (Nat.le_of_ble_eq_true rfl) (Nat.le_of_ble_eq_true rfl) (fun _ _ => rfl) rfl mu_5_201 mu_5_202 mu_5_203 mu_1_10 mu_5_204 ⟨by decide, by decide, by decide +kernel⟩ rfl rfl (Nat.le_of_ble_eq_true rfl) dL_law_918 (fun r2 μ2 h2 => ?_)
  obtain ⟨hR2, ht2, ⟨v2, rfl, hv2⟩, hf2⟩ := h2
  have hK2 := hK1.out hf2
  refine V.istore (pc := 921) (lv' := [(0, .ref b), (1, .ref (G.2.2 80)), (2, .ref (G.2.2 96)), (3, .ref (G.2.2 95)), (4, .int (nI i)), (5, .int (nI q.1)), (6, .int v2)]) dL_law_921 (Nat.le_of_ble_eq_true rfl) rfl ?_
  refine V.aload_n (pc := 923) 2 dL_law_923 rfl ?_
  refine V.callV (pc := 924) (k := 96) (ci := 9) (T := TX9) (N := 27) (n := 0) (As := []) (rest := []) (ok_X9_thrown q.1 ht2) (Nat.le_of_ble_eq_true rfl) (Nat.le_of_ble_eq_true rfl) (Nat.le_of_ble_eq_true rfl) (fun _ _ => rfl) rfl mu_5_18 mu_5_19 mu_5_20 mu_1_10 mu_5_21 ⟨by decide, by decide, by decide +kernel⟩ rfl rfl (Nat.le_of_ble_eq_true rfl) dL_law_924 (fun r3 μ3 h3 => ?_)
  obtain ⟨rfl, rfl⟩ := h3
  refine V.iload (pc := 927) 5 dL_law_927 rfl ?_
  refine V.icmp_eq (pc := 929) 934 dL_law_929 (by decide) (fun _ => ?_) (fun h => absurd rfl h)
  refine V.iload (pc := 934) 5 dL_law_934 rfl ?_
  refine V.if_ne (pc := 936) 951 dL_law_936 (by decide) (fun h0 => ?_) (fun h0 => ?_)
  · refine V.goto (pc := 951) 1681 dL_law_951 (by decide) ?_
    refine V.sub [0, 1, 2, 3, 4] rfl ?_
    exact nx _ _ _ _ (Nat.le_refl _) hF1 hK2 hR2
  · have hz : q.1 = 0 := (nI_nz (by omega)).mp h0
    refine V.aload_n (pc := 939) 3 dL_law_939 rfl ?_
    refine V.iconst (pc := 940) (v := nI 0) dL_law_940 (by decide) ?_
    refine V.lald (pc := 941) (k := 95) (n := 1) (v := q.2.1.toInt64) (Nat.le_of_ble_eq_true rfl) (fun _ _ => rfl) 0 (Nat.le_of_ble_eq_true rfl) (Nat.le_of_ble_eq_true rfl) dL_law_941 ((congrFun (hf2 95 (fun z : 96 ≤ 95 => absurd z (by decide))).2 0).trans (hO1 hz)) ?_
    refine V.iload (pc := 942) 6 dL_law_942 rfl ?_
    refine V.i2l (pc := 944) (v := q.2.1.toInt64) dL_law_944 (by rw [hv2 hz]) ?_
    refine V.lcmp (pc := 945) dL_law_945 ?_
    refine V.if_eq (pc := 946) 951 dL_law_946 (by decide) (fun _ => ?_) (fun h => absurd (lcmp_eq _) h)
    refine V.goto (pc := 951) 1681 dL_law_951 (by decide) ?_
    refine V.sub [0, 1, 2, 3, 4] rfl ?_
    exact nx _ _ _ _ (Nat.le_refl _) hF1 hK2 hR2
theorem mu_3_200 : Cond.methodLink RL 145 yL_greedy ∈ TT := tt_in (tb_3 (List.mem_of_getElem? (i := 200) (by decide +kernel))) (by decide +kernel)
theorem mu_3_201 : Cond.static yL_greedy ∈ TT := tt_in (tb_3 (List.mem_of_getElem? (i := 201) (by decide +kernel))) (by decide +kernel)
theorem mu_3_202 : Cond.codeWith yL_greedy cL_greedy 5 (some .int) hh_greedy ∈ TT := tt_in (tb_3 (List.mem_of_getElem? (i := 202) (by decide +kernel))) (by decide +kernel)
theorem mu_5_205 : Cond.methodLink RL 147 yX9_greedy ∈ TT := tt_in (tb_5 (List.mem_of_getElem? (i := 205) (by decide +kernel))) (by decide +kernel)
theorem mu_5_206 : Cond.instanceMethod yX9_greedy ∈ TT := tt_in (tb_5 (List.mem_of_getElem? (i := 206) (by decide +kernel))) (by decide +kernel)
theorem mu_5_207 : Cond.selects RX9 yX9_greedy yX9_greedy ∈ TT := tt_in (tb_5 (List.mem_of_getElem? (i := 207) (by decide +kernel))) (by decide +kernel)
theorem mu_5_208 : Cond.code yX9_greedy cX9_greedy 3 (some .int) ∈ TT := tt_in (tb_5 (List.mem_of_getElem? (i := 208) (by decide +kernel))) (by decide +kernel)
set_option maxHeartbeats 1000000 in
theorem lc_greedy {G : Gx} {X : Cx} {b L k i : Nat} {y : Nat → Nat} {μ : Mu} {a : AS} (hF : FinW G X b L y k) (hk : k < 512) (hL : L ≤ 3072) (hi : i + 6 ≤ L) (hy : ∀ j, y j < 2 ^ 32) (hKl : Kl μ a) (hRf : Rf μ a) (nx : Nx G b L i k y) : V G RL cL_law 8 100 X 954 (lv0 G b i) [] μ := by
  obtain ⟨K, hKe⟩ := gr_ex a.S (decide ((y (i + 1)) ≠ 0))
  obtain ⟨q, hq⟩ : ∃ q : Res, q = sp_greedy a (y (i + 1)) (y (i + 2)) K := ⟨_, rfl⟩
  have hC : RunsX 9 4 M_X8_greedy [.ref (G.2.2 80), .int (nI (y (i + 1))), .int (nI (y (i + 2)))] G μ (CF μ q) (CT nIA nIA μ q) := by rw [hq]; exact ok_X8_greedy a hKl (y (i + 1)) (y (i + 2)) (hy _) (hy _) K hKe
  have hM : ∀ μ1 : Mu, Rf μ1 a → Runs 9 M_X9_greedy [.ref (G.2.2 96), .int (nI (y (i + 1))), .int (nI (y (i + 2)))] G μ1 (RP μ1 q) := fun μ1 h => by rw [hq]; exact ok_X9_greedy a h (y (i + 1)) (y (i + 2)) (hy _) (hy _) K hKe
  have hq2 : q.1 ≠ 2 := by rw [hq]; exact n2_greedy a (y (i + 1)) (y (i + 2)) K
  clear hq
  refine V.aload_n (pc := 954) 1 dL_law_954 rfl ?_
  refine V.aload_n (pc := 955) 0 dL_law_955 rfl ?_
  refine V.iload (pc := 956) 4 dL_law_956 rfl ?_
  refine V.iconst (pc := 958) (v := nI 1) dL_law_958 (by decide) ?_
  refine V.iadd (pc := 959) dL_law_959 (nI_add _ _) ?_
  refine V.sld (pc := 960) hF (i + 1) (by omega) hL dL_law_960 ?_
  refine V.aload_n (pc := 961) 0 dL_law_961 rfl ?_
  refine V.iload (pc := 962) 4 dL_law_962 rfl ?_
  refine V.iconst (pc := 964) (v := nI 2) dL_law_964 (by decide) ?_
  refine V.iadd (pc := 965) dL_law_965 (nI_add _ _) ?_
  refine V.sld (pc := 966) hF (i + 2) (by omega) hL dL_law_966 ?_
  refine V.aload_n (pc := 967) 3 dL_law_967 rfl ?_
  refine V.callL (pc := 968) (n := 4) (As := [.ref (G.2.2 80), .int (nI (y (i + 1))), .int (nI (y (i + 2))), .ref (G.2.2 95)]) (rest := []) hF hk (ok_L_greedy (Nat.le_of_ble_eq_true rfl) hq2 hC) (Nat.le_of_ble_eq_true rfl) (Nat.le_of_ble_eq_true rfl) mu_3_200 mu_3_201 mu_1_0 mu_3_202 ⟨by decide, by decide, by decide +kernel⟩ rfl rfl (Nat.le_of_ble_eq_true rfl) dL_law_968 (fun X1 hF1 r1 μ1 h1 => ?_)
  obtain ⟨rfl, hK1, hO1, hf1, hq1⟩ := h1
  have hR1 := hRf.out hf1 (fun _ q => q)
  refine V.istore (pc := 971) (lv' := [(0, .ref b), (1, .ref (G.2.2 80)), (2, .ref (G.2.2 96)), (3, .ref (G.2.2 95)), (4, .int (nI i)), (5, .int (nI q.1))]) dL_law_971 (Nat.le_of_ble_eq_true rfl) rfl ?_
  refine V.aload_n (pc := 973) 2 dL_law_973 rfl ?_
  refine V.aload_n (pc := 974) 0 dL_law_974 rfl ?_
  refine V.iload (pc := 975) 4 dL_law_975 rfl ?_
  refine V.iconst (pc := 977) (v := nI 1) dL_law_977 (by decide) ?_
  refine V.iadd (pc := 978) dL_law_978 (nI_add _ _) ?_
  refine V.sld (pc := 979) hF1 (i + 1) (by omega) hL dL_law_979 ?_
  refine V.aload_n (pc := 980) 0 dL_law_980 rfl ?_
  refine V.iload (pc := 981) 4 dL_law_981 rfl ?_
  refine V.iconst (pc := 983) (v := nI 2) dL_law_983 (by decide) ?_
  refine V.iadd (pc := 984) dL_law_984 (nI_add _ _) ?_
  refine V.sld (pc := 985) hF1 (i + 2) (by omega) hL dL_law_985 ?_
  refine V.callV (pc := 986) (k := 96) (ci := 9) (T := TX9) (N := 27) (n := 2) (As := [.int (nI (y (i + 1))), .int (nI (y (i + 2)))]) (rest := []) (hM μ1 hR1) (Nat.le_of_ble_eq_true rfl) (Nat.le_of_ble_eq_true rfl) (Nat.le_of_ble_eq_true rfl) (fun _ _ => rfl) rfl mu_5_205 mu_5_206 mu_5_207 mu_1_10 mu_5_208 ⟨by decide, by decide, by decide +kernel⟩ rfl rfl (Nat.le_of_ble_eq_true rfl) dL_law_986 (fun r2 μ2 h2 => ?_)
  obtain ⟨hR2, ht2, ⟨v2, rfl, hv2⟩, hf2⟩ := h2
  have hK2 := hK1.out hf2
  refine V.istore (pc := 989) (lv' := [(0, .ref b), (1, .ref (G.2.2 80)), (2, .ref (G.2.2 96)), (3, .ref (G.2.2 95)), (4, .int (nI i)), (5, .int (nI q.1)), (6, .int v2)]) dL_law_989 (Nat.le_of_ble_eq_true rfl) rfl ?_
  refine V.aload_n (pc := 991) 2 dL_law_991 rfl ?_
  refine V.callV (pc := 992) (k := 96) (ci := 9) (T := TX9) (N := 27) (n := 0) (As := []) (rest := []) (ok_X9_thrown q.1 ht2) (Nat.le_of_ble_eq_true rfl) (Nat.le_of_ble_eq_true rfl) (Nat.le_of_ble_eq_true rfl) (fun _ _ => rfl) rfl mu_5_18 mu_5_19 mu_5_20 mu_1_10 mu_5_21 ⟨by decide, by decide, by decide +kernel⟩ rfl rfl (Nat.le_of_ble_eq_true rfl) dL_law_992 (fun r3 μ3 h3 => ?_)
  obtain ⟨rfl, rfl⟩ := h3
  refine V.iload (pc := 995) 5 dL_law_995 rfl ?_
  refine V.icmp_eq (pc := 997) 1002 dL_law_997 (by decide) (fun _ => ?_) (fun h => absurd rfl h)
  refine V.iload (pc := 1002) 5 dL_law_1002 rfl ?_
  refine V.if_ne (pc := 1004) 1019 dL_law_1004 (by decide) (fun h0 => ?_) (fun h0 => ?_)
  · refine V.goto (pc := 1019) 1681 dL_law_1019 (by decide) ?_
    refine V.sub [0, 1, 2, 3, 4] rfl ?_
    exact nx _ _ _ _ (Nat.le_refl _) hF1 hK2 hR2
  · have hz : q.1 = 0 := (nI_nz (by omega)).mp h0
    refine V.aload_n (pc := 1007) 3 dL_law_1007 rfl ?_
    refine V.iconst (pc := 1008) (v := nI 0) dL_law_1008 (by decide) ?_
    refine V.lald (pc := 1009) (k := 95) (n := 1) (v := q.2.1.toInt64) (Nat.le_of_ble_eq_true rfl) (fun _ _ => rfl) 0 (Nat.le_of_ble_eq_true rfl) (Nat.le_of_ble_eq_true rfl) dL_law_1009 ((congrFun (hf2 95 (fun z : 96 ≤ 95 => absurd z (by decide))).2 0).trans (hO1 hz)) ?_
    refine V.iload (pc := 1010) 6 dL_law_1010 rfl ?_
    refine V.i2l (pc := 1012) (v := q.2.1.toInt64) dL_law_1012 (by rw [hv2 hz]) ?_
    refine V.lcmp (pc := 1013) dL_law_1013 ?_
    refine V.if_eq (pc := 1014) 1019 dL_law_1014 (by decide) (fun _ => ?_) (fun h => absurd (lcmp_eq _) h)
    refine V.goto (pc := 1019) 1681 dL_law_1019 (by decide) ?_
    refine V.sub [0, 1, 2, 3, 4] rfl ?_
    exact nx _ _ _ _ (Nat.le_refl _) hF1 hK2 hR2
theorem mu_3_229 : Cond.methodLink RL 148 yL_step ∈ TT := tt_in (tb_3 (List.mem_of_getElem? (i := 229) (by decide +kernel))) (by decide +kernel)
theorem mu_3_230 : Cond.static yL_step ∈ TT := tt_in (tb_3 (List.mem_of_getElem? (i := 230) (by decide +kernel))) (by decide +kernel)
theorem mu_3_231 : Cond.codeWith yL_step cL_step 5 (some .int) hh_step ∈ TT := tt_in (tb_3 (List.mem_of_getElem? (i := 231) (by decide +kernel))) (by decide +kernel)
theorem mu_5_228 : Cond.methodLink RL 150 yX9_step ∈ TT := tt_in (tb_5 (List.mem_of_getElem? (i := 228) (by decide +kernel))) (by decide +kernel)
theorem mu_5_229 : Cond.instanceMethod yX9_step ∈ TT := tt_in (tb_5 (List.mem_of_getElem? (i := 229) (by decide +kernel))) (by decide +kernel)
theorem mu_5_230 : Cond.selects RX9 yX9_step yX9_step ∈ TT := tt_in (tb_5 (List.mem_of_getElem? (i := 230) (by decide +kernel))) (by decide +kernel)
theorem mu_5_231 : Cond.code yX9_step cX9_step 3 (some .int) ∈ TT := tt_in (tb_5 (List.mem_of_getElem? (i := 231) (by decide +kernel))) (by decide +kernel)
set_option maxHeartbeats 1000000 in
theorem lc_step {G : Gx} {X : Cx} {b L k i : Nat} {y : Nat → Nat} {μ : Mu} {a : AS} (hF : FinW G X b L y k) (hk : k < 512) (hL : L ≤ 3072) (hi : i + 6 ≤ L) (hy : ∀ j, y j < 2 ^ 32) (hKl : Kl μ a) (hRf : Rf μ a) (nx : Nx G b L i k y) : V G RL cL_law 8 100 X 1022 (lv0 G b i) [] μ := by
  obtain ⟨K, hKe⟩ := gr_ex a.S (decide ((y (i + 1)) ≠ 0))
  obtain ⟨q, hq⟩ : ∃ q : Res, q = sp_step a (y (i + 1)) (y (i + 2)) K := ⟨_, rfl⟩
  have hC : RunsX 9 4 M_X8_step [.ref (G.2.2 80), .int (nI (y (i + 1))), .int (nI (y (i + 2)))] G μ (CF μ q) (CT nIA nNS μ q) := by rw [hq]; exact ok_X8_step a hKl (y (i + 1)) (y (i + 2)) (hy _) (hy _) K hKe
  have hM : ∀ μ1 : Mu, Rf μ1 a → Runs 9 M_X9_step [.ref (G.2.2 96), .int (nI (y (i + 1))), .int (nI (y (i + 2)))] G μ1 (RP μ1 q) := fun μ1 h => by rw [hq]; exact ok_X9_step a h (y (i + 1)) (y (i + 2)) (hy _) (hy _) K hKe
  clear hq
  refine V.aload_n (pc := 1022) 1 dL_law_1022 rfl ?_
  refine V.aload_n (pc := 1023) 0 dL_law_1023 rfl ?_
  refine V.iload (pc := 1024) 4 dL_law_1024 rfl ?_
  refine V.iconst (pc := 1026) (v := nI 1) dL_law_1026 (by decide) ?_
  refine V.iadd (pc := 1027) dL_law_1027 (nI_add _ _) ?_
  refine V.sld (pc := 1028) hF (i + 1) (by omega) hL dL_law_1028 ?_
  refine V.aload_n (pc := 1029) 0 dL_law_1029 rfl ?_
  refine V.iload (pc := 1030) 4 dL_law_1030 rfl ?_
  refine V.iconst (pc := 1032) (v := nI 2) dL_law_1032 (by decide) ?_
  refine V.iadd (pc := 1033) dL_law_1033 (nI_add _ _) ?_
  refine V.sld (pc := 1034) hF (i + 2) (by omega) hL dL_law_1034 ?_
  refine V.aload_n (pc := 1035) 3 dL_law_1035 rfl ?_
  refine V.callL (pc := 1036) (n := 4) (As := [.ref (G.2.2 80), .int (nI (y (i + 1))), .int (nI (y (i + 2))), .ref (G.2.2 95)]) (rest := []) hF hk (ok_L_step (Nat.le_of_ble_eq_true rfl) hC) (Nat.le_of_ble_eq_true rfl) (Nat.le_of_ble_eq_true rfl) mu_3_229 mu_3_230 mu_1_0 mu_3_231 ⟨by decide, by decide, by decide +kernel⟩ rfl rfl (Nat.le_of_ble_eq_true rfl) dL_law_1036 (fun X1 hF1 r1 μ1 h1 => ?_)
  obtain ⟨rfl, hK1, hO1, hf1, hq1⟩ := h1
  have hR1 := hRf.out hf1 (fun _ q => q)
  refine V.istore (pc := 1039) (lv' := [(0, .ref b), (1, .ref (G.2.2 80)), (2, .ref (G.2.2 96)), (3, .ref (G.2.2 95)), (4, .int (nI i)), (5, .int (nI q.1))]) dL_law_1039 (Nat.le_of_ble_eq_true rfl) rfl ?_
  refine V.aload_n (pc := 1041) 2 dL_law_1041 rfl ?_
  refine V.aload_n (pc := 1042) 0 dL_law_1042 rfl ?_
  refine V.iload (pc := 1043) 4 dL_law_1043 rfl ?_
  refine V.iconst (pc := 1045) (v := nI 1) dL_law_1045 (by decide) ?_
  refine V.iadd (pc := 1046) dL_law_1046 (nI_add _ _) ?_
  refine V.sld (pc := 1047) hF1 (i + 1) (by omega) hL dL_law_1047 ?_
  refine V.aload_n (pc := 1048) 0 dL_law_1048 rfl ?_
  refine V.iload (pc := 1049) 4 dL_law_1049 rfl ?_
  refine V.iconst (pc := 1051) (v := nI 2) dL_law_1051 (by decide) ?_
  refine V.iadd (pc := 1052) dL_law_1052 (nI_add _ _) ?_
  refine V.sld (pc := 1053) hF1 (i + 2) (by omega) hL dL_law_1053 ?_
  refine V.callV (pc := 1054) (k := 96) (ci := 9) (T := TX9) (N := 27) (n := 2) (As := [.int (nI (y (i + 1))), .int (nI (y (i + 2)))]) (rest := []) (hM μ1 hR1) (Nat.le_of_ble_eq_true rfl) (Nat.le_of_ble_eq_true rfl) (Nat.le_of_ble_eq_true rfl) (fun _ _ => rfl) rfl mu_5_228 mu_5_229 mu_5_230 mu_1_10 mu_5_231 ⟨by decide, by decide, by decide +kernel⟩ rfl rfl (Nat.le_of_ble_eq_true rfl) dL_law_1054 (fun r2 μ2 h2 => ?_)
  obtain ⟨hR2, ht2, ⟨v2, rfl, hv2⟩, hf2⟩ := h2
  have hK2 := hK1.out hf2
  refine V.istore (pc := 1057) (lv' := [(0, .ref b), (1, .ref (G.2.2 80)), (2, .ref (G.2.2 96)), (3, .ref (G.2.2 95)), (4, .int (nI i)), (5, .int (nI q.1)), (6, .int v2)]) dL_law_1057 (Nat.le_of_ble_eq_true rfl) rfl ?_
  refine V.aload_n (pc := 1059) 2 dL_law_1059 rfl ?_
  refine V.callV (pc := 1060) (k := 96) (ci := 9) (T := TX9) (N := 27) (n := 0) (As := []) (rest := []) (ok_X9_thrown q.1 ht2) (Nat.le_of_ble_eq_true rfl) (Nat.le_of_ble_eq_true rfl) (Nat.le_of_ble_eq_true rfl) (fun _ _ => rfl) rfl mu_5_18 mu_5_19 mu_5_20 mu_1_10 mu_5_21 ⟨by decide, by decide, by decide +kernel⟩ rfl rfl (Nat.le_of_ble_eq_true rfl) dL_law_1060 (fun r3 μ3 h3 => ?_)
  obtain ⟨rfl, rfl⟩ := h3
  refine V.iload (pc := 1063) 5 dL_law_1063 rfl ?_
  refine V.icmp_eq (pc := 1065) 1070 dL_law_1065 (by decide) (fun _ => ?_) (fun h => absurd rfl h)
  refine V.iload (pc := 1070) 5 dL_law_1070 rfl ?_
  refine V.if_ne (pc := 1072) 1087 dL_law_1072 (by decide) (fun h0 => ?_) (fun h0 => ?_)
  · refine V.goto (pc := 1087) 1681 dL_law_1087 (by decide) ?_
    refine V.sub [0, 1, 2, 3, 4] rfl ?_
    exact nx _ _ _ _ (Nat.le_refl _) hF1 hK2 hR2
  · have hz : q.1 = 0 := (nI_nz (by omega)).mp h0
    refine V.aload_n (pc := 1075) 3 dL_law_1075 rfl ?_
    refine V.iconst (pc := 1076) (v := nI 0) dL_law_1076 (by decide) ?_
    refine V.lald (pc := 1077) (k := 95) (n := 1) (v := q.2.1.toInt64) (Nat.le_of_ble_eq_true rfl) (fun _ _ => rfl) 0 (Nat.le_of_ble_eq_true rfl) (Nat.le_of_ble_eq_true rfl) dL_law_1077 ((congrFun (hf2 95 (fun z : 96 ≤ 95 => absurd z (by decide))).2 0).trans (hO1 hz)) ?_
    refine V.iload (pc := 1078) 6 dL_law_1078 rfl ?_
    refine V.i2l (pc := 1080) (v := q.2.1.toInt64) dL_law_1080 (by rw [hv2 hz]) ?_
    refine V.lcmp (pc := 1081) dL_law_1081 ?_
    refine V.if_eq (pc := 1082) 1087 dL_law_1082 (by decide) (fun _ => ?_) (fun h => absurd (lcmp_eq _) h)
    refine V.goto (pc := 1087) 1681 dL_law_1087 (by decide) ?_
    refine V.sub [0, 1, 2, 3, 4] rfl ?_
    exact nx _ _ _ _ (Nat.le_refl _) hF1 hK2 hR2
theorem mu_3_236 : Cond.methodLink RL 151 yL_lazy ∈ TT := tt_in (tb_3 (List.mem_of_getElem? (i := 236) (by decide +kernel))) (by decide +kernel)
theorem mu_3_237 : Cond.static yL_lazy ∈ TT := tt_in (tb_3 (List.mem_of_getElem? (i := 237) (by decide +kernel))) (by decide +kernel)
theorem mu_3_238 : Cond.codeWith yL_lazy cL_lazy 4 (some .int) hh_lazy ∈ TT := tt_in (tb_3 (List.mem_of_getElem? (i := 238) (by decide +kernel))) (by decide +kernel)
theorem mu_5_232 : Cond.methodLink RL 153 yX9_lazy ∈ TT := tt_in (tb_5 (List.mem_of_getElem? (i := 232) (by decide +kernel))) (by decide +kernel)
theorem mu_5_233 : Cond.instanceMethod yX9_lazy ∈ TT := tt_in (tb_5 (List.mem_of_getElem? (i := 233) (by decide +kernel))) (by decide +kernel)
theorem mu_5_234 : Cond.selects RX9 yX9_lazy yX9_lazy ∈ TT := tt_in (tb_5 (List.mem_of_getElem? (i := 234) (by decide +kernel))) (by decide +kernel)
theorem mu_5_235 : Cond.code yX9_lazy cX9_lazy 2 (some .int) ∈ TT := tt_in (tb_5 (List.mem_of_getElem? (i := 235) (by decide +kernel))) (by decide +kernel)
set_option maxHeartbeats 1000000 in
theorem lc_lazy {G : Gx} {X : Cx} {b L k i : Nat} {y : Nat → Nat} {μ : Mu} {a : AS} (hF : FinW G X b L y k) (hk : k < 512) (hL : L ≤ 3072) (hi : i + 6 ≤ L) (hy : ∀ j, y j < 2 ^ 32) (hKl : Kl μ a) (hRf : Rf μ a) (nx : Nx G b L i k y) : V G RL cL_law 8 100 X 1090 (lv0 G b i) [] μ := by
  obtain ⟨K, hKe⟩ := gr_ex a.S true
  obtain ⟨Q, hQ⟩ := q_ex hKl.vs
  obtain ⟨q, hq⟩ : ∃ q : Res, q = sp_lazy a (y (i + 1)) K Q := ⟨_, rfl⟩
  have hC : RunsX 9 4 M_X8_lazy [.ref (G.2.2 80), .int (nI (y (i + 1)))] G μ (CF μ q) (CT nIA nIA μ q) := by rw [hq]; exact ok_X8_lazy a hKl (y (i + 1)) (hy _) K hKe Q hQ
  have hM : ∀ μ1 : Mu, Rf μ1 a → Runs 9 M_X9_lazy [.ref (G.2.2 96), .int (nI (y (i + 1)))] G μ1 (RP μ1 q) := fun μ1 h => by rw [hq]; exact ok_X9_lazy a h (y (i + 1)) (hy _) K hKe Q hQ
  have hq2 : q.1 ≠ 2 := by rw [hq]; exact n2_lazy a (y (i + 1)) K Q
  clear hq
  refine V.aload_n (pc := 1090) 1 dL_law_1090 rfl ?_
  refine V.aload_n (pc := 1091) 0 dL_law_1091 rfl ?_
  refine V.iload (pc := 1092) 4 dL_law_1092 rfl ?_
  refine V.iconst (pc := 1094) (v := nI 1) dL_law_1094 (by decide) ?_
  refine V.iadd (pc := 1095) dL_law_1095 (nI_add _ _) ?_
  refine V.sld (pc := 1096) hF (i + 1) (by omega) hL dL_law_1096 ?_
  refine V.aload_n (pc := 1097) 3 dL_law_1097 rfl ?_
  refine V.callL (pc := 1098) (n := 3) (As := [.ref (G.2.2 80), .int (nI (y (i + 1))), .ref (G.2.2 95)]) (rest := []) hF hk (ok_L_lazy (Nat.le_of_ble_eq_true rfl) hq2 hC) (Nat.le_of_ble_eq_true rfl) (Nat.le_of_ble_eq_true rfl) mu_3_236 mu_3_237 mu_1_0 mu_3_238 ⟨by decide, by decide, by decide +kernel⟩ rfl rfl (Nat.le_of_ble_eq_true rfl) dL_law_1098 (fun X1 hF1 r1 μ1 h1 => ?_)
  obtain ⟨rfl, hK1, hO1, hf1, hq1⟩ := h1
  have hR1 := hRf.out hf1 (fun _ q => q)
  refine V.istore (pc := 1101) (lv' := [(0, .ref b), (1, .ref (G.2.2 80)), (2, .ref (G.2.2 96)), (3, .ref (G.2.2 95)), (4, .int (nI i)), (5, .int (nI q.1))]) dL_law_1101 (Nat.le_of_ble_eq_true rfl) rfl ?_
  refine V.aload_n (pc := 1103) 2 dL_law_1103 rfl ?_
  refine V.aload_n (pc := 1104) 0 dL_law_1104 rfl ?_
  refine V.iload (pc := 1105) 4 dL_law_1105 rfl ?_
  refine V.iconst (pc := 1107) (v := nI 1) dL_law_1107 (by decide) ?_
  refine V.iadd (pc := 1108) dL_law_1108 (nI_add _ _) ?_
  refine V.sld (pc := 1109) hF1 (i + 1) (by omega) hL dL_law_1109 ?_
  refine V.callV (pc := 1110) (k := 96) (ci := 9) (T := TX9) (N := 27) (n := 1) (As := [.int (nI (y (i + 1)))]) (rest := []) (hM μ1 hR1) (Nat.le_of_ble_eq_true rfl) (Nat.le_of_ble_eq_true rfl) (Nat.le_of_ble_eq_true rfl) (fun _ _ => rfl) rfl mu_5_232 mu_5_233 mu_5_234 mu_1_10 mu_5_235 ⟨by decide, by decide, by decide +kernel⟩ rfl rfl (Nat.le_of_ble_eq_true rfl) dL_law_1110 (fun r2 μ2 h2 => ?_)
  obtain ⟨hR2, ht2, ⟨v2, rfl, hv2⟩, hf2⟩ := h2
  have hK2 := hK1.out hf2
  refine V.istore (pc := 1113) (lv' := [(0, .ref b), (1, .ref (G.2.2 80)), (2, .ref (G.2.2 96)), (3, .ref (G.2.2 95)), (4, .int (nI i)), (5, .int (nI q.1)), (6, .int v2)]) dL_law_1113 (Nat.le_of_ble_eq_true rfl) rfl ?_
  refine V.aload_n (pc := 1115) 2 dL_law_1115 rfl ?_
  refine V.callV (pc := 1116) (k := 96) (ci := 9) (T := TX9) (N := 27) (n := 0) (As := []) (rest := []) (ok_X9_thrown q.1 ht2) (Nat.le_of_ble_eq_true rfl) (Nat.le_of_ble_eq_true rfl) (Nat.le_of_ble_eq_true rfl) (fun _ _ => rfl) rfl mu_5_18 mu_5_19 mu_5_20 mu_1_10 mu_5_21 ⟨by decide, by decide, by decide +kernel⟩ rfl rfl (Nat.le_of_ble_eq_true rfl) dL_law_1116 (fun r3 μ3 h3 => ?_)
  obtain ⟨rfl, rfl⟩ := h3
  refine V.iload (pc := 1119) 5 dL_law_1119 rfl ?_
  refine V.icmp_eq (pc := 1121) 1126 dL_law_1121 (by decide) (fun _ => ?_) (fun h => absurd rfl h)
  refine V.iload (pc := 1126) 5 dL_law_1126 rfl ?_
  refine V.if_ne (pc := 1128) 1143 dL_law_1128 (by decide) (fun h0 => ?_) (fun h0 => ?_)
  · refine V.goto (pc := 1143) 1681 dL_law_1143 (by decide) ?_
    refine V.sub [0, 1, 2, 3, 4] rfl ?_
    exact nx _ _ _ _ (Nat.le_refl _) hF1 hK2 hR2
  · have hz : q.1 = 0 := (nI_nz (by omega)).mp h0
    refine V.aload_n (pc := 1131) 3 dL_law_1131 rfl ?_
    refine V.iconst (pc := 1132) (v := nI 0) dL_law_1132 (by decide) ?_
    refine V.lald (pc := 1133) (k := 95) (n := 1) (v := q.2.1.toInt64) (Nat.le_of_ble_eq_true rfl) (fun _ _ => rfl) 0 (Nat.le_of_ble_eq_true rfl) (Nat.le_of_ble_eq_true rfl) dL_law_1133 ((congrFun (hf2 95 (fun z : 96 ≤ 95 => absurd z (by decide))).2 0).trans (hO1 hz)) ?_
    refine V.iload (pc := 1134) 6 dL_law_1134 rfl ?_
    refine V.i2l (pc := 1136) (v := q.2.1.toInt64) dL_law_1136 (by rw [hv2 hz]) ?_
    refine V.lcmp (pc := 1137) dL_law_1137 ?_
    refine V.if_eq (pc := 1138) 1143 dL_law_1138 (by decide) (fun _ => ?_) (fun h => absurd (lcmp_eq _) h)
    refine V.goto (pc := 1143) 1681 dL_law_1143 (by decide) ?_
    refine V.sub [0, 1, 2, 3, 4] rfl ?_
    exact nx _ _ _ _ (Nat.le_refl _) hF1 hK2 hR2
theorem mu_4_24 : Cond.methodLink RL 154 yL_bound ∈ TT := tt_in (tb_4 (List.mem_of_getElem? (i := 24) (by decide +kernel))) (by decide +kernel)
theorem mu_4_25 : Cond.static yL_bound ∈ TT := tt_in (tb_4 (List.mem_of_getElem? (i := 25) (by decide +kernel))) (by decide +kernel)
theorem mu_4_26 : Cond.codeWith yL_bound cL_bound 4 (some .int) hh_bound ∈ TT := tt_in (tb_4 (List.mem_of_getElem? (i := 26) (by decide +kernel))) (by decide +kernel)
theorem mu_6_8 : Cond.methodLink RL 156 yX9_bound ∈ TT := tt_in (tb_6 (List.mem_of_getElem? (i := 8) (by decide +kernel))) (by decide +kernel)
theorem mu_6_9 : Cond.instanceMethod yX9_bound ∈ TT := tt_in (tb_6 (List.mem_of_getElem? (i := 9) (by decide +kernel))) (by decide +kernel)
theorem mu_6_10 : Cond.selects RX9 yX9_bound yX9_bound ∈ TT := tt_in (tb_6 (List.mem_of_getElem? (i := 10) (by decide +kernel))) (by decide +kernel)
theorem mu_6_11 : Cond.code yX9_bound cX9_bound 7 (some .int) ∈ TT := tt_in (tb_6 (List.mem_of_getElem? (i := 11) (by decide +kernel))) (by decide +kernel)
set_option maxHeartbeats 1000000 in
theorem lc_bound {G : Gx} {X : Cx} {b L k i : Nat} {y : Nat → Nat} {μ : Mu} {a : AS} (hF : FinW G X b L y k) (hk : k < 512) (hL : L ≤ 3072) (hi : i + 6 ≤ L) (hy : ∀ j, y j < 2 ^ 32) (hKl : Kl μ a) (hRf : Rf μ a) (nx : Nx G b L i k y) : V G RL cL_law 8 100 X 1146 (lv0 G b i) [] μ := by
  obtain ⟨K, hKe⟩ := gr_ex a.S true
  obtain ⟨q, hq⟩ : ∃ q : Res, q = sp_bound a (y (i + 1)) K := ⟨_, rfl⟩
  have hC : RunsX 9 4 M_X8_bound [.ref (G.2.2 80), .int (nI (y (i + 1)))] G μ (CF μ q) (CT nIA nIA μ q) := by rw [hq]; exact ok_X8_bound a hKl (y (i + 1)) (hy _) K hKe
  have hM : ∀ μ1 : Mu, Rf μ1 a → Runs 9 M_X9_bound [.ref (G.2.2 96), .int (nI (y (i + 1)))] G μ1 (RP μ1 q) := fun μ1 h => by rw [hq]; exact ok_X9_bound a h (y (i + 1)) (hy _) K hKe
  have hq2 : q.1 ≠ 2 := by rw [hq]; exact n2_bound a (y (i + 1)) K
  clear hq
  refine V.aload_n (pc := 1146) 1 dL_law_1146 rfl ?_
  refine V.aload_n (pc := 1147) 0 dL_law_1147 rfl ?_
  refine V.iload (pc := 1148) 4 dL_law_1148 rfl ?_
  refine V.iconst (pc := 1150) (v := nI 1) dL_law_1150 (by decide) ?_
  refine V.iadd (pc := 1151) dL_law_1151 (nI_add _ _) ?_
  refine V.sld (pc := 1152) hF (i + 1) (by omega) hL dL_law_1152 ?_
  refine V.aload_n (pc := 1153) 3 dL_law_1153 rfl ?_
  refine V.callL (pc := 1154) (n := 3) (As := [.ref (G.2.2 80), .int (nI (y (i + 1))), .ref (G.2.2 95)]) (rest := []) hF hk (ok_L_bound (Nat.le_of_ble_eq_true rfl) hq2 hC) (Nat.le_of_ble_eq_true rfl) (Nat.le_of_ble_eq_true rfl) mu_4_24 mu_4_25 mu_1_0 mu_4_26 ⟨by decide, by decide, by decide +kernel⟩ rfl rfl (Nat.le_of_ble_eq_true rfl) dL_law_1154 (fun X1 hF1 r1 μ1 h1 => ?_)
  obtain ⟨rfl, hK1, hO1, hf1, hq1⟩ := h1
  have hR1 := hRf.out hf1 (fun _ q => q)
  refine V.istore (pc := 1157) (lv' := [(0, .ref b), (1, .ref (G.2.2 80)), (2, .ref (G.2.2 96)), (3, .ref (G.2.2 95)), (4, .int (nI i)), (5, .int (nI q.1))]) dL_law_1157 (Nat.le_of_ble_eq_true rfl) rfl ?_
  refine V.aload_n (pc := 1159) 2 dL_law_1159 rfl ?_
  refine V.aload_n (pc := 1160) 0 dL_law_1160 rfl ?_
  refine V.iload (pc := 1161) 4 dL_law_1161 rfl ?_
  refine V.iconst (pc := 1163) (v := nI 1) dL_law_1163 (by decide) ?_
  refine V.iadd (pc := 1164) dL_law_1164 (nI_add _ _) ?_
  refine V.sld (pc := 1165) hF1 (i + 1) (by omega) hL dL_law_1165 ?_
  refine V.callV (pc := 1166) (k := 96) (ci := 9) (T := TX9) (N := 27) (n := 1) (As := [.int (nI (y (i + 1)))]) (rest := []) (hM μ1 hR1) (Nat.le_of_ble_eq_true rfl) (Nat.le_of_ble_eq_true rfl) (Nat.le_of_ble_eq_true rfl) (fun _ _ => rfl) rfl mu_6_8 mu_6_9 mu_6_10 mu_1_10 mu_6_11 ⟨by decide, by decide, by decide +kernel⟩ rfl rfl (Nat.le_of_ble_eq_true rfl) dL_law_1166 (fun r2 μ2 h2 => ?_)
  obtain ⟨hR2, ht2, ⟨v2, rfl, hv2⟩, hf2⟩ := h2
  have hK2 := hK1.out hf2
  refine V.istore (pc := 1169) (lv' := [(0, .ref b), (1, .ref (G.2.2 80)), (2, .ref (G.2.2 96)), (3, .ref (G.2.2 95)), (4, .int (nI i)), (5, .int (nI q.1)), (6, .int v2)]) dL_law_1169 (Nat.le_of_ble_eq_true rfl) rfl ?_
  refine V.aload_n (pc := 1171) 2 dL_law_1171 rfl ?_
  refine V.callV (pc := 1172) (k := 96) (ci := 9) (T := TX9) (N := 27) (n := 0) (As := []) (rest := []) (ok_X9_thrown q.1 ht2) (Nat.le_of_ble_eq_true rfl) (Nat.le_of_ble_eq_true rfl) (Nat.le_of_ble_eq_true rfl) (fun _ _ => rfl) rfl mu_5_18 mu_5_19 mu_5_20 mu_1_10 mu_5_21 ⟨by decide, by decide, by decide +kernel⟩ rfl rfl (Nat.le_of_ble_eq_true rfl) dL_law_1172 (fun r3 μ3 h3 => ?_)
  obtain ⟨rfl, rfl⟩ := h3
  refine V.iload (pc := 1175) 5 dL_law_1175 rfl ?_
  refine V.icmp_eq (pc := 1177) 1182 dL_law_1177 (by decide) (fun _ => ?_) (fun h => absurd rfl h)
  refine V.iload (pc := 1182) 5 dL_law_1182 rfl ?_
  refine V.if_ne (pc := 1184) 1199 dL_law_1184 (by decide) (fun h0 => ?_) (fun h0 => ?_)
  · refine V.goto (pc := 1199) 1681 dL_law_1199 (by decide) ?_
    refine V.sub [0, 1, 2, 3, 4] rfl ?_
    exact nx _ _ _ _ (Nat.le_refl _) hF1 hK2 hR2
  · have hz : q.1 = 0 := (nI_nz (by omega)).mp h0
    refine V.aload_n (pc := 1187) 3 dL_law_1187 rfl ?_
    refine V.iconst (pc := 1188) (v := nI 0) dL_law_1188 (by decide) ?_
    refine V.lald (pc := 1189) (k := 95) (n := 1) (v := q.2.1.toInt64) (Nat.le_of_ble_eq_true rfl) (fun _ _ => rfl) 0 (Nat.le_of_ble_eq_true rfl) (Nat.le_of_ble_eq_true rfl) dL_law_1189 ((congrFun (hf2 95 (fun z : 96 ≤ 95 => absurd z (by decide))).2 0).trans (hO1 hz)) ?_
    refine V.iload (pc := 1190) 6 dL_law_1190 rfl ?_
    refine V.i2l (pc := 1192) (v := q.2.1.toInt64) dL_law_1192 (by rw [hv2 hz]) ?_
    refine V.lcmp (pc := 1193) dL_law_1193 ?_
    refine V.if_eq (pc := 1194) 1199 dL_law_1194 (by decide) (fun _ => ?_) (fun h => absurd (lcmp_eq _) h)
    refine V.goto (pc := 1199) 1681 dL_law_1199 (by decide) ?_
    refine V.sub [0, 1, 2, 3, 4] rfl ?_
    exact nx _ _ _ _ (Nat.le_refl _) hF1 hK2 hR2
theorem mu_4_48 : Cond.methodLink RL 157 yL_best ∈ TT := tt_in (tb_4 (List.mem_of_getElem? (i := 48) (by decide +kernel))) (by decide +kernel)
theorem mu_4_49 : Cond.static yL_best ∈ TT := tt_in (tb_4 (List.mem_of_getElem? (i := 49) (by decide +kernel))) (by decide +kernel)
theorem mu_4_50 : Cond.codeWith yL_best cL_best 5 (some .int) hh_best ∈ TT := tt_in (tb_4 (List.mem_of_getElem? (i := 50) (by decide +kernel))) (by decide +kernel)
theorem mu_6_16 : Cond.methodLink RL 159 yX9_best ∈ TT := tt_in (tb_6 (List.mem_of_getElem? (i := 16) (by decide +kernel))) (by decide +kernel)
theorem mu_6_17 : Cond.instanceMethod yX9_best ∈ TT := tt_in (tb_6 (List.mem_of_getElem? (i := 17) (by decide +kernel))) (by decide +kernel)
theorem mu_6_18 : Cond.selects RX9 yX9_best yX9_best ∈ TT := tt_in (tb_6 (List.mem_of_getElem? (i := 18) (by decide +kernel))) (by decide +kernel)
theorem mu_6_19 : Cond.code yX9_best cX9_best 4 (some .int) ∈ TT := tt_in (tb_6 (List.mem_of_getElem? (i := 19) (by decide +kernel))) (by decide +kernel)
set_option maxHeartbeats 1000000 in
theorem lc_best {G : Gx} {X : Cx} {b L k i : Nat} {y : Nat → Nat} {μ : Mu} {a : AS} (hF : FinW G X b L y k) (hk : k < 512) (hL : L ≤ 3072) (hi : i + 6 ≤ L) (hy : ∀ j, y j < 2 ^ 32) (hKl : Kl μ a) (hRf : Rf μ a) (nx : Nx G b L i k y) : V G RL cL_law 8 100 X 1202 (lv0 G b i) [] μ := by
  obtain ⟨f1, b1, hB⟩ := best_ex a.S 0 0 (y (i + 1)) 0
  obtain ⟨q, hq⟩ : ∃ q : Res, q = sp_best a (y (i + 1)) (y (i + 2)) b1 := ⟨_, rfl⟩
  have hC : RunsX 23 4 M_X8_best [.ref (G.2.2 80), .int (nI (y (i + 1))), .int (nI (y (i + 2)))] G μ (CF μ q) (CT nIA nIA μ q) := by rw [hq]; exact ok_X8_best a hKl (y (i + 1)) (y (i + 2)) (hy _) (hy _) f1 b1 hB
  have hM : ∀ μ1 : Mu, Rf μ1 a → Runs 8 M_X9_best [.ref (G.2.2 96), .int (nI (y (i + 1))), .int (nI (y (i + 2)))] G μ1 (RP μ1 q) := fun μ1 h => by rw [hq]; exact ok_X9_best a h (y (i + 1)) (y (i + 2)) (hy _) (hy _) f1 b1 hB
  have hq2 : q.1 ≠ 2 := by rw [hq]; exact n2_best a (y (i + 1)) (y (i + 2)) b1
  clear hq
  refine V.aload_n (pc := 1202) 1 dL_law_1202 rfl ?_
  refine V.aload_n (pc := 1203) 0 dL_law_1203 rfl ?_
  refine V.iload (pc := 1204) 4 dL_law_1204 rfl ?_
  refine V.iconst (pc := 1206) (v := nI 1) dL_law_1206 (by decide) ?_
  refine V.iadd (pc := 1207) dL_law_1207 (nI_add _ _) ?_
  refine V.sld (pc := 1208) hF (i + 1) (by omega) hL dL_law_1208 ?_
  refine V.aload_n (pc := 1209) 0 dL_law_1209 rfl ?_
  refine V.iload (pc := 1210) 4 dL_law_1210 rfl ?_
  refine V.iconst (pc := 1212) (v := nI 2) dL_law_1212 (by decide) ?_
  refine V.iadd (pc := 1213) dL_law_1213 (nI_add _ _) ?_
  refine V.sld (pc := 1214) hF (i + 2) (by omega) hL dL_law_1214 ?_
  refine V.aload_n (pc := 1215) 3 dL_law_1215 rfl ?_
  refine V.callL (pc := 1216) (n := 4) (As := [.ref (G.2.2 80), .int (nI (y (i + 1))), .int (nI (y (i + 2))), .ref (G.2.2 95)]) (rest := []) hF hk (ok_L_best (Nat.le_of_ble_eq_true rfl) hq2 hC) (Nat.le_of_ble_eq_true rfl) (Nat.le_of_ble_eq_true rfl) mu_4_48 mu_4_49 mu_1_0 mu_4_50 ⟨by decide, by decide, by decide +kernel⟩ rfl rfl (Nat.le_of_ble_eq_true rfl) dL_law_1216 (fun X1 hF1 r1 μ1 h1 => ?_)
  obtain ⟨rfl, hK1, hO1, hf1, hq1⟩ := h1
  have hR1 := hRf.out hf1 (fun _ q => q)
  refine V.istore (pc := 1219) (lv' := [(0, .ref b), (1, .ref (G.2.2 80)), (2, .ref (G.2.2 96)), (3, .ref (G.2.2 95)), (4, .int (nI i)), (5, .int (nI q.1))]) dL_law_1219 (Nat.le_of_ble_eq_true rfl) rfl ?_
  refine V.aload_n (pc := 1221) 2 dL_law_1221 rfl ?_
  refine V.aload_n (pc := 1222) 0 dL_law_1222 rfl ?_
  refine V.iload (pc := 1223) 4 dL_law_1223 rfl ?_
  refine V.iconst (pc := 1225) (v := nI 1) dL_law_1225 (by decide) ?_
  refine V.iadd (pc := 1226) dL_law_1226 (nI_add _ _) ?_
  refine V.sld (pc := 1227) hF1 (i + 1) (by omega) hL dL_law_1227 ?_
  refine V.aload_n (pc := 1228) 0 dL_law_1228 rfl ?_
  refine V.iload (pc := 1229) 4 dL_law_1229 rfl ?_
  refine V.iconst (pc := 1231) (v := nI 2) dL_law_1231 (by decide) ?_
  refine V.iadd (pc := 1232) dL_law_1232 (nI_add _ _) ?_
  refine V.sld (pc := 1233) hF1 (i + 2) (by omega) hL dL_law_1233 ?_
  refine V.callV (pc := 1234) (k := 96) (ci := 9) (T := TX9) (N := 27) (n := 2) (As := [.int (nI (y (i + 1))), .int (nI (y (i + 2)))]) (rest := []) (hM μ1 hR1) (Nat.le_of_ble_eq_true rfl) (Nat.le_of_ble_eq_true rfl) (Nat.le_of_ble_eq_true rfl) (fun _ _ => rfl) rfl mu_6_16 mu_6_17 mu_6_18 mu_1_10 mu_6_19 ⟨by decide, by decide, by decide +kernel⟩ rfl rfl (Nat.le_of_ble_eq_true rfl) dL_law_1234 (fun r2 μ2 h2 => ?_)
  obtain ⟨hR2, ht2, ⟨v2, rfl, hv2⟩, hf2⟩ := h2
  have hK2 := hK1.out hf2
  refine V.istore (pc := 1237) (lv' := [(0, .ref b), (1, .ref (G.2.2 80)), (2, .ref (G.2.2 96)), (3, .ref (G.2.2 95)), (4, .int (nI i)), (5, .int (nI q.1)), (6, .int v2)]) dL_law_1237 (Nat.le_of_ble_eq_true rfl) rfl ?_
  refine V.aload_n (pc := 1239) 2 dL_law_1239 rfl ?_
  refine V.callV (pc := 1240) (k := 96) (ci := 9) (T := TX9) (N := 27) (n := 0) (As := []) (rest := []) (ok_X9_thrown q.1 ht2) (Nat.le_of_ble_eq_true rfl) (Nat.le_of_ble_eq_true rfl) (Nat.le_of_ble_eq_true rfl) (fun _ _ => rfl) rfl mu_5_18 mu_5_19 mu_5_20 mu_1_10 mu_5_21 ⟨by decide, by decide, by decide +kernel⟩ rfl rfl (Nat.le_of_ble_eq_true rfl) dL_law_1240 (fun r3 μ3 h3 => ?_)
  obtain ⟨rfl, rfl⟩ := h3
  refine V.iload (pc := 1243) 5 dL_law_1243 rfl ?_
  refine V.icmp_eq (pc := 1245) 1250 dL_law_1245 (by decide) (fun _ => ?_) (fun h => absurd rfl h)
  refine V.iload (pc := 1250) 5 dL_law_1250 rfl ?_
  refine V.if_ne (pc := 1252) 1267 dL_law_1252 (by decide) (fun h0 => ?_) (fun h0 => ?_)
  · refine V.goto (pc := 1267) 1681 dL_law_1267 (by decide) ?_
    refine V.sub [0, 1, 2, 3, 4] rfl ?_
    exact nx _ _ _ _ (Nat.le_refl _) hF1 hK2 hR2
  · have hz : q.1 = 0 := (nI_nz (by omega)).mp h0
    refine V.aload_n (pc := 1255) 3 dL_law_1255 rfl ?_
    refine V.iconst (pc := 1256) (v := nI 0) dL_law_1256 (by decide) ?_
    refine V.lald (pc := 1257) (k := 95) (n := 1) (v := q.2.1.toInt64) (Nat.le_of_ble_eq_true rfl) (fun _ _ => rfl) 0 (Nat.le_of_ble_eq_true rfl) (Nat.le_of_ble_eq_true rfl) dL_law_1257 ((congrFun (hf2 95 (fun z : 96 ≤ 95 => absurd z (by decide))).2 0).trans (hO1 hz)) ?_
    refine V.iload (pc := 1258) 6 dL_law_1258 rfl ?_
    refine V.i2l (pc := 1260) (v := q.2.1.toInt64) dL_law_1260 (by rw [hv2 hz]) ?_
    refine V.lcmp (pc := 1261) dL_law_1261 ?_
    refine V.if_eq (pc := 1262) 1267 dL_law_1262 (by decide) (fun _ => ?_) (fun h => absurd (lcmp_eq _) h)
    refine V.goto (pc := 1267) 1681 dL_law_1267 (by decide) ?_
    refine V.sub [0, 1, 2, 3, 4] rfl ?_
    exact nx _ _ _ _ (Nat.le_refl _) hF1 hK2 hR2
theorem mu_4_94 : Cond.methodLink RL 160 yL_fewest ∈ TT := tt_in (tb_4 (List.mem_of_getElem? (i := 94) (by decide +kernel))) (by decide +kernel)
theorem mu_4_95 : Cond.static yL_fewest ∈ TT := tt_in (tb_4 (List.mem_of_getElem? (i := 95) (by decide +kernel))) (by decide +kernel)
theorem mu_4_96 : Cond.codeWith yL_fewest cL_fewest 4 (some .int) hh_fewest ∈ TT := tt_in (tb_4 (List.mem_of_getElem? (i := 96) (by decide +kernel))) (by decide +kernel)
theorem mu_6_28 : Cond.methodLink RL 162 yX9_fewest ∈ TT := tt_in (tb_6 (List.mem_of_getElem? (i := 28) (by decide +kernel))) (by decide +kernel)
theorem mu_6_29 : Cond.instanceMethod yX9_fewest ∈ TT := tt_in (tb_6 (List.mem_of_getElem? (i := 29) (by decide +kernel))) (by decide +kernel)
theorem mu_6_30 : Cond.selects RX9 yX9_fewest yX9_fewest ∈ TT := tt_in (tb_6 (List.mem_of_getElem? (i := 30) (by decide +kernel))) (by decide +kernel)
theorem mu_6_31 : Cond.code yX9_fewest cX9_fewest 5 (some .int) ∈ TT := tt_in (tb_6 (List.mem_of_getElem? (i := 31) (by decide +kernel))) (by decide +kernel)
set_option maxHeartbeats 1000000 in
theorem lc_fewest {G : Gx} {X : Cx} {b L k i : Nat} {y : Nat → Nat} {μ : Mu} {a : AS} (hF : FinW G X b L y k) (hk : k < 512) (hL : L ≤ 3072) (hi : i + 6 ≤ L) (hy : ∀ j, y j < 2 ^ 32) (hKl : Kl μ a) (hRf : Rf μ a) (nx : Nx G b L i k y) : V G RL cL_law 8 100 X 1270 (lv0 G b i) [] μ := by
  obtain ⟨f1, b1, hB⟩ := best_ex a.S 1 0 2147483647 (cov a.S (2 ^ a.S.n - 1))
  obtain ⟨q, hq⟩ : ∃ q : Res, q = sp_fewest a (y (i + 1)) b1 := ⟨_, rfl⟩
  have hC : RunsX 23 4 M_X8_fewest [.ref (G.2.2 80), .int (nI (y (i + 1)))] G μ (CF μ q) (CT nIA nIA μ q) := by rw [hq]; exact ok_X8_fewest a hKl (y (i + 1)) (hy _) f1 b1 hB
  have hM : ∀ μ1 : Mu, Rf μ1 a → Runs 8 M_X9_fewest [.ref (G.2.2 96), .int (nI (y (i + 1)))] G μ1 (RP μ1 q) := fun μ1 h => by rw [hq]; exact ok_X9_fewest a h (y (i + 1)) (hy _) f1 b1 hB
  have hq2 : q.1 ≠ 2 := by rw [hq]; exact n2_fewest a (y (i + 1)) b1
  clear hq
  refine V.aload_n (pc := 1270) 1 dL_law_1270 rfl ?_
  refine V.aload_n (pc := 1271) 0 dL_law_1271 rfl ?_
  refine V.iload (pc := 1272) 4 dL_law_1272 rfl ?_
  refine V.iconst (pc := 1274) (v := nI 1) dL_law_1274 (by decide) ?_
  refine V.iadd (pc := 1275) dL_law_1275 (nI_add _ _) ?_
  refine V.sld (pc := 1276) hF (i + 1) (by omega) hL dL_law_1276 ?_
  refine V.aload_n (pc := 1277) 3 dL_law_1277 rfl ?_
  refine V.callL (pc := 1278) (n := 3) (As := [.ref (G.2.2 80), .int (nI (y (i + 1))), .ref (G.2.2 95)]) (rest := []) hF hk (ok_L_fewest (Nat.le_of_ble_eq_true rfl) hq2 hC) (Nat.le_of_ble_eq_true rfl) (Nat.le_of_ble_eq_true rfl) mu_4_94 mu_4_95 mu_1_0 mu_4_96 ⟨by decide, by decide, by decide +kernel⟩ rfl rfl (Nat.le_of_ble_eq_true rfl) dL_law_1278 (fun X1 hF1 r1 μ1 h1 => ?_)
  obtain ⟨rfl, hK1, hO1, hf1, hq1⟩ := h1
  have hR1 := hRf.out hf1 (fun _ q => q)
  refine V.istore (pc := 1281) (lv' := [(0, .ref b), (1, .ref (G.2.2 80)), (2, .ref (G.2.2 96)), (3, .ref (G.2.2 95)), (4, .int (nI i)), (5, .int (nI q.1))]) dL_law_1281 (Nat.le_of_ble_eq_true rfl) rfl ?_
  refine V.aload_n (pc := 1283) 2 dL_law_1283 rfl ?_
  refine V.aload_n (pc := 1284) 0 dL_law_1284 rfl ?_
  refine V.iload (pc := 1285) 4 dL_law_1285 rfl ?_
  refine V.iconst (pc := 1287) (v := nI 1) dL_law_1287 (by decide) ?_
  refine V.iadd (pc := 1288) dL_law_1288 (nI_add _ _) ?_
  refine V.sld (pc := 1289) hF1 (i + 1) (by omega) hL dL_law_1289 ?_
  refine V.callV (pc := 1290) (k := 96) (ci := 9) (T := TX9) (N := 27) (n := 1) (As := [.int (nI (y (i + 1)))]) (rest := []) (hM μ1 hR1) (Nat.le_of_ble_eq_true rfl) (Nat.le_of_ble_eq_true rfl) (Nat.le_of_ble_eq_true rfl) (fun _ _ => rfl) rfl mu_6_28 mu_6_29 mu_6_30 mu_1_10 mu_6_31 ⟨by decide, by decide, by decide +kernel⟩ rfl rfl (Nat.le_of_ble_eq_true rfl) dL_law_1290 (fun r2 μ2 h2 => ?_)
  obtain ⟨hR2, ht2, ⟨v2, rfl, hv2⟩, hf2⟩ := h2
  have hK2 := hK1.out hf2
  refine V.istore (pc := 1293) (lv' := [(0, .ref b), (1, .ref (G.2.2 80)), (2, .ref (G.2.2 96)), (3, .ref (G.2.2 95)), (4, .int (nI i)), (5, .int (nI q.1)), (6, .int v2)]) dL_law_1293 (Nat.le_of_ble_eq_true rfl) rfl ?_
  refine V.aload_n (pc := 1295) 2 dL_law_1295 rfl ?_
  refine V.callV (pc := 1296) (k := 96) (ci := 9) (T := TX9) (N := 27) (n := 0) (As := []) (rest := []) (ok_X9_thrown q.1 ht2) (Nat.le_of_ble_eq_true rfl) (Nat.le_of_ble_eq_true rfl) (Nat.le_of_ble_eq_true rfl) (fun _ _ => rfl) rfl mu_5_18 mu_5_19 mu_5_20 mu_1_10 mu_5_21 ⟨by decide, by decide, by decide +kernel⟩ rfl rfl (Nat.le_of_ble_eq_true rfl) dL_law_1296 (fun r3 μ3 h3 => ?_)
  obtain ⟨rfl, rfl⟩ := h3
  refine V.iload (pc := 1299) 5 dL_law_1299 rfl ?_
  refine V.icmp_eq (pc := 1301) 1306 dL_law_1301 (by decide) (fun _ => ?_) (fun h => absurd rfl h)
  refine V.iload (pc := 1306) 5 dL_law_1306 rfl ?_
  refine V.if_ne (pc := 1308) 1323 dL_law_1308 (by decide) (fun h0 => ?_) (fun h0 => ?_)
  · refine V.goto (pc := 1323) 1681 dL_law_1323 (by decide) ?_
    refine V.sub [0, 1, 2, 3, 4] rfl ?_
    exact nx _ _ _ _ (Nat.le_refl _) hF1 hK2 hR2
  · have hz : q.1 = 0 := (nI_nz (by omega)).mp h0
    refine V.aload_n (pc := 1311) 3 dL_law_1311 rfl ?_
    refine V.iconst (pc := 1312) (v := nI 0) dL_law_1312 (by decide) ?_
    refine V.lald (pc := 1313) (k := 95) (n := 1) (v := q.2.1.toInt64) (Nat.le_of_ble_eq_true rfl) (fun _ _ => rfl) 0 (Nat.le_of_ble_eq_true rfl) (Nat.le_of_ble_eq_true rfl) dL_law_1313 ((congrFun (hf2 95 (fun z : 96 ≤ 95 => absurd z (by decide))).2 0).trans (hO1 hz)) ?_
    refine V.iload (pc := 1314) 6 dL_law_1314 rfl ?_
    refine V.i2l (pc := 1316) (v := q.2.1.toInt64) dL_law_1316 (by rw [hv2 hz]) ?_
    refine V.lcmp (pc := 1317) dL_law_1317 ?_
    refine V.if_eq (pc := 1318) 1323 dL_law_1318 (by decide) (fun _ => ?_) (fun h => absurd (lcmp_eq _) h)
    refine V.goto (pc := 1323) 1681 dL_law_1323 (by decide) ?_
    refine V.sub [0, 1, 2, 3, 4] rfl ?_
    exact nx _ _ _ _ (Nat.le_refl _) hF1 hK2 hR2
theorem mu_4_108 : Cond.methodLink RL 163 yL_shortest ∈ TT := tt_in (tb_4 (List.mem_of_getElem? (i := 108) (by decide +kernel))) (by decide +kernel)
theorem mu_4_109 : Cond.static yL_shortest ∈ TT := tt_in (tb_4 (List.mem_of_getElem? (i := 109) (by decide +kernel))) (by decide +kernel)
theorem mu_4_110 : Cond.codeWith yL_shortest cL_shortest 5 (some .int) hh_shortest ∈ TT := tt_in (tb_4 (List.mem_of_getElem? (i := 110) (by decide +kernel))) (by decide +kernel)
theorem mu_6_32 : Cond.methodLink RL 165 yX9_shortest ∈ TT := tt_in (tb_6 (List.mem_of_getElem? (i := 32) (by decide +kernel))) (by decide +kernel)
theorem mu_6_33 : Cond.instanceMethod yX9_shortest ∈ TT := tt_in (tb_6 (List.mem_of_getElem? (i := 33) (by decide +kernel))) (by decide +kernel)
theorem mu_6_34 : Cond.selects RX9 yX9_shortest yX9_shortest ∈ TT := tt_in (tb_6 (List.mem_of_getElem? (i := 34) (by decide +kernel))) (by decide +kernel)
theorem mu_6_35 : Cond.code yX9_shortest cX9_shortest 7 (some .int) ∈ TT := tt_in (tb_6 (List.mem_of_getElem? (i := 35) (by decide +kernel))) (by decide +kernel)
set_option maxHeartbeats 1000000 in
theorem lc_shortest {G : Gx} {X : Cx} {b L k i : Nat} {y : Nat → Nat} {μ : Mu} {a : AS} (hF : FinW G X b L y k) (hk : k < 512) (hL : L ≤ 3072) (hi : i + 6 ≤ L) (hy : ∀ j, y j < 2 ^ 32) (hKl : Kl μ a) (hRf : Rf μ a) (nx : Nx G b L i k y) : V G RL cL_law 8 100 X 1326 (lv0 G b i) [] μ := by
  obtain ⟨f1, b1, hB⟩ := best_ex a.S 2 0 2147483647 (shC a.S (y (i + 1)))
  obtain ⟨q, hq⟩ : ∃ q : Res, q = sp_shortest a (y (i + 1)) (y (i + 2)) b1 := ⟨_, rfl⟩
  have hC : RunsX 23 4 M_X8_shortest [.ref (G.2.2 80), .int (nI (y (i + 1))), .int (nI (y (i + 2)))] G μ (CF μ q) (CT nIA nIA μ q) := by rw [hq]; exact ok_X8_shortest a hKl (y (i + 1)) (y (i + 2)) (hy _) (hy _) f1 b1 hB
  have hM : ∀ μ1 : Mu, Rf μ1 a → Runs 8 M_X9_shortest [.ref (G.2.2 96), .int (nI (y (i + 1))), .int (nI (y (i + 2)))] G μ1 (RP μ1 q) := fun μ1 h => by rw [hq]; exact ok_X9_shortest a h (y (i + 1)) (y (i + 2)) (hy _) (hy _) f1 b1 hB
  have hq2 : q.1 ≠ 2 := by rw [hq]; exact n2_shortest a (y (i + 1)) (y (i + 2)) b1
  clear hq
  refine V.aload_n (pc := 1326) 1 dL_law_1326 rfl ?_
  refine V.aload_n (pc := 1327) 0 dL_law_1327 rfl ?_
  refine V.iload (pc := 1328) 4 dL_law_1328 rfl ?_
  refine V.iconst (pc := 1330) (v := nI 1) dL_law_1330 (by decide) ?_
  refine V.iadd (pc := 1331) dL_law_1331 (nI_add _ _) ?_
  refine V.sld (pc := 1332) hF (i + 1) (by omega) hL dL_law_1332 ?_
  refine V.aload_n (pc := 1333) 0 dL_law_1333 rfl ?_
  refine V.iload (pc := 1334) 4 dL_law_1334 rfl ?_
  refine V.iconst (pc := 1336) (v := nI 2) dL_law_1336 (by decide) ?_
  refine V.iadd (pc := 1337) dL_law_1337 (nI_add _ _) ?_
  refine V.sld (pc := 1338) hF (i + 2) (by omega) hL dL_law_1338 ?_
  refine V.aload_n (pc := 1339) 3 dL_law_1339 rfl ?_
  refine V.callL (pc := 1340) (n := 4) (As := [.ref (G.2.2 80), .int (nI (y (i + 1))), .int (nI (y (i + 2))), .ref (G.2.2 95)]) (rest := []) hF hk (ok_L_shortest (Nat.le_of_ble_eq_true rfl) hq2 hC) (Nat.le_of_ble_eq_true rfl) (Nat.le_of_ble_eq_true rfl) mu_4_108 mu_4_109 mu_1_0 mu_4_110 ⟨by decide, by decide, by decide +kernel⟩ rfl rfl (Nat.le_of_ble_eq_true rfl) dL_law_1340 (fun X1 hF1 r1 μ1 h1 => ?_)
  obtain ⟨rfl, hK1, hO1, hf1, hq1⟩ := h1
  have hR1 := hRf.out hf1 (fun _ q => q)
  refine V.istore (pc := 1343) (lv' := [(0, .ref b), (1, .ref (G.2.2 80)), (2, .ref (G.2.2 96)), (3, .ref (G.2.2 95)), (4, .int (nI i)), (5, .int (nI q.1))]) dL_law_1343 (Nat.le_of_ble_eq_true rfl) rfl ?_
  refine V.aload_n (pc := 1345) 2 dL_law_1345 rfl ?_
  refine V.aload_n (pc := 1346) 0 dL_law_1346 rfl ?_
  refine V.iload (pc := 1347) 4 dL_law_1347 rfl ?_
  refine V.iconst (pc := 1349) (v := nI 1) dL_law_1349 (by decide) ?_
  refine V.iadd (pc := 1350) dL_law_1350 (nI_add _ _) ?_
  refine V.sld (pc := 1351) hF1 (i + 1) (by omega) hL dL_law_1351 ?_
  refine V.aload_n (pc := 1352) 0 dL_law_1352 rfl ?_
  refine V.iload (pc := 1353) 4 dL_law_1353 rfl ?_
  refine V.iconst (pc := 1355) (v := nI 2) dL_law_1355 (by decide) ?_
  refine V.iadd (pc := 1356) dL_law_1356 (nI_add _ _) ?_
  refine V.sld (pc := 1357) hF1 (i + 2) (by omega) hL dL_law_1357 ?_
  refine V.callV (pc := 1358) (k := 96) (ci := 9) (T := TX9) (N := 27) (n := 2) (As := [.int (nI (y (i + 1))), .int (nI (y (i + 2)))]) (rest := []) (hM μ1 hR1) (Nat.le_of_ble_eq_true rfl) (Nat.le_of_ble_eq_true rfl) (Nat.le_of_ble_eq_true rfl) (fun _ _ => rfl) rfl mu_6_32 mu_6_33 mu_6_34 mu_1_10 mu_6_35 ⟨by decide, by decide, by decide +kernel⟩ rfl rfl (Nat.le_of_ble_eq_true rfl) dL_law_1358 (fun r2 μ2 h2 => ?_)
  obtain ⟨hR2, ht2, ⟨v2, rfl, hv2⟩, hf2⟩ := h2
  have hK2 := hK1.out hf2
  refine V.istore (pc := 1361) (lv' := [(0, .ref b), (1, .ref (G.2.2 80)), (2, .ref (G.2.2 96)), (3, .ref (G.2.2 95)), (4, .int (nI i)), (5, .int (nI q.1)), (6, .int v2)]) dL_law_1361 (Nat.le_of_ble_eq_true rfl) rfl ?_
  refine V.aload_n (pc := 1363) 2 dL_law_1363 rfl ?_
  refine V.callV (pc := 1364) (k := 96) (ci := 9) (T := TX9) (N := 27) (n := 0) (As := []) (rest := []) (ok_X9_thrown q.1 ht2) (Nat.le_of_ble_eq_true rfl) (Nat.le_of_ble_eq_true rfl) (Nat.le_of_ble_eq_true rfl) (fun _ _ => rfl) rfl mu_5_18 mu_5_19 mu_5_20 mu_1_10 mu_5_21 ⟨by decide, by decide, by decide +kernel⟩ rfl rfl (Nat.le_of_ble_eq_true rfl) dL_law_1364 (fun r3 μ3 h3 => ?_)
  obtain ⟨rfl, rfl⟩ := h3
  refine V.iload (pc := 1367) 5 dL_law_1367 rfl ?_
  refine V.icmp_eq (pc := 1369) 1374 dL_law_1369 (by decide) (fun _ => ?_) (fun h => absurd rfl h)
  refine V.iload (pc := 1374) 5 dL_law_1374 rfl ?_
  refine V.if_ne (pc := 1376) 1391 dL_law_1376 (by decide) (fun h0 => ?_) (fun h0 => ?_)
  · refine V.goto (pc := 1391) 1681 dL_law_1391 (by decide) ?_
    refine V.sub [0, 1, 2, 3, 4] rfl ?_
    exact nx _ _ _ _ (Nat.le_refl _) hF1 hK2 hR2
  · have hz : q.1 = 0 := (nI_nz (by omega)).mp h0
    refine V.aload_n (pc := 1379) 3 dL_law_1379 rfl ?_
    refine V.iconst (pc := 1380) (v := nI 0) dL_law_1380 (by decide) ?_
    refine V.lald (pc := 1381) (k := 95) (n := 1) (v := q.2.1.toInt64) (Nat.le_of_ble_eq_true rfl) (fun _ _ => rfl) 0 (Nat.le_of_ble_eq_true rfl) (Nat.le_of_ble_eq_true rfl) dL_law_1381 ((congrFun (hf2 95 (fun z : 96 ≤ 95 => absurd z (by decide))).2 0).trans (hO1 hz)) ?_
    refine V.iload (pc := 1382) 6 dL_law_1382 rfl ?_
    refine V.i2l (pc := 1384) (v := q.2.1.toInt64) dL_law_1384 (by rw [hv2 hz]) ?_
    refine V.lcmp (pc := 1385) dL_law_1385 ?_
    refine V.if_eq (pc := 1386) 1391 dL_law_1386 (by decide) (fun _ => ?_) (fun h => absurd (lcmp_eq _) h)
    refine V.goto (pc := 1391) 1681 dL_law_1391 (by decide) ?_
    refine V.sub [0, 1, 2, 3, 4] rfl ?_
    exact nx _ _ _ _ (Nat.le_refl _) hF1 hK2 hR2
theorem mu_4_119 : Cond.methodLink RL 166 yL_worth ∈ TT := tt_in (tb_4 (List.mem_of_getElem? (i := 119) (by decide +kernel))) (by decide +kernel)
theorem mu_4_120 : Cond.static yL_worth ∈ TT := tt_in (tb_4 (List.mem_of_getElem? (i := 120) (by decide +kernel))) (by decide +kernel)
theorem mu_4_121 : Cond.codeWith yL_worth cL_worth 4 (some .int) hh_worth ∈ TT := tt_in (tb_4 (List.mem_of_getElem? (i := 121) (by decide +kernel))) (by decide +kernel)
theorem mu_6_36 : Cond.methodLink RL 168 yX9_worth ∈ TT := tt_in (tb_6 (List.mem_of_getElem? (i := 36) (by decide +kernel))) (by decide +kernel)
theorem mu_6_37 : Cond.instanceMethod yX9_worth ∈ TT := tt_in (tb_6 (List.mem_of_getElem? (i := 37) (by decide +kernel))) (by decide +kernel)
theorem mu_6_38 : Cond.selects RX9 yX9_worth yX9_worth ∈ TT := tt_in (tb_6 (List.mem_of_getElem? (i := 38) (by decide +kernel))) (by decide +kernel)
theorem mu_6_39 : Cond.code yX9_worth cX9_worth 3 (some .int) ∈ TT := tt_in (tb_6 (List.mem_of_getElem? (i := 39) (by decide +kernel))) (by decide +kernel)
set_option maxHeartbeats 1000000 in
theorem lc_worth {G : Gx} {X : Cx} {b L k i : Nat} {y : Nat → Nat} {μ : Mu} {a : AS} (hF : FinW G X b L y k) (hk : k < 512) (hL : L ≤ 3072) (hi : i + 6 ≤ L) (hy : ∀ j, y j < 2 ^ 32) (hKl : Kl μ a) (hRf : Rf μ a) (nx : Nx G b L i k y) : V G RL cL_law 8 100 X 1394 (lv0 G b i) [] μ := by
  obtain ⟨f1, b1, hB⟩ := best_ex a.S 0 0 a.S.B 0
  obtain ⟨f2, b2, hB2⟩ := best_ex a.S 0 ((y (i + 1)) + 1) a.S.B 0
  obtain ⟨q, hq⟩ : ∃ q : Res, q = sp_worth a (y (i + 1)) b1 b2 := ⟨_, rfl⟩
  have hC : RunsX 23 4 M_X8_worth [.ref (G.2.2 80), .int (nI (y (i + 1)))] G μ (CF μ q) (CT nNS nNS μ q) := by rw [hq]; exact ok_X8_worth a hKl (y (i + 1)) (hy _) f1 b1 hB f2 b2 hB2
  have hM : ∀ μ1 : Mu, Rf μ1 a → Runs 8 M_X9_worth [.ref (G.2.2 96), .int (nI (y (i + 1)))] G μ1 (RP μ1 q) := fun μ1 h => by rw [hq]; exact ok_X9_worth a h (y (i + 1)) (hy _) f1 b1 hB f2 b2 hB2
  have hq2 : q.1 ≠ 2 := by rw [hq]; exact n2_worth a (y (i + 1)) b1 b2
  clear hq
  refine V.aload_n (pc := 1394) 1 dL_law_1394 rfl ?_
  refine V.aload_n (pc := 1395) 0 dL_law_1395 rfl ?_
  refine V.iload (pc := 1396) 4 dL_law_1396 rfl ?_
  refine V.iconst (pc := 1398) (v := nI 1) dL_law_1398 (by decide) ?_
  refine V.iadd (pc := 1399) dL_law_1399 (nI_add _ _) ?_
  refine V.sld (pc := 1400) hF (i + 1) (by omega) hL dL_law_1400 ?_
  refine V.aload_n (pc := 1401) 3 dL_law_1401 rfl ?_
  refine V.callL (pc := 1402) (n := 3) (As := [.ref (G.2.2 80), .int (nI (y (i + 1))), .ref (G.2.2 95)]) (rest := []) hF hk (ok_L_worth (Nat.le_of_ble_eq_true rfl) hq2 hC) (Nat.le_of_ble_eq_true rfl) (Nat.le_of_ble_eq_true rfl) mu_4_119 mu_4_120 mu_1_0 mu_4_121 ⟨by decide, by decide, by decide +kernel⟩ rfl rfl (Nat.le_of_ble_eq_true rfl) dL_law_1402 (fun X1 hF1 r1 μ1 h1 => ?_)
  obtain ⟨rfl, hK1, hO1, hf1, hq1⟩ := h1
  have hR1 := hRf.out hf1 (fun _ q => q)
  refine V.istore (pc := 1405) (lv' := [(0, .ref b), (1, .ref (G.2.2 80)), (2, .ref (G.2.2 96)), (3, .ref (G.2.2 95)), (4, .int (nI i)), (5, .int (nI q.1))]) dL_law_1405 (Nat.le_of_ble_eq_true rfl) rfl ?_
  refine V.aload_n (pc := 1407) 2 dL_law_1407 rfl ?_
  refine V.aload_n (pc := 1408) 0 dL_law_1408 rfl ?_
  refine V.iload (pc := 1409) 4 dL_law_1409 rfl ?_
  refine V.iconst (pc := 1411) (v := nI 1) dL_law_1411 (by decide) ?_
  refine V.iadd (pc := 1412) dL_law_1412 (nI_add _ _) ?_
  refine V.sld (pc := 1413) hF1 (i + 1) (by omega) hL dL_law_1413 ?_
  refine V.callV (pc := 1414) (k := 96) (ci := 9) (T := TX9) (N := 27) (n := 1) (As := [.int (nI (y (i + 1)))]) (rest := []) (hM μ1 hR1) (Nat.le_of_ble_eq_true rfl) (Nat.le_of_ble_eq_true rfl) (Nat.le_of_ble_eq_true rfl) (fun _ _ => rfl) rfl mu_6_36 mu_6_37 mu_6_38 mu_1_10 mu_6_39 ⟨by decide, by decide, by decide +kernel⟩ rfl rfl (Nat.le_of_ble_eq_true rfl) dL_law_1414 (fun r2 μ2 h2 => ?_)
  obtain ⟨hR2, ht2, ⟨v2, rfl, hv2⟩, hf2⟩ := h2
  have hK2 := hK1.out hf2
  refine V.istore (pc := 1417) (lv' := [(0, .ref b), (1, .ref (G.2.2 80)), (2, .ref (G.2.2 96)), (3, .ref (G.2.2 95)), (4, .int (nI i)), (5, .int (nI q.1)), (6, .int v2)]) dL_law_1417 (Nat.le_of_ble_eq_true rfl) rfl ?_
  refine V.aload_n (pc := 1419) 2 dL_law_1419 rfl ?_
  refine V.callV (pc := 1420) (k := 96) (ci := 9) (T := TX9) (N := 27) (n := 0) (As := []) (rest := []) (ok_X9_thrown q.1 ht2) (Nat.le_of_ble_eq_true rfl) (Nat.le_of_ble_eq_true rfl) (Nat.le_of_ble_eq_true rfl) (fun _ _ => rfl) rfl mu_5_18 mu_5_19 mu_5_20 mu_1_10 mu_5_21 ⟨by decide, by decide, by decide +kernel⟩ rfl rfl (Nat.le_of_ble_eq_true rfl) dL_law_1420 (fun r3 μ3 h3 => ?_)
  obtain ⟨rfl, rfl⟩ := h3
  refine V.iload (pc := 1423) 5 dL_law_1423 rfl ?_
  refine V.icmp_eq (pc := 1425) 1430 dL_law_1425 (by decide) (fun _ => ?_) (fun h => absurd rfl h)
  refine V.iload (pc := 1430) 5 dL_law_1430 rfl ?_
  refine V.if_ne (pc := 1432) 1447 dL_law_1432 (by decide) (fun h0 => ?_) (fun h0 => ?_)
  · refine V.goto (pc := 1447) 1681 dL_law_1447 (by decide) ?_
    refine V.sub [0, 1, 2, 3, 4] rfl ?_
    exact nx _ _ _ _ (Nat.le_refl _) hF1 hK2 hR2
  · have hz : q.1 = 0 := (nI_nz (by omega)).mp h0
    refine V.aload_n (pc := 1435) 3 dL_law_1435 rfl ?_
    refine V.iconst (pc := 1436) (v := nI 0) dL_law_1436 (by decide) ?_
    refine V.lald (pc := 1437) (k := 95) (n := 1) (v := q.2.1.toInt64) (Nat.le_of_ble_eq_true rfl) (fun _ _ => rfl) 0 (Nat.le_of_ble_eq_true rfl) (Nat.le_of_ble_eq_true rfl) dL_law_1437 ((congrFun (hf2 95 (fun z : 96 ≤ 95 => absurd z (by decide))).2 0).trans (hO1 hz)) ?_
    refine V.iload (pc := 1438) 6 dL_law_1438 rfl ?_
    refine V.i2l (pc := 1440) (v := q.2.1.toInt64) dL_law_1440 (by rw [hv2 hz]) ?_
    refine V.lcmp (pc := 1441) dL_law_1441 ?_
    refine V.if_eq (pc := 1442) 1447 dL_law_1442 (by decide) (fun _ => ?_) (fun h => absurd (lcmp_eq _) h)
    refine V.goto (pc := 1447) 1681 dL_law_1447 (by decide) ?_
    refine V.sub [0, 1, 2, 3, 4] rfl ?_
    exact nx _ _ _ _ (Nat.le_refl _) hF1 hK2 hR2
theorem mu_4_126 : Cond.methodLink RL 169 yL_exchange ∈ TT := tt_in (tb_4 (List.mem_of_getElem? (i := 126) (by decide +kernel))) (by decide +kernel)
theorem mu_4_127 : Cond.static yL_exchange ∈ TT := tt_in (tb_4 (List.mem_of_getElem? (i := 127) (by decide +kernel))) (by decide +kernel)
theorem mu_4_128 : Cond.codeWith yL_exchange cL_exchange 4 (some .int) hh_exchange ∈ TT := tt_in (tb_4 (List.mem_of_getElem? (i := 128) (by decide +kernel))) (by decide +kernel)
theorem mu_6_40 : Cond.methodLink RL 171 yX9_exchange ∈ TT := tt_in (tb_6 (List.mem_of_getElem? (i := 40) (by decide +kernel))) (by decide +kernel)
theorem mu_6_41 : Cond.instanceMethod yX9_exchange ∈ TT := tt_in (tb_6 (List.mem_of_getElem? (i := 41) (by decide +kernel))) (by decide +kernel)
theorem mu_6_42 : Cond.selects RX9 yX9_exchange yX9_exchange ∈ TT := tt_in (tb_6 (List.mem_of_getElem? (i := 42) (by decide +kernel))) (by decide +kernel)
theorem mu_6_43 : Cond.code yX9_exchange cX9_exchange 8 (some .int) ∈ TT := tt_in (tb_6 (List.mem_of_getElem? (i := 43) (by decide +kernel))) (by decide +kernel)
set_option maxHeartbeats 1000000 in
theorem lc_exchange {G : Gx} {X : Cx} {b L k i : Nat} {y : Nat → Nat} {μ : Mu} {a : AS} (hF : FinW G X b L y k) (hk : k < 512) (hL : L ≤ 3072) (hi : i + 6 ≤ L) (hy : ∀ j, y j < 2 ^ 32) (hKl : Kl μ a) (hRf : Rf μ a) (nx : Nx G b L i k y) : V G RL cL_law 8 100 X 1450 (lv0 G b i) [] μ := by
  obtain ⟨q, hq⟩ : ∃ q : Res, q = sp_exchange a (y (i + 1)) := ⟨_, rfl⟩
  have hC : RunsX 9 4 M_X8_exchange [.ref (G.2.2 80), .int (nI (y (i + 1)))] G μ (CF μ q) (CT nIA nIA μ q) := by rw [hq]; exact ok_X8_exchange a hKl (y (i + 1)) (hy _)
  have hM : ∀ μ1 : Mu, Rf μ1 a → Runs 8 M_X9_exchange [.ref (G.2.2 96), .int (nI (y (i + 1)))] G μ1 (RP μ1 q) := fun μ1 h => by rw [hq]; exact ok_X9_exchange a h (y (i + 1)) (hy _)
  have hq2 : q.1 ≠ 2 := by rw [hq]; exact n2_exchange a (y (i + 1))
  clear hq
  refine V.aload_n (pc := 1450) 1 dL_law_1450 rfl ?_
  refine V.aload_n (pc := 1451) 0 dL_law_1451 rfl ?_
  refine V.iload (pc := 1452) 4 dL_law_1452 rfl ?_
  refine V.iconst (pc := 1454) (v := nI 1) dL_law_1454 (by decide) ?_
  refine V.iadd (pc := 1455) dL_law_1455 (nI_add _ _) ?_
  refine V.sld (pc := 1456) hF (i + 1) (by omega) hL dL_law_1456 ?_
  refine V.aload_n (pc := 1457) 3 dL_law_1457 rfl ?_
  refine V.callL (pc := 1458) (n := 3) (As := [.ref (G.2.2 80), .int (nI (y (i + 1))), .ref (G.2.2 95)]) (rest := []) hF hk (ok_L_exchange (Nat.le_of_ble_eq_true rfl) hq2 hC) (Nat.le_of_ble_eq_true rfl) (Nat.le_of_ble_eq_true rfl) mu_4_126 mu_4_127 mu_1_0 mu_4_128 ⟨by decide, by decide, by decide +kernel⟩ rfl rfl (Nat.le_of_ble_eq_true rfl) dL_law_1458 (fun X1 hF1 r1 μ1 h1 => ?_)
  obtain ⟨rfl, hK1, hO1, hf1, hq1⟩ := h1
  have hR1 := hRf.out hf1 (fun _ q => q)
  refine V.istore (pc := 1461) (lv' := [(0, .ref b), (1, .ref (G.2.2 80)), (2, .ref (G.2.2 96)), (3, .ref (G.2.2 95)), (4, .int (nI i)), (5, .int (nI q.1))]) dL_law_1461 (Nat.le_of_ble_eq_true rfl) rfl ?_
  refine V.aload_n (pc := 1463) 2 dL_law_1463 rfl ?_
  refine V.aload_n (pc := 1464) 0 dL_law_1464 rfl ?_
  refine V.iload (pc := 1465) 4 dL_law_1465 rfl ?_
  refine V.iconst (pc := 1467) (v := nI 1) dL_law_1467 (by decide) ?_
  refine V.iadd (pc := 1468) dL_law_1468 (nI_add _ _) ?_
  refine V.sld (pc := 1469) hF1 (i + 1) (by omega) hL dL_law_1469 ?_
  refine V.callV (pc := 1470) (k := 96) (ci := 9) (T := TX9) (N := 27) (n := 1) (As := [.int (nI (y (i + 1)))]) (rest := []) (hM μ1 hR1) (Nat.le_of_ble_eq_true rfl) (Nat.le_of_ble_eq_true rfl) (Nat.le_of_ble_eq_true rfl) (fun _ _ => rfl) rfl mu_6_40 mu_6_41 mu_6_42 mu_1_10 mu_6_43 ⟨by decide, by decide, by decide +kernel⟩ rfl rfl (Nat.le_of_ble_eq_true rfl) dL_law_1470 (fun r2 μ2 h2 => ?_)
  obtain ⟨hR2, ht2, ⟨v2, rfl, hv2⟩, hf2⟩ := h2
  have hK2 := hK1.out hf2
  refine V.istore (pc := 1473) (lv' := [(0, .ref b), (1, .ref (G.2.2 80)), (2, .ref (G.2.2 96)), (3, .ref (G.2.2 95)), (4, .int (nI i)), (5, .int (nI q.1)), (6, .int v2)]) dL_law_1473 (Nat.le_of_ble_eq_true rfl) rfl ?_
  refine V.aload_n (pc := 1475) 2 dL_law_1475 rfl ?_
  refine V.callV (pc := 1476) (k := 96) (ci := 9) (T := TX9) (N := 27) (n := 0) (As := []) (rest := []) (ok_X9_thrown q.1 ht2) (Nat.le_of_ble_eq_true rfl) (Nat.le_of_ble_eq_true rfl) (Nat.le_of_ble_eq_true rfl) (fun _ _ => rfl) rfl mu_5_18 mu_5_19 mu_5_20 mu_1_10 mu_5_21 ⟨by decide, by decide, by decide +kernel⟩ rfl rfl (Nat.le_of_ble_eq_true rfl) dL_law_1476 (fun r3 μ3 h3 => ?_)
  obtain ⟨rfl, rfl⟩ := h3
  refine V.iload (pc := 1479) 5 dL_law_1479 rfl ?_
  refine V.icmp_eq (pc := 1481) 1486 dL_law_1481 (by decide) (fun _ => ?_) (fun h => absurd rfl h)
  refine V.iload (pc := 1486) 5 dL_law_1486 rfl ?_
  refine V.if_ne (pc := 1488) 1503 dL_law_1488 (by decide) (fun h0 => ?_) (fun h0 => ?_)
  · refine V.goto (pc := 1503) 1681 dL_law_1503 (by decide) ?_
    refine V.sub [0, 1, 2, 3, 4] rfl ?_
    exact nx _ _ _ _ (Nat.le_refl _) hF1 hK2 hR2
  · have hz : q.1 = 0 := (nI_nz (by omega)).mp h0
    refine V.aload_n (pc := 1491) 3 dL_law_1491 rfl ?_
    refine V.iconst (pc := 1492) (v := nI 0) dL_law_1492 (by decide) ?_
    refine V.lald (pc := 1493) (k := 95) (n := 1) (v := q.2.1.toInt64) (Nat.le_of_ble_eq_true rfl) (fun _ _ => rfl) 0 (Nat.le_of_ble_eq_true rfl) (Nat.le_of_ble_eq_true rfl) dL_law_1493 ((congrFun (hf2 95 (fun z : 96 ≤ 95 => absurd z (by decide))).2 0).trans (hO1 hz)) ?_
    refine V.iload (pc := 1494) 6 dL_law_1494 rfl ?_
    refine V.i2l (pc := 1496) (v := q.2.1.toInt64) dL_law_1496 (by rw [hv2 hz]) ?_
    refine V.lcmp (pc := 1497) dL_law_1497 ?_
    refine V.if_eq (pc := 1498) 1503 dL_law_1498 (by decide) (fun _ => ?_) (fun h => absurd (lcmp_eq _) h)
    refine V.goto (pc := 1503) 1681 dL_law_1503 (by decide) ?_
    refine V.sub [0, 1, 2, 3, 4] rfl ?_
    exact nx _ _ _ _ (Nat.le_refl _) hF1 hK2 hR2
theorem mu_4_148 : Cond.methodLink RL 172 yL_next ∈ TT := tt_in (tb_4 (List.mem_of_getElem? (i := 148) (by decide +kernel))) (by decide +kernel)
theorem mu_4_149 : Cond.static yL_next ∈ TT := tt_in (tb_4 (List.mem_of_getElem? (i := 149) (by decide +kernel))) (by decide +kernel)
theorem mu_4_150 : Cond.codeWith yL_next cL_next 4 (some .int) hh_next ∈ TT := tt_in (tb_4 (List.mem_of_getElem? (i := 150) (by decide +kernel))) (by decide +kernel)
theorem mu_6_44 : Cond.methodLink RL 174 yX9_next ∈ TT := tt_in (tb_6 (List.mem_of_getElem? (i := 44) (by decide +kernel))) (by decide +kernel)
theorem mu_6_45 : Cond.instanceMethod yX9_next ∈ TT := tt_in (tb_6 (List.mem_of_getElem? (i := 45) (by decide +kernel))) (by decide +kernel)
theorem mu_6_46 : Cond.selects RX9 yX9_next yX9_next ∈ TT := tt_in (tb_6 (List.mem_of_getElem? (i := 46) (by decide +kernel))) (by decide +kernel)
theorem mu_6_47 : Cond.code yX9_next cX9_next 5 (some .int) ∈ TT := tt_in (tb_6 (List.mem_of_getElem? (i := 47) (by decide +kernel))) (by decide +kernel)
set_option maxHeartbeats 1000000 in
theorem lc_next {G : Gx} {X : Cx} {b L k i : Nat} {y : Nat → Nat} {μ : Mu} {a : AS} (hF : FinW G X b L y k) (hk : k < 512) (hL : L ≤ 3072) (hi : i + 6 ≤ L) (hy : ∀ j, y j < 2 ^ 32) (hKl : Kl μ a) (hRf : Rf μ a) (nx : Nx G b L i k y) : V G RL cL_law 8 100 X 1506 (lv0 G b i) [] μ := by
  obtain ⟨f1, b1, hB⟩ := best_ex a.S 0 0 (y (i + 1)) 0
  obtain ⟨f2, b2, hB2⟩ := best_ex a.S 2 0 2147483647 (cov a.S b1 + 1)
  obtain ⟨q, hq⟩ : ∃ q : Res, q = sp_next a (y (i + 1)) f2 b2 := ⟨_, rfl⟩
  have hC : RunsX 23 4 M_X8_next [.ref (G.2.2 80), .int (nI (y (i + 1)))] G μ (CF μ q) (CT nIA nIA μ q) := by rw [hq]; exact ok_X8_next a hKl (y (i + 1)) (hy _) f1 b1 hB f2 b2 hB2
  have hM : ∀ μ1 : Mu, Rf μ1 a → Runs 8 M_X9_next [.ref (G.2.2 96), .int (nI (y (i + 1)))] G μ1 (RP μ1 q) := fun μ1 h => by rw [hq]; exact ok_X9_next a h (y (i + 1)) (hy _) f1 b1 hB f2 b2 hB2
  have hq2 : q.1 ≠ 2 := by rw [hq]; exact n2_next a (y (i + 1)) f2 b2
  clear hq
  refine V.aload_n (pc := 1506) 1 dL_law_1506 rfl ?_
  refine V.aload_n (pc := 1507) 0 dL_law_1507 rfl ?_
  refine V.iload (pc := 1508) 4 dL_law_1508 rfl ?_
  refine V.iconst (pc := 1510) (v := nI 1) dL_law_1510 (by decide) ?_
  refine V.iadd (pc := 1511) dL_law_1511 (nI_add _ _) ?_
  refine V.sld (pc := 1512) hF (i + 1) (by omega) hL dL_law_1512 ?_
  refine V.aload_n (pc := 1513) 3 dL_law_1513 rfl ?_
  refine V.callL (pc := 1514) (n := 3) (As := [.ref (G.2.2 80), .int (nI (y (i + 1))), .ref (G.2.2 95)]) (rest := []) hF hk (ok_L_next (Nat.le_of_ble_eq_true rfl) hq2 hC) (Nat.le_of_ble_eq_true rfl) (Nat.le_of_ble_eq_true rfl) mu_4_148 mu_4_149 mu_1_0 mu_4_150 ⟨by decide, by decide, by decide +kernel⟩ rfl rfl (Nat.le_of_ble_eq_true rfl) dL_law_1514 (fun X1 hF1 r1 μ1 h1 => ?_)
  obtain ⟨rfl, hK1, hO1, hf1, hq1⟩ := h1
  have hR1 := hRf.out hf1 (fun _ q => q)
  refine V.istore (pc := 1517) (lv' := [(0, .ref b), (1, .ref (G.2.2 80)), (2, .ref (G.2.2 96)), (3, .ref (G.2.2 95)), (4, .int (nI i)), (5, .int (nI q.1))]) dL_law_1517 (Nat.le_of_ble_eq_true rfl) rfl ?_
  refine V.aload_n (pc := 1519) 2 dL_law_1519 rfl ?_
  refine V.aload_n (pc := 1520) 0 dL_law_1520 rfl ?_
  refine V.iload (pc := 1521) 4 dL_law_1521 rfl ?_
  refine V.iconst (pc := 1523) (v := nI 1) dL_law_1523 (by decide) ?_
  refine V.iadd (pc := 1524) dL_law_1524 (nI_add _ _) ?_
  refine V.sld (pc := 1525) hF1 (i + 1) (by omega) hL dL_law_1525 ?_
  refine V.callV (pc := 1526) (k := 96) (ci := 9) (T := TX9) (N := 27) (n := 1) (As := [.int (nI (y (i + 1)))]) (rest := []) (hM μ1 hR1) (Nat.le_of_ble_eq_true rfl) (Nat.le_of_ble_eq_true rfl) (Nat.le_of_ble_eq_true rfl) (fun _ _ => rfl) rfl mu_6_44 mu_6_45 mu_6_46 mu_1_10 mu_6_47 ⟨by decide, by decide, by decide +kernel⟩ rfl rfl (Nat.le_of_ble_eq_true rfl) dL_law_1526 (fun r2 μ2 h2 => ?_)
  obtain ⟨hR2, ht2, ⟨v2, rfl, hv2⟩, hf2⟩ := h2
  have hK2 := hK1.out hf2
  refine V.istore (pc := 1529) (lv' := [(0, .ref b), (1, .ref (G.2.2 80)), (2, .ref (G.2.2 96)), (3, .ref (G.2.2 95)), (4, .int (nI i)), (5, .int (nI q.1)), (6, .int v2)]) dL_law_1529 (Nat.le_of_ble_eq_true rfl) rfl ?_
  refine V.aload_n (pc := 1531) 2 dL_law_1531 rfl ?_
  refine V.callV (pc := 1532) (k := 96) (ci := 9) (T := TX9) (N := 27) (n := 0) (As := []) (rest := []) (ok_X9_thrown q.1 ht2) (Nat.le_of_ble_eq_true rfl) (Nat.le_of_ble_eq_true rfl) (Nat.le_of_ble_eq_true rfl) (fun _ _ => rfl) rfl mu_5_18 mu_5_19 mu_5_20 mu_1_10 mu_5_21 ⟨by decide, by decide, by decide +kernel⟩ rfl rfl (Nat.le_of_ble_eq_true rfl) dL_law_1532 (fun r3 μ3 h3 => ?_)
  obtain ⟨rfl, rfl⟩ := h3
  refine V.iload (pc := 1535) 5 dL_law_1535 rfl ?_
  refine V.icmp_eq (pc := 1537) 1542 dL_law_1537 (by decide) (fun _ => ?_) (fun h => absurd rfl h)
  refine V.iload (pc := 1542) 5 dL_law_1542 rfl ?_
  refine V.if_ne (pc := 1544) 1559 dL_law_1544 (by decide) (fun h0 => ?_) (fun h0 => ?_)
  · refine V.goto (pc := 1559) 1681 dL_law_1559 (by decide) ?_
    refine V.sub [0, 1, 2, 3, 4] rfl ?_
    exact nx _ _ _ _ (Nat.le_refl _) hF1 hK2 hR2
  · have hz : q.1 = 0 := (nI_nz (by omega)).mp h0
    refine V.aload_n (pc := 1547) 3 dL_law_1547 rfl ?_
    refine V.iconst (pc := 1548) (v := nI 0) dL_law_1548 (by decide) ?_
    refine V.lald (pc := 1549) (k := 95) (n := 1) (v := q.2.1.toInt64) (Nat.le_of_ble_eq_true rfl) (fun _ _ => rfl) 0 (Nat.le_of_ble_eq_true rfl) (Nat.le_of_ble_eq_true rfl) dL_law_1549 ((congrFun (hf2 95 (fun z : 96 ≤ 95 => absurd z (by decide))).2 0).trans (hO1 hz)) ?_
    refine V.iload (pc := 1550) 6 dL_law_1550 rfl ?_
    refine V.i2l (pc := 1552) (v := q.2.1.toInt64) dL_law_1552 (by rw [hv2 hz]) ?_
    refine V.lcmp (pc := 1553) dL_law_1553 ?_
    refine V.if_eq (pc := 1554) 1559 dL_law_1554 (by decide) (fun _ => ?_) (fun h => absurd (lcmp_eq _) h)
    refine V.goto (pc := 1559) 1681 dL_law_1559 (by decide) ?_
    refine V.sub [0, 1, 2, 3, 4] rfl ?_
    exact nx _ _ _ _ (Nat.le_refl _) hF1 hK2 hR2
theorem mu_4_155 : Cond.methodLink RL 175 yL_likeness ∈ TT := tt_in (tb_4 (List.mem_of_getElem? (i := 155) (by decide +kernel))) (by decide +kernel)
theorem mu_4_156 : Cond.static yL_likeness ∈ TT := tt_in (tb_4 (List.mem_of_getElem? (i := 156) (by decide +kernel))) (by decide +kernel)
theorem mu_4_157 : Cond.codeWith yL_likeness cL_likeness 6 (some .int) hh_likeness ∈ TT := tt_in (tb_4 (List.mem_of_getElem? (i := 157) (by decide +kernel))) (by decide +kernel)
theorem mu_6_48 : Cond.methodLink RL 178 yX9_likeness ∈ TT := tt_in (tb_6 (List.mem_of_getElem? (i := 48) (by decide +kernel))) (by decide +kernel)
theorem mu_6_49 : Cond.instanceMethod yX9_likeness ∈ TT := tt_in (tb_6 (List.mem_of_getElem? (i := 49) (by decide +kernel))) (by decide +kernel)
theorem mu_6_50 : Cond.selects RX9 yX9_likeness yX9_likeness ∈ TT := tt_in (tb_6 (List.mem_of_getElem? (i := 50) (by decide +kernel))) (by decide +kernel)
theorem mu_6_51 : Cond.code yX9_likeness cX9_likeness 6 (some .int) ∈ TT := tt_in (tb_6 (List.mem_of_getElem? (i := 51) (by decide +kernel))) (by decide +kernel)
set_option maxHeartbeats 1000000 in
theorem lc_likeness {G : Gx} {X : Cx} {b L k i : Nat} {y : Nat → Nat} {μ : Mu} {a : AS} (hF : FinW G X b L y k) (hk : k < 512) (hL : L ≤ 3072) (hi : i + 6 ≤ L) (hy : ∀ j, y j < 2 ^ 32) (hKl : Kl μ a) (hRf : Rf μ a) (nx : Nx G b L i k y) : V G RL cL_law 8 100 X 1562 (lv0 G b i) [] μ := by
  obtain ⟨q, hq⟩ : ∃ q : Res, q = sp_likeness a (y (i + 1)) (y (i + 2)) (y (i + 3)) := ⟨_, rfl⟩
  have hC : RunsX 9 4 M_X8_likeness [.ref (G.2.2 80), .int (nI (y (i + 1))), .int (nI (y (i + 2))), .int (nI (y (i + 3)))] G μ (CF μ q) (CT nNS nIA μ q) := by rw [hq]; exact ok_X8_likeness a hKl (y (i + 1)) (y (i + 2)) (y (i + 3)) (hy _) (hy _) (hy _)
  have hM : ∀ μ1 : Mu, Rf μ1 a → Runs 6 M_X9_likeness [.ref (G.2.2 96), .int (nI (y (i + 1))), .int (nI (y (i + 2))), .int (nI (y (i + 3)))] G μ1 (RP μ1 q) := fun μ1 h => by rw [hq]; exact ok_X9_likeness a h (y (i + 1)) (y (i + 2)) (y (i + 3)) (hy _) (hy _) (hy _)
  clear hq
  refine V.aload_n (pc := 1562) 1 dL_law_1562 rfl ?_
  refine V.aload_n (pc := 1563) 0 dL_law_1563 rfl ?_
  refine V.iload (pc := 1564) 4 dL_law_1564 rfl ?_
  refine V.iconst (pc := 1566) (v := nI 1) dL_law_1566 (by decide) ?_
  refine V.iadd (pc := 1567) dL_law_1567 (nI_add _ _) ?_
  refine V.sld (pc := 1568) hF (i + 1) (by omega) hL dL_law_1568 ?_
  refine V.aload_n (pc := 1569) 0 dL_law_1569 rfl ?_
  refine V.iload (pc := 1570) 4 dL_law_1570 rfl ?_
  refine V.iconst (pc := 1572) (v := nI 2) dL_law_1572 (by decide) ?_
  refine V.iadd (pc := 1573) dL_law_1573 (nI_add _ _) ?_
  refine V.sld (pc := 1574) hF (i + 2) (by omega) hL dL_law_1574 ?_
  refine V.aload_n (pc := 1575) 0 dL_law_1575 rfl ?_
  refine V.iload (pc := 1576) 4 dL_law_1576 rfl ?_
  refine V.iconst (pc := 1578) (v := nI 3) dL_law_1578 (by decide) ?_
  refine V.iadd (pc := 1579) dL_law_1579 (nI_add _ _) ?_
  refine V.sld (pc := 1580) hF (i + 3) (by omega) hL dL_law_1580 ?_
  refine V.aload_n (pc := 1581) 3 dL_law_1581 rfl ?_
  refine V.callL (pc := 1582) (n := 5) (As := [.ref (G.2.2 80), .int (nI (y (i + 1))), .int (nI (y (i + 2))), .int (nI (y (i + 3))), .ref (G.2.2 95)]) (rest := []) hF hk (ok_L_likeness (Nat.le_of_ble_eq_true rfl) hC) (Nat.le_of_ble_eq_true rfl) (Nat.le_of_ble_eq_true rfl) mu_4_155 mu_4_156 mu_1_0 mu_4_157 ⟨by decide, by decide, by decide +kernel⟩ rfl rfl (Nat.le_of_ble_eq_true rfl) dL_law_1582 (fun X1 hF1 r1 μ1 h1 => ?_)
  obtain ⟨rfl, hK1, hO1, hf1, hq1⟩ := h1
  have hR1 := hRf.out hf1 (fun _ q => q)
  refine V.istore (pc := 1585) (lv' := [(0, .ref b), (1, .ref (G.2.2 80)), (2, .ref (G.2.2 96)), (3, .ref (G.2.2 95)), (4, .int (nI i)), (5, .int (nI q.1))]) dL_law_1585 (Nat.le_of_ble_eq_true rfl) rfl ?_
  refine V.aload_n (pc := 1587) 2 dL_law_1587 rfl ?_
  refine V.aload_n (pc := 1588) 0 dL_law_1588 rfl ?_
  refine V.iload (pc := 1589) 4 dL_law_1589 rfl ?_
  refine V.iconst (pc := 1591) (v := nI 1) dL_law_1591 (by decide) ?_
  refine V.iadd (pc := 1592) dL_law_1592 (nI_add _ _) ?_
  refine V.sld (pc := 1593) hF1 (i + 1) (by omega) hL dL_law_1593 ?_
  refine V.aload_n (pc := 1594) 0 dL_law_1594 rfl ?_
  refine V.iload (pc := 1595) 4 dL_law_1595 rfl ?_
  refine V.iconst (pc := 1597) (v := nI 2) dL_law_1597 (by decide) ?_
  refine V.iadd (pc := 1598) dL_law_1598 (nI_add _ _) ?_
  refine V.sld (pc := 1599) hF1 (i + 2) (by omega) hL dL_law_1599 ?_
  refine V.aload_n (pc := 1600) 0 dL_law_1600 rfl ?_
  refine V.iload (pc := 1601) 4 dL_law_1601 rfl ?_
  refine V.iconst (pc := 1603) (v := nI 3) dL_law_1603 (by decide) ?_
  refine V.iadd (pc := 1604) dL_law_1604 (nI_add _ _) ?_
  refine V.sld (pc := 1605) hF1 (i + 3) (by omega) hL dL_law_1605 ?_
  refine V.callV (pc := 1606) (k := 96) (ci := 9) (T := TX9) (N := 27) (n := 3) (As := [.int (nI (y (i + 1))), .int (nI (y (i + 2))), .int (nI (y (i + 3)))]) (rest := []) (hM μ1 hR1) (Nat.le_of_ble_eq_true rfl) (Nat.le_of_ble_eq_true rfl) (Nat.le_of_ble_eq_true rfl) (fun _ _ => rfl) rfl mu_6_48 mu_6_49 mu_6_50 mu_1_10 mu_6_51 ⟨by decide, by decide, by decide +kernel⟩ rfl rfl (Nat.le_of_ble_eq_true rfl) dL_law_1606 (fun r2 μ2 h2 => ?_)
  obtain ⟨hR2, ht2, ⟨v2, rfl, hv2⟩, hf2⟩ := h2
  have hK2 := hK1.out hf2
  refine V.istore (pc := 1609) (lv' := [(0, .ref b), (1, .ref (G.2.2 80)), (2, .ref (G.2.2 96)), (3, .ref (G.2.2 95)), (4, .int (nI i)), (5, .int (nI q.1)), (6, .int v2)]) dL_law_1609 (Nat.le_of_ble_eq_true rfl) rfl ?_
  refine V.aload_n (pc := 1611) 2 dL_law_1611 rfl ?_
  refine V.callV (pc := 1612) (k := 96) (ci := 9) (T := TX9) (N := 27) (n := 0) (As := []) (rest := []) (ok_X9_thrown q.1 ht2) (Nat.le_of_ble_eq_true rfl) (Nat.le_of_ble_eq_true rfl) (Nat.le_of_ble_eq_true rfl) (fun _ _ => rfl) rfl mu_5_18 mu_5_19 mu_5_20 mu_1_10 mu_5_21 ⟨by decide, by decide, by decide +kernel⟩ rfl rfl (Nat.le_of_ble_eq_true rfl) dL_law_1612 (fun r3 μ3 h3 => ?_)
  obtain ⟨rfl, rfl⟩ := h3
  refine V.iload (pc := 1615) 5 dL_law_1615 rfl ?_
  refine V.icmp_eq (pc := 1617) 1622 dL_law_1617 (by decide) (fun _ => ?_) (fun h => absurd rfl h)
  refine V.iload (pc := 1622) 5 dL_law_1622 rfl ?_
  refine V.if_ne (pc := 1624) 1639 dL_law_1624 (by decide) (fun h0 => ?_) (fun h0 => ?_)
  · refine V.goto (pc := 1639) 1681 dL_law_1639 (by decide) ?_
    refine V.sub [0, 1, 2, 3, 4] rfl ?_
    exact nx _ _ _ _ (Nat.le_refl _) hF1 hK2 hR2
  · have hz : q.1 = 0 := (nI_nz (by omega)).mp h0
    refine V.aload_n (pc := 1627) 3 dL_law_1627 rfl ?_
    refine V.iconst (pc := 1628) (v := nI 0) dL_law_1628 (by decide) ?_
    refine V.lald (pc := 1629) (k := 95) (n := 1) (v := q.2.1.toInt64) (Nat.le_of_ble_eq_true rfl) (fun _ _ => rfl) 0 (Nat.le_of_ble_eq_true rfl) (Nat.le_of_ble_eq_true rfl) dL_law_1629 ((congrFun (hf2 95 (fun z : 96 ≤ 95 => absurd z (by decide))).2 0).trans (hO1 hz)) ?_
    refine V.iload (pc := 1630) 6 dL_law_1630 rfl ?_
    refine V.i2l (pc := 1632) (v := q.2.1.toInt64) dL_law_1632 (by rw [hv2 hz]) ?_
    refine V.lcmp (pc := 1633) dL_law_1633 ?_
    refine V.if_eq (pc := 1634) 1639 dL_law_1634 (by decide) (fun _ => ?_) (fun h => absurd (lcmp_eq _) h)
    refine V.goto (pc := 1639) 1681 dL_law_1639 (by decide) ?_
    refine V.sub [0, 1, 2, 3, 4] rfl ?_
    exact nx _ _ _ _ (Nat.le_refl _) hF1 hK2 hR2
theorem mu_2_106 : Cond.methodLink RL 179 yX8_print ∈ TT := tt_in (tb_2 (List.mem_of_getElem? (i := 106) (by decide +kernel))) (by decide +kernel)
theorem mu_2_107 : Cond.instanceMethod yX8_print ∈ TT := tt_in (tb_2 (List.mem_of_getElem? (i := 107) (by decide +kernel))) (by decide +kernel)
theorem mu_2_108 : Cond.selects RX8 yX8_print yX8_print ∈ TT := tt_in (tb_2 (List.mem_of_getElem? (i := 108) (by decide +kernel))) (by decide +kernel)
theorem mu_2_109 : Cond.code yX8_print cX8_print 4 (some .long) ∈ TT := tt_in (tb_2 (List.mem_of_getElem? (i := 109) (by decide +kernel))) (by decide +kernel)
theorem mu_6_55 : Cond.methodLink RL 183 yX9_print ∈ TT := tt_in (tb_6 (List.mem_of_getElem? (i := 55) (by decide +kernel))) (by decide +kernel)
theorem mu_6_56 : Cond.instanceMethod yX9_print ∈ TT := tt_in (tb_6 (List.mem_of_getElem? (i := 56) (by decide +kernel))) (by decide +kernel)
theorem mu_6_57 : Cond.selects RX9 yX9_print yX9_print ∈ TT := tt_in (tb_6 (List.mem_of_getElem? (i := 57) (by decide +kernel))) (by decide +kernel)
theorem mu_6_58 : Cond.code yX9_print cX9_print 4 (some .long) ∈ TT := tt_in (tb_6 (List.mem_of_getElem? (i := 58) (by decide +kernel))) (by decide +kernel)
set_option maxHeartbeats 1000000 in
theorem lc_print {G : Gx} {X : Cx} {b L k i : Nat} {y : Nat → Nat} {μ : Mu} {a : AS} (hF : FinW G X b L y k) (hk : k < 512) (hL : L ≤ 3072) (hi : i + 6 ≤ L) (hy : ∀ j, y j < 2 ^ 32) (hKl : Kl μ a) (hRf : Rf μ a) (nx : Nx G b L i k y) : V G RL cL_law 8 100 X 1642 (lv0 G b i) [] μ := by
  refine V.aload_n (pc := 1642) 1 dL_law_1642 rfl ?_
  refine V.callV (pc := 1643) (k := 80) (ci := 8) (T := TX8) (N := 12) (n := 0) (As := []) (rest := []) (ok_X8_print a hKl) (Nat.le_of_ble_eq_true rfl) (Nat.le_of_ble_eq_true rfl) (Nat.le_of_ble_eq_true rfl) (fun _ _ => rfl) rfl mu_2_106 mu_2_107 mu_2_108 mu_1_1 mu_2_109 ⟨by decide, by decide, by decide +kernel⟩ rfl rfl (Nat.le_of_ble_eq_true rfl) dL_law_1643 (fun r1 μ1 h1 => ?_)
  obtain ⟨rfl, rfl⟩ := h1
  refine V.aload_n (pc := 1646) 2 dL_law_1646 rfl ?_
  refine V.callV (pc := 1647) (k := 96) (ci := 9) (T := TX9) (N := 27) (n := 0) (As := []) (rest := [.long (lN (prUp a.S a.S.n))]) (ok_X9_print a hRf) (Nat.le_of_ble_eq_true rfl) (Nat.le_of_ble_eq_true rfl) (Nat.le_of_ble_eq_true rfl) (fun _ _ => rfl) rfl mu_6_55 mu_6_56 mu_6_57 mu_1_10 mu_6_58 ⟨by decide, by decide, by decide +kernel⟩ rfl rfl (Nat.le_of_ble_eq_true rfl) dL_law_1647 (fun r2 μ2 h2 => ?_)
  obtain ⟨rfl, hR2, hf2⟩ := h2
  refine V.lcmp (pc := 1650) dL_law_1650 ?_
  refine V.if_eq (pc := 1651) 1681 dL_law_1651 (by decide) (fun _ => ?_) (fun h => absurd (lcmp_eq _) h)
  exact nx _ _ _ _ (Nat.le_succ _) hF (hKl.out hf2) hR2
theorem mu_2_135 : Cond.methodLink RL 184 yX8_status ∈ TT := tt_in (tb_2 (List.mem_of_getElem? (i := 135) (by decide +kernel))) (by decide +kernel)
theorem mu_2_136 : Cond.instanceMethod yX8_status ∈ TT := tt_in (tb_2 (List.mem_of_getElem? (i := 136) (by decide +kernel))) (by decide +kernel)
theorem mu_2_137 : Cond.selects RX8 yX8_status yX8_status ∈ TT := tt_in (tb_2 (List.mem_of_getElem? (i := 137) (by decide +kernel))) (by decide +kernel)
theorem mu_2_138 : Cond.code yX8_status cX8_status 2 (some .int) ∈ TT := tt_in (tb_2 (List.mem_of_getElem? (i := 138) (by decide +kernel))) (by decide +kernel)
theorem mu_6_60 : Cond.methodLink RL 187 yX9_status ∈ TT := tt_in (tb_6 (List.mem_of_getElem? (i := 60) (by decide +kernel))) (by decide +kernel)
theorem mu_6_61 : Cond.instanceMethod yX9_status ∈ TT := tt_in (tb_6 (List.mem_of_getElem? (i := 61) (by decide +kernel))) (by decide +kernel)
theorem mu_6_62 : Cond.selects RX9 yX9_status yX9_status ∈ TT := tt_in (tb_6 (List.mem_of_getElem? (i := 62) (by decide +kernel))) (by decide +kernel)
theorem mu_6_63 : Cond.code yX9_status cX9_status 2 (some .int) ∈ TT := tt_in (tb_6 (List.mem_of_getElem? (i := 63) (by decide +kernel))) (by decide +kernel)
set_option maxHeartbeats 1000000 in
theorem lc_status {G : Gx} {X : Cx} {b L k i : Nat} {y : Nat → Nat} {μ : Mu} {a : AS} (hF : FinW G X b L y k) (hk : k < 512) (hL : L ≤ 3072) (hi : i + 6 ≤ L) (hy : ∀ j, y j < 2 ^ 32) (hKl : Kl μ a) (hRf : Rf μ a) (nx : Nx G b L i k y) : V G RL cL_law 8 100 X 1656 (lv0 G b i) [] μ := by
  obtain ⟨q, hq⟩ : ∃ q : Res, q = sp_status a (y (i + 1)) := ⟨_, rfl⟩
  have hC : Runs 0 M_X8_status [.ref (G.2.2 80), .int (nI (y (i + 1)))] G μ (CF μ q) := by rw [hq]; exact ok_X8_status a hKl (y (i + 1)) (hy _)
  have hM : ∀ μ1 : Mu, Rf μ1 a → Runs 1 M_X9_status [.ref (G.2.2 96), .int (nI (y (i + 1)))] G μ1 (RP μ1 q) := fun μ1 h => by rw [hq]; exact ok_X9_status a h (y (i + 1)) (hy _)
  clear hq
  refine V.aload_n (pc := 1656) 1 dL_law_1656 rfl ?_
  refine V.aload_n (pc := 1657) 0 dL_law_1657 rfl ?_
  refine V.iload (pc := 1658) 4 dL_law_1658 rfl ?_
  refine V.iconst (pc := 1660) (v := nI 1) dL_law_1660 (by decide) ?_
  refine V.iadd (pc := 1661) dL_law_1661 (nI_add _ _) ?_
  refine V.sld (pc := 1662) hF (i + 1) (by omega) hL dL_law_1662 ?_
  refine V.callV (pc := 1663) (k := 80) (ci := 8) (T := TX8) (N := 12) (n := 1) (As := [.int (nI (y (i + 1)))]) (rest := []) hC (Nat.le_of_ble_eq_true rfl) (Nat.le_of_ble_eq_true rfl) (Nat.le_of_ble_eq_true rfl) (fun _ _ => rfl) rfl mu_2_135 mu_2_136 mu_2_137 mu_1_1 mu_2_138 ⟨by decide, by decide, by decide +kernel⟩ rfl rfl (Nat.le_of_ble_eq_true rfl) dL_law_1663 (fun r1 μ1 h1 => ?_)
  obtain ⟨hq0, rfl, hK1, hf1⟩ := h1
  have hR1 := hRf.out hf1 (fun c (h : c < 95) => by omega)
  refine V.aload_n (pc := 1666) 2 dL_law_1666 rfl ?_
  refine V.aload_n (pc := 1667) 0 dL_law_1667 rfl ?_
  refine V.iload (pc := 1668) 4 dL_law_1668 rfl ?_
  refine V.iconst (pc := 1670) (v := nI 1) dL_law_1670 (by decide) ?_
  refine V.iadd (pc := 1671) dL_law_1671 (nI_add _ _) ?_
  refine V.sld (pc := 1672) hF (i + 1) (by omega) hL dL_law_1672 ?_
  refine V.callV (pc := 1673) (k := 96) (ci := 9) (T := TX9) (N := 27) (n := 1) (As := [.int (nI (y (i + 1)))]) (rest := [.int q.2.1]) (hM μ1 hR1) (Nat.le_of_ble_eq_true rfl) (Nat.le_of_ble_eq_true rfl) (Nat.le_of_ble_eq_true rfl) (fun _ _ => rfl) rfl mu_6_60 mu_6_61 mu_6_62 mu_1_10 mu_6_63 ⟨by decide, by decide, by decide +kernel⟩ rfl rfl (Nat.le_of_ble_eq_true rfl) dL_law_1673 (fun r2 μ2 h2 => ?_)
  obtain ⟨hR2, ht2, ⟨v2, rfl, hv2⟩, hf2⟩ := h2
  refine V.icmp_eq (pc := 1676) 1681 dL_law_1676 (by decide) (fun _ => ?_) (fun h => absurd (hv2 hq0).symm h)
  exact nx _ _ _ _ (Nat.le_succ _) hF (hK1.out hf2) hR2
