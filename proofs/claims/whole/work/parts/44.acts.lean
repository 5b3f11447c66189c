/-! acts -/
def setW (S : TS) (w v : Nat) : TS := mkTS S.n S.u S.B S.T S.L S.len S.cnt S.fst S.bag (updN S.wt w v) S.nl S.lt
def setL (S : TS) (L : Nat) : TS := mkTS S.n S.u S.B S.T L S.len S.cnt S.fst S.bag S.wt S.nl S.lt
def setB (S : TS) (B : Nat) : TS := mkTS S.n S.u B S.T S.L S.len S.cnt S.fst S.bag S.wt S.nl S.lt
def setT (S : TS) (T : Nat) : TS := mkTS S.n S.u S.B T S.L S.len S.cnt S.fst S.bag S.wt S.nl S.lt
theorem chain_cong {S S' : TS} (hL : S'.L = S.L) (hf : S'.fst = S.fst) : ∀ i, chain S' i = chain S i
  | 0 => rfl
  | i + 1 => by rw [chain, chain, hL, hf, chain_cong hL hf i]
theorem spl_cong' {S S' : TS} (h1 : S'.nl = S.nl) (h2 : S'.lt = S.lt) (w : Nat) : spl S' w = spl S w := spl_cong (fun j => by rw [h2]) (by rw [h1])
theorem bagUp_cong {S S' : TS} (h : S'.bag = S.bag) (x : Nat) : ∀ i, bagUp S' x i = bagUp S x i
  | 0 => rfl
  | i + 1 => by rw [bagUp, bagUp, h, bagUp_cong h x i]
theorem wUp_congS {S S' : TS} (h : S'.wt = S.wt) (x : Nat) : ∀ i, wUp S' x i = wUp S x i
  | 0 => rfl
  | i + 1 => by rw [wUp, wUp, h, wUp_congS h x i]
theorem cov_cong {S S' : TS} (h1 : S'.n = S.n) (h2 : S'.u = S.u) (h3 : S'.bag = S.bag) (h4 : S'.wt = S.wt) (x : Nat) : cov S' x = cov S x := by
  unfold cov wOf bagOf
  rw [h1, h2, bagUp_cong h3, wUp_congS h4]
theorem St_W {μ : Mu} {S : TS} (h : St μ 0 S) {w v : Nat} (hw : w < S.u) (hv : v ≤ 1000) : St (si μ (8 * 0 + 7) w (nI v)) 0 (setW S w v) := by
  obtain ⟨⟨h1, h2, h3, h4, h5, h6, h7, h8, h9, h10, h11, h12⟩, hc⟩ := h
  have c : ∀ k, k ≠ 8 * 0 + 7 → (si μ (8 * 0 + 7) w (nI v)).1 k = μ.1 k := fun k hk => si_c μ w (nI v) hk
  refine ⟨⟨by rw [c _ (by decide)]; exact h1, by rw [c _ (by decide)]; exact h2, by rw [c _ (by decide)]; exact h3, by rw [c _ (by decide)]; exact h4, h5, fun i hi => by rw [c _ (by decide)]; exact h6 i hi, fun i hi => by rw [c _ (by decide)]; exact h7 i hi, fun i hi => by rw [c _ (by decide)]; exact h8 i hi, h9, fun x hx => (h10 x hx).trans (congrArg lN (spl_cong' (S := S) (S' := setW S w v) rfl rfl x).symm), fun x hx => ?_, ?_⟩, fun i hi => by rw [c _ (by decide)]; exact (hc i hi).trans (congrArg nI (chain_cong (S := S) (S' := setW S w v) rfl rfl i).symm)⟩
  · show _ = nI (updN S.wt w v x)
    by_cases e : x = w
    · subst e; rw [updN_s, si_s]
    · rw [updN_n e, si_i _ _ _ e]; exact h11 x hx
  · obtain ⟨v1, v2, v3, v4, v5, v6, v7, v8⟩ := h12
    refine ⟨v1, v2, v3, v4, v5, v6, fun x hx => ⟨?_, (v7 x hx).2⟩, v8⟩
    show updN S.wt w v x ≤ 1000
    by_cases e : x = w
    · subst e; rw [updN_s]; exact hv
    · rw [updN_n e]; exact (v7 x hx).1
theorem St_B {μ : Mu} {S : TS} (h : St μ 0 S) {B : Nat} (hB : B ≤ 9999) : St (si μ (8 * 0) 2 (nI B)) 0 (setB S B) := by
  obtain ⟨⟨h1, h2, h3, h4, h5, h6, h7, h8, h9, h10, h11, h12⟩, hc⟩ := h
  have c : ∀ k, k ≠ 8 * 0 → (si μ (8 * 0) 2 (nI B)).1 k = μ.1 k := fun k hk => si_c μ 2 (nI B) hk
  obtain ⟨v1, v2, v3, v4, v5, v6, v7⟩ := h12
  exact ⟨⟨by rw [si_i _ _ _ (by decide)]; exact h1, by rw [si_i _ _ _ (by decide)]; exact h2, by rw [si_s]; rfl, by rw [si_i _ _ _ (by decide)]; exact h4, h5, fun i hi => by rw [c _ (by decide)]; exact h6 i hi, fun i hi => by rw [c _ (by decide)]; exact h7 i hi, fun i hi => by rw [c _ (by decide)]; exact h8 i hi, h9, fun x hx => (h10 x hx).trans (congrArg lN (spl_cong' (S := S) (S' := setB S B) rfl rfl x).symm), fun x hx => by rw [c _ (by decide)]; exact h11 x hx, v1, v2, hB, v4, v5, v6, v7⟩, fun i hi => by rw [c _ (by decide)]; exact (hc i hi).trans (congrArg nI (chain_cong (S := S) (S' := setB S B) rfl rfl i).symm)⟩
theorem St_T {μ : Mu} {S : TS} (h : St μ 0 S) {T : Nat} (hT : T < 2 ^ S.n) : St (si μ (8 * 0) 3 (nI T)) 0 (setT S T) := by
  obtain ⟨⟨h1, h2, h3, h4, h5, h6, h7, h8, h9, h10, h11, h12⟩, hc⟩ := h
  have c : ∀ k, k ≠ 8 * 0 → (si μ (8 * 0) 3 (nI T)).1 k = μ.1 k := fun k hk => si_c μ 3 (nI T) hk
  obtain ⟨v1, v2, v3, v4, v5, v6, v7⟩ := h12
  exact ⟨⟨by rw [si_i _ _ _ (by decide)]; exact h1, by rw [si_i _ _ _ (by decide)]; exact h2, by rw [si_i _ _ _ (by decide)]; exact h3, by rw [si_s]; rfl, h5, fun i hi => by rw [c _ (by decide)]; exact h6 i hi, fun i hi => by rw [c _ (by decide)]; exact h7 i hi, fun i hi => by rw [c _ (by decide)]; exact h8 i hi, h9, fun x hx => (h10 x hx).trans (congrArg lN (spl_cong' (S := S) (S' := setT S T) rfl rfl x).symm), fun x hx => by rw [c _ (by decide)]; exact h11 x hx, v1, v2, v3, hT, v5, v6, v7⟩, fun i hi => by rw [c _ (by decide)]; exact (hc i hi).trans (congrArg nI (chain_cong (S := S) (S' := setT S T) rfl rfl i).symm)⟩
theorem St_L {μ : Mu} {S : TS} (h : St μ 0 S) {L : Nat} (hL : L < 2 ^ S.u) : St0 (sj μ (8 * 0) 4 (lN L)) 0 (setL S L) := by
  obtain ⟨⟨h1, h2, h3, h4, h5, h6, h7, h8, h9, h10, h11, h12⟩, hc⟩ := h
  have c : ∀ k, k ≠ 8 * 0 → (sj μ (8 * 0) 4 (lN L)).2 k = μ.2 k := fun k hk => sj_c μ 4 (lN L) hk
  obtain ⟨v1, v2, v3, v4, v5, v6, v7⟩ := h12
  exact ⟨h1, h2, h3, h4, by rw [sj_s]; rfl, h6, h7, h8, fun i hi => by rw [c _ (by decide)]; exact h9 i hi, fun x hx => by rw [c _ (by decide)]; exact (h10 x hx).trans (congrArg lN (spl_cong' (S := S) (S' := setL S L) rfl rfl x).symm), h11, v1, v2, v3, v4, hL, v6, v7⟩
theorem Kl.acted {μ μ1 μ2 : Mu} {a : AS} {S : TS} (h : Kl μ a) (hf : Fr μ μ1 C83) (hp : ∃ o' k', k' = (if a.k = 8 then 8 else a.k + 1) ∧ Pa μ1 o' k' (push a.k a.h a.S)) (hf2 : Fr μ1 μ2 (fun c => c < 16)) (hs : St μ2 0 S) : Kl μ2 (a.act S) ∧ Fr μ μ2 CK := by
  obtain ⟨h1, h2, h3, h4, h5, h6, -⟩ := h
  obtain ⟨o', k', rfl, hp⟩ := hp
  have q : ∀ c, C83 c → c = 83 ∨ (16 ≤ c ∧ c < 80) := fun _ h => h
  have f : Fr μ μ2 (fun c => c < 80 ∨ c = 83) := hf.trans hf2 (fun c z => by have := q c z; omega) (fun c z => by omega)
  exact ⟨⟨by rw [(f 80 (by omega)).1]; exact h1, h2, fun i hi => by rw [(f 81 (by omega)).1]; exact h3 i hi, by rw [(f 80 (by omega)).1]; exact h4, fun r hr => by rw [(f 82 (by omega)).1]; exact h5 r hr, hs, o', hp.fr hf2 (fun c z => by omega)⟩, f.ck (fun c z => by omega)⟩
theorem St.kept {μ μ1 : Mu} {S : TS} (h : St μ 0 S) (hf : Fr μ μ1 C83) : St μ1 0 S := h.fr hf (fun j hj z => by have z : 8 * 0 + j = 83 ∨ (16 ≤ 8 * 0 + j ∧ 8 * 0 + j < 80) := z; omega)
def sp_weigh (a : AS) (w v : Nat) : Res := if w < a.S.u then if v ≤ 1000 then rOk (nI (a.S.wt w)) (a.act (setW a.S w v)) else rNo 2 a 1 else rNo 1 a 0
theorem ok_X8_weigh {G : Gx} {μ : Mu} (a : AS) (hK : Kl μ a) (w v : Nat) (hw : w < 2 ^ 32) (hv : v < 2 ^ 32) : RunsX 9 4 M_X8_weigh [.ref (G.2.2 80), .int (nI w), .int (nI v)] G μ (CF μ (sp_weigh a w v)) (CT nNS nIA μ (sp_weigh a w v)) := by
  obtain ⟨o, hPa⟩ := hK.2.2.2.2.2.2
  have hvs := hK.vs
  have hn16 := hvs.n16
  have hu48 := hvs.u48
  have hT2 := hvs.tk
  have hp16 := pow16 hvs
  have hB9 := hvs.B9
  have hp48 := pow48 hvs
  have hLL := hvs.le
  refine RunsX.of RX8 rfl (by decide) [(0, .ref (G.2.2 80)), (1, .int (nI w)), (2, .int (nI v))] (Nat.le_of_ble_eq_true rfl) rfl (fun X hF => ?_)
  refine V.aload_n (pc := 0) 0 dX8_weigh_0 rfl ?_
  refine V.iload_n (pc := 1) 1 dX8_weigh_1 rfl ?_
  refine cx_X8_114 (pc := 2) dX8_weigh_2 hF (ok_X8_needWord w a.S.u hw hK.st.u (by omega)) (by decide) (by omega) (Nat.le_of_ble_eq_true rfl) (fun E μ' h => CT.one (if_neg h.1) hK (Fr.refl _ _) (by decide) h.2.1 h.2.2) (fun X hF r_ μ_ h_ => ?_)
  obtain ⟨hwu, rfl, rfl⟩ := h_
  refine V.aload_n (pc := 5) 0 dX8_weigh_5 rfl ?_
  refine V.iload_n (pc := 6) 2 dX8_weigh_6 rfl ?_
  refine V.iconst (pc := 7) (v := nI 0) dX8_weigh_7 (by decide) ?_
  refine V.sipush (pc := 8) (v := nI 1000) dX8_weigh_8 (by decide) ?_
  refine cx_X8_84 (pc := 11) dX8_weigh_11 hF (ok_X8_needNumber v 1000 hv (by decide)) (by decide) (by omega) (Nat.le_of_ble_eq_true rfl) (fun E μ' h => CT.two ((if_pos hwu).trans (if_neg h.1)) hK (Fr.refl _ _) (by decide) h.2.1 h.2.2) (fun X hF r_ μ_ h_ => ?_)
  obtain ⟨hv1, rfl, rfl⟩ := h_
  refine V.aload_n (pc := 14) 0 dX8_weigh_14 rfl ?_
  refine gf_X8_34 (pc := 15) dX8_weigh_15 ?_
  refine V.aload_n (pc := 18) 0 dX8_weigh_18 rfl ?_
  refine gf_X8_27 (pc := 19) dX8_weigh_19 ?_
  refine cl_X8_95 (pc := 22) dX8_weigh_22 (ok_X2_keep o a.k a.h a.S hPa hK.st) (by omega) (Nat.le_of_ble_eq_true rfl) (fun r_ μ_ h_ => ?_)
  obtain ⟨rfl, hfk, hpk⟩ := h_
  have hS2 : St μ_ 0 a.S := hK.st.kept hfk
  refine V.aload_n (pc := 25) 0 dX8_weigh_25 rfl ?_
  refine gf_X8_27 (pc := 26) dX8_weigh_26 ?_
  refine gf_X8_117 (pc := 29) 0 (by decide) dX8_weigh_29 ?_
  refine V.iload_n (pc := 32) 1 dX8_weigh_32 rfl ?_
  refine V.iald (pc := 33) (k := 8 * 0 + 7) (n := 48) (v := nI (a.S.wt w)) (by omega) (cell_Sw (by decide) rfl) w (by omega) (by decide) dX8_weigh_33 (hS2.wt w (by omega)) ?_
  refine V.istore_n (pc := 34) (lv' := [(0, .ref (G.2.2 80)), (1, .int (nI w)), (2, .int (nI v)), (3, .int (nI (a.S.wt w)))]) dX8_weigh_34 (by decide) rfl ?_
  refine V.aload_n (pc := 35) 0 dX8_weigh_35 rfl ?_
  refine gf_X8_27 (pc := 36) dX8_weigh_36 ?_
  refine gf_X8_117 (pc := 39) 0 (by decide) dX8_weigh_39 ?_
  refine V.iload_n (pc := 42) 1 dX8_weigh_42 rfl ?_
  refine V.iload_n (pc := 43) 2 dX8_weigh_43 rfl ?_
  refine V.iast (pc := 44) (k := 8 * 0 + 7) (n := 48) (v := nI v) (by omega) (cell_Sw (by decide) rfl) w (by omega) (by decide) dX8_weigh_44 rfl ?_
  refine V.iload_n (pc := 45) 3 dX8_weigh_45 rfl ?_
  exact V.iretX (pc := 46) hF dX8_weigh_46 (CF.mk ((if_pos hwu).trans (if_pos hv1)) (hK.acted hfk hpk ((Fr.refl μ_ _).si _ _ (by decide)) (St_W hS2 hwu hv1)).1 (hK.acted hfk hpk ((Fr.refl μ_ _).si _ _ (by decide)) (St_W hS2 hwu hv1)).2)
def sp_budget (a : AS) (x : Nat) : Res := if x ≤ 9999 then rOk (nI a.S.B) (a.act (setB a.S x)) else rNo 1 a 1
theorem ok_X8_budget {G : Gx} {μ : Mu} (a : AS) (hK : Kl μ a) (x : Nat) (hx : x < 2 ^ 32) : RunsX 9 4 M_X8_budget [.ref (G.2.2 80), .int (nI x)] G μ (CF μ (sp_budget a x)) (CT nIA nIA μ (sp_budget a x)) := by
  obtain ⟨o, hPa⟩ := hK.2.2.2.2.2.2
  have hvs := hK.vs
  have hn16 := hvs.n16
  have hu48 := hvs.u48
  have hT2 := hvs.tk
  have hp16 := pow16 hvs
  have hB9 := hvs.B9
  have hp48 := pow48 hvs
  have hLL := hvs.le
  refine RunsX.of RX8 rfl (by decide) [(0, .ref (G.2.2 80)), (1, .int (nI x))] (Nat.le_of_ble_eq_true rfl) rfl (fun X hF => ?_)
  refine V.aload_n (pc := 0) 0 dX8_budget_0 rfl ?_
  refine V.iload_n (pc := 1) 1 dX8_budget_1 rfl ?_
  refine V.iconst (pc := 2) (v := nI 0) dX8_budget_2 (by decide) ?_
  refine V.sipush (pc := 3) (v := nI 9999) dX8_budget_3 (by decide) ?_
  refine cx_X8_84 (pc := 6) dX8_budget_6 hF (ok_X8_needNumber x 9999 hx (by decide)) (by decide) (by omega) (Nat.le_of_ble_eq_true rfl) (fun E μ' h => CT.one (if_neg h.1) hK (Fr.refl _ _) (by decide) h.2.1 h.2.2) (fun X hF r_ μ_ h_ => ?_)
  obtain ⟨hx1, rfl, rfl⟩ := h_
  refine V.aload_n (pc := 9) 0 dX8_budget_9 rfl ?_
  refine gf_X8_34 (pc := 10) dX8_budget_10 ?_
  refine V.aload_n (pc := 13) 0 dX8_budget_13 rfl ?_
  refine gf_X8_27 (pc := 14) dX8_budget_14 ?_
  refine cl_X8_95 (pc := 17) dX8_budget_17 (ok_X2_keep o a.k a.h a.S hPa hK.st) (by omega) (Nat.le_of_ble_eq_true rfl) (fun r_ μ_ h_ => ?_)
  obtain ⟨rfl, hfk, hpk⟩ := h_
  have hS2 : St μ_ 0 a.S := hK.st.kept hfk
  refine V.aload_n (pc := 20) 0 dX8_budget_20 rfl ?_
  refine gf_X8_27 (pc := 21) dX8_budget_21 ?_
  refine gf_X8_102 (pc := 24) 0 (by decide) (v := nI a.S.B) dX8_budget_24 hS2.B ?_
  refine V.istore_n (pc := 27) (lv' := [(0, .ref (G.2.2 80)), (1, .int (nI x)), (2, .int (nI a.S.B))]) dX8_budget_27 (by decide) rfl ?_
  refine V.aload_n (pc := 28) 0 dX8_budget_28 rfl ?_
  refine gf_X8_27 (pc := 29) dX8_budget_29 ?_
  refine V.iload_n (pc := 32) 1 dX8_budget_32 rfl ?_
  refine pf_X8_102 (pc := 33) 0 (by decide) dX8_budget_33 ?_
  refine V.iload_n (pc := 36) 2 dX8_budget_36 rfl ?_
  exact V.iretX (pc := 37) hF dX8_budget_37 (CF.mk (if_pos hx1) (hK.acted hfk hpk ((Fr.refl μ_ _).si _ _ (by decide)) (St_B hS2 hx1)).1 (hK.acted hfk hpk ((Fr.refl μ_ _).si _ _ (by decide)) (St_B hS2 hx1)).2)
def newL (S : TS) (w : Nat) (q : Bool) : Nat := if q then S.L ||| 2 ^ w else adn S.L (2 ^ w)
def sp_lean (a : AS) (w : Nat) (q : Bool) : Res := if w < a.S.u then rOk (nI (if a.S.L.testBit w = q then 0 else 1)) (a.act (setL a.S (newL a.S w q))) else rNo 1 a 0
theorem newL_lt {S : TS} (h : VS S) {w : Nat} (hw : w < S.u) (q : Bool) : newL S w q < 2 ^ S.u := by
  unfold newL
  split
  · exact or_lt h.le (Nat.pow_lt_pow_right (by decide) hw)
  · exact Nat.lt_of_le_of_lt (adn_le _ _) h.le
theorem bool_nat {p q : Bool} : p.toNat = q.toNat ↔ p = q := by cases p <;> cases q <;> decide
theorem Kl.leaned {μ μ1 μ2 : Mu} {a : AS} {L : Nat} (h : Kl μ a) (hf : Fr μ μ1 C83) (hp : ∃ o' k', k' = (if a.k = 8 then 8 else a.k + 1) ∧ Pa μ1 o' k' (push a.k a.h a.S)) (hf2 : Fr (sj μ1 (8 * 0) 4 (lN L)) μ2 (fun c => c = 8 * 0 + 4)) (hs : St μ2 0 (setL a.S L)) : Kl μ2 (a.act (setL a.S L)) ∧ Fr μ μ2 CK :=
  h.acted hf hp (((Fr.refl μ1 (fun c => c < 16)).sj _ _ (by decide)).trans hf2 (fun _ z => z) (fun c z => by omega)) hs
theorem ok_X8_lean {G : Gx} {μ : Mu} (a : AS) (hK : Kl μ a) (w : Nat) (q : Bool) (hw : w < 2 ^ 32) : RunsX 9 4 M_X8_lean [.ref (G.2.2 80), .int (nI w), .int (nI q.toNat)] G μ (CF μ (sp_lean a w q)) (CT nNS nNS μ (sp_lean a w q)) := by
  obtain ⟨o, hPa⟩ := hK.2.2.2.2.2.2
  have hvs := hK.vs
  have hn16 := hvs.n16
  have hu48 := hvs.u48
  have hT2 := hvs.tk
  have hp16 := pow16 hvs
  have hB9 := hvs.B9
  have hp48 := pow48 hvs
  have hLL := hvs.le
  refine RunsX.of RX8 rfl (by decide) [(0, .ref (G.2.2 80)), (1, .int (nI w)), (2, .int (nI q.toNat))] (Nat.le_of_ble_eq_true rfl) rfl (fun X hF => ?_)
  refine V.aload_n (pc := 0) 0 dX8_lean_0 rfl ?_
  refine V.iload_n (pc := 1) 1 dX8_lean_1 rfl ?_
  refine cx_X8_114 (pc := 2) dX8_lean_2 hF (ok_X8_needWord w a.S.u hw hK.st.u (by omega)) (by decide) (by omega) (Nat.le_of_ble_eq_true rfl) (fun E μ' h => CT.one (if_neg h.1) hK (Fr.refl _ _) (by decide) h.2.1 h.2.2) (fun X hF r_ μ_ h_ => ?_)
  obtain ⟨hwu, rfl, rfl⟩ := h_
  refine V.aload_n (pc := 5) 0 dX8_lean_5 rfl ?_
  refine gf_X8_34 (pc := 6) dX8_lean_6 ?_
  refine V.aload_n (pc := 9) 0 dX8_lean_9 rfl ?_
  refine gf_X8_27 (pc := 10) dX8_lean_10 ?_
  refine cl_X8_95 (pc := 13) dX8_lean_13 (ok_X2_keep o a.k a.h a.S hPa hK.st) (by omega) (Nat.le_of_ble_eq_true rfl) (fun r_ μ_ h_ => ?_)
  obtain ⟨rfl, hfk, hpk⟩ := h_
  have hS2 : St μ_ 0 a.S := hK.st.kept hfk
  refine V.aload_n (pc := 16) 0 dX8_lean_16 rfl ?_
  refine gf_X8_27 (pc := 17) dX8_lean_17 ?_
  refine V.iload_n (pc := 20) 1 dX8_lean_20 rfl ?_
  refine cp_X8_120 (pc := 21) 0 (by decide) dX8_lean_21 (ok_X6_leans 0 (by decide) a.S.L w hS2.L (by omega) (by omega)) (by omega) (Nat.le_of_ble_eq_true rfl) ?_
  refine V.istore_n (pc := 24) (lv' := [(0, .ref (G.2.2 80)), (1, .int (nI w)), (2, .int (nI q.toNat)), (3, .int (nI (a.S.L.testBit w).toNat))]) dX8_lean_24 (by decide) rfl ?_
  refine V.lconst (pc := 25) (v := lN 1) dX8_lean_25 (by decide) ?_
  refine V.iload_n (pc := 26) 1 dX8_lean_26 rfl ?_
  refine V.lshl (pc := 27) (v := lN (2 ^ w)) dX8_lean_27 (ll_shl1 (by omega)) ?_
  refine V.lstore (pc := 28) (lv' := [(0, .ref (G.2.2 80)), (1, .int (nI w)), (2, .int (nI q.toNat)), (3, .int (nI (a.S.L.testBit w).toNat)), (4, .long (lN (2 ^ w)))]) dX8_lean_28 (by decide) rfl ?_
  refine V.aload_n (pc := 30) 0 dX8_lean_30 rfl ?_
  refine gf_X8_27 (pc := 31) dX8_lean_31 ?_
  refine V.iload_n (pc := 34) 2 dX8_lean_34 rfl ?_
  refine V.ifB_eq (pc := 35) 51 dX8_lean_35 (by decide) (fun h_35 => ?_) (fun h_35 => ?_)
  · subst h_35
    refine V.aload_n (pc := 51) 0 dX8_lean_51 rfl ?_
    refine gf_X8_27 (pc := 52) dX8_lean_52 ?_
    refine gf_X8_124 (pc := 55) 0 (by decide) (v := lN a.S.L) dX8_lean_55 hS2.L ?_
    refine V.lload (pc := 58) 4 dX8_lean_58 rfl ?_
    refine V.ldc2_w (pc := 60) (v := (-1)) mw_3_70 dX8_lean_60 ?_
    refine V.lxor (pc := 63) (v := lN (2 ^ w) ^^^ (-1)) dX8_lean_63 rfl ?_
    refine V.land (pc := 64) (v := lN (adn a.S.L (2 ^ w))) dX8_lean_64 (ll_adn _ _) ?_
    refine pf_X8_124 (pc := 65) 0 (by decide) dX8_lean_65 ?_
    refine V.aload_n (pc := 68) 0 dX8_lean_68 rfl ?_
    refine gf_X8_27 (pc := 69) dX8_lean_69 ?_
    refine cl_X8_108 (pc := 72) 0 (by decide) dX8_lean_72 (ok_X6_linkChains 0 (by decide) (setL a.S (adn a.S.L (2 ^ w))) (St_L hS2 (by have := newL_lt hvs hwu false; exact this))) (by omega) (Nat.le_of_ble_eq_true rfl) (fun r_ μ_ h_ => ?_)
    obtain ⟨rfl, hfl, hS3⟩ := h_
    refine V.iload_n (pc := 75) 3 dX8_lean_75 rfl ?_
    refine V.iload_n (pc := 76) 2 dX8_lean_76 rfl ?_
    refine V.icmpN_ne (pc := 77) 84 dX8_lean_77 (by decide) (Nat.lt_of_le_of_lt (Bool.toNat_le _) (by decide)) (Nat.lt_of_le_of_lt (Bool.toNat_le _) (by decide)) (fun h_77 => ?_) (fun h_77 => ?_)
    · refine V.iconst (pc := 84) (v := nI 1) dX8_lean_84 (by decide) ?_
      exact V.iretX (pc := 85) hF dX8_lean_85 (CF.mk ((if_pos hwu).trans (by rw [if_neg (fun e => h_77 (bool_nat.mpr e))]; rfl)) (hK.leaned hfk hpk hfl hS3).1 (hK.leaned hfk hpk hfl hS3).2)
    · refine V.iconst (pc := 80) (v := nI 0) dX8_lean_80 (by decide) ?_
      refine V.goto (pc := 81) 85 dX8_lean_81 (by decide) ?_
      exact V.iretX (pc := 85) hF dX8_lean_85 (CF.mk ((if_pos hwu).trans (by rw [if_pos (bool_nat.mp h_77)]; rfl)) (hK.leaned hfk hpk hfl hS3).1 (hK.leaned hfk hpk hfl hS3).2)
  · subst h_35
    refine V.aload_n (pc := 38) 0 dX8_lean_38 rfl ?_
    refine gf_X8_27 (pc := 39) dX8_lean_39 ?_
    refine gf_X8_124 (pc := 42) 0 (by decide) (v := lN a.S.L) dX8_lean_42 hS2.L ?_
    refine V.lload (pc := 45) 4 dX8_lean_45 rfl ?_
    refine V.lor (pc := 47) (v := lN (a.S.L ||| (2 ^ w))) dX8_lean_47 (ll_or _ _) ?_
    refine V.goto (pc := 48) 65 dX8_lean_48 (by decide) ?_
    refine pf_X8_124 (pc := 65) 0 (by decide) dX8_lean_65 ?_
    refine V.aload_n (pc := 68) 0 dX8_lean_68 rfl ?_
    refine gf_X8_27 (pc := 69) dX8_lean_69 ?_
    refine cl_X8_108 (pc := 72) 0 (by decide) dX8_lean_72 (ok_X6_linkChains 0 (by decide) (setL a.S (a.S.L ||| (2 ^ w))) (St_L hS2 (by have := newL_lt hvs hwu true; exact this))) (by omega) (Nat.le_of_ble_eq_true rfl) (fun r_ μ_ h_ => ?_)
    obtain ⟨rfl, hfl, hS3⟩ := h_
    refine V.iload_n (pc := 75) 3 dX8_lean_75 rfl ?_
    refine V.iload_n (pc := 76) 2 dX8_lean_76 rfl ?_
    refine V.icmpN_ne (pc := 77) 84 dX8_lean_77 (by decide) (Nat.lt_of_le_of_lt (Bool.toNat_le _) (by decide)) (Nat.lt_of_le_of_lt (Bool.toNat_le _) (by decide)) (fun h_77 => ?_) (fun h_77 => ?_)
    · refine V.iconst (pc := 84) (v := nI 1) dX8_lean_84 (by decide) ?_
      exact V.iretX (pc := 85) hF dX8_lean_85 (CF.mk ((if_pos hwu).trans (by rw [if_neg (fun e => h_77 (bool_nat.mpr e))]; rfl)) (hK.leaned hfk hpk hfl hS3).1 (hK.leaned hfk hpk hfl hS3).2)
    · refine V.iconst (pc := 80) (v := nI 0) dX8_lean_80 (by decide) ?_
      refine V.goto (pc := 81) 85 dX8_lean_81 (by decide) ?_
      exact V.iretX (pc := 85) hF dX8_lean_85 (CF.mk ((if_pos hwu).trans (by rw [if_pos (bool_nat.mp h_77)]; rfl)) (hK.leaned hfk hpk hfl hS3).1 (hK.leaned hfk hpk hfl hS3).2)
def sp_take (a : AS) (s : Nat) : Res := if s < a.S.n then if fitsB a.S s a.S.T = true then rOk (nI (gain a.S s a.S.T)) (a.act (setT a.S (a.S.T ||| chain a.S s))) else rNo 2 a 2 else rNo 1 a 0
def sp_drop (a : AS) (s : Nat) : Res := if s < a.S.n then if a.S.T.testBit s = true then rOk (nI (cov a.S a.S.T) - nI (cov a.S (adn a.S.T (anUp a.S s a.S.n)))) (a.act (setT a.S (adn a.S.T (anUp a.S s a.S.n)))) else rNo 2 a 2 else rNo 1 a 0
theorem ok_X8_take {G : Gx} {μ : Mu} (a : AS) (hK : Kl μ a) (s : Nat) (hs : s < 2 ^ 32) : RunsX 9 4 M_X8_take [.ref (G.2.2 80), .int (nI s)] G μ (CF μ (sp_take a s)) (CT nNS nIS μ (sp_take a s)) := by
  obtain ⟨o, hPa⟩ := hK.2.2.2.2.2.2
  have hvs := hK.vs
  have hn16 := hvs.n16
  have hu48 := hvs.u48
  have hT2 := hvs.tk
  have hp16 := pow16 hvs
  have hB9 := hvs.B9
  have hp48 := pow48 hvs
  have hLL := hvs.le
  refine RunsX.of RX8 rfl (by decide) [(0, .ref (G.2.2 80)), (1, .int (nI s))] (Nat.le_of_ble_eq_true rfl) rfl (fun X hF => ?_)
  refine V.aload_n (pc := 0) 0 dX8_take_0 rfl ?_
  refine V.iload_n (pc := 1) 1 dX8_take_1 rfl ?_
  refine cx_X8_130 (pc := 2) dX8_take_2 hF (ok_X8_needSentence s a.S.n hs hK.st.n (by omega)) (by decide) (by omega) (Nat.le_of_ble_eq_true rfl) (fun E μ' h => CT.one (if_neg h.1) hK (Fr.refl _ _) (by decide) h.2.1 h.2.2) (fun X hF r_ μ_ h_ => ?_)
  obtain ⟨hsn, rfl, rfl⟩ := h_
  refine V.aload_n (pc := 5) 0 dX8_take_5 rfl ?_
  refine V.aload_n (pc := 6) 0 dX8_take_6 rfl ?_
  refine gf_X8_27 (pc := 7) dX8_take_7 ?_
  refine V.iload_n (pc := 10) 1 dX8_take_10 rfl ?_
  refine V.aload_n (pc := 11) 0 dX8_take_11 rfl ?_
  refine gf_X8_27 (pc := 12) dX8_take_12 ?_
  refine gf_X8_133 (pc := 15) 0 (by decide) (v := nI a.S.T) dX8_take_15 hK.st.T ?_
  refine cp_X8_136 (pc := 18) 0 (by decide) dX8_take_18 (ok_X6_fitsInto 0 (by decide) a.S hK.st s a.S.T hsn (by omega)) (by omega) (Nat.le_of_ble_eq_true rfl) ?_
  refine cx_X8_140 (pc := 21) dX8_take_21 hF (ok_X8_needState (fitsB a.S s a.S.T)) (by decide) (by omega) (Nat.le_of_ble_eq_true rfl) (fun E μ' h => CT.two ((if_pos hsn).trans (if_neg (by rw [h.1]; decide))) hK (Fr.refl _ _) (by decide) h.2.1 h.2.2) (fun X hF r_ μ_ h_ => ?_)
  obtain ⟨hfit, rfl, rfl⟩ := h_
  refine V.aload_n (pc := 24) 0 dX8_take_24 rfl ?_
  refine gf_X8_34 (pc := 25) dX8_take_25 ?_
  refine V.aload_n (pc := 28) 0 dX8_take_28 rfl ?_
  refine gf_X8_27 (pc := 29) dX8_take_29 ?_
  refine cl_X8_95 (pc := 32) dX8_take_32 (ok_X2_keep o a.k a.h a.S hPa hK.st) (by omega) (Nat.le_of_ble_eq_true rfl) (fun r_ μ_ h_ => ?_)
  obtain ⟨rfl, hfk, hpk⟩ := h_
  have hS2 : St μ_ 0 a.S := hK.st.kept hfk
  refine V.aload_n (pc := 35) 0 dX8_take_35 rfl ?_
  refine gf_X8_27 (pc := 36) dX8_take_36 ?_
  refine V.iload_n (pc := 39) 1 dX8_take_39 rfl ?_
  refine V.aload_n (pc := 40) 0 dX8_take_40 rfl ?_
  refine gf_X8_27 (pc := 41) dX8_take_41 ?_
  refine gf_X8_133 (pc := 44) 0 (by decide) (v := nI a.S.T) dX8_take_44 hS2.T ?_
  refine cp_X8_144 (pc := 47) 0 (by decide) dX8_take_47 (ok_X6_gainOf 0 (by decide) a.S hS2 s a.S.T hsn (by omega)) (by omega) (Nat.le_of_ble_eq_true rfl) ?_
  refine V.istore_n (pc := 50) (lv' := [(0, .ref (G.2.2 80)), (1, .int (nI s)), (2, .int (nI (gain a.S s a.S.T)))]) dX8_take_50 (by decide) rfl ?_
  refine V.aload_n (pc := 51) 0 dX8_take_51 rfl ?_
  refine gf_X8_27 (pc := 52) dX8_take_52 ?_
  refine V.dup (pc := 55) dX8_take_55 rfl ?_
  refine gf_X8_133 (pc := 56) 0 (by decide) (v := nI a.S.T) dX8_take_56 hS2.T ?_
  refine V.aload_n (pc := 59) 0 dX8_take_59 rfl ?_
  refine gf_X8_27 (pc := 60) dX8_take_60 ?_
  refine gf_X8_148 (pc := 63) 0 (by decide) dX8_take_63 ?_
  refine V.iload_n (pc := 66) 1 dX8_take_66 rfl ?_
  refine V.iald (pc := 67) (k := 8 * 0 + 4) (n := 16) (v := nI (chain a.S s)) (by omega) (cell_Si (by decide) ⟨by decide, by decide⟩) s (by omega) (by decide) dX8_take_67 (hS2.chain s (by omega)) ?_
  refine V.ior (pc := 68) (v := nI (a.S.T ||| (chain a.S s))) dX8_take_68 (nn_or _ _) ?_
  refine pf_X8_133 (pc := 69) 0 (by decide) dX8_take_69 ?_
  have hTn : a.S.T ||| chain a.S s < 2 ^ a.S.n := or_lt hT2 (Nat.lt_of_lt_of_le (chain_lt (S := a.S) s) (two_le (by omega)))
  refine V.iload_n (pc := 72) 2 dX8_take_72 rfl ?_
  exact V.iretX (pc := 73) hF dX8_take_73 (CF.mk ((if_pos hsn).trans (if_pos hfit)) (hK.acted hfk hpk ((Fr.refl μ_ _).si _ _ (by decide)) (St_T hS2 hTn)).1 (hK.acted hfk hpk ((Fr.refl μ_ _).si _ _ (by decide)) (St_T hS2 hTn)).2)
theorem ok_X8_drop {G : Gx} {μ : Mu} (a : AS) (hK : Kl μ a) (s : Nat) (hs : s < 2 ^ 32) : RunsX 9 4 M_X8_drop [.ref (G.2.2 80), .int (nI s)] G μ (CF μ (sp_drop a s)) (CT nNS nIS μ (sp_drop a s)) := by
  obtain ⟨o, hPa⟩ := hK.2.2.2.2.2.2
  have hvs := hK.vs
  have hn16 := hvs.n16
  have hu48 := hvs.u48
  have hT2 := hvs.tk
  have hp16 := pow16 hvs
  have hB9 := hvs.B9
  have hp48 := pow48 hvs
  have hLL := hvs.le
  have hTn : (adn a.S.T (anUp a.S s a.S.n)) < 2 ^ a.S.n := Nat.lt_of_le_of_lt (adn_le _ _) hT2
  refine RunsX.of RX8 rfl (by decide) [(0, .ref (G.2.2 80)), (1, .int (nI s))] (Nat.le_of_ble_eq_true rfl) rfl (fun X hF => ?_)
  refine V.aload_n (pc := 0) 0 dX8_drop_0 rfl ?_
  refine V.iload_n (pc := 1) 1 dX8_drop_1 rfl ?_
  refine cx_X8_130 (pc := 2) dX8_drop_2 hF (ok_X8_needSentence s a.S.n hs hK.st.n (by omega)) (by decide) (by omega) (Nat.le_of_ble_eq_true rfl) (fun E μ' h => CT.one (if_neg h.1) hK (Fr.refl _ _) (by decide) h.2.1 h.2.2) (fun X hF r_ μ_ h_ => ?_)
  obtain ⟨hsn, rfl, rfl⟩ := h_
  refine V.aload_n (pc := 5) 0 dX8_drop_5 rfl ?_
  refine V.iload_n (pc := 6) 1 dX8_drop_6 rfl ?_
  refine V.aload_n (pc := 7) 0 dX8_drop_7 rfl ?_
  refine gf_X8_27 (pc := 8) dX8_drop_8 ?_
  refine gf_X8_133 (pc := 11) 0 (by decide) (v := nI a.S.T) dX8_drop_11 hK.st.T ?_
  refine cp_X8_151 (pc := 14) dX8_drop_14 (ok_X8_isIn s a.S.T (by omega) (by omega)) (by omega) (Nat.le_of_ble_eq_true rfl) ?_
  refine cx_X8_140 (pc := 17) dX8_drop_17 hF (ok_X8_needState (a.S.T.testBit s)) (by decide) (by omega) (Nat.le_of_ble_eq_true rfl) (fun E μ' h => CT.two ((if_pos hsn).trans (if_neg (by rw [h.1]; decide))) hK (Fr.refl _ _) (by decide) h.2.1 h.2.2) (fun X hF r_ μ_ h_ => ?_)
  obtain ⟨hbit, rfl, rfl⟩ := h_
  refine V.aload_n (pc := 20) 0 dX8_drop_20 rfl ?_
  refine gf_X8_34 (pc := 21) dX8_drop_21 ?_
  refine V.aload_n (pc := 24) 0 dX8_drop_24 rfl ?_
  refine gf_X8_27 (pc := 25) dX8_drop_25 ?_
  refine cl_X8_95 (pc := 28) dX8_drop_28 (ok_X2_keep o a.k a.h a.S hPa hK.st) (by omega) (Nat.le_of_ble_eq_true rfl) (fun r_ μ_ h_ => ?_)
  obtain ⟨rfl, hfk, hpk⟩ := h_
  have hS2 : St μ_ 0 a.S := hK.st.kept hfk
  refine V.aload_n (pc := 31) 0 dX8_drop_31 rfl ?_
  refine gf_X8_27 (pc := 32) dX8_drop_32 ?_
  refine V.aload_n (pc := 35) 0 dX8_drop_35 rfl ?_
  refine gf_X8_27 (pc := 36) dX8_drop_36 ?_
  refine gf_X8_133 (pc := 39) 0 (by decide) (v := nI a.S.T) dX8_drop_39 hS2.T ?_
  refine cp_X8_154 (pc := 42) 0 (by decide) dX8_drop_42 (ok_X6_coveredBy 0 (by decide) a.S hS2 a.S.T (by omega)) (by omega) (Nat.le_of_ble_eq_true rfl) ?_
  refine V.istore_n (pc := 45) (lv' := [(0, .ref (G.2.2 80)), (1, .int (nI s)), (2, .int (nI (cov a.S a.S.T)))]) dX8_drop_45 (by decide) rfl ?_
  refine V.aload_n (pc := 46) 0 dX8_drop_46 rfl ?_
  refine gf_X8_27 (pc := 47) dX8_drop_47 ?_
  refine V.dup (pc := 50) dX8_drop_50 rfl ?_
  refine gf_X8_133 (pc := 51) 0 (by decide) (v := nI a.S.T) dX8_drop_51 hS2.T ?_
  refine V.aload_n (pc := 54) 0 dX8_drop_54 rfl ?_
  refine gf_X8_27 (pc := 55) dX8_drop_55 ?_
  refine V.iload_n (pc := 58) 1 dX8_drop_58 rfl ?_
  refine cp_X8_158 (pc := 59) 0 (by decide) dX8_drop_59 (ok_X6_allThatNeed 0 (by decide) a.S hS2 s hsn) (by omega) (Nat.le_of_ble_eq_true rfl) ?_
  refine V.iconst (pc := 62) (v := (-1)) dX8_drop_62 (by decide) ?_
  refine V.ixor (pc := 63) (v := nI (anUp a.S s a.S.n) ^^^ (-1)) dX8_drop_63 rfl ?_
  refine V.iand (pc := 64) (v := nI (adn a.S.T (anUp a.S s a.S.n))) dX8_drop_64 (nn_adn _ _) ?_
  refine pf_X8_133 (pc := 65) 0 (by decide) dX8_drop_65 ?_
  refine V.iload_n (pc := 68) 2 dX8_drop_68 rfl ?_
  refine V.aload_n (pc := 69) 0 dX8_drop_69 rfl ?_
  refine gf_X8_27 (pc := 70) dX8_drop_70 ?_
  refine V.aload_n (pc := 73) 0 dX8_drop_73 rfl ?_
  refine gf_X8_27 (pc := 74) dX8_drop_74 ?_
  refine gf_X8_133 (pc := 77) 0 (by decide) (v := nI (adn a.S.T (anUp a.S s a.S.n))) dX8_drop_77 (si_s _ _ _ _) ?_
  refine cp_X8_154 (pc := 80) 0 (by decide) dX8_drop_80 (by have h := ok_X6_coveredBy (G := G) 0 (by decide) (setT a.S (adn a.S.T (anUp a.S s a.S.n))) (St_T hS2 hTn) (adn a.S.T (anUp a.S s a.S.n)) (by omega); rw [cov_cong (S := a.S) (S' := setT a.S (adn a.S.T (anUp a.S s a.S.n))) rfl rfl rfl rfl] at h; exact h) (by omega) (Nat.le_of_ble_eq_true rfl) ?_
  refine V.isub (pc := 83) (v := nI (cov a.S a.S.T) - nI (cov a.S (adn a.S.T (anUp a.S s a.S.n)))) dX8_drop_83 rfl ?_
  exact V.iretX (pc := 84) hF dX8_drop_84 (CF.mk ((if_pos hsn).trans (if_pos hbit)) (hK.acted hfk hpk ((Fr.refl μ_ _).si _ _ (by decide)) (St_T hS2 hTn)).1 (hK.acted hfk hpk ((Fr.refl μ_ _).si _ _ (by decide)) (St_T hS2 hTn)).2)
