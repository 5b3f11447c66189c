/-! what climbs, queues and searches answer -/
theorem Best.one {S : TS} {o br mL lC : Nat} {f f' : Bool} {b b' : Nat} (h : Best S o br mL lC (fun _ => True) f b) (h' : Best S o br mL lC (fun _ => True) f' b') : f' = f ∧ b' = b := by
  rcases h with ⟨h1, h2, h3⟩ | ⟨h1, h2, h3, h4⟩
  · rcases h' with ⟨g1, g2, g3⟩ | ⟨g1, g2, g3, g4⟩
    · exact ⟨g1.trans h1.symm, g2.trans h2.symm⟩
    · exact absurd g3 (h3 b' trivial)
  · rcases h' with ⟨g1, g2, g3⟩ | ⟨g1, g2, g3, g4⟩
    · exact absurd h3 (g3 b trivial)
    · refine ⟨g1.trans h1.symm, ?_⟩
      rcases h4 b' trivial g3 with e | e
      · exact e
      · rcases g4 b trivial h3 with e2 | e2
        · exact e2.symm
        · exact absurd (e.trans e2) (fun z => z.irr)
theorem clSet_lt {S : TS} (h : VS S) {kind K : Nat} (hK : GrEnd S (decide (kind ≠ 0)) K) : clSet S kind K < 2 ^ S.n := by
  unfold clSet
  split
  · rename_i q
    rcases Nat.eq_zero_or_pos (pick S 0 false) with e | e
    · exact absurd e q.2.1
    · exact chain_ltn (pickUp_some (show (pickUp S 0 false S.n).1 = (pick S 0 false - 1) + 1 by show pick S 0 false = _; omega)).1
  · exact grSet_lt h K hK.2.2
theorem grPick_lt {S : TS} {fc : Bool} {j : Nat} (h : grPick S fc j ≠ 0) : grPick S fc j - 1 < S.n :=
  (pickUp_some (show (pickUp S (grSet S fc j) fc S.n).1 = (grPick S fc j - 1) + 1 by show grPick S fc j = _; omega)).1
theorem cl1 (S : TS) (K : Nat) : clSet S 1 K = grSet S true K ∧ clCnt S 1 K = K ∧ ∀ j, clStp S 1 K j = grPick S true j - 1 :=
  ⟨if_neg (fun q => absurd q.1 (by decide)), if_neg (fun q => absurd q.1 (by decide)), fun j => if_neg (fun q => absurd q.1 (by decide))⟩
theorem clCnt_le {S : TS} {kind K : Nat} (hK : GrEnd S (decide (kind ≠ 0)) K) (h : VS S) : clCnt S kind K ≤ 16 := by
  have h1 := hK.1
  have h2 := h.n16
  unfold clCnt
  split <;> omega
theorem grAsk_le (S : TS) (fc : Bool) : ∀ k, grAsk S fc k ≤ k * S.n
  | 0 => by rw [grAsk]; omega
  | k + 1 => by
    rw [grAsk, Nat.succ_mul]
    exact Nat.add_le_add (grAsk_le S fc k) (fitUp_le S _ S.n)
def grN (S : TS) (kind K x : Nat) : Nat := if x = 0 then clSet S kind K else if x = 1 then cov S (clSet S kind K) else if x = 2 then lenOf S (clSet S kind K) else clCnt S kind K
def sp_greedy (a : AS) (kind x K : Nat) : Res := if kind ≤ 2 then if x ≤ 3 then rOk (nI (grN a.S kind K x)) a else rNo 1 a 1 else rNo 1 a 1
theorem ok_X8_greedy {G : Gx} {μ : Mu} (a : AS) (hK : Kl μ a) (kind x : Nat) (hk : kind < 2 ^ 32) (hx : x < 2 ^ 32) (K : Nat) (hKe : GrEnd a.S (decide (kind ≠ 0)) K) : RunsX 9 4 M_X8_greedy [.ref (G.2.2 80), .int (nI kind), .int (nI x)] G μ (CF μ (sp_greedy a kind x K)) (CT nIA nIA μ (sp_greedy a kind x K)) := by
  obtain ⟨o, hPa⟩ := hK.2.2.2.2.2.2
  have hvs := hK.vs
  have hn16 := hvs.n16
  have hu48 := hvs.u48
  have hT2 := hvs.tk
  have hp16 := pow16 hvs
  have hB9 := hvs.B9
  have hp48 := pow48 hvs
  have hLL := hvs.le
  have hcs := clSet_lt hvs hKe
  refine RunsX.of RX8 rfl (by decide) [(0, .ref (G.2.2 80)), (1, .int (nI kind)), (2, .int (nI x))] (Nat.le_of_ble_eq_true rfl) rfl (fun X hF => ?_)
  refine V.aload_n (pc := 0) 0 dX8_greedy_0 rfl ?_
  refine V.iload_n (pc := 1) 1 dX8_greedy_1 rfl ?_
  refine V.iconst (pc := 2) (v := nI 0) dX8_greedy_2 (by decide) ?_
  refine V.iconst (pc := 3) (v := nI 2) dX8_greedy_3 (by decide) ?_
  refine cx_X8_84 (pc := 4) dX8_greedy_4 hF (ok_X8_needNumber kind 2 hk (by decide)) (by decide) (by omega) (Nat.le_of_ble_eq_true rfl) (fun E μ' h => CT.one (if_neg h.1) hK (Fr.refl _ _) (by decide) h.2.1 h.2.2) (fun X hF r_ μ_ h_ => ?_)
  obtain ⟨hk1, rfl, rfl⟩ := h_
  refine V.aload_n (pc := 7) 0 dX8_greedy_7 rfl ?_
  refine V.iload_n (pc := 8) 2 dX8_greedy_8 rfl ?_
  refine V.iconst (pc := 9) (v := nI 0) dX8_greedy_9 (by decide) ?_
  refine V.iconst (pc := 10) (v := nI 3) dX8_greedy_10 (by decide) ?_
  refine cx_X8_84 (pc := 11) dX8_greedy_11 hF (ok_X8_needNumber x 3 hx (by decide)) (by decide) (by omega) (Nat.le_of_ble_eq_true rfl) (fun E μ' h => CT.one ((if_pos hk1).trans (if_neg h.1)) hK (Fr.refl _ _) (by decide) h.2.1 h.2.2) (fun X hF r_ μ_ h_ => ?_)
  obtain ⟨hx1, rfl, rfl⟩ := h_
  refine V.aload_n (pc := 14) 0 dX8_greedy_14 rfl ?_
  refine gf_X8_48 (pc := 15) dX8_greedy_15 ?_
  refine V.aload_n (pc := 18) 0 dX8_greedy_18 rfl ?_
  refine gf_X8_27 (pc := 19) dX8_greedy_19 ?_
  refine V.iload_n (pc := 22) 1 dX8_greedy_22 rfl ?_
  refine cl_X8_211 (pc := 23) dX8_greedy_23 (ok_X1_run 0 (by decide) a.S hK.st kind (by omega) K hKe) (by omega) (Nat.le_of_ble_eq_true rfl) (fun r_ μ_ h_ => ?_)
  obtain ⟨rfl, hfr, hCl⟩ := h_
  have hK2 : Kl μ_ a := hK.fr hfr (fun c z => by unfold C87 at z; omega)
  have hC2 : Fr _ μ_ CK := hfr.ck (fun c z => by unfold C87 at z; omega)
  refine V.iload_n (pc := 26) 2 dX8_greedy_26 rfl ?_
  have hts_27 : x = 0 ∨ x = 1 ∨ x = 2 ∨ 2 < x := by omega
  rcases hts_27 with h_27 | h_27 | h_27 | h_27
  · refine V.tsIn (pc := 27) 0 52 h_27 (by decide) dX8_greedy_27 (by decide) rfl (by decide) ?_
    refine V.aload_n (pc := 52) 0 dX8_greedy_52 rfl ?_
    refine gf_X8_48 (pc := 53) dX8_greedy_53 ?_
    refine gf_X8_215 (pc := 56) (v := nI (clSet a.S kind K)) dX8_greedy_56 hCl.1 ?_
    exact V.iretX (pc := 59) hF dX8_greedy_59 (CF.mk ((if_pos hk1).trans ((if_pos hx1).trans (by subst h_27; rfl))) hK2 hC2)
  · refine V.tsIn (pc := 27) 1 60 h_27 (by decide) dX8_greedy_27 (by decide) rfl (by decide) ?_
    refine V.aload_n (pc := 60) 0 dX8_greedy_60 rfl ?_
    refine gf_X8_27 (pc := 61) dX8_greedy_61 ?_
    refine V.aload_n (pc := 64) 0 dX8_greedy_64 rfl ?_
    refine gf_X8_48 (pc := 65) dX8_greedy_65 ?_
    refine gf_X8_215 (pc := 68) (v := nI (clSet a.S kind K)) dX8_greedy_68 hCl.1 ?_
    refine cp_X8_154 (pc := 71) 0 (by decide) dX8_greedy_71 (ok_X6_coveredBy 0 (by decide) a.S hK2.st (clSet a.S kind K) (by omega)) (by omega) (Nat.le_of_ble_eq_true rfl) ?_
    exact V.iretX (pc := 74) hF dX8_greedy_74 (CF.mk ((if_pos hk1).trans ((if_pos hx1).trans (by subst h_27; rfl))) hK2 hC2)
  · refine V.tsIn (pc := 27) 2 75 h_27 (by decide) dX8_greedy_27 (by decide) rfl (by decide) ?_
    refine V.aload_n (pc := 75) 0 dX8_greedy_75 rfl ?_
    refine gf_X8_27 (pc := 76) dX8_greedy_76 ?_
    refine V.aload_n (pc := 79) 0 dX8_greedy_79 rfl ?_
    refine gf_X8_48 (pc := 80) dX8_greedy_80 ?_
    refine gf_X8_215 (pc := 83) (v := nI (clSet a.S kind K)) dX8_greedy_83 hCl.1 ?_
    refine cp_X8_174 (pc := 86) 0 (by decide) dX8_greedy_86 (ok_X6_lengthOf 0 (by decide) a.S hK2.st (clSet a.S kind K) (by omega)) (by omega) (Nat.le_of_ble_eq_true rfl) ?_
    exact V.iretX (pc := 89) hF dX8_greedy_89 (CF.mk ((if_pos hk1).trans ((if_pos hx1).trans (by subst h_27; rfl))) hK2 hC2)
  · refine V.tsOut (pc := 27) 90 (by omega) (by omega) dX8_greedy_27 (by decide) ?_
    refine V.aload_n (pc := 90) 0 dX8_greedy_90 rfl ?_
    refine gf_X8_48 (pc := 91) dX8_greedy_91 ?_
    refine gf_X8_218 (pc := 94) (v := nI (clCnt a.S kind K)) dX8_greedy_94 hCl.2.1 ?_
    exact V.iretX (pc := 97) hF dX8_greedy_97 (CF.mk ((if_pos hk1).trans ((if_pos hx1).trans (by rw [show x = 3 by omega]; rfl))) hK2 hC2)
def sp_step (a : AS) (kind x K : Nat) : Res := if kind ≤ 2 then if x < clCnt a.S kind K then rOk (nI (clStp a.S kind K x)) a else rNo 2 a 0 else rNo 1 a 1
theorem ok_X8_step {G : Gx} {μ : Mu} (a : AS) (hK : Kl μ a) (kind x : Nat) (hk : kind < 2 ^ 32) (hx : x < 2 ^ 32) (K : Nat) (hKe : GrEnd a.S (decide (kind ≠ 0)) K) : RunsX 9 4 M_X8_step [.ref (G.2.2 80), .int (nI kind), .int (nI x)] G μ (CF μ (sp_step a kind x K)) (CT nIA nNS μ (sp_step a kind x K)) := by
  obtain ⟨o, hPa⟩ := hK.2.2.2.2.2.2
  have hvs := hK.vs
  have hn16 := hvs.n16
  have hu48 := hvs.u48
  have hT2 := hvs.tk
  have hp16 := pow16 hvs
  have hB9 := hvs.B9
  have hp48 := pow48 hvs
  have hLL := hvs.le
  have hcc := clCnt_le hKe hvs
  refine RunsX.of RX8 rfl (by decide) [(0, .ref (G.2.2 80)), (1, .int (nI kind)), (2, .int (nI x))] (Nat.le_of_ble_eq_true rfl) rfl (fun X hF => ?_)
  refine V.aload_n (pc := 0) 0 dX8_step_0 rfl ?_
  refine V.iload_n (pc := 1) 1 dX8_step_1 rfl ?_
  refine V.iconst (pc := 2) (v := nI 0) dX8_step_2 (by decide) ?_
  refine V.iconst (pc := 3) (v := nI 2) dX8_step_3 (by decide) ?_
  refine cx_X8_84 (pc := 4) dX8_step_4 hF (ok_X8_needNumber kind 2 hk (by decide)) (by decide) (by omega) (Nat.le_of_ble_eq_true rfl) (fun E μ' h => CT.one (if_neg h.1) hK (Fr.refl _ _) (by decide) h.2.1 h.2.2) (fun X hF r_ μ_ h_ => ?_)
  obtain ⟨hk1, rfl, rfl⟩ := h_
  refine V.aload_n (pc := 7) 0 dX8_step_7 rfl ?_
  refine gf_X8_48 (pc := 8) dX8_step_8 ?_
  refine V.aload_n (pc := 11) 0 dX8_step_11 rfl ?_
  refine gf_X8_27 (pc := 12) dX8_step_12 ?_
  refine V.iload_n (pc := 15) 1 dX8_step_15 rfl ?_
  refine cl_X8_211 (pc := 16) dX8_step_16 (ok_X1_run 0 (by decide) a.S hK.st kind (by omega) K hKe) (by omega) (Nat.le_of_ble_eq_true rfl) (fun r_ μ_ h_ => ?_)
  obtain ⟨rfl, hfr, hCl⟩ := h_
  have hK2 : Kl μ_ a := hK.fr hfr (fun c z => by unfold C87 at z; omega)
  have hC2 : Fr _ μ_ CK := hfr.ck (fun c z => by unfold C87 at z; omega)
  refine V.aload_n (pc := 19) 0 dX8_step_19 rfl ?_
  by_cases hneg : x < 2 ^ 31
  · refine V.iload_n (pc := 20) 2 dX8_step_20 rfl ?_
    refine V.ifN_lt (pc := 21) 39 dX8_step_21 (by decide) (by omega) ?_
    refine V.iload_n (pc := 24) 2 dX8_step_24 rfl ?_
    refine V.aload_n (pc := 25) 0 dX8_step_25 rfl ?_
    refine gf_X8_48 (pc := 26) dX8_step_26 ?_
    refine gf_X8_218 (pc := 29) (v := nI (clCnt a.S kind K)) dX8_step_29 hCl.2.1 ?_
    refine V.icmpN_ge (pc := 32) 39 dX8_step_32 (by decide) (by omega) (by omega) (fun h_32 => ?_) (fun h_32 => ?_)
    · refine V.iconst (pc := 39) (v := nI 0) dX8_step_39 (by decide) ?_
      refine cx_X8_205 (pc := 40) dX8_step_40 hF (ok_X8_needElement false) (by decide) (by omega) (Nat.le_of_ble_eq_true rfl) (fun E μ' h => CT.two ((if_pos hk1).trans (if_neg (by omega))) hK2 hC2 (by decide) h.2.1 h.2.2) (fun X hF r_ μ_ h_ => ?_)
      exact absurd h_.1 (by decide)
    · refine V.iconst (pc := 35) (v := nI 1) dX8_step_35 (by decide) ?_
      refine V.goto (pc := 36) 40 dX8_step_36 (by decide) ?_
      refine cx_X8_205 (pc := 40) dX8_step_40 hF (ok_X8_needElement true) (by decide) (by omega) (Nat.le_of_ble_eq_true rfl) (fun E μ' h => absurd h.1 (by decide)) (fun X hF r_ μ_ h_ => ?_)
      obtain ⟨-, rfl, rfl⟩ := h_
      refine V.aload_n (pc := 43) 0 dX8_step_43 rfl ?_
      refine gf_X8_48 (pc := 44) dX8_step_44 ?_
      refine gf_X8_221 (pc := 47) dX8_step_47 ?_
      refine V.iload_n (pc := 50) 2 dX8_step_50 rfl ?_
      refine V.iald (pc := 51) (k := 87) (n := 16) (v := nI (clStp a.S kind K x)) (Nat.le_of_ble_eq_true rfl) (fun _ _ => rfl) x (by omega) (by decide) dX8_step_51 (hCl.2.2.2 x h_32) ?_
      exact V.iretX (pc := 52) hF dX8_step_52 (CF.mk ((if_pos hk1).trans (if_pos h_32)) hK2 hC2)
  · refine V.lvs (lv' := [(0, .ref (G.2.2 80)), (1, .int (nI kind)), (2, .int (nI x))]) rfl ?_
    refine V.iload_n (pc := 20) 2 dX8_step_20 rfl ?_
    refine V.if_lt (pc := 21) 39 dX8_step_21 (by decide) (fun h_21 => ?_) (fun h_21 => ?_)
    · refine V.iconst (pc := 39) (v := nI 0) dX8_step_39 (by decide) ?_
      refine cx_X8_205 (pc := 40) dX8_step_40 hF (ok_X8_needElement false) (by decide) (by omega) (Nat.le_of_ble_eq_true rfl) (fun E μ' h => CT.two ((if_pos hk1).trans (if_neg (by omega))) hK2 hC2 (by decide) h.2.1 h.2.2) (fun X hF r_ μ_ h_ => ?_)
      exact absurd h_.1 (by decide)
    · exact absurd (nI_neg (by omega) hx) h_21
def lzN (S : TS) (x K Q : Nat) : Nat := if x = 0 then (qRun S Q).set else if x = 1 then (qRun S Q).ask else grAsk S true (K + 1)
def sp_lazy (a : AS) (x K Q : Nat) : Res := if x ≤ 2 then rOk (nI (lzN a.S x K Q)) a else rNo 1 a 1
theorem ok_X8_lazy {G : Gx} {μ : Mu} (a : AS) (hK : Kl μ a) (x : Nat) (hx : x < 2 ^ 32) (K : Nat) (hKe : GrEnd a.S true K) (Q : Nat) (hQ : QEnd a.S Q) : RunsX 9 4 M_X8_lazy [.ref (G.2.2 80), .int (nI x)] G μ (CF μ (sp_lazy a x K Q)) (CT nIA nIA μ (sp_lazy a x K Q)) := by
  obtain ⟨o, hPa⟩ := hK.2.2.2.2.2.2
  have hvs := hK.vs
  have hn16 := hvs.n16
  have hu48 := hvs.u48
  have hT2 := hvs.tk
  have hp16 := pow16 hvs
  have hB9 := hvs.B9
  have hp48 := pow48 hvs
  have hLL := hvs.le
  refine RunsX.of RX8 rfl (by decide) [(0, .ref (G.2.2 80)), (1, .int (nI x))] (Nat.le_of_ble_eq_true rfl) rfl (fun X hF => ?_)
  refine V.aload_n (pc := 0) 0 dX8_lazy_0 rfl ?_
  refine V.iload_n (pc := 1) 1 dX8_lazy_1 rfl ?_
  refine V.iconst (pc := 2) (v := nI 0) dX8_lazy_2 (by decide) ?_
  refine V.iconst (pc := 3) (v := nI 2) dX8_lazy_3 (by decide) ?_
  refine cx_X8_84 (pc := 4) dX8_lazy_4 hF (ok_X8_needNumber x 2 hx (by decide)) (by decide) (by omega) (Nat.le_of_ble_eq_true rfl) (fun E μ' h => CT.one (if_neg h.1) hK (Fr.refl _ _) (by decide) h.2.1 h.2.2) (fun X hF r_ μ_ h_ => ?_)
  obtain ⟨hx1, rfl, rfl⟩ := h_
  refine V.iload_n (pc := 7) 1 dX8_lazy_7 rfl ?_
  refine V.iconst (pc := 8) (v := nI 2) dX8_lazy_8 (by decide) ?_
  refine V.icmpN_ne (pc := 9) 32 dX8_lazy_9 (by decide) (by omega) (by omega) (fun h_9 => ?_) (fun h_9 => ?_)
  · refine V.aload_n (pc := 32) 0 dX8_lazy_32 rfl ?_
    refine gf_X8_55 (pc := 33) dX8_lazy_33 ?_
    refine V.aload_n (pc := 36) 0 dX8_lazy_36 rfl ?_
    refine gf_X8_27 (pc := 37) dX8_lazy_37 ?_
    refine cl_X8_227 (pc := 40) dX8_lazy_40 (ok_X3_run 0 (by decide) a.S hK.st Q hQ) (by omega) (Nat.le_of_ble_eq_true rfl) (fun r_ μ_ h_ => ?_)
    obtain ⟨rfl, hfr, hq3, hq4⟩ := h_
    have hK2 : Kl μ_ a := hK.fr hfr (fun c z => by unfold C90 at z; omega)
    have hC2 : Fr _ μ_ CK := hfr.ck (fun c z => by unfold C90 at z; omega)
    refine V.iload_n (pc := 43) 1 dX8_lazy_43 rfl ?_
    refine V.ifN_ne (pc := 44) 57 dX8_lazy_44 (by decide) (by omega) (fun h_44 => ?_) (fun h_44 => ?_)
    · refine V.aload_n (pc := 57) 0 dX8_lazy_57 rfl ?_
      refine gf_X8_55 (pc := 58) dX8_lazy_58 ?_
      refine gf_X8_230 (pc := 61) (v := nI ((qRun a.S Q).ask)) dX8_lazy_61 hq4 ?_
      exact V.iretX (pc := 64) hF dX8_lazy_64 (CF.mk ((if_pos hx1).trans (by rw [show x = 1 by omega]; rfl)) hK2 hC2)
    · refine V.aload_n (pc := 47) 0 dX8_lazy_47 rfl ?_
      refine gf_X8_55 (pc := 48) dX8_lazy_48 ?_
      refine gf_X8_229 (pc := 51) (v := nI ((qRun a.S Q).set)) dX8_lazy_51 hq3 ?_
      refine V.goto (pc := 54) 64 dX8_lazy_54 (by decide) ?_
      exact V.iretX (pc := 64) hF dX8_lazy_64 (CF.mk ((if_pos hx1).trans (by subst h_44; rfl)) hK2 hC2)
  · refine V.aload_n (pc := 12) 0 dX8_lazy_12 rfl ?_
    refine gf_X8_48 (pc := 13) dX8_lazy_13 ?_
    refine V.aload_n (pc := 16) 0 dX8_lazy_16 rfl ?_
    refine gf_X8_27 (pc := 17) dX8_lazy_17 ?_
    refine V.iconst (pc := 20) (v := nI 1) dX8_lazy_20 (by decide) ?_
    refine cl_X8_211 (pc := 21) dX8_lazy_21 (ok_X1_run 0 (by decide) a.S hK.st 1 (by omega) K hKe) (by omega) (Nat.le_of_ble_eq_true rfl) (fun r_ μ_ h_ => ?_)
    obtain ⟨rfl, hfr, hCl⟩ := h_
    have hK2 : Kl μ_ a := hK.fr hfr (fun c z => by unfold C87 at z; omega)
    have hC2 : Fr _ μ_ CK := hfr.ck (fun c z => by unfold C87 at z; omega)
    refine V.aload_n (pc := 24) 0 dX8_lazy_24 rfl ?_
    refine gf_X8_48 (pc := 25) dX8_lazy_25 ?_
    refine gf_X8_224 (pc := 28) (v := nI (grAsk a.S (decide (1 ≠ 0)) (K + 1))) dX8_lazy_28 hCl.2.2.1 ?_
    exact V.iretX (pc := 31) hF dX8_lazy_31 (CF.mk ((if_pos hx1).trans (by subst h_9; rfl)) hK2 hC2)
def bdL (S : TS) (K : Nat) : Nat := (clRun S (clStp S 1 K) (clCnt S 1 K)).2.1
def bdB (S : TS) (K : Nat) : Nat := (clRun S (clStp S 1 K) (clCnt S 1 K)).2.2
def bdV (S : TS) (x K : Nat) : Int32 := if x = 0 then pv (pick S 0 false) else if x = 1 then nI (bdL S K) else if x = 2 then nI (bdB S K) else if bdL S K = 0 then nI 1000 else nI (cov S (clSet S 2 K) * 1000 / bdL S K)
def sp_bound (a : AS) (x K : Nat) : Res := if x ≤ 3 then rOk (bdV a.S x K) a else rNo 1 a 1
theorem bdL_le {S : TS} (h : VS S) {K : Nat} (hK : GrEnd S true K) : bdL S K ≤ 480768000 ∧ ∀ j, j < clCnt S 1 K → clStp S 1 K j < S.n := by
  have q : ∀ j, j < clCnt S 1 K → clStp S 1 K j < S.n := fun j hj => by
    rw [(cl1 S K).2.2 j]
    rw [(cl1 S K).2.1] at hj
    exact grPick_lt (hK.2.2 j hj)
  exact ⟨(clRun_lt h _ q).2, q⟩
theorem clRun_b {S : TS} {stp : Nat → Nat} : ∀ k, (clRun S stp k).2.2 ≤ k
  | 0 => Nat.le_refl _
  | k + 1 => by
    have ih := clRun_b (S := S) (stp := stp) k
    by_cases c : ceilBy S ((clRun S stp k).1 ||| chain S (stp k)) < (clRun S stp k).2.1
    · rw [clRun_t c]; exact Nat.le_refl _
    · rw [clRun_f c]; show (clRun S stp k).2.2 ≤ _; omega
theorem ok_X8_bound {G : Gx} {μ : Mu} (a : AS) (hK : Kl μ a) (x : Nat) (hx : x < 2 ^ 32) (K : Nat) (hKe : GrEnd a.S true K) : RunsX 9 4 M_X8_bound [.ref (G.2.2 80), .int (nI x)] G μ (CF μ (sp_bound a x K)) (CT nIA nIA μ (sp_bound a x K)) := by
  obtain ⟨o, hPa⟩ := hK.2.2.2.2.2.2
  have hvs := hK.vs
  have hn16 := hvs.n16
  have hu48 := hvs.u48
  have hT2 := hvs.tk
  have hp16 := pow16 hvs
  have hB9 := hvs.B9
  have hp48 := pow48 hvs
  have hLL := hvs.le
  have hbl := bdL_le hvs hKe
  have hblb := hbl.1
  have hcs := clSet_lt hvs (kind := 2) hKe
  have hcv : cov a.S (clSet a.S 2 K) ≤ 48000 := wOf_le hvs _
  have hcc := clCnt_le (kind := 1) hKe hvs
  refine RunsX.of RX8 rfl (by decide) [(0, .ref (G.2.2 80)), (1, .int (nI x))] (Nat.le_of_ble_eq_true rfl) rfl (fun X hF => ?_)
  refine V.aload_n (pc := 0) 0 dX8_bound_0 rfl ?_
  refine V.iload_n (pc := 1) 1 dX8_bound_1 rfl ?_
  refine V.iconst (pc := 2) (v := nI 0) dX8_bound_2 (by decide) ?_
  refine V.iconst (pc := 3) (v := nI 3) dX8_bound_3 (by decide) ?_
  refine cx_X8_84 (pc := 4) dX8_bound_4 hF (ok_X8_needNumber x 3 hx (by decide)) (by decide) (by omega) (Nat.le_of_ble_eq_true rfl) (fun E μ' h => CT.one (if_neg h.1) hK (Fr.refl _ _) (by decide) h.2.1 h.2.2) (fun X hF r_ μ_ h_ => ?_)
  obtain ⟨hx1, rfl, rfl⟩ := h_
  refine V.iload_n (pc := 7) 1 dX8_bound_7 rfl ?_
  refine V.ifN_ne (pc := 8) 21 dX8_bound_8 (by decide) (by omega) (fun h_8 => ?_) (fun h_8 => ?_)
  · refine V.aload_n (pc := 21) 0 dX8_bound_21 rfl ?_
    refine gf_X8_48 (pc := 22) dX8_bound_22 ?_
    refine V.aload_n (pc := 25) 0 dX8_bound_25 rfl ?_
    refine gf_X8_27 (pc := 26) dX8_bound_26 ?_
    refine V.iconst (pc := 29) (v := nI 1) dX8_bound_29 (by decide) ?_
    refine cl_X8_211 (pc := 30) dX8_bound_30 (ok_X1_run 0 (by decide) a.S hK.st 1 (by omega) K hKe) (by omega) (Nat.le_of_ble_eq_true rfl) (fun r_ μ_ h_ => ?_)
    obtain ⟨rfl, hfr, hCl⟩ := h_
    have hK2 : Kl μ_ a := hK.fr hfr (fun c z => by unfold C87 at z; omega)
    have hC2 : Fr _ μ_ CK := hfr.ck (fun c z => by unfold C87 at z; omega)
    refine V.aload_n (pc := 33) 0 dX8_bound_33 rfl ?_
    refine gf_X8_62 (pc := 34) dX8_bound_34 ?_
    refine V.aload_n (pc := 37) 0 dX8_bound_37 rfl ?_
    refine gf_X8_27 (pc := 38) dX8_bound_38 ?_
    refine V.aload_n (pc := 41) 0 dX8_bound_41 rfl ?_
    refine gf_X8_48 (pc := 42) dX8_bound_42 ?_
    refine cl_X8_235 (pc := 45) dX8_bound_45 (ok_X0_run 0 (by decide) a.S hK2.st _ _ _ _ hCl hcc hbl.2) (by omega) (Nat.le_of_ble_eq_true rfl) (fun r_ μ_ h_ => ?_)
    obtain ⟨rfl, hfr1, hc0, hc1⟩ := h_
    have hK3 : Kl μ_ a := hK2.fr hfr1 (fun c z => by unfold C91 at z; omega)
    have hC3 : Fr _ μ_ CK := hC2.ck2 hfr1 (fun c z => by unfold C91 at z; omega)
    refine V.iload_n (pc := 48) 1 dX8_bound_48 rfl ?_
    refine V.iconst (pc := 49) (v := nI 1) dX8_bound_49 (by decide) ?_
    refine V.icmpN_ne (pc := 50) 61 dX8_bound_50 (by decide) (by omega) (by omega) (fun h_50 => ?_) (fun h_50 => ?_)
    · refine V.iload_n (pc := 61) 1 dX8_bound_61 rfl ?_
      refine V.iconst (pc := 62) (v := nI 2) dX8_bound_62 (by decide) ?_
      refine V.icmpN_ne (pc := 63) 74 dX8_bound_63 (by decide) (by omega) (by omega) (fun h_63 => ?_) (fun h_63 => ?_)
      · refine V.aload_n (pc := 74) 0 dX8_bound_74 rfl ?_
        refine gf_X8_62 (pc := 75) dX8_bound_75 ?_
        refine gf_X8_238 (pc := 78) (v := nI (bdL a.S K)) dX8_bound_78 hc0 ?_
        refine V.ifN_ne (pc := 81) 88 dX8_bound_81 (by decide) (by omega) (fun h_81 => ?_) (fun h_81 => ?_)
        · refine V.aload_n (pc := 88) 0 dX8_bound_88 rfl ?_
          refine gf_X8_48 (pc := 89) dX8_bound_89 ?_
          refine V.aload_n (pc := 92) 0 dX8_bound_92 rfl ?_
          refine gf_X8_27 (pc := 93) dX8_bound_93 ?_
          refine V.iconst (pc := 96) (v := nI 2) dX8_bound_96 (by decide) ?_
          refine cl_X8_211 (pc := 97) dX8_bound_97 (ok_X1_run 0 (by decide) a.S hK3.st 2 (by omega) K hKe) (by omega) (Nat.le_of_ble_eq_true rfl) (fun r_ μ_ h_ => ?_)
          obtain ⟨rfl, hfr, hCl⟩ := h_
          have hK4 : Kl μ_ a := hK3.fr hfr (fun c z => by unfold C87 at z; omega)
          have hC4 : Fr _ μ_ CK := hC3.ck2 hfr (fun c z => by unfold C87 at z; omega)
          refine V.aload_n (pc := 100) 0 dX8_bound_100 rfl ?_
          refine gf_X8_27 (pc := 101) dX8_bound_101 ?_
          refine V.aload_n (pc := 104) 0 dX8_bound_104 rfl ?_
          refine gf_X8_48 (pc := 105) dX8_bound_105 ?_
          refine gf_X8_215 (pc := 108) (v := nI (clSet a.S 2 K)) dX8_bound_108 hCl.1 ?_
          refine cp_X8_154 (pc := 111) 0 (by decide) dX8_bound_111 (ok_X6_coveredBy 0 (by decide) a.S hK4.st (clSet a.S 2 K) (by omega)) (by omega) (Nat.le_of_ble_eq_true rfl) ?_
          refine V.sipush (pc := 114) (v := nI 1000) dX8_bound_114 (by decide) ?_
          refine V.imul (pc := 117) (v := nI ((cov a.S (clSet a.S 2 K)) * 1000)) dX8_bound_117 (pk_mul _ _) ?_
          refine V.aload_n (pc := 118) 0 dX8_bound_118 rfl ?_
          refine gf_X8_62 (pc := 119) dX8_bound_119 ?_
          refine gf_X8_238 (pc := 122) (v := nI (bdL a.S K)) dX8_bound_122 ((congrFun (hfr 91 (by unfold C87; omega)).1 0).trans hc0) ?_
          refine V.idiv (pc := 125) (v := nI (((cov a.S (clSet a.S 2 K)) * 1000) / (bdL a.S K))) dX8_bound_125 (nn_div0 (by omega) (by omega)) (pk_div (by omega) (by omega) (by omega)) ?_
          exact V.iretX (pc := 126) hF dX8_bound_126 (CF.mk ((if_pos hx1).trans (by rw [show x = 3 by omega]; show rOk (if bdL a.S K = 0 then _ else _) a = _; rw [if_neg (by omega)])) hK4 hC4)
        · refine V.sipush (pc := 84) (v := nI 1000) dX8_bound_84 (by decide) ?_
          exact V.iretX (pc := 87) hF dX8_bound_87 (CF.mk ((if_pos hx1).trans (by rw [show x = 3 by omega]; show rOk (if bdL a.S K = 0 then _ else _) a = _; rw [if_pos h_81])) hK3 hC3)
      · refine V.aload_n (pc := 66) 0 dX8_bound_66 rfl ?_
        refine gf_X8_62 (pc := 67) dX8_bound_67 ?_
        refine gf_X8_241 (pc := 70) (v := nI (bdB a.S K)) dX8_bound_70 hc1 ?_
        exact V.iretX (pc := 73) hF dX8_bound_73 (CF.mk ((if_pos hx1).trans (by subst h_63; rfl)) hK3 hC3)
    · refine V.aload_n (pc := 53) 0 dX8_bound_53 rfl ?_
      refine gf_X8_62 (pc := 54) dX8_bound_54 ?_
      refine gf_X8_238 (pc := 57) (v := nI (bdL a.S K)) dX8_bound_57 hc0 ?_
      exact V.iretX (pc := 60) hF dX8_bound_60 (CF.mk ((if_pos hx1).trans (by subst h_50; rfl)) hK3 hC3)
  · refine V.aload_n (pc := 11) 0 dX8_bound_11 rfl ?_
    refine gf_X8_27 (pc := 12) dX8_bound_12 ?_
    refine V.iconst (pc := 15) (v := nI 0) dX8_bound_15 (by decide) ?_
    refine V.iconst (pc := 16) (v := nI 0) dX8_bound_16 (by decide) ?_
    refine cp_X8_231 (pc := 17) dX8_bound_17 (ok_X1_pickFor 0 (by decide) a.S hK.st 0 false (by decide)) (by omega) (Nat.le_of_ble_eq_true rfl) ?_
    exact V.iretX (pc := 20) hF dX8_bound_20 (CF.mk ((if_pos hx1).trans (by subst h_8; rfl)) hK (Fr.refl _ _))
def bsN (S : TS) (b x : Nat) : Nat := if x = 0 then b else if x = 1 then cov S b else lenOf S b
def sp_best (a : AS) (m x b : Nat) : Res := if m ≤ 9999 then if x ≤ 2 then rOk (nI (bsN a.S b x)) a else rNo 1 a 1 else rNo 1 a 1
theorem ok_X8_best {G : Gx} {μ : Mu} (a : AS) (hK : Kl μ a) (m x : Nat) (hm : m < 2 ^ 32) (hx : x < 2 ^ 32) (f1 : Bool) (b1 : Nat) (hB : Best a.S 0 0 m 0 (fun _ => True) f1 b1) : RunsX 23 4 M_X8_best [.ref (G.2.2 80), .int (nI m), .int (nI x)] G μ (CF μ (sp_best a m x b1)) (CT nIA nIA μ (sp_best a m x b1)) := by
  obtain ⟨o, hPa⟩ := hK.2.2.2.2.2.2
  have hvs := hK.vs
  have hn16 := hvs.n16
  have hu48 := hvs.u48
  have hT2 := hvs.tk
  have hp16 := pow16 hvs
  have hB9 := hvs.B9
  have hp48 := pow48 hvs
  have hLL := hvs.le
  refine RunsX.of RX8 rfl (by decide) [(0, .ref (G.2.2 80)), (1, .int (nI m)), (2, .int (nI x))] (Nat.le_of_ble_eq_true rfl) rfl (fun X hF => ?_)
  refine V.aload_n (pc := 0) 0 dX8_best_0 rfl ?_
  refine V.iload_n (pc := 1) 1 dX8_best_1 rfl ?_
  refine V.iconst (pc := 2) (v := nI 0) dX8_best_2 (by decide) ?_
  refine V.sipush (pc := 3) (v := nI 9999) dX8_best_3 (by decide) ?_
  refine cx_X8_84 (pc := 6) dX8_best_6 hF (ok_X8_needNumber m 9999 hm (by decide)) (by decide) (by omega) (Nat.le_of_ble_eq_true rfl) (fun E μ' h => CT.one (if_neg h.1) hK (Fr.refl _ _) (by decide) h.2.1 h.2.2) (fun X hF r_ μ_ h_ => ?_)
  obtain ⟨hm1, rfl, rfl⟩ := h_
  refine V.aload_n (pc := 9) 0 dX8_best_9 rfl ?_
  refine V.iload_n (pc := 10) 2 dX8_best_10 rfl ?_
  refine V.iconst (pc := 11) (v := nI 0) dX8_best_11 (by decide) ?_
  refine V.iconst (pc := 12) (v := nI 2) dX8_best_12 (by decide) ?_
  refine cx_X8_84 (pc := 13) dX8_best_13 hF (ok_X8_needNumber x 2 hx (by decide)) (by decide) (by omega) (Nat.le_of_ble_eq_true rfl) (fun E μ' h => CT.one ((if_pos hm1).trans (if_neg h.1)) hK (Fr.refl _ _) (by decide) h.2.1 h.2.2) (fun X hF r_ μ_ h_ => ?_)
  obtain ⟨hx1, rfl, rfl⟩ := h_
  refine V.aload_n (pc := 16) 0 dX8_best_16 rfl ?_
  refine gf_X8_69 (pc := 17) dX8_best_17 ?_
  refine V.aload_n (pc := 20) 0 dX8_best_20 rfl ?_
  refine gf_X8_27 (pc := 21) dX8_best_21 ?_
  refine V.iload_n (pc := 24) 1 dX8_best_24 rfl ?_
  refine V.iconst (pc := 25) (v := (-1)) dX8_best_25 (by decide) ?_
  refine cl_X8_244 (pc := 26) dX8_best_26 (ok_X5_findMost 0 (by decide) a.S hK.st m 0 hm1 (by omega)) (by omega) (Nat.le_of_ble_eq_true rfl) (fun r_ μ_ h_ => ?_)
  obtain ⟨rfl, hfr, f1, b1, hSb, hB1⟩ := h_
  obtain ⟨rfl, rfl⟩ := hB.one hB1
  have hK2 : Kl μ_ a := hK.fr hfr (fun c z => by unfold C92 at z; omega)
  have hC2 : Fr _ μ_ CK := hfr.ck (fun c z => by unfold C92 at z; omega)
  refine V.iload_n (pc := 29) 2 dX8_best_29 rfl ?_
  refine V.ifN_ne (pc := 30) 41 dX8_best_30 (by decide) (by omega) (fun h_30 => ?_) (fun h_30 => ?_)
  · refine V.iload_n (pc := 41) 2 dX8_best_41 rfl ?_
    refine V.iconst (pc := 42) (v := nI 1) dX8_best_42 (by decide) ?_
    refine V.icmpN_ne (pc := 43) 56 dX8_best_43 (by decide) (by omega) (by omega) (fun h_43 => ?_) (fun h_43 => ?_)
    · refine V.aload_n (pc := 56) 0 dX8_best_56 rfl ?_
      refine gf_X8_69 (pc := 57) dX8_best_57 ?_
      refine gf_X8_252 (pc := 60) (v := nI (lenOf a.S b1)) dX8_best_60 hSb.2.2.2.1 ?_
      exact V.iretX (pc := 63) hF dX8_best_63 (CF.mk ((if_pos hm1).trans <| (if_pos hx1).trans <| (by rw [show x = 2 by omega]; rfl)) hK2 hC2)
    · refine V.aload_n (pc := 46) 0 dX8_best_46 rfl ?_
      refine gf_X8_69 (pc := 47) dX8_best_47 ?_
      refine gf_X8_249 (pc := 50) (v := nI (cov a.S b1)) dX8_best_50 hSb.2.2.1 ?_
      refine V.goto (pc := 53) 63 dX8_best_53 (by decide) ?_
      exact V.iretX (pc := 63) hF dX8_best_63 (CF.mk ((if_pos hm1).trans <| (if_pos hx1).trans <| (by rw [show x = 1 by omega]; rfl)) hK2 hC2)
  · refine V.aload_n (pc := 33) 0 dX8_best_33 rfl ?_
    refine gf_X8_69 (pc := 34) dX8_best_34 ?_
    refine gf_X8_248 (pc := 37) (v := nI b1) dX8_best_37 hSb.2.1 ?_
    exact V.iretX (pc := 40) hF dX8_best_40 (CF.mk ((if_pos hm1).trans ((if_pos hx1).trans (by subst h_30; rfl))) hK2 hC2)
def fwN (S : TS) (b x : Nat) : Nat := if x = 0 then b else if x = 1 then cntB b 16 else lenOf S b
def sp_fewest (a : AS) (x b : Nat) : Res := if x ≤ 2 then rOk (nI (fwN a.S b x)) a else rNo 1 a 1
theorem ok_X8_fewest {G : Gx} {μ : Mu} (a : AS) (hK : Kl μ a) (x : Nat) (hx : x < 2 ^ 32) (f1 : Bool) (b1 : Nat) (hB : Best a.S 1 0 2147483647 (cov a.S (2 ^ a.S.n - 1)) (fun _ => True) f1 b1) : RunsX 23 4 M_X8_fewest [.ref (G.2.2 80), .int (nI x)] G μ (CF μ (sp_fewest a x b1)) (CT nIA nIA μ (sp_fewest a x b1)) := by
  obtain ⟨o, hPa⟩ := hK.2.2.2.2.2.2
  have hvs := hK.vs
  have hn16 := hvs.n16
  have hu48 := hvs.u48
  have hT2 := hvs.tk
  have hp16 := pow16 hvs
  have hB9 := hvs.B9
  have hp48 := pow48 hvs
  have hLL := hvs.le
  refine RunsX.of RX8 rfl (by decide) [(0, .ref (G.2.2 80)), (1, .int (nI x))] (Nat.le_of_ble_eq_true rfl) rfl (fun X hF => ?_)
  refine V.aload_n (pc := 0) 0 dX8_fewest_0 rfl ?_
  refine V.iload_n (pc := 1) 1 dX8_fewest_1 rfl ?_
  refine V.iconst (pc := 2) (v := nI 0) dX8_fewest_2 (by decide) ?_
  refine V.iconst (pc := 3) (v := nI 2) dX8_fewest_3 (by decide) ?_
  refine cx_X8_84 (pc := 4) dX8_fewest_4 hF (ok_X8_needNumber x 2 hx (by decide)) (by decide) (by omega) (Nat.le_of_ble_eq_true rfl) (fun E μ' h => CT.one (if_neg h.1) hK (Fr.refl _ _) (by decide) h.2.1 h.2.2) (fun X hF r_ μ_ h_ => ?_)
  obtain ⟨hx1, rfl, rfl⟩ := h_
  refine V.aload_n (pc := 7) 0 dX8_fewest_7 rfl ?_
  refine gf_X8_69 (pc := 8) dX8_fewest_8 ?_
  refine V.aload_n (pc := 11) 0 dX8_fewest_11 rfl ?_
  refine gf_X8_27 (pc := 12) dX8_fewest_12 ?_
  refine cl_X8_255 (pc := 15) dX8_fewest_15 (ok_X5_findFewest 0 (by decide) a.S hK.st) (by omega) (Nat.le_of_ble_eq_true rfl) (fun r_ μ_ h_ => ?_)
  obtain ⟨rfl, hfr, f1, b1, hSb, hB1⟩ := h_
  obtain ⟨rfl, rfl⟩ := hB.one hB1
  have hK2 : Kl μ_ a := hK.fr hfr (fun c z => by unfold C92 at z; omega)
  have hC2 : Fr _ μ_ CK := hfr.ck (fun c z => by unfold C92 at z; omega)
  refine V.iload_n (pc := 18) 1 dX8_fewest_18 rfl ?_
  refine V.ifN_ne (pc := 19) 30 dX8_fewest_19 (by decide) (by omega) (fun h_19 => ?_) (fun h_19 => ?_)
  · refine V.iload_n (pc := 30) 1 dX8_fewest_30 rfl ?_
    refine V.iconst (pc := 31) (v := nI 1) dX8_fewest_31 (by decide) ?_
    refine V.icmpN_ne (pc := 32) 48 dX8_fewest_32 (by decide) (by omega) (by omega) (fun h_32 => ?_) (fun h_32 => ?_)
    · refine V.aload_n (pc := 48) 0 dX8_fewest_48 rfl ?_
      refine gf_X8_69 (pc := 49) dX8_fewest_49 ?_
      refine gf_X8_252 (pc := 52) (v := nI (lenOf a.S b1)) dX8_fewest_52 hSb.2.2.2.1 ?_
      exact V.iretX (pc := 55) hF dX8_fewest_55 (CF.mk ((if_pos hx1).trans <| (by rw [show x = 2 by omega]; rfl)) hK2 hC2)
    · refine V.aload_n (pc := 35) 0 dX8_fewest_35 rfl ?_
      refine gf_X8_69 (pc := 36) dX8_fewest_36 ?_
      refine gf_X8_248 (pc := 39) (v := nI b1) dX8_fewest_39 hSb.2.1 ?_
      refine cp_X8_258 (pc := 42) dX8_fewest_42 (ok_bitCount b1 hSb.2.2.2.2) (by omega) (Nat.le_of_ble_eq_true rfl) ?_
      refine V.goto (pc := 45) 55 dX8_fewest_45 (by decide) ?_
      exact V.iretX (pc := 55) hF dX8_fewest_55 (CF.mk ((if_pos hx1).trans <| (by rw [show x = 1 by omega]; rfl)) hK2 hC2)
  · refine V.aload_n (pc := 22) 0 dX8_fewest_22 rfl ?_
    refine gf_X8_69 (pc := 23) dX8_fewest_23 ?_
    refine gf_X8_248 (pc := 26) (v := nI b1) dX8_fewest_26 hSb.2.1 ?_
    exact V.iretX (pc := 29) hF dX8_fewest_29 (CF.mk ((if_pos hx1).trans (by subst h_19; rfl)) hK2 hC2)
def shC (S : TS) (m : Nat) : Nat := (cov S (2 ^ S.n - 1) * m + 100 - 1) / 100
def sp_shortest (a : AS) (m x b : Nat) : Res := if m ≤ 100 then if x ≤ 2 then rOk (nI (bsN a.S b x)) a else rNo 1 a 1 else rNo 1 a 1
theorem ok_X8_shortest {G : Gx} {μ : Mu} (a : AS) (hK : Kl μ a) (m x : Nat) (hm : m < 2 ^ 32) (hx : x < 2 ^ 32) (f1 : Bool) (b1 : Nat) (hB : Best a.S 2 0 2147483647 (shC a.S m) (fun _ => True) f1 b1) : RunsX 23 4 M_X8_shortest [.ref (G.2.2 80), .int (nI m), .int (nI x)] G μ (CF μ (sp_shortest a m x b1)) (CT nIA nIA μ (sp_shortest a m x b1)) := by
  obtain ⟨o, hPa⟩ := hK.2.2.2.2.2.2
  have hvs := hK.vs
  have hn16 := hvs.n16
  have hu48 := hvs.u48
  have hT2 := hvs.tk
  have hp16 := pow16 hvs
  have hB9 := hvs.B9
  have hp48 := pow48 hvs
  have hLL := hvs.le
  refine RunsX.of RX8 rfl (by decide) [(0, .ref (G.2.2 80)), (1, .int (nI m)), (2, .int (nI x))] (Nat.le_of_ble_eq_true rfl) rfl (fun X hF => ?_)
  refine V.aload_n (pc := 0) 0 dX8_shortest_0 rfl ?_
  refine V.iload_n (pc := 1) 1 dX8_shortest_1 rfl ?_
  refine V.iconst (pc := 2) (v := nI 0) dX8_shortest_2 (by decide) ?_
  refine V.bipush (pc := 3) (v := nI 100) dX8_shortest_3 (by decide) ?_
  refine cx_X8_84 (pc := 5) dX8_shortest_5 hF (ok_X8_needNumber m 100 hm (by decide)) (by decide) (by omega) (Nat.le_of_ble_eq_true rfl) (fun E μ' h => CT.one (if_neg h.1) hK (Fr.refl _ _) (by decide) h.2.1 h.2.2) (fun X hF r_ μ_ h_ => ?_)
  obtain ⟨hm1, rfl, rfl⟩ := h_
  refine V.aload_n (pc := 8) 0 dX8_shortest_8 rfl ?_
  refine V.iload_n (pc := 9) 2 dX8_shortest_9 rfl ?_
  refine V.iconst (pc := 10) (v := nI 0) dX8_shortest_10 (by decide) ?_
  refine V.iconst (pc := 11) (v := nI 2) dX8_shortest_11 (by decide) ?_
  refine cx_X8_84 (pc := 12) dX8_shortest_12 hF (ok_X8_needNumber x 2 hx (by decide)) (by decide) (by omega) (Nat.le_of_ble_eq_true rfl) (fun E μ' h => CT.one ((if_pos hm1).trans (if_neg h.1)) hK (Fr.refl _ _) (by decide) h.2.1 h.2.2) (fun X hF r_ μ_ h_ => ?_)
  obtain ⟨hx1, rfl, rfl⟩ := h_
  refine V.aload_n (pc := 15) 0 dX8_shortest_15 rfl ?_
  refine gf_X8_27 (pc := 16) dX8_shortest_16 ?_
  refine V.aload_n (pc := 19) 0 dX8_shortest_19 rfl ?_
  refine gf_X8_27 (pc := 20) dX8_shortest_20 ?_
  refine cp_X8_170 (pc := 23) 0 (by decide) dX8_shortest_23 (ok_X6_everySentence 0 (by decide) a.S hK.st) (by omega) (Nat.le_of_ble_eq_true rfl) ?_
  refine cp_X8_154 (pc := 26) 0 (by decide) dX8_shortest_26 (ok_X6_coveredBy 0 (by decide) a.S hK.st (2 ^ a.S.n - 1) (by omega)) (by omega) (Nat.le_of_ble_eq_true rfl) ?_
  have hcf : cov a.S (2 ^ a.S.n - 1) ≤ 48000 := wOf_le hvs _
  have hmul : cov a.S (2 ^ a.S.n - 1) * m ≤ 48000 * 100 := Nat.mul_le_mul hcf hm1
  refine V.istore_n (pc := 29) (lv' := [(0, .ref (G.2.2 80)), (1, .int (nI m)), (2, .int (nI x)), (3, .int (nI (cov a.S (2 ^ a.S.n - 1))))]) dX8_shortest_29 (by decide) rfl ?_
  refine V.aload_n (pc := 30) 0 dX8_shortest_30 rfl ?_
  refine gf_X8_69 (pc := 31) dX8_shortest_31 ?_
  refine V.aload_n (pc := 34) 0 dX8_shortest_34 rfl ?_
  refine gf_X8_27 (pc := 35) dX8_shortest_35 ?_
  refine V.iload_n (pc := 38) 3 dX8_shortest_38 rfl ?_
  refine V.iload_n (pc := 39) 1 dX8_shortest_39 rfl ?_
  refine V.imul (pc := 40) (v := nI ((cov a.S (2 ^ a.S.n - 1)) * m)) dX8_shortest_40 (pk_mul _ _) ?_
  refine V.bipush (pc := 41) (v := nI 100) dX8_shortest_41 (by decide) ?_
  refine V.iadd (pc := 43) (v := nI ((cov a.S (2 ^ a.S.n - 1)) * m + 100)) dX8_shortest_43 (nI_add _ _) ?_
  refine V.iconst (pc := 44) (v := nI 1) dX8_shortest_44 (by decide) ?_
  refine V.isub (pc := 45) (v := nI (((cov a.S (2 ^ a.S.n - 1)) * m + 100) - 1)) dX8_shortest_45 (pk_sub (by omega)) ?_
  refine V.bipush (pc := 46) (v := nI 100) dX8_shortest_46 (by decide) ?_
  refine V.idiv (pc := 48) (v := nI (shC a.S m)) dX8_shortest_48 (nn_div0 (by omega) (by omega)) ((pk_div (by omega) (by omega) (by omega)).trans (congrArg nI rfl)) ?_
  refine cl_X8_262 (pc := 49) dX8_shortest_49 (ok_X5_findShortest 0 (by decide) a.S hK.st (shC a.S m) (by unfold shC; omega)) (by omega) (Nat.le_of_ble_eq_true rfl) (fun r_ μ_ h_ => ?_)
  obtain ⟨rfl, hfr, f1, b1, hSb, hB1⟩ := h_
  obtain ⟨rfl, rfl⟩ := hB.one hB1
  have hK2 : Kl μ_ a := hK.fr hfr (fun c z => by unfold C92 at z; omega)
  have hC2 : Fr _ μ_ CK := hfr.ck (fun c z => by unfold C92 at z; omega)
  refine V.iload_n (pc := 52) 2 dX8_shortest_52 rfl ?_
  refine V.ifN_ne (pc := 53) 64 dX8_shortest_53 (by decide) (by omega) (fun h_53 => ?_) (fun h_53 => ?_)
  · refine V.iload_n (pc := 64) 2 dX8_shortest_64 rfl ?_
    refine V.iconst (pc := 65) (v := nI 1) dX8_shortest_65 (by decide) ?_
    refine V.icmpN_ne (pc := 66) 79 dX8_shortest_66 (by decide) (by omega) (by omega) (fun h_66 => ?_) (fun h_66 => ?_)
    · refine V.aload_n (pc := 79) 0 dX8_shortest_79 rfl ?_
      refine gf_X8_69 (pc := 80) dX8_shortest_80 ?_
      refine gf_X8_252 (pc := 83) (v := nI (lenOf a.S b1)) dX8_shortest_83 hSb.2.2.2.1 ?_
      exact V.iretX (pc := 86) hF dX8_shortest_86 (CF.mk ((if_pos hm1).trans <| (if_pos hx1).trans <| (by rw [show x = 2 by omega]; rfl)) hK2 hC2)
    · refine V.aload_n (pc := 69) 0 dX8_shortest_69 rfl ?_
      refine gf_X8_69 (pc := 70) dX8_shortest_70 ?_
      refine gf_X8_249 (pc := 73) (v := nI (cov a.S b1)) dX8_shortest_73 hSb.2.2.1 ?_
      refine V.goto (pc := 76) 86 dX8_shortest_76 (by decide) ?_
      exact V.iretX (pc := 86) hF dX8_shortest_86 (CF.mk ((if_pos hm1).trans <| (if_pos hx1).trans <| (by rw [show x = 1 by omega]; rfl)) hK2 hC2)
  · refine V.aload_n (pc := 56) 0 dX8_shortest_56 rfl ?_
    refine gf_X8_69 (pc := 57) dX8_shortest_57 ?_
    refine gf_X8_248 (pc := 60) (v := nI b1) dX8_shortest_60 hSb.2.1 ?_
    exact V.iretX (pc := 63) hF dX8_shortest_63 (CF.mk ((if_pos hm1).trans ((if_pos hx1).trans (by subst h_53; rfl))) hK2 hC2)
def sp_worth (a : AS) (s b b2 : Nat) : Res := if s < a.S.n then if b.testBit s = true then rOk (nI (cov a.S b) - nI (cov a.S b2)) a else rOk (nI 0) a else rNo 1 a 0
theorem ok_X8_worth {G : Gx} {μ : Mu} (a : AS) (hK : Kl μ a) (s : Nat) (hs : s < 2 ^ 32) (f1 : Bool) (b1 : Nat) (hB : Best a.S 0 0 a.S.B 0 (fun _ => True) f1 b1) (f2 : Bool) (b2 : Nat) (hB2 : Best a.S 0 (s + 1) a.S.B 0 (fun _ => True) f2 b2) : RunsX 23 4 M_X8_worth [.ref (G.2.2 80), .int (nI s)] G μ (CF μ (sp_worth a s b1 b2)) (CT nNS nNS μ (sp_worth a s b1 b2)) := by
  obtain ⟨o, hPa⟩ := hK.2.2.2.2.2.2
  have hvs := hK.vs
  have hn16 := hvs.n16
  have hu48 := hvs.u48
  have hT2 := hvs.tk
  have hp16 := pow16 hvs
  have hB9 := hvs.B9
  have hp48 := pow48 hvs
  have hLL := hvs.le
  refine RunsX.of RX8 rfl (by decide) [(0, .ref (G.2.2 80)), (1, .int (nI s))] (Nat.le_of_ble_eq_true rfl) rfl (fun X hF => ?_)
  refine V.aload_n (pc := 0) 0 dX8_worth_0 rfl ?_
  refine V.iload_n (pc := 1) 1 dX8_worth_1 rfl ?_
  refine cx_X8_130 (pc := 2) dX8_worth_2 hF (ok_X8_needSentence s a.S.n hs hK.st.n (by omega)) (by decide) (by omega) (Nat.le_of_ble_eq_true rfl) (fun E μ' h => CT.one (if_neg h.1) hK (Fr.refl _ _) (by decide) h.2.1 h.2.2) (fun X hF r_ μ_ h_ => ?_)
  obtain ⟨hsn, rfl, rfl⟩ := h_
  refine V.aload_n (pc := 5) 0 dX8_worth_5 rfl ?_
  refine gf_X8_69 (pc := 6) dX8_worth_6 ?_
  refine V.aload_n (pc := 9) 0 dX8_worth_9 rfl ?_
  refine gf_X8_27 (pc := 10) dX8_worth_10 ?_
  refine V.aload_n (pc := 13) 0 dX8_worth_13 rfl ?_
  refine gf_X8_27 (pc := 14) dX8_worth_14 ?_
  refine gf_X8_102 (pc := 17) 0 (by decide) (v := nI a.S.B) dX8_worth_17 hK.st.B ?_
  refine V.iconst (pc := 20) (v := (-1)) dX8_worth_20 (by decide) ?_
  refine cl_X8_244 (pc := 21) dX8_worth_21 (ok_X5_findMost 0 (by decide) a.S hK.st a.S.B 0 hB9 (by omega)) (by omega) (Nat.le_of_ble_eq_true rfl) (fun r_ μ_ h_ => ?_)
  obtain ⟨rfl, hfr, f1, b1, hSb, hB1⟩ := h_
  obtain ⟨rfl, rfl⟩ := hB.one hB1
  have hK2 : Kl μ_ a := hK.fr hfr (fun c z => by unfold C92 at z; omega)
  have hC2 : Fr _ μ_ CK := hfr.ck (fun c z => by unfold C92 at z; omega)
  refine V.aload_n (pc := 24) 0 dX8_worth_24 rfl ?_
  refine gf_X8_69 (pc := 25) dX8_worth_25 ?_
  refine gf_X8_249 (pc := 28) (v := nI (cov a.S b1)) dX8_worth_28 hSb.2.2.1 ?_
  refine V.istore_n (pc := 31) (lv' := [(0, .ref (G.2.2 80)), (1, .int (nI s)), (2, .int (nI (cov a.S b1)))]) dX8_worth_31 (by decide) rfl ?_
  refine V.iload_n (pc := 32) 1 dX8_worth_32 rfl ?_
  refine V.aload_n (pc := 33) 0 dX8_worth_33 rfl ?_
  refine gf_X8_69 (pc := 34) dX8_worth_34 ?_
  refine gf_X8_248 (pc := 37) (v := nI b1) dX8_worth_37 hSb.2.1 ?_
  refine cp_X8_151 (pc := 40) dX8_worth_40 (ok_X8_isIn s b1 (by omega) (by have := hSb.2.2.2.2; omega)) (by omega) (Nat.le_of_ble_eq_true rfl) ?_
  refine V.ifB_ne (pc := 43) 48 dX8_worth_43 (by decide) (fun h_43 => ?_) (fun h_43 => ?_)
  · refine V.aload_n (pc := 48) 0 dX8_worth_48 rfl ?_
    refine gf_X8_69 (pc := 49) dX8_worth_49 ?_
    refine V.aload_n (pc := 52) 0 dX8_worth_52 rfl ?_
    refine gf_X8_27 (pc := 53) dX8_worth_53 ?_
    refine V.aload_n (pc := 56) 0 dX8_worth_56 rfl ?_
    refine gf_X8_27 (pc := 57) dX8_worth_57 ?_
    refine gf_X8_102 (pc := 60) 0 (by decide) (v := nI a.S.B) dX8_worth_60 hK2.st.B ?_
    refine V.iload_n (pc := 63) 1 dX8_worth_63 rfl ?_
    refine cl_X8_244 (pc := 64) dX8_worth_64 (ok_X5_findMost 0 (by decide) a.S hK2.st a.S.B (s + 1) hB9 (by omega)) (by omega) (Nat.le_of_ble_eq_true rfl) (fun r_ μ_ h_ => ?_)
    obtain ⟨rfl, hfr2, f2, b2, hSb2, hB3⟩ := h_
    obtain ⟨rfl, rfl⟩ := hB2.one hB3
    have hK3 : Kl μ_ a := hK2.fr hfr2 (fun c z => by unfold C92 at z; omega)
    have hC3 : Fr _ μ_ CK := hC2.ck2 hfr2 (fun c z => by unfold C92 at z; omega)
    refine V.iload_n (pc := 67) 2 dX8_worth_67 rfl ?_
    refine V.aload_n (pc := 68) 0 dX8_worth_68 rfl ?_
    refine gf_X8_69 (pc := 69) dX8_worth_69 ?_
    refine gf_X8_249 (pc := 72) (v := nI (cov a.S b2)) dX8_worth_72 hSb2.2.2.1 ?_
    refine V.isub (pc := 75) (v := nI (cov a.S b1) - nI (cov a.S b2)) dX8_worth_75 rfl ?_
    exact V.iretX (pc := 76) hF dX8_worth_76 (CF.mk ((if_pos hsn).trans (if_pos h_43)) hK3 hC3)
  · refine V.iconst (pc := 46) (v := nI 0) dX8_worth_46 (by decide) ?_
    exact V.iretX (pc := 47) hF dX8_worth_47 (CF.mk ((if_pos hsn).trans (if_neg (by rw [h_43]; decide))) hK2 hC2)
def exV (S : TS) (x : Nat) : Int32 := if (swA S S.n).1 = 0 then -1 else if x = 0 then pv (swA S S.n).1 else if x = 1 then pv (swA S S.n).2.1 else nI (swA S S.n).2.2
def sp_exchange (a : AS) (x : Nat) : Res := if x ≤ 2 then rOk (exV a.S x) a else rNo 1 a 1
theorem swA_lt (S : TS) : ∀ a, (swA S a).1 ≤ a := by
  intro a
  induction a with
  | zero => exact Nat.le_refl _
  | succ a ih =>
    have key : ∀ b, (swB S (swA S a) a b).1 ≤ a + 1 := by
      intro b
      induction b with
      | zero => show (swA S a).1 ≤ _; omega
      | succ b ihb =>
        show (swStep S (swB S (swA S a) a b) a b).1 ≤ _
        unfold swStep
        split
        · exact Nat.le_refl _
        · exact ihb
    exact key S.n
theorem ok_X8_exchange {G : Gx} {μ : Mu} (a : AS) (hK : Kl μ a) (x : Nat) (hx : x < 2 ^ 32) : RunsX 9 4 M_X8_exchange [.ref (G.2.2 80), .int (nI x)] G μ (CF μ (sp_exchange a x)) (CT nIA nIA μ (sp_exchange a x)) := by
  obtain ⟨o, hPa⟩ := hK.2.2.2.2.2.2
  have hvs := hK.vs
  have hn16 := hvs.n16
  have hu48 := hvs.u48
  have hT2 := hvs.tk
  have hp16 := pow16 hvs
  have hB9 := hvs.B9
  have hp48 := pow48 hvs
  have hLL := hvs.le
  have hsw := swA_lt a.S a.S.n
  refine RunsX.of RX8 rfl (by decide) [(0, .ref (G.2.2 80)), (1, .int (nI x))] (Nat.le_of_ble_eq_true rfl) rfl (fun X hF => ?_)
  refine V.aload_n (pc := 0) 0 dX8_exchange_0 rfl ?_
  refine V.iload_n (pc := 1) 1 dX8_exchange_1 rfl ?_
  refine V.iconst (pc := 2) (v := nI 0) dX8_exchange_2 (by decide) ?_
  refine V.iconst (pc := 3) (v := nI 2) dX8_exchange_3 (by decide) ?_
  refine cx_X8_84 (pc := 4) dX8_exchange_4 hF (ok_X8_needNumber x 2 hx (by decide)) (by decide) (by omega) (Nat.le_of_ble_eq_true rfl) (fun E μ' h => CT.one (if_neg h.1) hK (Fr.refl _ _) (by decide) h.2.1 h.2.2) (fun X hF r_ μ_ h_ => ?_)
  obtain ⟨hx1, rfl, rfl⟩ := h_
  refine V.aload_n (pc := 7) 0 dX8_exchange_7 rfl ?_
  refine gf_X8_76 (pc := 8) dX8_exchange_8 ?_
  refine V.aload_n (pc := 11) 0 dX8_exchange_11 rfl ?_
  refine gf_X8_27 (pc := 12) dX8_exchange_12 ?_
  refine cl_X8_265 (pc := 15) dX8_exchange_15 (ok_X7_run 0 (by decide) a.S hK.st) (by omega) (Nat.le_of_ble_eq_true rfl) (fun r_ μ_ h_ => ?_)
  obtain ⟨rfl, hfr, hSw⟩ := h_
  have hK2 : Kl μ_ a := hK.fr hfr (fun c z => by unfold C94 at z; omega)
  have hC2 : Fr _ μ_ CK := hfr.ck (fun c z => by unfold C94 at z; omega)
  refine V.aload_n (pc := 18) 0 dX8_exchange_18 rfl ?_
  refine gf_X8_76 (pc := 19) dX8_exchange_19 ?_
  refine gf_X8_266 (pc := 22) (v := pv (swA a.S a.S.n).1) dX8_exchange_22 hSw.1 ?_
  refine V.iconst (pc := 25) (v := (-1)) dX8_exchange_25 (by decide) ?_
  refine V.icmp_ne (pc := 26) 31 dX8_exchange_26 (by decide) (fun h_26 => ?_) (fun h_26 => ?_)
  · have hne : ¬ (swA a.S a.S.n).1 = 0 := fun e => h_26 ((pv_ne (by omega)).mpr e)
    refine V.iload_n (pc := 31) 1 dX8_exchange_31 rfl ?_
    refine V.ifN_ne (pc := 32) 43 dX8_exchange_32 (by decide) (by omega) (fun h_32 => ?_) (fun h_32 => ?_)
    · refine V.iload_n (pc := 43) 1 dX8_exchange_43 rfl ?_
      refine V.iconst (pc := 44) (v := nI 1) dX8_exchange_44 (by decide) ?_
      refine V.icmpN_ne (pc := 45) 58 dX8_exchange_45 (by decide) (by omega) (by omega) (fun h_45 => ?_) (fun h_45 => ?_)
      · refine V.aload_n (pc := 58) 0 dX8_exchange_58 rfl ?_
        refine gf_X8_76 (pc := 59) dX8_exchange_59 ?_
        refine gf_X8_272 (pc := 62) (v := nI ((swA a.S a.S.n).2.2)) dX8_exchange_62 hSw.2.2 ?_
        exact V.iretX (pc := 65) hF dX8_exchange_65 (CF.mk ((if_pos hx1).trans (by rw [show x = 2 by omega]; exact congrArg (fun v => rOk v a) (if_neg hne))) hK2 hC2)
      · refine V.aload_n (pc := 48) 0 dX8_exchange_48 rfl ?_
        refine gf_X8_76 (pc := 49) dX8_exchange_49 ?_
        refine gf_X8_269 (pc := 52) (v := pv (swA a.S a.S.n).2.1) dX8_exchange_52 hSw.2.1 ?_
        refine V.goto (pc := 55) 65 dX8_exchange_55 (by decide) ?_
        exact V.iretX (pc := 65) hF dX8_exchange_65 (CF.mk ((if_pos hx1).trans (by rw [show x = 1 by omega]; exact congrArg (fun v => rOk v a) (if_neg hne))) hK2 hC2)
    · refine V.aload_n (pc := 35) 0 dX8_exchange_35 rfl ?_
      refine gf_X8_76 (pc := 36) dX8_exchange_36 ?_
      refine gf_X8_266 (pc := 39) (v := pv (swA a.S a.S.n).1) dX8_exchange_39 hSw.1 ?_
      exact V.iretX (pc := 42) hF dX8_exchange_42 (CF.mk ((if_pos hx1).trans (by rw [show x = 0 by omega]; exact congrArg (fun v => rOk v a) (if_neg hne))) hK2 hC2)
  · have heq : (swA a.S a.S.n).1 = 0 := (pv_ne (by omega)).mp h_26
    refine V.iconst (pc := 29) (v := (-1)) dX8_exchange_29 (by decide) ?_
    exact V.iretX (pc := 30) hF dX8_exchange_30 (CF.mk ((if_pos hx1).trans (congrArg (fun v => rOk v a) (if_pos heq))) hK2 hC2)
def sp_next (a : AS) (m : Nat) (f2 : Bool) (b2 : Nat) : Res := if m ≤ 9999 then rOk (if f2 = true then nI (lenOf a.S b2) else -1) a else rNo 1 a 1
theorem ok_X8_next {G : Gx} {μ : Mu} (a : AS) (hK : Kl μ a) (m : Nat) (hm : m < 2 ^ 32) (f1 : Bool) (b1 : Nat) (hB : Best a.S 0 0 m 0 (fun _ => True) f1 b1) (f2 : Bool) (b2 : Nat) (hB2 : Best a.S 2 0 2147483647 (cov a.S b1 + 1) (fun _ => True) f2 b2) : RunsX 23 4 M_X8_next [.ref (G.2.2 80), .int (nI m)] G μ (CF μ (sp_next a m f2 b2)) (CT nIA nIA μ (sp_next a m f2 b2)) := by
  obtain ⟨o, hPa⟩ := hK.2.2.2.2.2.2
  have hvs := hK.vs
  have hn16 := hvs.n16
  have hu48 := hvs.u48
  have hT2 := hvs.tk
  have hp16 := pow16 hvs
  have hB9 := hvs.B9
  have hp48 := pow48 hvs
  have hLL := hvs.le
  have hcb : cov a.S b1 ≤ 48000 := wOf_le hvs _
  refine RunsX.of RX8 rfl (by decide) [(0, .ref (G.2.2 80)), (1, .int (nI m))] (Nat.le_of_ble_eq_true rfl) rfl (fun X hF => ?_)
  refine V.aload_n (pc := 0) 0 dX8_next_0 rfl ?_
  refine V.iload_n (pc := 1) 1 dX8_next_1 rfl ?_
  refine V.iconst (pc := 2) (v := nI 0) dX8_next_2 (by decide) ?_
  refine V.sipush (pc := 3) (v := nI 9999) dX8_next_3 (by decide) ?_
  refine cx_X8_84 (pc := 6) dX8_next_6 hF (ok_X8_needNumber m 9999 hm (by decide)) (by decide) (by omega) (Nat.le_of_ble_eq_true rfl) (fun E μ' h => CT.one (if_neg h.1) hK (Fr.refl _ _) (by decide) h.2.1 h.2.2) (fun X hF r_ μ_ h_ => ?_)
  obtain ⟨hm1, rfl, rfl⟩ := h_
  refine V.aload_n (pc := 9) 0 dX8_next_9 rfl ?_
  refine gf_X8_69 (pc := 10) dX8_next_10 ?_
  refine V.aload_n (pc := 13) 0 dX8_next_13 rfl ?_
  refine gf_X8_27 (pc := 14) dX8_next_14 ?_
  refine V.iload_n (pc := 17) 1 dX8_next_17 rfl ?_
  refine V.iconst (pc := 18) (v := (-1)) dX8_next_18 (by decide) ?_
  refine cl_X8_244 (pc := 19) dX8_next_19 (ok_X5_findMost 0 (by decide) a.S hK.st m 0 hm1 (by omega)) (by omega) (Nat.le_of_ble_eq_true rfl) (fun r_ μ_ h_ => ?_)
  obtain ⟨rfl, hfr, f1, b1, hSb, hB1⟩ := h_
  obtain ⟨rfl, rfl⟩ := hB.one hB1
  have hK2 : Kl μ_ a := hK.fr hfr (fun c z => by unfold C92 at z; omega)
  have hC2 : Fr _ μ_ CK := hfr.ck (fun c z => by unfold C92 at z; omega)
  refine V.aload_n (pc := 22) 0 dX8_next_22 rfl ?_
  refine gf_X8_69 (pc := 23) dX8_next_23 ?_
  refine V.aload_n (pc := 26) 0 dX8_next_26 rfl ?_
  refine gf_X8_27 (pc := 27) dX8_next_27 ?_
  refine V.aload_n (pc := 30) 0 dX8_next_30 rfl ?_
  refine gf_X8_69 (pc := 31) dX8_next_31 ?_
  refine gf_X8_249 (pc := 34) (v := nI (cov a.S b1)) dX8_next_34 hSb.2.2.1 ?_
  refine V.iconst (pc := 37) (v := nI 1) dX8_next_37 (by decide) ?_
  refine V.iadd (pc := 38) (v := nI (cov a.S b1 + 1)) dX8_next_38 (nI_add _ _) ?_
  refine cl_X8_262 (pc := 39) dX8_next_39 (ok_X5_findShortest 0 (by decide) a.S hK2.st (cov a.S b1 + 1) (by omega)) (by omega) (Nat.le_of_ble_eq_true rfl) (fun r_ μ_ h_ => ?_)
  obtain ⟨rfl, hfr2, f2, b2, hSb2, hB3⟩ := h_
  obtain ⟨rfl, rfl⟩ := hB2.one hB3
  have hK3 : Kl μ_ a := hK2.fr hfr2 (fun c z => by unfold C92 at z; omega)
  have hC3 : Fr _ μ_ CK := hC2.ck2 hfr2 (fun c z => by unfold C92 at z; omega)
  refine V.aload_n (pc := 42) 0 dX8_next_42 rfl ?_
  refine gf_X8_69 (pc := 43) dX8_next_43 ?_
  refine gf_X8_273 (pc := 46) (v := nI f2.toNat) dX8_next_46 hSb2.1 ?_
  refine V.ifB_eq (pc := 49) 62 dX8_next_49 (by decide) (fun h_49 => ?_) (fun h_49 => ?_)
  · refine V.iconst (pc := 62) (v := (-1)) dX8_next_62 (by decide) ?_
    exact V.iretX (pc := 63) hF dX8_next_63 (CF.mk ((if_pos hm1).trans (by rw [h_49]; rfl)) hK3 hC3)
  · refine V.aload_n (pc := 52) 0 dX8_next_52 rfl ?_
    refine gf_X8_69 (pc := 53) dX8_next_53 ?_
    refine gf_X8_252 (pc := 56) (v := nI (lenOf a.S b2)) dX8_next_56 hSb2.2.2.2.1 ?_
    refine V.goto (pc := 59) 63 dX8_next_59 (by decide) ?_
    exact V.iretX (pc := 63) hF dX8_next_63 (CF.mk ((if_pos hm1).trans (by rw [h_49]; rfl)) hK3 hC3)
def lkB (S : TS) (s t : Nat) : Nat := wOf S (S.bag s &&& S.bag t)
def lkE (S : TS) (s t : Nat) : Nat := wOf S (S.bag s ||| S.bag t)
def lkN (S : TS) (s t x : Nat) : Nat := if lkB S s t = 0 then x else (if x = 0 then lkB S s t else lkE S s t) / Nat.gcd (lkE S s t) (lkB S s t)
def sp_likeness (a : AS) (s t x : Nat) : Res := if s < a.S.n then if t < a.S.n then if x ≤ 1 then rOk (nI (lkN a.S s t x)) a else rNo 2 a 1 else rNo 1 a 0 else rNo 1 a 0
theorem gcd_le {a b : Nat} (ha : a ≤ 48000) (hb : b ≤ 48000) : Nat.gcd a b ≤ 48000 := by
  rcases Nat.eq_zero_or_pos a with e | e
  · subst e; rw [Nat.gcd_zero_left]; exact hb
  · exact Nat.le_trans (Nat.gcd_le_left b e) ha
theorem ok_X8_likeness {G : Gx} {μ : Mu} (a : AS) (hK : Kl μ a) (s t x : Nat) (hs : s < 2 ^ 32) (ht : t < 2 ^ 32) (hx : x < 2 ^ 32) : RunsX 9 4 M_X8_likeness [.ref (G.2.2 80), .int (nI s), .int (nI t), .int (nI x)] G μ (CF μ (sp_likeness a s t x)) (CT nNS nIA μ (sp_likeness a s t x)) := by
  obtain ⟨o, hPa⟩ := hK.2.2.2.2.2.2
  have hvs := hK.vs
  have hn16 := hvs.n16
  have hu48 := hvs.u48
  have hT2 := hvs.tk
  have hp16 := pow16 hvs
  have hB9 := hvs.B9
  have hp48 := pow48 hvs
  have hLL := hvs.le
  have hlb : lkB a.S s t ≤ 48000 := wOf_le hvs _
  have hle : lkE a.S s t ≤ 48000 := wOf_le hvs _
  have hg : Nat.gcd (lkE a.S s t) (lkB a.S s t) ≤ 48000 := gcd_le hle hlb
  refine RunsX.of RX8 rfl (by decide) [(0, .ref (G.2.2 80)), (1, .int (nI s)), (2, .int (nI t)), (3, .int (nI x))] (Nat.le_of_ble_eq_true rfl) rfl (fun X hF => ?_)
  refine V.aload_n (pc := 0) 0 dX8_likeness_0 rfl ?_
  refine V.iload_n (pc := 1) 1 dX8_likeness_1 rfl ?_
  refine cx_X8_130 (pc := 2) dX8_likeness_2 hF (ok_X8_needSentence s a.S.n hs hK.st.n (by omega)) (by decide) (by omega) (Nat.le_of_ble_eq_true rfl) (fun E μ' h => CT.one (if_neg h.1) hK (Fr.refl _ _) (by decide) h.2.1 h.2.2) (fun X hF r_ μ_ h_ => ?_)
  obtain ⟨hsn, rfl, rfl⟩ := h_
  refine V.aload_n (pc := 5) 0 dX8_likeness_5 rfl ?_
  refine V.iload_n (pc := 6) 2 dX8_likeness_6 rfl ?_
  refine cx_X8_130 (pc := 7) dX8_likeness_7 hF (ok_X8_needSentence t a.S.n ht hK.st.n (by omega)) (by decide) (by omega) (Nat.le_of_ble_eq_true rfl) (fun E μ' h => CT.one ((if_pos hsn).trans (if_neg h.1)) hK (Fr.refl _ _) (by decide) h.2.1 h.2.2) (fun X hF r_ μ_ h_ => ?_)
  obtain ⟨htn, rfl, rfl⟩ := h_
  refine V.aload_n (pc := 10) 0 dX8_likeness_10 rfl ?_
  refine V.iload_n (pc := 11) 3 dX8_likeness_11 rfl ?_
  refine V.iconst (pc := 12) (v := nI 0) dX8_likeness_12 (by decide) ?_
  refine V.iconst (pc := 13) (v := nI 1) dX8_likeness_13 (by decide) ?_
  refine cx_X8_84 (pc := 14) dX8_likeness_14 hF (ok_X8_needNumber x 1 hx (by decide)) (by decide) (by omega) (Nat.le_of_ble_eq_true rfl) (fun E μ' h => CT.two ((if_pos hsn).trans ((if_pos htn).trans (if_neg h.1))) hK (Fr.refl _ _) (by decide) h.2.1 h.2.2) (fun X hF r_ μ_ h_ => ?_)
  obtain ⟨hx1, rfl, rfl⟩ := h_
  have hbs := (hvs.sen hsn).2.2.2.2.2
  have hbt := (hvs.sen htn).2.2.2.2.2
  refine V.aload_n (pc := 17) 0 dX8_likeness_17 rfl ?_
  refine gf_X8_27 (pc := 18) dX8_likeness_18 ?_
  refine V.aload_n (pc := 21) 0 dX8_likeness_21 rfl ?_
  refine gf_X8_27 (pc := 22) dX8_likeness_22 ?_
  refine gf_X8_183 (pc := 25) 0 (by decide) dX8_likeness_25 ?_
  refine V.iload_n (pc := 28) 1 dX8_likeness_28 rfl ?_
  refine V.lald (pc := 29) (k := 8 * 0 + 5) (n := 16) (v := lN (a.S.bag s)) (by omega) (cell_Sj (by decide) rfl) s (by omega) (by decide) dX8_likeness_29 (hK.st.bag s (by omega)) ?_
  refine V.aload_n (pc := 30) 0 dX8_likeness_30 rfl ?_
  refine gf_X8_27 (pc := 31) dX8_likeness_31 ?_
  refine gf_X8_183 (pc := 34) 0 (by decide) dX8_likeness_34 ?_
  refine V.iload_n (pc := 37) 2 dX8_likeness_37 rfl ?_
  refine V.lald (pc := 38) (k := 8 * 0 + 5) (n := 16) (v := lN (a.S.bag t)) (by omega) (cell_Sj (by decide) rfl) t (by omega) (by decide) dX8_likeness_38 (hK.st.bag t (by omega)) ?_
  refine V.land (pc := 39) (v := lN ((a.S.bag s) &&& (a.S.bag t))) dX8_likeness_39 (ll_and _ _) ?_
  refine cp_X8_193 (pc := 40) 0 (by decide) dX8_likeness_40 (ok_X6_weightOf 0 (by decide) a.S hK.st (a.S.bag s &&& a.S.bag t) (by have : a.S.bag s &&& a.S.bag t ≤ a.S.bag s := Nat.and_le_left; omega)) (by omega) (Nat.le_of_ble_eq_true rfl) ?_
  refine V.istore (pc := 43) (lv' := [(0, .ref (G.2.2 80)), (1, .int (nI s)), (2, .int (nI t)), (3, .int (nI x)), (4, .int (nI (lkB a.S s t)))]) dX8_likeness_43 (by decide) rfl ?_
  refine V.aload_n (pc := 45) 0 dX8_likeness_45 rfl ?_
  refine gf_X8_27 (pc := 46) dX8_likeness_46 ?_
  refine V.aload_n (pc := 49) 0 dX8_likeness_49 rfl ?_
  refine gf_X8_27 (pc := 50) dX8_likeness_50 ?_
  refine gf_X8_183 (pc := 53) 0 (by decide) dX8_likeness_53 ?_
  refine V.iload_n (pc := 56) 1 dX8_likeness_56 rfl ?_
  refine V.lald (pc := 57) (k := 8 * 0 + 5) (n := 16) (v := lN (a.S.bag s)) (by omega) (cell_Sj (by decide) rfl) s (by omega) (by decide) dX8_likeness_57 (hK.st.bag s (by omega)) ?_
  refine V.aload_n (pc := 58) 0 dX8_likeness_58 rfl ?_
  refine gf_X8_27 (pc := 59) dX8_likeness_59 ?_
  refine gf_X8_183 (pc := 62) 0 (by decide) dX8_likeness_62 ?_
  refine V.iload_n (pc := 65) 2 dX8_likeness_65 rfl ?_
  refine V.lald (pc := 66) (k := 8 * 0 + 5) (n := 16) (v := lN (a.S.bag t)) (by omega) (cell_Sj (by decide) rfl) t (by omega) (by decide) dX8_likeness_66 (hK.st.bag t (by omega)) ?_
  refine V.lor (pc := 67) (v := lN ((a.S.bag s) ||| (a.S.bag t))) dX8_likeness_67 (ll_or _ _) ?_
  refine cp_X8_193 (pc := 68) 0 (by decide) dX8_likeness_68 (ok_X6_weightOf 0 (by decide) a.S hK.st (a.S.bag s ||| a.S.bag t) (by have := or_lt hbs hbt; omega)) (by omega) (Nat.le_of_ble_eq_true rfl) ?_
  refine V.istore (pc := 71) (lv' := [(0, .ref (G.2.2 80)), (1, .int (nI s)), (2, .int (nI t)), (3, .int (nI x)), (4, .int (nI (lkB a.S s t))), (5, .int (nI (lkE a.S s t)))]) dX8_likeness_71 (by decide) rfl ?_
  refine V.iload (pc := 73) 5 dX8_likeness_73 rfl ?_
  refine V.iload (pc := 75) 4 dX8_likeness_75 rfl ?_
  refine cp_X8_277 (pc := 77) dX8_likeness_77 (ok_X8_commonDivisor (lkE a.S s t) (lkB a.S s t) hle hlb) (by omega) (Nat.le_of_ble_eq_true rfl) ?_
  refine V.istore (pc := 80) (lv' := [(0, .ref (G.2.2 80)), (1, .int (nI s)), (2, .int (nI t)), (3, .int (nI x)), (4, .int (nI (lkB a.S s t))), (5, .int (nI (lkE a.S s t))), (6, .int (nI (Nat.gcd (lkE a.S s t) (lkB a.S s t))))]) dX8_likeness_80 (by decide) rfl ?_
  refine V.iload (pc := 82) 4 dX8_likeness_82 rfl ?_
  refine V.ifN_eq (pc := 84) 92 dX8_likeness_84 (by decide) (by omega) (fun h_84 => ?_) (fun h_84 => ?_)
  · refine V.iload_n (pc := 92) 3 dX8_likeness_92 rfl ?_
    refine V.ifN_ne (pc := 93) 100 dX8_likeness_93 (by decide) (by omega) (fun h_93 => ?_) (fun h_93 => ?_)
    · refine V.iconst (pc := 100) (v := nI 1) dX8_likeness_100 (by decide) ?_
      exact V.iretX (pc := 101) hF dX8_likeness_101 (CF.mk ((if_pos hsn).trans ((if_pos htn).trans ((if_pos hx1).trans (congrArg (fun v => rOk (nI v) a) ((if_pos h_84).trans (by omega)))))) hK (Fr.refl _ _))
    · refine V.iconst (pc := 96) (v := nI 0) dX8_likeness_96 (by decide) ?_
      refine V.goto (pc := 97) 101 dX8_likeness_97 (by decide) ?_
      exact V.iretX (pc := 101) hF dX8_likeness_101 (CF.mk ((if_pos hsn).trans ((if_pos htn).trans ((if_pos hx1).trans (congrArg (fun v => rOk (nI v) a) ((if_pos h_84).trans (by omega)))))) hK (Fr.refl _ _))
  · refine V.iload (pc := 87) 6 dX8_likeness_87 rfl ?_
    refine V.ifN_ne (pc := 89) 102 dX8_likeness_89 (by decide) (by omega) (fun h_89 => ?_) (fun h_89 => ?_)
    · refine V.iload_n (pc := 102) 3 dX8_likeness_102 rfl ?_
      refine V.ifN_ne (pc := 103) 111 dX8_likeness_103 (by decide) (by omega) (fun h_103 => ?_) (fun h_103 => ?_)
      · refine V.iload (pc := 111) 5 dX8_likeness_111 rfl ?_
        refine V.iload (pc := 113) 6 dX8_likeness_113 rfl ?_
        refine V.idiv (pc := 115) (v := nI ((lkE a.S s t) / (Nat.gcd (lkE a.S s t) (lkB a.S s t)))) dX8_likeness_115 (nn_div0 (by omega) (by omega)) (pk_div (by omega) (by omega) (by omega)) ?_
        exact V.iretX (pc := 116) hF dX8_likeness_116 (CF.mk ((if_pos hsn).trans ((if_pos htn).trans ((if_pos hx1).trans (congrArg (fun v => rOk (nI v) a) ((if_neg (by omega)).trans (by rw [if_neg (by omega)]))))))  hK (Fr.refl _ _))
      · refine V.iload (pc := 106) 4 dX8_likeness_106 rfl ?_
        refine V.goto (pc := 108) 113 dX8_likeness_108 (by decide) ?_
        refine V.iload (pc := 113) 6 dX8_likeness_113 rfl ?_
        refine V.idiv (pc := 115) (v := nI ((lkB a.S s t) / (Nat.gcd (lkE a.S s t) (lkB a.S s t)))) dX8_likeness_115 (nn_div0 (by omega) (by omega)) (pk_div (by omega) (by omega) (by omega)) ?_
        exact V.iretX (pc := 116) hF dX8_likeness_116 (CF.mk ((if_pos hsn).trans ((if_pos htn).trans ((if_pos hx1).trans (congrArg (fun v => rOk (nI v) a) ((if_neg (by omega)).trans (by rw [if_pos h_103]))))))  hK (Fr.refl _ _))
    · exact absurd h_89 (by have := Nat.gcd_pos_of_pos_right (lkE a.S s t) h_84; omega)
