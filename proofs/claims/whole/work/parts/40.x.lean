/-! methods that may throw -/
abbrev nNS : String := "java/util/NoSuchElementException"
abbrev nIA : String := "java/lang/IllegalArgumentException"
abbrev nIS : String := "java/lang/IllegalStateException"
abbrev nmsX : List String := ["java/lang/RuntimeException", "java/lang/Exception"]
abbrev nRE : String := "java/lang/RuntimeException"
abbrev nEX : List String := ["java/lang/Exception"]
def xwD : List MethodName := [Bundle.initS "java/lang/RuntimeException", Bundle.initS "java/lang/Exception", Bundle.initS Bundle.tN]
def xwC : List (String × String) := [(nNS, nNS), (nIA, nIA), (nIS, nIS)]
def xwN : List (String × String) := [(nIA, nNS), (nNS, nIA), (nIS, nNS)]
def xwS : List (Nat × String) := [(284, "no such element"), (291, "another number"), (296, "not as the extract stands")]
/-- what a throw stands on -/
def Zx (G : Gx) (s : State) (H : Heap) : Prop :=
  vx_Zq Bundle.tN "UNASSIGNED_STACK" Bundle.steD (AdW G) s H ∧ vx_Zq Bundle.tN "SUPPRESSED_SENTINEL" Bundle.listD (AdW G) s H ∧
  (∀ q ∈ xwS, ∃ a, vk_R "CoverExtract" q.1 q.2 a s) ∧ (∀ x ∈ xwD, va_Nw (.declares x) s) ∧ (∀ q ∈ xwC, va_Nw (.castable q.1 q.2) s) ∧ (∀ q ∈ xwN, va_Nc q.1 q.2 s)
theorem Zx.at {G : Gx} {s U : State} {H H1 : Heap} (h : Zx G s H) (hW : s.WarmedH U.vm) (hq : ∀ a : Nat, a < H.size → ¬ AdW G a → H1[a]? = H[a]?) : Zx G U H1 :=
  ⟨(h.1.kept hq).moved hW.alike, (h.2.1.kept hq).moved hW.alike, fun q hq => by obtain ⟨a, ha⟩ := h.2.2.1 q hq; exact ⟨a, vk_R.warm hW ha⟩, fun x hx => va_Nw.warmD hW (h.2.2.2.1 x hx), fun q hq => va_Nw.warmC hW (h.2.2.2.2.1 q hq), fun q hq => va_Nc.moved hW.alike (h.2.2.2.2.2 q hq)⟩
theorem Zx.same {G : Gx} {s U : State} {H : Heap} (h : Zx G s H) (hv : U.vm = s.vm) : Zx G U H := h.at (by rw [hv]; exact State.WarmedH.refl s) (fun _ _ _ => rfl)
def Wx (G : Gx) (μ : Mu) (U : State) : Prop := Wd G μ U ∧ Zx G U U.heap
def XQ (G : Gx) (Ψ : String → Mu → Prop) : String → State → State → Prop := fun E st t => ∃ μ', Ψ E μ' ∧ va_P G.1 vwCl (wl G μ') t.heap ∧ va_F (AdW G) st t
def rmX (d N : Nat) : Room := { frames := d, cells := N, slots := 6 * N, locals := 40 * d }
def RunsX (d N : Nat) (y : Mm) (av : List Value) (G : Gx) (μ : Mu) (Φ : Option Value → Mu → Prop) (Ψ : String → Mu → Prop) : Prop := ∀ l : Launch, l.stackTraces = false → vx_Met l y.1 (.code y.1 y.2.1 y.2.2.1 y.2.2.2 :: TT) (rmX d N) (va_Pc av (Wx G μ)) (QR G Φ) (XQ G Ψ) N (6 * N) (AdW G)
def FinX (G : Gx) (X : Cx) (ret : Option FieldType) (Φ : Option Value → Mu → Prop) (Ψ : String → Mu → Prop) (N k : Nat) : Prop := match X with
  | (_, l, _, R, s, _, args, below, meth, c, Q, cells, slots, A) => meth.sig.returnType = ret ∧ cells = k ∧ slots = 6 * k ∧ k ≤ N ∧ Q = vx_MQ below (QR G Φ) (XQ G Ψ) args s N (6 * N) (AdW G) ∧ A = AdW G ∧ (∀ x ∈ c.exceptionTable.toList, False) ∧ l.stackTraces = false ∧ Zx G s s.heap ∧ N ≤ R.cells ∧ 6 * N ≤ R.slots
theorem Wx_blind {G : Gx} {μ : Mu} {av : List Value} : FrameBlind (va_Pc av (Wx G μ)) := by
  intro a U g mk q
  obtain ⟨q0, ⟨qP, qK, qI, qN⟩, qZ⟩ := q
  exact ⟨q0, ⟨qP, va_K.moved (u := U) (U := U.calling g mk a) (Vm.Alike.refl U.vm) qK, qI, NW_same (s := U) (U := U.calling g mk a) rfl qN⟩, Zx.same (s := U) (U := U.calling g mk a) qZ rfl⟩
theorem RunsX.of {d N : Nat} {y : MethodName} {cc : ByteArray} {nL : Nat} {ret : Option FieldType} {av : List Value} {G : Gx} {μ : Mu} {Φ : Option Value → Mu → Prop} {Ψ : String → Mu → Prop} (own : String) (ho : y.cls = own) (hy : plainName y.cls = true) (lv : List (Nat × Value)) (hn : (lg_sl av).length ≤ nL) (hlv : lv_args 0 av = lv)
    (body : ∀ X : Cx, FinX G X ret Φ Ψ N 0 → V G own cc nL d X 0 lv [] μ) : RunsX d N (y, cc, nL, ret) av G μ Φ Ψ := by
  subst ho
  intro l htr
  refine vx_ofW (cc := cc) (maxL := nL) (ret := ret) hy rfl ?_
  intro p e s m args below meth c s₁ B hml htab hv
  obtain ⟨rfl, ⟨hP, hK, hI, hN⟩, hZ⟩ := hv
  have hts := atoms_spec (ws := .code y cc nL ret :: TT) B.pre
  have hl := lv_entry av (n := nL) hn
  rw [hlv] at hl
  rw [lg_entry_eq]
  exact body (p, l, e, (headSpec (.code y cc nL ret :: TT) (rmX d N)).room, s, m, av.toArray, below, meth, c, vx_MQ below (QR G Φ) (XQ G Ψ) av.toArray s N (6 * N) (AdW G), 0, 0, AdW G) ⟨B.returns, rfl, rfl, Nat.zero_le _, rfl, rfl, htab, htr, hZ, Nat.le_refl _, Nat.le_refl _⟩ ⟨B.exec, B.bytes, hml, findClass_of_methodNamed B.named, fun w hw => hts w (List.mem_cons_of_mem _ hw), hN, hK, hI, Nat.le_refl _, Nat.le_refl _, Nat.zero_le _, Nat.zero_le _, fun k hk => ⟨k, hk, rfl⟩, B.notSynchronized⟩ s.heap [] _ hP va_S.rf hl
section VX
variable {G : Gx} {own : String} {cc : ByteArray} {nL d : Nat} {X : Cx} {pc : Nat} {lv : List (Nat × Value)} {rest : List Value} {μ : Mu} {Φ : Option Value → Mu → Prop} {Ψ : String → Mu → Prop} {N k0 : Nat} {ret : Option FieldType}
theorem V.iretX {v : Int32} (hF : FinX G X (some .int) Φ Ψ N k0) (hd : decode cc pc = .ok (.ireturn, 1)) (h : Φ (some (.int v)) μ) : V G own cc nL d X pc lv [.int v] μ := by
  obtain ⟨p, l, e, R, s, m, args, below, meth, c, Q, cells, slots, A⟩ := X
  obtain ⟨hr, rfl, rfl, hk, rfl, rfl, -⟩ := hF
  intro ok H locs ls hP hS hl
  exact W.widen hk (Nat.mul_le_mul_left 6 hk) (vx_ret (W.iret ok.1 ok.2.1 hr (fun t ht hW => ⟨_, μ, rfl, h, ⟨by rw [ht]; exact hP, va_K.moved hW.alike ok.2.2.2.2.2.2.1, ok.2.2.2.2.2.2.2.1, NW_moved hW ok.2.2.2.2.2.1⟩, hS.F ht⟩) hS.2.2 hd ok.2.2.2.2.2.2.2.2.2.2.2.2.2))
theorem V.lretX {v : Int64} (hF : FinX G X (some .long) Φ Ψ N k0) (hd : decode cc pc = .ok (.lreturn, 1)) (h : Φ (some (.long v)) μ) : V G own cc nL d X pc lv [.long v] μ := by
  obtain ⟨p, l, e, R, s, m, args, below, meth, c, Q, cells, slots, A⟩ := X
  obtain ⟨hr, rfl, rfl, hk, rfl, rfl, -⟩ := hF
  intro ok H locs ls hP hS hl
  exact W.widen hk (Nat.mul_le_mul_left 6 hk) (vx_ret (W.lret ok.1 ok.2.1 hr (fun t ht hW => ⟨_, μ, rfl, h, ⟨by rw [ht]; exact hP, va_K.moved hW.alike ok.2.2.2.2.2.2.1, ok.2.2.2.2.2.2.2.1, NW_moved hW ok.2.2.2.2.2.1⟩, hS.F ht⟩) hS.2.2 hd ok.2.2.2.2.2.2.2.2.2.2.2.2.2))
theorem V.vretX (hF : FinX G X none Φ Ψ N k0) (hd : decode cc pc = .ok (.return_, 1)) (h : Φ none μ) : V G own cc nL d X pc lv [] μ := by
  obtain ⟨p, l, e, R, s, m, args, below, meth, c, Q, cells, slots, A⟩ := X
  obtain ⟨hr, rfl, rfl, hk, rfl, rfl, -⟩ := hF
  intro ok H locs ls hP hS hl
  exact W.widen hk (Nat.mul_le_mul_left 6 hk) (vx_ret (W.vret ok.1 ok.2.1 hr (fun t ht hW => ⟨_, μ, rfl, h, ⟨by rw [ht]; exact hP, va_K.moved hW.alike ok.2.2.2.2.2.2.1, ok.2.2.2.2.2.2.2.1, NW_moved hW ok.2.2.2.2.2.1⟩, hS.F ht⟩) hS.2.2 hd ok.2.2.2.2.2.2.2.2.2.2.2.2.2))
theorem AdW_lt {G : Gx} {μ : Mu} {H : Heap} (hP : va_P G.1 vwCl (wl G μ) H) {q : Nat} (h : AdW G q) : q < H.size := by
  obtain ⟨k, hk, rfl⟩ := h
  exact vx_lt hP (wl_get G μ hk)
theorem vP_kept {G : Gx} {μ : Mu} {H H1 : Heap} (hP : va_P G.1 vwCl (wl G μ) H) (h : ∀ q : Nat, q < H.size → H1[q]? = H[q]?) : va_P G.1 vwCl (wl G μ) H1 := hP.kept (fun k q hk => h q.1 (vx_lt hP hk))
theorem V.throwSW {cls text : String} {ik is ic : Nat} (hF : FinX G X ret Φ Ψ N k0) (hN : k0 + 1 ≤ N) (hdp : 6 ≤ d) (hown : own = "CoverExtract") (hcls : Bundle.fit cls = true) (hst : (is, text) ∈ xwS) (hcc : (cls, cls) ∈ xwC)
    (w1 : Cond.classLink own ik cls ∈ TT) (w2 : Cond.initialized cls ∈ TT) (w3 : ∀ w ∈ (vx_atS own ic cls nmsX).filter goodWord, w ∈ TT) (w4 : ∀ w ∈ (vx_atS own ic cls nmsX).filter (fun w => !goodWord w), w ∈ (Cond.castable cls cls :: xwD.map Cond.declares)) (w5 : ∀ w ∈ Cond.classLink own ik cls :: Cond.initialized cls :: vx_atS own ic cls nmsX, vx_ot w = true)
    (d0 : decode cc pc = .ok (.new ik, 3)) (d3 : decode cc (pc + 3) = .ok (.dup, 1)) (d4 : decode cc (pc + 4) = .ok (.ldc_w is, 3)) (d7 : decode cc (pc + 7) = .ok (.invokespecial ic, 3)) (d10 : decode cc (pc + 10) = .ok (.athrow, 1)) (h : Ψ cls μ) : V G own cc nL d X pc lv [] μ := by
  obtain ⟨p, l, e, R, s, m, args, below, meth, c, Q, cells, slots, A⟩ := X
  obtain ⟨hr, rfl, rfl, hk, rfl, rfl, htab, htr, hZ, hRc, hRs⟩ := hF
  intro ok H locs ls hP hS hl
  obtain ⟨hx, hb, hml, ho, hts, hNw, hK, hI, hfr, hlo, hce, hsl, hA, hlk⟩ := id ok
  obtain ⟨sa, hsa⟩ := hZ.2.2.1 _ hst
  subst hown
  have hfit : ∀ n ∈ nmsX, Bundle.fit n = true := by decide +kernel
  refine vx_throwSW (cls := cls) (text := text) (names := nmsX) (A := AdW G) (sa := sa) hx hb htr ho hcls hfit (hts _ w1) (hts _ w2) hsa
    (vx_hat (fun w hw => hts w (w3 w hw)) w4 (vx_c (va_Nw.use rfl (hZ.2.2.2.2.1 _ hcc)) (fun w hw => ?_))) w5 hZ.1 hZ.2.1 hS (hl.1.trans hml.symm) d0 d3 d4 d7 d10 (fun x hx => (htab x hx).elim)
    (by show 2 + 3 < R.frames; omega) (by show 0 + (13 * (2 + 1) + 43) ≤ R.locals; omega) (by omega) (by omega) hlk ?_ hS.2.2 hN (by omega)
  · obtain ⟨x, hx1, hx2⟩ := List.mem_map.mp hw
    subst hx2
    exact va_Nw.use rfl (hZ.2.2.2.1 x hx1)
  · intro t ht h1 h2
    exact ⟨μ, h, vP_kept hP h2, Nat.le_trans hS.1 h1, fun q hq hA => (h2 q (Nat.lt_of_lt_of_le hq hS.1)).trans (hS.2.1 q hq hA)⟩
theorem V.throwNS {cls text : String} {ik is ic ix : Nat} {rx : ByteArray} (x0 : decode rx 0 = .ok (.aload_n 0, 1)) (x1 : decode rx 1 = .ok (.aload_n 1, 1)) (x2 : decode rx 2 = .ok (.invokespecial ix, 3)) (x5 : decode rx 5 = .ok (.return_, 1)) (hF : FinX G X ret Φ Ψ N k0) (hN : k0 + 1 ≤ N) (hdp : 6 ≤ d) (hown : own = "CoverExtract") (hcls : Bundle.fit cls = true) (hst : (is, text) ∈ xwS) (hcc : (cls, cls) ∈ xwC)
    (w1 : Cond.classLink own ik cls ∈ TT) (w2 : Cond.initialized cls ∈ TT) (w3 : ∀ w ∈ ((nxAt own ic cls ix rx nRE nEX).filter vx_no).filter goodWord, w ∈ TT) (w4 : ∀ w ∈ ((nxAt own ic cls ix rx nRE nEX).filter vx_no).filter (fun w => !goodWord w), w ∈ (Cond.castable cls cls :: xwD.map Cond.declares)) (w5 : ∀ w ∈ Cond.classLink own ik cls :: Cond.initialized cls :: (nxAt own ic cls ix rx nRE nEX).filter vx_no, vx_ot w = true)
    (d0 : decode cc pc = .ok (.new ik, 3)) (d3 : decode cc (pc + 3) = .ok (.dup, 1)) (d4 : decode cc (pc + 4) = .ok (.ldc_w is, 3)) (d7 : decode cc (pc + 7) = .ok (.invokespecial ic, 3)) (d10 : decode cc (pc + 10) = .ok (.athrow, 1)) (h : Ψ cls μ) : V G own cc nL d X pc lv [] μ := by
  obtain ⟨p, l, e, R, s, m, args, below, meth, c, Q, cells, slots, A⟩ := X
  obtain ⟨hr, rfl, rfl, hk, rfl, rfl, htab, htr, hZ, hRc, hRs⟩ := hF
  intro ok H locs ls hP hS hl
  obtain ⟨hx, hb, hml, ho, hts, hNw, hK, hI, hfr, hlo, hce, hsl, hA, hlk⟩ := id ok
  obtain ⟨sa, hsa⟩ := hZ.2.2.1 _ hst
  subst hown
  have hfit : ∀ n ∈ nEX, Bundle.fit n = true := by decide +kernel
  have hfY : Bundle.fit nRE = true := by decide +kernel
  refine nx_throwSW (cls := cls) (text := text) (yN := nRE) (names := nEX) (A := AdW G) (sa := sa) (ix := ix) (rx := rx) hx hb htr ho hcls hfY hfit x0 x1 x2 x5 (hts _ w1) (hts _ w2) hsa
    (vx_hat (fun w hw => hts w (w3 w hw)) w4 (vx_c (va_Nw.use rfl (hZ.2.2.2.2.1 _ hcc)) (fun w hw => ?_))) w5 hZ.1 hZ.2.1 hS (hl.1.trans hml.symm) d0 d3 d4 d7 d10 (fun x hx => (htab x hx).elim)
    (by show 1 + 4 < R.frames; omega) (by show 0 + (13 * (1 + 2) + 43) ≤ R.locals; omega) (by omega) (by omega) hlk ?_ hS.2.2 hN (by omega)
  · obtain ⟨x, hx1, hx2⟩ := List.mem_map.mp hw
    subst hx2
    exact va_Nw.use rfl (hZ.2.2.2.1 x hx1)
  · intro t ht h1 h2
    exact ⟨μ, h, vP_kept hP h2, Nat.le_trans hS.1 h1, fun q hq hA => (h2 q (Nat.lt_of_lt_of_le hq hS.1)).trans (hS.2.1 q hq hA)⟩
theorem V.callVX {d' n1 : Nat} {y : MethodName} {bytes : ByteArray} {maxL : Nat} {ret1 : Option FieldType} {k ci n index NN : Nat} {T : u_T} {As st : List Value} {Φ1 : Option Value → Mu → Prop} {Ψ1 : String → Mu → Prop} {F : (Nat → Int32) → (Nat → Int64) → List Value} (hF : FinX G X ret Φ Ψ N k0) (hN : k0 + n1 ≤ N) (hR : RunsX d' n1 (y, bytes, maxL, ret1) (.ref (G.2.2 k) :: As) G μ Φ1 Ψ1) (hd' : d' + 1 ≤ d) (hmx : maxL ≤ 21) (hk : k < 118) (hs : ∀ f g, cell G k f g = .inr (ci, F f g)) (hc : vwCl[ci]? = some (y.cls, T, NN)) (w1 : Cond.methodLink own index y ∈ TT) (w2 : Cond.instanceMethod y ∈ TT) (w3 : Cond.selects y.cls y y ∈ TT) (w4 : Cond.initialized y.cls ∈ TT) (w5 : Cond.code y bytes maxL ret1 ∈ TT) (hdd : DescOk y n) (hn : As.length = n) (hst : st = As.reverse ++ .ref (G.2.2 k) :: rest) (hcat : (rest.map fun v => v.category).sum ≤ 8) (hd : decode cc pc = .ok (.invokevirtual index, 3))
    (kk : ∀ X' : Cx, FinX G X' ret Φ Ψ N (k0 + n1) → ∀ (r : Option Value) (μ' : Mu), Φ1 r μ' → V G own cc nL d X' (pc + 3) lv (r.toList ++ rest) μ') (kx : ∀ (E : String) (μ' : Mu), Ψ1 E μ' → Ψ E μ') : V G own cc nL d X pc lv st μ := by
  obtain ⟨p, l, e, R, s, m, args, below, meth, c, Q, cells, slots, A⟩ := X
  obtain ⟨hr, rfl, rfl, hk9, rfl, rfl, htab, htr, hZ, hRc, hRs⟩ := hF
  intro ok H locs ls hP hS hl
  obtain ⟨hx, hb, hml, hown, hts, hN9, hK, hI, hfr, hlo, hce, hsl, hA, hlk⟩ := id ok
  have hcb : CallB R s args own index y bytes maxL ret1 (Cond.code y bytes maxL ret1 :: TT) (rmX d' n1) n1 (6 * n1) n := callB_of n hts (TT_good' w5) rfl rfl rfl (hts _ w4) (hts _ w1) hdd ⟨Nat.le_trans hd' hfr, by show 8 + (maxL + 11) + 40 * d' ≤ R.locals; omega⟩
  have hrun := vx_runV (As := As) (rest := rest) (b := G.2.2 k) (C := y.cls) (below := below) (meth := meth) (e := e) (locs := locs) (cells := cells) (slots := 6 * cells) (g := F0 m pc ls st) ⟨hx, hb, hml, hown, hts⟩ (hR l htr) ⟨hcb, hts _ w2, hts _ w3⟩ ⟨Wx_blind, va_recv hK hP hc ((wl_get G μ hk).trans (congrArg (fun e => some (G.2.2 k, e)) (hs _ _))), fun U hU hW => ⟨rfl, ⟨by rw [hU]; exact hP, va_K.moved hW.alike hK, hI, NW_moved hW hN9⟩, hZ.at hW (by rw [hU]; exact hS.2.1)⟩⟩ rfl hn hl.1 hst (lv_room hcat) hd ⟨by omega, by omega⟩
  intro T hT X
  have keep : ∀ {st₀ t T' : State} {L : List Loc}, st₀.heap = H → T'.heap = t.heap → (∀ q ∈ L, AdW G q.base) → va_F (AdW G) st₀ t → va_S (AdW G) s.heap T'.heap (locs ++ L) := by
    intro st₀ t T' L h0 e1 hL hF
    obtain ⟨hz, hkk⟩ := hF
    rw [h0] at hz hkk
    exact ⟨Nat.le_trans hS.1 (by rw [e1]; exact hz), fun q h1 h2 => by rw [e1, hkk q (Nat.lt_of_lt_of_le h1 hS.1) h2]; exact hS.2.1 q h1 h2, fun q hq => (List.mem_append.mp hq).elim (hS.2.2 q) (hL q)⟩
  rcases hrun T hT X with ⟨v, st₀, t, T', L, h0, X', hL, e1, e2, ⟨r, μ', hv, hp, hb', hF'⟩, st1⟩ | ⟨q, st₀, t, T', L, E, ce, h0, X', hL, e1, e2, ⟨μ', hp, hP', hF'⟩, hce', hcv, hcl, st1⟩
  · cases hv
    obtain ⟨t2, a1, b1⟩ := kk (p, l, e, R, s, m, args, below, meth, c, vx_MQ below (QR G Φ) (XQ G Ψ) args s N (6 * N) (AdW G), cells + n1, 6 * cells + 6 * n1, AdW G) ⟨hr, rfl, by omega, hN, rfl, rfl, htab, htr, hZ, hRc, hRs⟩ v μ' hp ⟨hx, hb, hml, hown, hts, hN9, hK, hI, hfr, hlo, by omega, by omega, hA, hlk⟩ T'.heap (locs ++ L) ls (by rw [e1]; exact hb'.1) (keep h0 e1 hL hF') hl T' rfl X'
    exact ⟨t2, st1 t2 a1, b1⟩
  · have hS' := keep h0 e1 hL hF'
    obtain ⟨t2, a1, b1⟩ := vx_out (pc := pc) (E := E) (ce := ce) (q := q) (ls := ls) (rest := rest) (Qc := QR G Φ) (XC := XQ G Ψ) (free := AdW G) (mc := N) (ms := 6 * N) (fun x hx => (htab x hx).elim) hlk (by rw [e1]; exact hce') hcv hcl
      (fun t' ht' hA' => ⟨μ', kx E μ' hp, by rw [ht', e1]; exact hP', hS'.F ht'⟩) hS'.2.2 (by omega) (by omega) T' rfl X'
    exact ⟨t2, st1.trans a1, b1⟩
end VX
