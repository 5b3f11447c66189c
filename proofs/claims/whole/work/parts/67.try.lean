/-! methods with handlers of their own: they call one that may throw, and always return -/
theorem Met_ofWH {l : Launch} {y : MethodName} {ws ws' : List Cond} {rm : Room} {Pc : Array Value → State → Prop} {Qc : Array Value → State → Outcome → State → Prop} {mc ms : Nat} {free : Addr → Prop} {cc : ByteArray} {maxL : Nat} {ret : Option FieldType} {hh : List (Nat × Nat × Nat × Nat)}
    (hy : plainName y.cls = true) (hw : ws = Cond.codeWith y cc maxL ret hh :: ws')
    (body : ∀ p e s m args below meth c s₁, BodyLoose p l y (headSpec ws rm) cc maxL ret e s m args below meth c s₁ → c.maxLocals = maxL → Pc args s →
      W p l e (headSpec ws rm).room s m args below meth c s.heap [] 0 0 (MQ below Qc args s mc ms free) (entryFrame m args maxL)) : Met l y ws rm Pc Qc mc ms free := by
  refine MetFree.of_bodyS (code := cc) (maxLocals := maxL) (ret := ret) hy ?_ ?_
  · intro args s m h hn
    obtain ⟨m9, meth, c, hn9, h1, h2, h3, h4, -, h5, h6, -⟩ := Cond.codeWith_spec (atoms_spec (ws := ws) h _ (by rw [hw]; exact List.mem_cons_self))
    cases hn.symm.trans hn9
    exact ⟨meth, c, h1, h2, h3, h4, h5, h6⟩
  · intro p e s m args below meth c s₁ B hml hP _
    have hh0 : s₁.heap = s.heap := by rw [B.state]; rfl
    obtain ⟨t, a1, o, b1, b2, b3⟩ := body p e s m args below meth c s₁ B hml hP s₁ hh0 (Stand.of_body B)
    exact ⟨t, o, a1, b1, b2, b3⟩
abbrev Hh : Type := List (Nat × Nat × Nat × Nat)
def RunsL (d : Nat) (y : Mm) (hh : Hh) (av : List Value) (G : Gx) (μ : Mu) (Φ : Option Value → Mu → Prop) : Prop := ∀ l : Launch, l.stackTraces = false → Met l y.1 (.codeWith y.1 y.2.1 y.2.2.1 y.2.2.2 hh :: TT) (rmX d 4) (va_Pc av (Wx G μ)) (QR G Φ) 4 24 (AdW G)
def FinL (G : Gx) (X : Cx) (hh : Hh) (Φ : Option Value → Mu → Prop) (k : Nat) : Prop := match X with
  | (_, l, _, R, s, _, args, below, meth, c, Q, cells, slots, A) => meth.sig.returnType = some .int ∧ cells = k ∧ slots = 6 * k ∧ k ≤ 4 ∧ Q = MQ below (QR G Φ) args s 4 24 (AdW G) ∧ A = AdW G ∧ c.exceptionTable.toList = tableOf hh ∧ l.stackTraces = false ∧ Zx G s s.heap ∧ 4 ≤ R.cells ∧ 24 ≤ R.slots
theorem RunsL.of {d : Nat} {y : MethodName} {cc : ByteArray} {nL : Nat} {hh : Hh} {av : List Value} {G : Gx} {μ : Mu} {Φ : Option Value → Mu → Prop} (own : String) (ho : y.cls = own) (hy : plainName y.cls = true) (lv : List (Nat × Value)) (hn : (lg_sl av).length ≤ nL) (hlv : lv_args 0 av = lv)
    (body : ∀ X : Cx, FinL G X hh Φ 0 → V G own cc nL d X 0 lv [] μ) : RunsL d (y, cc, nL, some .int) hh av G μ Φ := by
  subst ho
  intro l htr
  refine Met_ofWH (cc := cc) (maxL := nL) (ret := some .int) (hh := hh) hy rfl ?_
  intro p e s m args below meth c s₁ B hml hv
  obtain ⟨rfl, ⟨hP, hK, hI, hN⟩, hZ⟩ := hv
  have hts := atoms_spec (ws := .codeWith y cc nL (some .int) hh :: TT) B.pre
  have htab := vx_table (x := y) B (hts _ List.mem_cons_self)
  have hl := lv_entry av (n := nL) hn
  rw [hlv] at hl
  rw [lg_entry_eq]
  exact body (p, l, e, (headSpec (.codeWith y cc nL (some .int) hh :: TT) (rmX d 4)).room, s, m, av.toArray, below, meth, c, MQ below (QR G Φ) av.toArray s 4 24 (AdW G), 0, 0, AdW G) ⟨B.returns, rfl, rfl, Nat.zero_le _, rfl, rfl, htab, htr, hZ, Nat.le_refl _, Nat.le_refl _⟩ ⟨B.exec, B.bytes, hml, findClass_of_methodNamed B.named, fun w hw => hts w (List.mem_cons_of_mem _ hw), hN, hK, hI, Nat.le_refl _, Nat.le_refl _, Nat.zero_le _, Nat.zero_le _, fun k hk => ⟨k, hk, rfl⟩, B.notSynchronized⟩ s.heap [] _ hP va_S.rf hl
section VL
variable {G : Gx} {own : String} {cc : ByteArray} {nL d : Nat} {X : Cx} {pc : Nat} {lv : List (Nat × Value)} {rest : List Value} {μ : Mu} {Φ : Option Value → Mu → Prop} {hh : Hh} {k0 : Nat}
theorem V.iretL {v : Int32} (hF : FinL G X hh Φ k0) (hd : decode cc pc = .ok (.ireturn, 1)) (h : Φ (some (.int v)) μ) : V G own cc nL d X pc lv [.int v] μ := by
  obtain ⟨p, l, e, R, s, m, args, below, meth, c, Q, cells, slots, A⟩ := X
  obtain ⟨hr, rfl, rfl, hk, rfl, rfl, -⟩ := hF
  intro ok H locs ls hP hS hl
  exact W.widen hk (Nat.mul_le_mul_left 6 hk) (W.iret ok.1 ok.2.1 hr (fun t ht hW => ⟨_, μ, rfl, h, ⟨by rw [ht]; exact hP, va_K.moved hW.alike ok.2.2.2.2.2.2.1, ok.2.2.2.2.2.2.2.1, NW_moved hW ok.2.2.2.2.2.1⟩, hS.F ht⟩) hS.2.2 hd ok.2.2.2.2.2.2.2.2.2.2.2.2.2)
def Hnd (G : Gx) (own : String) (cc : ByteArray) (nL d : Nat) (X : Cx) (pc : Nat) (lv : List (Nat × Value)) (μ : Mu) (hh : Hh) (E : String) : Prop :=
  ∃ (pre : List ExceptionTableEntry) (x : ExceptionTableEntry) (suf : List ExceptionTableEntry) (name : String), tableOf hh = pre ++ x :: suf ∧ (∀ z ∈ pre, z.catchType ≠ 0 ∧ ∃ nm, Cond.classLink own z.catchType nm ∈ TT ∧ (E, nm) ∈ xwN) ∧ covers x pc = true ∧ x.catchType ≠ 0 ∧ Cond.classLink own x.catchType name ∈ TT ∧ (E, name) ∈ xwC ∧ ∀ q : Nat, V G own cc nL d X x.handlerPc lv [.ref q] μ
theorem Hnd.one {E : String} {a b t ct : Nat} {suf : Hh} (hp : a ≤ pc ∧ pc < b) (hc : ct ≠ 0) (w : Cond.classLink own ct E ∈ TT) (hE : (E, E) ∈ xwC) (k : ∀ q : Nat, V G own cc nL d X t lv [.ref q] μ) : Hnd G own cc nL d X pc lv μ ((a, b, t, ct) :: suf) E :=
  ⟨[], ⟨a, b, t, ct⟩, tableOf suf, E, rfl, (fun z h => by cases h), by simp [covers, hp], hc, w, hE, k⟩
theorem Hnd.two {E nm : String} {a b t ct a1 b1 t1 ct1 : Nat} {suf : Hh} (hc1 : ct1 ≠ 0) (w1 : Cond.classLink own ct1 nm ∈ TT) (hE1 : (E, nm) ∈ xwN) (hp : a ≤ pc ∧ pc < b) (hc : ct ≠ 0) (w : Cond.classLink own ct E ∈ TT) (hE : (E, E) ∈ xwC) (k : ∀ q : Nat, V G own cc nL d X t lv [.ref q] μ) : Hnd G own cc nL d X pc lv μ ((a1, b1, t1, ct1) :: (a, b, t, ct) :: suf) E :=
  ⟨[⟨a1, b1, t1, ct1⟩], ⟨a, b, t, ct⟩, tableOf suf, E, rfl, (fun z h => by rw [List.mem_singleton.mp h]; exact ⟨hc1, nm, w1, hE1⟩), by simp [covers, hp], hc, w, hE, k⟩
theorem V.tryV {d' : Nat} {y : MethodName} {bytes : ByteArray} {maxL : Nat} {ret1 : Option FieldType} {n index : Nat} {As st : List Value} {Φ1 : Option Value → Mu → Prop} {Ψ1 : String → Mu → Prop} (hF : FinL G X hh Φ 0) (hR : RunsX d' 4 (y, bytes, maxL, ret1) (.ref (G.2.2 80) :: As) G μ Φ1 Ψ1) (hd' : d' + 1 ≤ d) (hmx : maxL ≤ 21) (hy : y.cls = RX8) (w1 : Cond.methodLink own index y ∈ TT) (w2 : Cond.instanceMethod y ∈ TT) (w3 : Cond.selects y.cls y y ∈ TT) (w4 : Cond.initialized y.cls ∈ TT) (w5 : Cond.code y bytes maxL ret1 ∈ TT) (hdd : DescOk y n) (hn : As.length = n) (hst : st = As.reverse ++ .ref (G.2.2 80) :: rest) (hcat : (rest.map fun v => v.category).sum ≤ 8) (hd : decode cc pc = .ok (.invokevirtual index, 3))
    (kk : ∀ X' : Cx, FinL G X' hh Φ 4 → ∀ (r : Option Value) (μ' : Mu), Φ1 r μ' → V G own cc nL d X' (pc + 3) lv (r.toList ++ rest) μ') (kx : ∀ X' : Cx, FinL G X' hh Φ 4 → ∀ (E : String) (μ' : Mu), Ψ1 E μ' → Hnd G own cc nL d X' pc lv μ' hh E) : V G own cc nL d X pc lv st μ := by
  obtain ⟨p, l, e, R, s, m, args, below, meth, c, Q, cells, slots, A⟩ := X
  obtain ⟨hr, rfl, rfl, hk9, rfl, rfl, htab, htr, hZ, hRc, hRs⟩ := hF
  intro ok H locs ls hP hS hl
  obtain ⟨hx, hb, hml, hown, hts, hN9, hK, hI, hfr, hlo, hce, hsl, hA, hlk⟩ := id ok
  have hcb : CallB R s args own index y bytes maxL ret1 (Cond.code y bytes maxL ret1 :: TT) (rmX d' 4) 4 (6 * 4) n := callB_of n hts (TT_good' w5) rfl rfl rfl (hts _ w4) (hts _ w1) hdd ⟨Nat.le_trans hd' hfr, by show 8 + (maxL + 11) + 40 * d' ≤ R.locals; omega⟩
  have hrun := vx_runV (As := As) (rest := rest) (b := G.2.2 80) (C := y.cls) (below := below) (meth := meth) (e := e) (locs := locs) (cells := 0) (slots := 6 * 0) (g := F0 m pc ls st) ⟨hx, hb, hml, hown, hts⟩ (hR l htr) ⟨hcb, hts _ w2, hts _ w3⟩ ⟨Wx_blind, va_recv hK hP (ci := 8) (q := (y.cls, TX8, 12)) (by rw [hy]; rfl) (wl_get G μ (k := 80) (Nat.le_of_ble_eq_true rfl)), fun U hU hW => ⟨rfl, ⟨by rw [hU]; exact hP, va_K.moved hW.alike hK, hI, NW_moved hW hN9⟩, hZ.at hW (by rw [hU]; exact hS.2.1)⟩⟩ rfl hn hl.1 hst (lv_room hcat) hd ⟨by omega, by omega⟩
  intro T hT X
  have keep : ∀ {st₀ t T' : State} {L : List Loc}, st₀.heap = H → T'.heap = t.heap → (∀ q ∈ L, AdW G q.base) → va_F (AdW G) st₀ t → va_S (AdW G) s.heap T'.heap (locs ++ L) := by
    intro st₀ t T' L h0 e1 hL hF
    obtain ⟨hz, hkk⟩ := hF
    rw [h0] at hz hkk
    exact ⟨Nat.le_trans hS.1 (by rw [e1]; exact hz), fun q h1 h2 => by rw [e1, hkk q (Nat.lt_of_lt_of_le h1 hS.1) h2]; exact hS.2.1 q h1 h2, fun q hq => (List.mem_append.mp hq).elim (hS.2.2 q) (hL q)⟩
  have hF4 : FinL G (p, l, e, R, s, m, args, below, meth, c, MQ below (QR G Φ) args s 4 24 (AdW G), 0 + 4, 6 * 0 + 6 * 4, AdW G) hh Φ 4 := ⟨hr, by omega, by omega, Nat.le_refl _, rfl, rfl, htab, htr, hZ, hRc, hRs⟩
  have ok4 : OkX G own cc nL d (p, l, e, R, s, m, args, below, meth, c, MQ below (QR G Φ) args s 4 24 (AdW G), 0 + 4, 6 * 0 + 6 * 4, AdW G) := ⟨hx, hb, hml, hown, hts, hN9, hK, hI, hfr, hlo, by omega, by omega, hA, hlk⟩
  rcases hrun T hT X with ⟨v, st₀, t, T', L, h0, X', hL, e1, e2, ⟨r, μ', hv, hp, hb', hF'⟩, st1⟩ | ⟨q, st₀, t, T', L, E, ce, h0, X', hL, e1, e2, ⟨μ', hp, hP', hF'⟩, hce', hcv, hcl, st1⟩
  · cases hv
    obtain ⟨t2, a1, b1⟩ := kk _ hF4 v μ' hp ok4 T'.heap (locs ++ L) ls (by rw [e1]; exact hb'.1) (keep h0 e1 hL hF') hl T' rfl X'
    exact ⟨t2, st1 t2 a1, b1⟩
  · have hS' := keep h0 e1 hL hF'
    obtain ⟨pre, x, suf, name, hsp, hpass, hcov, hx0, wx, hcc, kq⟩ := kx _ hF4 E μ' hp
    obtain ⟨t2, a1, b1⟩ := vx_catch (pc := pc) (ls := ls) (rest := rest) (E := E) (ce := ce) (q := q) (name := name) hown pre x suf (htab.trans hsp) (fun z hz => Or.inr ⟨(hpass z hz).1, by obtain ⟨nm, h1, h2⟩ := (hpass z hz).2; exact ⟨nm, hts _ h1, hZ.2.2.2.2.2 _ h2⟩⟩) hcov hx0 (hts _ wx) (va_Nw.use rfl (hZ.2.2.2.2.1 _ hcc)) (by rw [e1]; exact hce') hcv hcl (kq q ok4 T'.heap (locs ++ L) ls (by rw [e1]; exact hP') hS' hl) T' rfl X'
    exact ⟨t2, st1.trans a1, b1⟩
end VL
