/-! MEMORY: cells by number; what changes is ints and longs: (cell, slot) to Int32, Int64; all references are final. -/
abbrev Mu : Type := (Nat → Nat → Int32) × (Nat → Nat → Int64)
abbrev Gx : Type := va_G × (Nat → ClassId) × (Nat → Nat)
def fS (G : Gx) (b : Nat) (f : Nat → Int32) (g : Nat → Int64) : List Value := [.int (f 0), .int (f 1), .int (f 2), .int (f 3), .long (g 4), .ref (G.2.2 (b + 1)), .ref (G.2.2 (b + 2)), .ref (G.2.2 (b + 3)), .ref (G.2.2 (b + 4)), .ref (G.2.2 (b + 5)), .ref (G.2.2 (b + 6)), .ref (G.2.2 (b + 7))]
def f8 (G : Gx) (f : Nat → Int32) (_ : Nat → Int64) : List Value := [.ref (G.2.2 81), .int (f 1), .int (f 2), .ref (G.2.2 82), .ref (G.2.2 (8 * 0)), .ref (G.2.2 83), .ref (G.2.2 85), .ref (G.2.2 86), .ref (G.2.2 88), .ref (G.2.2 91), .ref (G.2.2 92), .ref (G.2.2 94)]
def f2 (G : Gx) (f : Nat → Int32) (_ : Nat → Int64) : List Value := [.ref (G.2.2 84), .int (f 1), .int (f 2)]
def f4 (G : Gx) (f : Nat → Int32) (g : Nat → Int64) : List Value := [.ref (G.2.2 (8 * 1)), .int (f 1), .int (f 2), .int (f 3), .int (f 4), .int (f 5), .long (g 6)]
def f1 (G : Gx) (f : Nat → Int32) (_ : Nat → Int64) : List Value := [.ref (G.2.2 87), .int (f 1), .int (f 2), .int (f 3)]
def f3 (G : Gx) (f : Nat → Int32) (_ : Nat → Int64) : List Value := [.ref (G.2.2 89), .ref (G.2.2 90), .int (f 2), .int (f 3), .int (f 4)]
def f0 (_ : Gx) (f : Nat → Int32) (_ : Nat → Int64) : List Value := [.int (f 0), .int (f 1)]
def f5 (G : Gx) (f : Nat → Int32) (_ : Nat → Int64) : List Value := [.int (f 0), .int (f 1), .int (f 2), .int (f 3), .ref (G.2.2 93), .int (f 5), .int (f 6), .int (f 7), .int (f 8)]
def f7 (_ : Gx) (f : Nat → Int32) (_ : Nat → Int64) : List Value := [.int (f 0), .int (f 1), .int (f 2)]
def f9 (G : Gx) (f : Nat → Int32) (_ : Nat → Int64) : List Value := [.int (f 0), .ref (G.2.2 97), .int (f 2), .int (f 3), .int (f 4), .int (f 5), .int (f 6), .int (f 7), .ref (G.2.2 98), .ref (G.2.2 99), .ref (G.2.2 100), .ref (G.2.2 101), .int (f 12), .int (f 13), .ref (G.2.2 110), .int (f 15), .int (f 16), .int (f 17), .ref (G.2.2 111), .ref (G.2.2 112), .ref (G.2.2 113), .int (f 21), .int (f 22), .ref (G.2.2 114), .ref (G.2.2 115), .ref (G.2.2 116), .ref (G.2.2 117)]
def aB (G : Gx) (n : Nat) (f : Nat → Int32) : va_E := .inl (G.2.1 0, n, .inl f)
def aI (G : Gx) (n : Nat) (f : Nat → Int32) : va_E := .inl (G.2.1 1, n, .inl f)
def aJ (G : Gx) (n : Nat) (g : Nat → Int64) : va_E := .inl (G.2.1 2, n, .inr (.inl g))
def aZ (G : Gx) (n : Nat) (f : Nat → Int32) : va_E := .inl (G.2.1 3, n, .inl f)
def aR (G : Gx) (c n : Nat) (h : Nat → Nat) : va_E := .inl (G.2.1 c, n, .inr (.inr (.inr (.inr (fun i => some (G.2.2 (h i)))))))
def cell (G : Gx) (k : Nat) (f : Nat → Int32) (g : Nat → Int64) : va_E :=
  if k < 80 then (if k % 8 = 0 then .inr (6, fS G k f g) else if k % 8 = 5 then aJ G 16 g else if k % 8 = 6 then aJ G 48 g else if k % 8 = 7 then aI G 48 f else aI G 16 f)
  else ([.inr (8, f8 G f g), aB G 600 f, aI G 3 f, .inr (2, f2 G f g), aR G 4 8 (fun i => 8 * (2 + i)), .inr (4, f4 G f g), .inr (1, f1 G f g), aI G 16 f, .inr (3, f3 G f g), aI G 16 f, aI G 16 f, .inr (0, f0 G f g), .inr (5, f5 G f g), aJ G 17 g, .inr (7, f7 G f g), aJ G 1 g,
    .inr (9, f9 G f g), aI G 3 f, aI G 600 f, aJ G 645 g, aJ G 645 g, aR G 5 8 (fun i => 102 + i), aJ G 645 g, aJ G 645 g, aJ G 645 g, aJ G 645 g, aJ G 645 g, aJ G 645 g, aJ G 645 g, aJ G 645 g, aI G 16 f, aI G 16 f, aI G 16 f, aZ G 16 f, aI G 65536 f, aI G 65536 f, aI G 48 f, aI G 16 f] : List va_E).getD (k - 80) (.inr (0, []))
def wl (G : Gx) (μ : Mu) : va_W := (List.range 118).map (fun k => (G.2.2 k, cell G k (μ.1 k) (μ.2 k)))
def si (μ : Mu) (k i : Nat) (v : Int32) : Mu := (fun a => if a = k then upd (μ.1 a) i v else μ.1 a, μ.2)
def sj (μ : Mu) (k i : Nat) (v : Int64) : Mu := (μ.1, fun a => if a = k then vp_updL (μ.2 a) i v else μ.2 a)
theorem si_s (μ : Mu) (k i : Nat) (v : Int32) : (si μ k i v).1 k i = v := by simp [si, upd]
theorem si_c (μ : Mu) {k a : Nat} (i : Nat) (v : Int32) (h : a ≠ k) : (si μ k i v).1 a = μ.1 a := by simp [si, h]
theorem si_i (μ : Mu) (k : Nat) {i j : Nat} (v : Int32) (h : j ≠ i) (a : Nat) : (si μ k i v).1 a j = μ.1 a j := by
  by_cases e : a = k <;> simp [si, upd, e, h]
theorem si_k (μ : Mu) (k i : Nat) (v : Int32) : (si μ k i v).1 k = upd (μ.1 k) i v := by simp [si]
theorem sj_s (μ : Mu) (k i : Nat) (v : Int64) : (sj μ k i v).2 k i = v := by simp [sj, vp_updL]
theorem sj_c (μ : Mu) {k a : Nat} (i : Nat) (v : Int64) (h : a ≠ k) : (sj μ k i v).2 a = μ.2 a := by simp [sj, h]
theorem sj_i (μ : Mu) (k : Nat) {i j : Nat} (v : Int64) (h : j ≠ i) (a : Nat) : (sj μ k i v).2 a j = μ.2 a j := by
  by_cases e : a = k <;> simp [sj, vp_updL, e, h]
theorem sj_k (μ : Mu) (k i : Nat) (v : Int64) : (sj μ k i v).2 k = vp_updL (μ.2 k) i v := by simp [sj]
theorem wl_len (G : Gx) (μ : Mu) : (wl G μ).length = 118 := by simp [wl]
theorem wl_get (G : Gx) (μ : Mu) {k : Nat} (h : k < 118) : (wl G μ)[k]? = some (G.2.2 k, cell G k (μ.1 k) (μ.2 k)) := by simp [wl, h]
theorem wl_set (G : Gx) {μ μ' : Mu} {k : Nat} (hk : k < 118) (h : ∀ j, j ≠ k → μ'.1 j = μ.1 j ∧ μ'.2 j = μ.2 j) {e : va_E} (he : e = cell G k (μ'.1 k) (μ'.2 k)) : (wl G μ).set k (G.2.2 k, e) = wl G μ' := by
  subst he
  apply List.ext_getElem?
  intro j
  by_cases hj : j < 118
  · rw [wl_get G μ' hj]
    by_cases e : j = k
    · subst e
      rw [List.getElem?_set_self (by rw [wl_len]; exact hj)]
    · rw [List.getElem?_set_ne (Ne.symm e), wl_get G μ hj, (h j e).1, (h j e).2]
  · rw [List.getElem?_eq_none (by rw [List.length_set, wl_len]; omega), List.getElem?_eq_none (by rw [wl_len]; omega)]
theorem wl_si (G : Gx) (μ : Mu) {k : Nat} (hk : k < 118) (i : Nat) (v : Int32) {e : va_E} (he : e = cell G k (upd (μ.1 k) i v) (μ.2 k)) : (wl G μ).set k (G.2.2 k, e) = wl G (si μ k i v) :=
  wl_set G hk (fun j hj => ⟨si_c μ i v hj, rfl⟩) (by rw [si_k]; exact he)
theorem wl_sj (G : Gx) (μ : Mu) {k : Nat} (hk : k < 118) (i : Nat) (v : Int64) {e : va_E} (he : e = cell G k (μ.1 k) (vp_updL (μ.2 k) i v)) : (wl G μ).set k (G.2.2 k, e) = wl G (sj μ k i v) :=
  wl_set (μ := μ) (μ' := sj μ k i v) G hk (fun j hj => ⟨rfl, sj_c μ i v hj⟩) (by show e = cell G k (μ.1 k) ((sj μ k i v).2 k); rw [sj_k μ k i v]; exact he)
def InjG (G : Gx) : Prop := ∀ i j : Nat, i < 118 → j < 118 → G.2.2 i = G.2.2 j → i = j
def AdW (G : Gx) : Nat → Prop := fun q => ∃ k, k < 118 ∧ q = G.2.2 k
theorem wl_at (G : Gx) (μ : Mu) {k : Nat} {q : Nat × va_E} (h : (wl G μ)[k]? = some q) : k < 118 ∧ q.1 = G.2.2 k := by
  have hk : k < 118 := by
    have := (List.getElem?_eq_some_iff.mp h).1
    rwa [wl_len] at this
  rw [wl_get G μ hk] at h
  cases h
  exact ⟨hk, rfl⟩
theorem wl_D {G : Gx} {A : Nat → Prop} (hi : InjG G) (hA : ∀ k, k < 118 → A (G.2.2 k)) (μ : Mu) : va_D A (wl G μ) := by
  refine ⟨fun i j p q hp hq e => ?_, fun k q hq => ?_⟩
  · obtain ⟨h1, h2⟩ := wl_at G μ hp
    obtain ⟨h3, h4⟩ := wl_at G μ hq
    exact hi i j h1 h3 (by rw [← h2, ← h4]; exact e)
  · obtain ⟨h1, h2⟩ := wl_at G μ hq
    rw [h2]
    exact hA k h1
def tysG (G : Gx) : List (ClassId × FieldType) := [(G.2.1 0, .byte), (G.2.1 1, .int), (G.2.1 2, .long), (G.2.1 3, .boolean), (G.2.1 4, .object "CoverExtract$State"), (G.2.1 5, .array .long)]
/-! WORDS: the good ones of the tables for every method; the nest's own by themselves -/
def TT : List Cond := lw_tbl.filter goodWord
def isNest (w : Cond) : Bool := match w with
  | .fieldLinkNest _ _ _ _ _ _ => true
  | .methodLinkNest _ _ _ _ => true
  | _ => false
def NW : List Cond := tables_1.filter isNest
theorem TT_in {w : Cond} (h : w ∈ lw_tbl) (g : goodWord w = true) : w ∈ TT := List.mem_filter.mpr ⟨h, g⟩
theorem TT_all : TT.all goodWord = true := List.all_eq_true.mpr (fun _ h => (List.mem_filter.mp h).2)
theorem TT_good {c : Cond} {y : Cond} (hy : y ∈ TT) : GoodIn (c :: TT) (y :: TT) := fun w hw => (List.mem_cons.mp hw).elim (fun e => by subst e; exact ⟨List.mem_cons_of_mem _ hy, good_of_word (List.all_eq_true.mp TT_all _ hy)⟩) (fun h => ⟨List.mem_cons_of_mem _ h, good_of_word (List.all_eq_true.mp TT_all _ h)⟩)
theorem TT_good' {y : Cond} (hy : y ∈ TT) : GoodIn TT (y :: TT) := fun w hw => (List.mem_cons.mp hw).elim (fun e => by subst e; exact ⟨hy, good_of_word (List.all_eq_true.mp TT_all _ hy)⟩) (fun h => ⟨h, good_of_word (List.all_eq_true.mp TT_all _ h)⟩)
theorem NW_moved {s U : State} (hW : s.WarmedH U.vm) (h : ∀ w ∈ NW, va_Nw w s) : ∀ w ∈ NW, va_Nw w U := by
  intro w hw
  have h1 := h w hw
  have h2 := (List.mem_filter.mp hw).2
  cases w <;> first | (exact va_Nw.warmF hW h1) | (exact va_Nw.warmM hW h1) | (simp [isNest] at h2)
theorem NW_same {s U : State} (hv : s.vm = U.vm) (h : ∀ w ∈ NW, va_Nw w s) : ∀ w ∈ NW, va_Nw w U := by
  intro w hw
  have h1 := h w hw
  have h2 := (List.mem_filter.mp hw).2
  cases w <;> first | (exact va_Nw.same rfl hv h1) | (simp [isNest] at h2)
/-! THE WORLD, AND A METHOD'S RUN -/
def Wd (G : Gx) (μ : Mu) (U : State) : Prop := va_P G.1 vwCl (wl G μ) U.heap ∧ va_K G.1 vwCl (tysG G) U ∧ InjG G ∧ ∀ w ∈ NW, va_Nw w U
abbrev Mm : Type := MethodName × ByteArray × Nat × Option FieldType
def rmD (d : Nat) : Room := { frames := d, cells := 0, slots := 0, locals := 40 * d }
def QR (G : Gx) (Φ : Option Value → Mu → Prop) : Array Value → State → Outcome → State → Prop := fun _ st oc t => ∃ (r : Option Value) (μ' : Mu), oc = .returned r ∧ Φ r μ' ∧ Wd G μ' t ∧ va_F (AdW G) st t
def Runs (d : Nat) (y : Mm) (av : List Value) (G : Gx) (μ : Mu) (Φ : Option Value → Mu → Prop) : Prop := ∀ l : Launch, Met l y.1 (.code y.1 y.2.1 y.2.2.1 y.2.2.2 :: TT) (rmD d) (va_Pc av (Wd G μ)) (QR G Φ) 0 0 (AdW G)
/-- it returns v and changes nothing -/
abbrev RunsP (d : Nat) (y : Mm) (av : List Value) (G : Gx) (μ : Mu) (v : Value) : Prop := Runs d y av G μ (fun r μ' => r = some v ∧ μ' = μ)
abbrev Cx : Type := Program × Launch × Env × Room × State × MethodId × Array Value × List Frame × Method × Code × (State → Prop) × Nat × Nat × (Nat → Prop)
def OkX (G : Gx) (own : String) (cc : ByteArray) (nL d : Nat) (X : Cx) : Prop := match X with
  | (p, _, _, R, s, m, args, _, meth, c, _, cells, slots, A) => p.tables.exec = Jvm.exec ∧ c.code = cc ∧ c.maxLocals = nL ∧ s.vm.findClass own = some m.cls ∧ (∀ w ∈ TT, w.before args s = true) ∧ (∀ w ∈ NW, va_Nw w s) ∧ va_K G.1 vwCl (tysG G) s ∧ InjG G ∧ d ≤ R.frames ∧ 40 * d ≤ R.locals ∧ cells ≤ R.cells ∧ slots ≤ R.slots ∧ (∀ k, k < 118 → A (G.2.2 k)) ∧ meth.locks = false
def V (G : Gx) (own : String) (cc : ByteArray) (nL d : Nat) (X : Cx) (pc : Nat) (lv : List (Nat × Value)) (st : List Value) (μ : Mu) : Prop := match X with
  | (p, l, e, R, s, m, args, below, meth, c, Q, cells, slots, A) => OkX G own cc nL d X → ∀ (H : Heap) (locs : List Loc) (ls : Array Slot), va_P G.1 vwCl (wl G μ) H → va_S A s.heap H locs → lv_has ls nL lv → W p l e R s m args below meth c H locs cells slots Q (F0 m pc ls st)
/-- what a method's walk owes at its end -/
def Fin' (G : Gx) (X : Cx) (ret : Option FieldType) (Φ : Option Value → Mu → Prop) : Prop := match X with
  | (_, _, _, _, s, _, args, below, meth, _, Q, cells, slots, A) => meth.sig.returnType = ret ∧ cells = 0 ∧ slots = 0 ∧ Q = MQ below (QR G Φ) args s 0 0 (AdW G) ∧ A = AdW G
theorem Wd_blind {G : Gx} {μ : Mu} {av : List Value} : FrameBlind (va_Pc av (Wd G μ)) := by
  intro a U g mk q
  obtain ⟨q0, qP, qK, qI, qN⟩ := q
  exact ⟨q0, qP, va_K.moved (u := U) (U := U.calling g mk a) (Vm.Alike.refl U.vm) qK, qI, NW_same (s := U) (U := U.calling g mk a) rfl qN⟩
theorem Runs.of {d : Nat} {y : MethodName} {cc : ByteArray} {nL : Nat} {ret : Option FieldType} {av : List Value} {G : Gx} {μ : Mu} {Φ : Option Value → Mu → Prop} (hy : plainName y.cls = true) {lv : List (Nat × Value)} (hn : (lg_sl av).length ≤ nL) (hlv : lv_args 0 av = lv)
    (body : ∀ X : Cx, Fin' G X ret Φ → V G y.cls cc nL d X 0 lv [] μ) : Runs d (y, cc, nL, ret) av G μ Φ := by
  intro l
  refine Met.ofW (cc := cc) (maxL := nL) (ret := ret) hy rfl ?_
  intro p e s m args below meth c s₁ B hml hv
  obtain ⟨rfl, hP, hK, hI, hN⟩ := hv
  have hts := atoms_spec (ws := .code y cc nL ret :: TT) B.pre
  have hl := lv_entry av (n := nL) hn
  rw [hlv] at hl
  rw [lg_entry_eq]
  exact body (p, l, e, (headSpec (.code y cc nL ret :: TT) (rmD d)).room, s, m, av.toArray, below, meth, c, MQ below (QR G Φ) av.toArray s 0 0 (AdW G), 0, 0, AdW G) ⟨B.returns, rfl, rfl, rfl, rfl⟩ ⟨B.exec, B.bytes, hml, findClass_of_methodNamed B.named, fun w hw => hts w (List.mem_cons_of_mem _ hw), hN, hK, hI, Nat.le_refl _, Nat.le_refl _, Nat.zero_le _, Nat.zero_le _, fun k hk => ⟨k, hk, rfl⟩, B.notSynchronized⟩ s.heap [] _ hP va_S.rf hl
section VV
variable {G : Gx} {own : String} {cc : ByteArray} {nL d : Nat} {X : Cx} {pc : Nat} {lv : List (Nat × Value)} {rest : List Value} {μ : Mu}
theorem V.sub {st : List Value} {lv' : List (Nat × Value)} (ks : List Nat) (h : lv_pick lv ks = lv') (kk : V G own cc nL d X pc lv' st μ) : V G own cc nL d X pc lv st μ := by
  obtain ⟨p, l, e, R, s, m, args, below, meth, c, Q, cells, slots, A⟩ := X
  exact fun ok H locs ls hP hS hl => kk ok H locs ls hP hS (lv_sub hl ks h)
theorem V.mu {st : List Value} {μ' : Mu} (h : μ = μ') (kk : V G own cc nL d X pc lv st μ') : V G own cc nL d X pc lv st μ := h ▸ kk
theorem V.st {st st' : List Value} (h : st = st') (kk : V G own cc nL d X pc lv st' μ) : V G own cc nL d X pc lv st μ := h ▸ kk
theorem V.lvs {st : List Value} {lv' : List (Nat × Value)} (h : lv = lv') (kk : V G own cc nL d X pc lv' st μ) : V G own cc nL d X pc lv st μ := h ▸ kk
theorem V.wr {st : List Value} (h : ∀ (H : Heap), va_P G.1 vwCl (wl G μ) H → InjG G → V G own cc nL d X pc lv st μ) : V G own cc nL d X pc lv st μ := by
  obtain ⟨p, l, e, R, s, m, args, below, meth, c, Q, cells, slots, A⟩ := X
  exact fun ok H locs ls hP hS hl => h H hP ok.2.2.2.2.2.2.2.1 ok H locs ls hP hS hl

theorem V.iconst {n : Int} {v : Int32} (hd : decode cc pc = .ok (.iconst n, 1)) (hv : Int32.ofInt n = v) (kk : V G own cc nL d X (pc + 1) lv (.int v :: rest) μ) : V G own cc nL d X pc lv rest μ := by
  obtain ⟨p, l, e, R, s, m, args, below, meth, c, Q, cells, slots, A⟩ := X
  exact fun ok H locs ls hP hS hl => lv_iconst ok.1 ok.2.1 hd hv (kk ok H locs ls hP hS hl)
theorem V.bipush {n : Int} {v : Int32} (hd : decode cc pc = .ok (.bipush n, 2)) (hv : (Int8.ofInt n).toInt32 = v) (kk : V G own cc nL d X (pc + 2) lv (.int v :: rest) μ) : V G own cc nL d X pc lv rest μ := by
  obtain ⟨p, l, e, R, s, m, args, below, meth, c, Q, cells, slots, A⟩ := X
  exact fun ok H locs ls hP hS hl => lv_bipush ok.1 ok.2.1 hd hv (kk ok H locs ls hP hS hl)
theorem V.sipush {n : Int} {v : Int32} (hd : decode cc pc = .ok (.sipush n, 3)) (hv : (Int16.ofInt n).toInt32 = v) (kk : V G own cc nL d X (pc + 3) lv (.int v :: rest) μ) : V G own cc nL d X pc lv rest μ := by
  obtain ⟨p, l, e, R, s, m, args, below, meth, c, Q, cells, slots, A⟩ := X
  exact fun ok H locs ls hP hS hl => lv_sipush ok.1 ok.2.1 hd hv (kk ok H locs ls hP hS hl)
theorem V.lconst {n : Fin 2} {v : Int64} (hd : decode cc pc = .ok (.lconst n, 1)) (hv : Int64.ofNat (n : Nat) = v) (kk : V G own cc nL d X (pc + 1) lv (.long v :: rest) μ) : V G own cc nL d X pc lv rest μ := by
  obtain ⟨p, l, e, R, s, m, args, below, meth, c, Q, cells, slots, A⟩ := X
  exact fun ok H locs ls hP hS hl => lv_lconst ok.1 ok.2.1 hd hv (kk ok H locs ls hP hS hl)
theorem V.ldc {index : Nat} {v : Int32} (hw : Cond.constant own index v ∈ TT) (hd : decode cc pc = .ok (.ldc index, 2)) (kk : V G own cc nL d X (pc + 2) lv (.int v :: rest) μ) : V G own cc nL d X pc lv rest μ := by
  obtain ⟨p, l, e, R, s, m, args, below, meth, c, Q, cells, slots, A⟩ := X
  exact fun ok H locs ls hP hS hl => lv_ldc ok.1 ok.2.1 ok.2.2.2.1 (ok.2.2.2.2.1 _ hw) hd (kk ok H locs ls hP hS hl)
theorem V.ldc_w {index : Nat} {v : Int32} (hw : Cond.constant own index v ∈ TT) (hd : decode cc pc = .ok (.ldc_w index, 3)) (kk : V G own cc nL d X (pc + 3) lv (.int v :: rest) μ) : V G own cc nL d X pc lv rest μ := by
  obtain ⟨p, l, e, R, s, m, args, below, meth, c, Q, cells, slots, A⟩ := X
  exact fun ok H locs ls hP hS hl => lv_ldcw ok.1 ok.2.1 ok.2.2.2.1 (ok.2.2.2.2.1 _ hw) hd (kk ok H locs ls hP hS hl)
theorem V.ldc2_w {index : Nat} {v : Int64} (hw : Cond.constantLong own index v ∈ TT) (hd : decode cc pc = .ok (.ldc2_w index, 3)) (kk : V G own cc nL d X (pc + 3) lv (.long v :: rest) μ) : V G own cc nL d X pc lv rest μ := by
  obtain ⟨p, l, e, R, s, m, args, below, meth, c, Q, cells, slots, A⟩ := X
  exact fun ok H locs ls hP hS hl => lv_ldc2 ok.1 ok.2.1 ok.2.2.2.1 (ok.2.2.2.2.1 _ hw) hd (kk ok H locs ls hP hS hl)
theorem V.iload_n {k : Fin 4} {x : Int32} (j : Nat) (hd : decode cc pc = .ok (.iload_n k, 1)) (h : lv[j]? = some ((k : Nat), .int x)) (kk : V G own cc nL d X (pc + 1) lv (.int x :: rest) μ) : V G own cc nL d X pc lv rest μ := by
  obtain ⟨p, l, e, R, s, m, args, below, meth, c, Q, cells, slots, A⟩ := X
  exact fun ok H locs ls hP hS hl => lv_iload_n ok.1 ok.2.1 hd rfl (lv_at hl j h) (kk ok H locs ls hP hS hl)
theorem V.iload {i : Nat} {x : Int32} (j : Nat) (hd : decode cc pc = .ok (.iload i, 2)) (h : lv[j]? = some (i, .int x)) (kk : V G own cc nL d X (pc + 2) lv (.int x :: rest) μ) : V G own cc nL d X pc lv rest μ := by
  obtain ⟨p, l, e, R, s, m, args, below, meth, c, Q, cells, slots, A⟩ := X
  exact fun ok H locs ls hP hS hl => lv_iload ok.1 ok.2.1 hd (lv_at hl j h) (kk ok H locs ls hP hS hl)
theorem V.lload_n {k : Fin 4} {x : Int64} (j : Nat) (hd : decode cc pc = .ok (.lload_n k, 1)) (h : lv[j]? = some ((k : Nat), .long x)) (kk : V G own cc nL d X (pc + 1) lv (.long x :: rest) μ) : V G own cc nL d X pc lv rest μ := by
  obtain ⟨p, l, e, R, s, m, args, below, meth, c, Q, cells, slots, A⟩ := X
  exact fun ok H locs ls hP hS hl => lv_lload_n ok.1 ok.2.1 hd rfl (lv_at hl j h) (kk ok H locs ls hP hS hl)
theorem V.lload {i : Nat} {x : Int64} (j : Nat) (hd : decode cc pc = .ok (.lload i, 2)) (h : lv[j]? = some (i, .long x)) (kk : V G own cc nL d X (pc + 2) lv (.long x :: rest) μ) : V G own cc nL d X pc lv rest μ := by
  obtain ⟨p, l, e, R, s, m, args, below, meth, c, Q, cells, slots, A⟩ := X
  exact fun ok H locs ls hP hS hl => lv_lload ok.1 ok.2.1 hd (lv_at hl j h) (kk ok H locs ls hP hS hl)
theorem V.aload_n {k : Fin 4} {x : Nat} (j : Nat) (hd : decode cc pc = .ok (.aload_n k, 1)) (h : lv[j]? = some ((k : Nat), .ref x)) (kk : V G own cc nL d X (pc + 1) lv (.ref x :: rest) μ) : V G own cc nL d X pc lv rest μ := by
  obtain ⟨p, l, e, R, s, m, args, below, meth, c, Q, cells, slots, A⟩ := X
  exact fun ok H locs ls hP hS hl => lv_aload_n ok.1 ok.2.1 hd rfl (lv_at hl j h) (kk ok H locs ls hP hS hl)
theorem V.aload {i : Nat} {x : Nat} (j : Nat) (hd : decode cc pc = .ok (.aload i, 2)) (h : lv[j]? = some (i, .ref x)) (kk : V G own cc nL d X (pc + 2) lv (.ref x :: rest) μ) : V G own cc nL d X pc lv rest μ := by
  obtain ⟨p, l, e, R, s, m, args, below, meth, c, Q, cells, slots, A⟩ := X
  exact fun ok H locs ls hP hS hl => lv_aload ok.1 ok.2.1 hd (lv_at hl j h) (kk ok H locs ls hP hS hl)
def lins (i : Nat) (v : Value) : List (Nat × Value) → List (Nat × Value)
  | [] => [(i, v)]
  | q :: r => if q.1 < i then q :: lins i v r else (i, v) :: q :: r
theorem lins_mem {i : Nat} {v : Value} {l : List (Nat × Value)} {q : Nat × Value} (h : q ∈ lins i v l) : q ∈ (i, v) :: l := by
  induction l with
  | nil => exact h
  | cons a r ih =>
    by_cases c : a.1 < i
    · rw [lins, if_pos c] at h
      rcases List.mem_cons.mp h with h | h
      · exact List.mem_cons_of_mem _ (List.mem_cons.mpr (Or.inl h))
      · rcases List.mem_cons.mp (ih h) with h | h
        · exact List.mem_cons.mpr (Or.inl h)
        · exact List.mem_cons_of_mem _ (List.mem_cons_of_mem _ h)
    · rw [lins, if_neg c] at h
      exact h
theorem lv_mem {ls : Array Slot} {nL : Nat} {l l' : List (Nat × Value)} (h : lv_has ls nL l) (hm : ∀ q ∈ l', q ∈ l) : lv_has ls nL l' := ⟨h.1, h.2.1, fun q hq => h.2.2 q (hm q hq)⟩
def lset1 (i : Nat) (v : Value) (lv : List (Nat × Value)) : List (Nat × Value) := lins i v (lv.filter (fun q => !(q.1 == i) && !(q.1 + 1 == i && q.2.category == 2)))
def lset2 (i : Nat) (v : Value) (lv : List (Nat × Value)) : List (Nat × Value) := lins i v (lv.filter (fun q => !(q.1 == i) && (!(q.1 == i + 1) && !(q.1 + 1 == i && q.2.category == 2))))
theorem V.istore_n {k : Fin 4} {x : Int32} {lv' : List (Nat × Value)} (hd : decode cc pc = .ok (.istore_n k, 1)) (hn : (k : Nat) < nL) (hv : lset1 (k : Nat) (.int x) lv = lv') (kk : V G own cc nL d X (pc + 1) lv' rest μ) : V G own cc nL d X pc lv (.int x :: rest) μ := by
  subst hv
  obtain ⟨p, l, e, R, s, m, args, below, meth, c, Q, cells, slots, A⟩ := X
  exact fun ok H locs ls hP hS hl => lv_istore_n ok.1 ok.2.1 hd rfl hl hn rfl (fun ls hl => kk ok H locs ls hP hS (lv_mem hl (fun _ hq => lins_mem hq)))
theorem V.istore {i : Nat} {x : Int32} {lv' : List (Nat × Value)} (hd : decode cc pc = .ok (.istore i, 2)) (hn : i < nL) (hv : lset1 i (.int x) lv = lv') (kk : V G own cc nL d X (pc + 2) lv' rest μ) : V G own cc nL d X pc lv (.int x :: rest) μ := by
  subst hv
  obtain ⟨p, l, e, R, s, m, args, below, meth, c, Q, cells, slots, A⟩ := X
  exact fun ok H locs ls hP hS hl => lv_istore ok.1 ok.2.1 hd hl hn rfl (fun ls hl => kk ok H locs ls hP hS (lv_mem hl (fun _ hq => lins_mem hq)))
theorem V.lstore_n {k : Fin 4} {x : Int64} {lv' : List (Nat × Value)} (hd : decode cc pc = .ok (.lstore_n k, 1)) (hn : (k : Nat) + 1 < nL) (hv : lset2 (k : Nat) (.long x) lv = lv') (kk : V G own cc nL d X (pc + 1) lv' rest μ) : V G own cc nL d X pc lv (.long x :: rest) μ := by
  subst hv
  obtain ⟨p, l, e, R, s, m, args, below, meth, c, Q, cells, slots, A⟩ := X
  exact fun ok H locs ls hP hS hl => lv_lstore_n ok.1 ok.2.1 hd rfl hl hn rfl (fun ls hl => kk ok H locs ls hP hS (lv_mem hl (fun _ hq => lins_mem hq)))
theorem V.lstore {i : Nat} {x : Int64} {lv' : List (Nat × Value)} (hd : decode cc pc = .ok (.lstore i, 2)) (hn : i + 1 < nL) (hv : lset2 i (.long x) lv = lv') (kk : V G own cc nL d X (pc + 2) lv' rest μ) : V G own cc nL d X pc lv (.long x :: rest) μ := by
  subst hv
  obtain ⟨p, l, e, R, s, m, args, below, meth, c, Q, cells, slots, A⟩ := X
  exact fun ok H locs ls hP hS hl => lv_lstore ok.1 ok.2.1 hd hl hn rfl (fun ls hl => kk ok H locs ls hP hS (lv_mem hl (fun _ hq => lins_mem hq)))
theorem V.astore_n {k : Fin 4} {x : Nat} {lv' : List (Nat × Value)} (hd : decode cc pc = .ok (.astore_n k, 1)) (hn : (k : Nat) < nL) (hv : lset1 (k : Nat) (.ref x) lv = lv') (kk : V G own cc nL d X (pc + 1) lv' rest μ) : V G own cc nL d X pc lv (.ref x :: rest) μ := by
  subst hv
  obtain ⟨p, l, e, R, s, m, args, below, meth, c, Q, cells, slots, A⟩ := X
  exact fun ok H locs ls hP hS hl => lv_astore_n ok.1 ok.2.1 hd rfl hl hn rfl (fun ls hl => kk ok H locs ls hP hS (lv_mem hl (fun _ hq => lins_mem hq)))
theorem V.astore {i : Nat} {x : Nat} {lv' : List (Nat × Value)} (hd : decode cc pc = .ok (.astore i, 2)) (hn : i < nL) (hv : lset1 i (.ref x) lv = lv') (kk : V G own cc nL d X (pc + 2) lv' rest μ) : V G own cc nL d X pc lv (.ref x :: rest) μ := by
  subst hv
  obtain ⟨p, l, e, R, s, m, args, below, meth, c, Q, cells, slots, A⟩ := X
  exact fun ok H locs ls hP hS hl => lv_astore ok.1 ok.2.1 hd hl hn rfl (fun ls hl => kk ok H locs ls hP hS (lv_mem hl (fun _ hq => lins_mem hq)))
theorem V.iinc {i : Nat} {n : Int} {x v : Int32} {lv' : List (Nat × Value)} (j : Nat) (hd : decode cc pc = .ok (.iinc i n, 3)) (h : lv[j]? = some (i, .int x)) (he : x + Int32.ofInt n = v) (hn : i < nL) (hv : lset1 i (.int v) lv = lv') (kk : V G own cc nL d X (pc + 3) lv' rest μ) : V G own cc nL d X pc lv rest μ := by
  subst hv
  obtain ⟨p, l, e, R, s, m, args, below, meth, c, Q, cells, slots, A⟩ := X
  exact fun ok H locs ls hP hS hl => lv_iinc ok.1 ok.2.1 hd hl h he hn rfl (fun ls hl => kk ok H locs ls hP hS (lv_mem hl (fun _ hq => lins_mem hq)))
theorem V.iadd {x y v : Int32} (hd : decode cc pc = .ok (.iadd, 1)) (hv : x + y = v) (kk : V G own cc nL d X (pc + 1) lv (.int v :: rest) μ) : V G own cc nL d X pc lv (.int y :: .int x :: rest) μ := by
  subst hv
  obtain ⟨p, l, e, R, s, m, args, below, meth, c, Q, cells, slots, A⟩ := X
  exact fun ok H locs ls hP hS hl => lv_iadd ok.1 ok.2.1 hd (kk ok H locs ls hP hS hl)
theorem V.isub {x y v : Int32} (hd : decode cc pc = .ok (.isub, 1)) (hv : x - y = v) (kk : V G own cc nL d X (pc + 1) lv (.int v :: rest) μ) : V G own cc nL d X pc lv (.int y :: .int x :: rest) μ := by
  subst hv
  obtain ⟨p, l, e, R, s, m, args, below, meth, c, Q, cells, slots, A⟩ := X
  exact fun ok H locs ls hP hS hl => lv_isub ok.1 ok.2.1 hd (kk ok H locs ls hP hS hl)
theorem V.imul {x y v : Int32} (hd : decode cc pc = .ok (.imul, 1)) (hv : x * y = v) (kk : V G own cc nL d X (pc + 1) lv (.int v :: rest) μ) : V G own cc nL d X pc lv (.int y :: .int x :: rest) μ := by
  subst hv
  obtain ⟨p, l, e, R, s, m, args, below, meth, c, Q, cells, slots, A⟩ := X
  exact fun ok H locs ls hP hS hl => lv_imul ok.1 ok.2.1 hd (kk ok H locs ls hP hS hl)
theorem V.iand {x y v : Int32} (hd : decode cc pc = .ok (.iand, 1)) (hv : x &&& y = v) (kk : V G own cc nL d X (pc + 1) lv (.int v :: rest) μ) : V G own cc nL d X pc lv (.int y :: .int x :: rest) μ := by
  subst hv
  obtain ⟨p, l, e, R, s, m, args, below, meth, c, Q, cells, slots, A⟩ := X
  exact fun ok H locs ls hP hS hl => lv_iand ok.1 ok.2.1 hd (kk ok H locs ls hP hS hl)
theorem V.ior {x y v : Int32} (hd : decode cc pc = .ok (.ior, 1)) (hv : x ||| y = v) (kk : V G own cc nL d X (pc + 1) lv (.int v :: rest) μ) : V G own cc nL d X pc lv (.int y :: .int x :: rest) μ := by
  subst hv
  obtain ⟨p, l, e, R, s, m, args, below, meth, c, Q, cells, slots, A⟩ := X
  exact fun ok H locs ls hP hS hl => lv_ior ok.1 ok.2.1 hd (kk ok H locs ls hP hS hl)
theorem V.ixor {x y v : Int32} (hd : decode cc pc = .ok (.ixor, 1)) (hv : x ^^^ y = v) (kk : V G own cc nL d X (pc + 1) lv (.int v :: rest) μ) : V G own cc nL d X pc lv (.int y :: .int x :: rest) μ := by
  subst hv
  obtain ⟨p, l, e, R, s, m, args, below, meth, c, Q, cells, slots, A⟩ := X
  exact fun ok H locs ls hP hS hl => lv_ixor ok.1 ok.2.1 hd (kk ok H locs ls hP hS hl)
theorem V.ishl {x y v : Int32} (hd : decode cc pc = .ok (.ishl, 1)) (hv : x <<< (y &&& 31) = v) (kk : V G own cc nL d X (pc + 1) lv (.int v :: rest) μ) : V G own cc nL d X pc lv (.int y :: .int x :: rest) μ := by
  subst hv
  obtain ⟨p, l, e, R, s, m, args, below, meth, c, Q, cells, slots, A⟩ := X
  exact fun ok H locs ls hP hS hl => lv_ishl ok.1 ok.2.1 hd (kk ok H locs ls hP hS hl)
theorem V.ishr {x y v : Int32} (hd : decode cc pc = .ok (.ishr, 1)) (hv : x >>> (y &&& 31) = v) (kk : V G own cc nL d X (pc + 1) lv (.int v :: rest) μ) : V G own cc nL d X pc lv (.int y :: .int x :: rest) μ := by
  subst hv
  obtain ⟨p, l, e, R, s, m, args, below, meth, c, Q, cells, slots, A⟩ := X
  exact fun ok H locs ls hP hS hl => lv_ishr ok.1 ok.2.1 hd (kk ok H locs ls hP hS hl)
theorem V.idiv {x y v : Int32} (hd : decode cc pc = .ok (.idiv, 1)) (hne : ¬ y = 0) (hv : x / y = v) (kk : V G own cc nL d X (pc + 1) lv (.int v :: rest) μ) : V G own cc nL d X pc lv (.int y :: .int x :: rest) μ := by
  subst hv
  obtain ⟨p, l, e, R, s, m, args, below, meth, c, Q, cells, slots, A⟩ := X
  exact fun ok H locs ls hP hS hl => lv_idiv ok.1 ok.2.1 hd hne (kk ok H locs ls hP hS hl)
theorem V.irem {x y v : Int32} (hd : decode cc pc = .ok (.irem, 1)) (hne : ¬ y = 0) (hv : x - x / y * y = v) (kk : V G own cc nL d X (pc + 1) lv (.int v :: rest) μ) : V G own cc nL d X pc lv (.int y :: .int x :: rest) μ := by
  subst hv
  obtain ⟨p, l, e, R, s, m, args, below, meth, c, Q, cells, slots, A⟩ := X
  exact fun ok H locs ls hP hS hl => lv_irem ok.1 ok.2.1 hd hne (kk ok H locs ls hP hS hl)
theorem V.iushr {x y v : Int32} (hd : decode cc pc = .ok (.iushr, 1)) (hv : (x.toUInt32 >>> (y.toUInt32 &&& Int32.toUInt32 31)).toInt32 = v) (kk : V G own cc nL d X (pc + 1) lv (.int v :: rest) μ) : V G own cc nL d X pc lv (.int y :: .int x :: rest) μ := by
  obtain ⟨p, l, e, R, s, m, args, below, meth, c, Q, cells, slots, A⟩ := X
  exact fun ok H locs ls hP hS hl => lv_iushr ok.1 ok.2.1 hd hv (kk ok H locs ls hP hS hl)
theorem V.ladd {x y v : Int64} (hd : decode cc pc = .ok (.ladd, 1)) (hv : x + y = v) (kk : V G own cc nL d X (pc + 1) lv (.long v :: rest) μ) : V G own cc nL d X pc lv (.long y :: .long x :: rest) μ := by
  subst hv
  obtain ⟨p, l, e, R, s, m, args, below, meth, c, Q, cells, slots, A⟩ := X
  exact fun ok H locs ls hP hS hl => lv_ladd ok.1 ok.2.1 hd (kk ok H locs ls hP hS hl)
theorem V.lsub {x y v : Int64} (hd : decode cc pc = .ok (.lsub, 1)) (hv : x - y = v) (kk : V G own cc nL d X (pc + 1) lv (.long v :: rest) μ) : V G own cc nL d X pc lv (.long y :: .long x :: rest) μ := by
  subst hv
  obtain ⟨p, l, e, R, s, m, args, below, meth, c, Q, cells, slots, A⟩ := X
  exact fun ok H locs ls hP hS hl => lv_lsub ok.1 ok.2.1 hd (kk ok H locs ls hP hS hl)
theorem V.lmul {x y v : Int64} (hd : decode cc pc = .ok (.lmul, 1)) (hv : x * y = v) (kk : V G own cc nL d X (pc + 1) lv (.long v :: rest) μ) : V G own cc nL d X pc lv (.long y :: .long x :: rest) μ := by
  subst hv
  obtain ⟨p, l, e, R, s, m, args, below, meth, c, Q, cells, slots, A⟩ := X
  exact fun ok H locs ls hP hS hl => lv_lmul ok.1 ok.2.1 hd (kk ok H locs ls hP hS hl)
theorem V.land {x y v : Int64} (hd : decode cc pc = .ok (.land, 1)) (hv : x &&& y = v) (kk : V G own cc nL d X (pc + 1) lv (.long v :: rest) μ) : V G own cc nL d X pc lv (.long y :: .long x :: rest) μ := by
  subst hv
  obtain ⟨p, l, e, R, s, m, args, below, meth, c, Q, cells, slots, A⟩ := X
  exact fun ok H locs ls hP hS hl => lv_land ok.1 ok.2.1 hd (kk ok H locs ls hP hS hl)
theorem V.lor {x y v : Int64} (hd : decode cc pc = .ok (.lor, 1)) (hv : x ||| y = v) (kk : V G own cc nL d X (pc + 1) lv (.long v :: rest) μ) : V G own cc nL d X pc lv (.long y :: .long x :: rest) μ := by
  subst hv
  obtain ⟨p, l, e, R, s, m, args, below, meth, c, Q, cells, slots, A⟩ := X
  exact fun ok H locs ls hP hS hl => lv_lor ok.1 ok.2.1 hd (kk ok H locs ls hP hS hl)
theorem V.lxor {x y v : Int64} (hd : decode cc pc = .ok (.lxor, 1)) (hv : x ^^^ y = v) (kk : V G own cc nL d X (pc + 1) lv (.long v :: rest) μ) : V G own cc nL d X pc lv (.long y :: .long x :: rest) μ := by
  subst hv
  obtain ⟨p, l, e, R, s, m, args, below, meth, c, Q, cells, slots, A⟩ := X
  exact fun ok H locs ls hP hS hl => lv_lxor ok.1 ok.2.1 hd (kk ok H locs ls hP hS hl)
theorem V.lushr {x v : Int64} {y : Int32} (hd : decode cc pc = .ok (.lushr, 1)) (hv : (x.toUInt64 >>> (y.toInt64.toUInt64 &&& Int64.toUInt64 63)).toInt64 = v) (kk : V G own cc nL d X (pc + 1) lv (.long v :: rest) μ) : V G own cc nL d X pc lv (.int y :: .long x :: rest) μ := by
  obtain ⟨p, l, e, R, s, m, args, below, meth, c, Q, cells, slots, A⟩ := X
  exact fun ok H locs ls hP hS hl => lv_lushr ok.1 ok.2.1 hd hv (kk ok H locs ls hP hS hl)
theorem V.lshl {x v : Int64} {y : Int32} (hd : decode cc pc = .ok (.lshl, 1)) (hv : x <<< (y.toInt64 &&& 63) = v) (kk : V G own cc nL d X (pc + 1) lv (.long v :: rest) μ) : V G own cc nL d X pc lv (.int y :: .long x :: rest) μ := by
  obtain ⟨p, l, e, R, s, m, args, below, meth, c, Q, cells, slots, A⟩ := X
  exact fun ok H locs ls hP hS hl => lv_lshl ok.1 ok.2.1 hd hv (kk ok H locs ls hP hS hl)
theorem V.lshr {x v : Int64} {y : Int32} (hd : decode cc pc = .ok (.lshr, 1)) (hv : x >>> (y.toInt64 &&& 63) = v) (kk : V G own cc nL d X (pc + 1) lv (.long v :: rest) μ) : V G own cc nL d X pc lv (.int y :: .long x :: rest) μ := by
  obtain ⟨p, l, e, R, s, m, args, below, meth, c, Q, cells, slots, A⟩ := X
  exact fun ok H locs ls hP hS hl => lv_lshr ok.1 ok.2.1 hd hv (kk ok H locs ls hP hS hl)
theorem V.i2l {x : Int32} {v : Int64} (hd : decode cc pc = .ok (.i2l, 1)) (hv : x.toInt64 = v) (kk : V G own cc nL d X (pc + 1) lv (.long v :: rest) μ) : V G own cc nL d X pc lv (.int x :: rest) μ := by
  obtain ⟨p, l, e, R, s, m, args, below, meth, c, Q, cells, slots, A⟩ := X
  exact fun ok H locs ls hP hS hl => lv_i2l ok.1 ok.2.1 hd hv (kk ok H locs ls hP hS hl)
theorem V.l2i {x : Int64} {v : Int32} (hd : decode cc pc = .ok (.l2i, 1)) (hv : x.toInt32 = v) (kk : V G own cc nL d X (pc + 1) lv (.int v :: rest) μ) : V G own cc nL d X pc lv (.long x :: rest) μ := by
  obtain ⟨p, l, e, R, s, m, args, below, meth, c, Q, cells, slots, A⟩ := X
  exact fun ok H locs ls hP hS hl => lv_l2i ok.1 ok.2.1 hd hv (kk ok H locs ls hP hS hl)
theorem V.i2b {x v : Int32} (hd : decode cc pc = .ok (.i2b, 1)) (hv : x.toInt8.toInt32 = v) (kk : V G own cc nL d X (pc + 1) lv (.int v :: rest) μ) : V G own cc nL d X pc lv (.int x :: rest) μ := by
  obtain ⟨p, l, e, R, s, m, args, below, meth, c, Q, cells, slots, A⟩ := X
  exact fun ok H locs ls hP hS hl => lv_i2b ok.1 ok.2.1 hd hv (kk ok H locs ls hP hS hl)
theorem V.lcmp {x y : Int64} (hd : decode cc pc = .ok (.lcmp, 1)) (kk : V G own cc nL d X (pc + 1) lv (.int (lg_cmp x y) :: rest) μ) : V G own cc nL d X pc lv (.long y :: .long x :: rest) μ := by
  obtain ⟨p, l, e, R, s, m, args, below, meth, c, Q, cells, slots, A⟩ := X
  exact fun ok H locs ls hP hS hl => W.lcmp ok.1 ok.2.1 hd (kk ok H locs ls hP hS hl)
theorem V.dup {va : Value} (hd : decode cc pc = .ok (.dup, 1)) (hc : va.category = 1) (kk : V G own cc nL d X (pc + 1) lv (va :: va :: rest) μ) : V G own cc nL d X pc lv (va :: rest) μ := by
  obtain ⟨p, l, e, R, s, m, args, below, meth, c, Q, cells, slots, A⟩ := X
  exact fun ok H locs ls hP hS hl => lv_dup ok.1 ok.2.1 hd hc (kk ok H locs ls hP hS hl)
theorem V.dup2 {va vb : Value} (hd : decode cc pc = .ok (.dup2, 1)) (hc : va.category = 1) (hc2 : vb.category = 1) (kk : V G own cc nL d X (pc + 1) lv (va :: vb :: va :: vb :: rest) μ) : V G own cc nL d X pc lv (va :: vb :: rest) μ := by
  obtain ⟨p, l, e, R, s, m, args, below, meth, c, Q, cells, slots, A⟩ := X
  exact fun ok H locs ls hP hS hl => lv_dup2_11 ok.1 ok.2.1 hd hc hc2 (kk ok H locs ls hP hS hl)
theorem V.if_eq {x : Int32} {off : Int} (tgt : Nat) (hd : decode cc pc = .ok (.ifCond .eq off, 3)) (ht : (pc : Int) + off = (tgt : Int)) (kt : x = 0 → V G own cc nL d X tgt lv rest μ) (kf : ¬ x = 0 → V G own cc nL d X (pc + 3) lv rest μ) : V G own cc nL d X pc lv (.int x :: rest) μ := by
  obtain ⟨p, l, e, R, s, m, args, below, meth, c, Q, cells, slots, A⟩ := X
  exact fun ok H locs ls hP hS hl => lv_if_eq ok.1 ok.2.1 hd ht (fun h => kt h ok H locs ls hP hS hl) (fun h => kf h ok H locs ls hP hS hl)
theorem V.icmp_eq {x y : Int32} {off : Int} (tgt : Nat) (hd : decode cc pc = .ok (.if_icmp .eq off, 3)) (ht : (pc : Int) + off = (tgt : Int)) (kt : x = y → V G own cc nL d X tgt lv rest μ) (kf : ¬ x = y → V G own cc nL d X (pc + 3) lv rest μ) : V G own cc nL d X pc lv (.int y :: .int x :: rest) μ := by
  obtain ⟨p, l, e, R, s, m, args, below, meth, c, Q, cells, slots, A⟩ := X
  exact fun ok H locs ls hP hS hl => lv_icmp_eq ok.1 ok.2.1 hd ht (fun h => kt h ok H locs ls hP hS hl) (fun h => kf h ok H locs ls hP hS hl)
theorem V.if_ne {x : Int32} {off : Int} (tgt : Nat) (hd : decode cc pc = .ok (.ifCond .ne off, 3)) (ht : (pc : Int) + off = (tgt : Int)) (kt : ¬ x = 0 → V G own cc nL d X tgt lv rest μ) (kf : x = 0 → V G own cc nL d X (pc + 3) lv rest μ) : V G own cc nL d X pc lv (.int x :: rest) μ := by
  obtain ⟨p, l, e, R, s, m, args, below, meth, c, Q, cells, slots, A⟩ := X
  exact fun ok H locs ls hP hS hl => lv_if_ne ok.1 ok.2.1 hd ht (fun h => kt h ok H locs ls hP hS hl) (fun h => kf h ok H locs ls hP hS hl)
theorem V.icmp_ne {x y : Int32} {off : Int} (tgt : Nat) (hd : decode cc pc = .ok (.if_icmp .ne off, 3)) (ht : (pc : Int) + off = (tgt : Int)) (kt : ¬ x = y → V G own cc nL d X tgt lv rest μ) (kf : x = y → V G own cc nL d X (pc + 3) lv rest μ) : V G own cc nL d X pc lv (.int y :: .int x :: rest) μ := by
  obtain ⟨p, l, e, R, s, m, args, below, meth, c, Q, cells, slots, A⟩ := X
  exact fun ok H locs ls hP hS hl => lv_icmp_ne ok.1 ok.2.1 hd ht (fun h => kt h ok H locs ls hP hS hl) (fun h => kf h ok H locs ls hP hS hl)
theorem V.if_lt {x : Int32} {off : Int} (tgt : Nat) (hd : decode cc pc = .ok (.ifCond .lt off, 3)) (ht : (pc : Int) + off = (tgt : Int)) (kt : x < 0 → V G own cc nL d X tgt lv rest μ) (kf : ¬ x < 0 → V G own cc nL d X (pc + 3) lv rest μ) : V G own cc nL d X pc lv (.int x :: rest) μ := by
  obtain ⟨p, l, e, R, s, m, args, below, meth, c, Q, cells, slots, A⟩ := X
  exact fun ok H locs ls hP hS hl => lv_if_lt ok.1 ok.2.1 hd ht (fun h => kt h ok H locs ls hP hS hl) (fun h => kf h ok H locs ls hP hS hl)
theorem V.icmp_lt {x y : Int32} {off : Int} (tgt : Nat) (hd : decode cc pc = .ok (.if_icmp .lt off, 3)) (ht : (pc : Int) + off = (tgt : Int)) (kt : x < y → V G own cc nL d X tgt lv rest μ) (kf : ¬ x < y → V G own cc nL d X (pc + 3) lv rest μ) : V G own cc nL d X pc lv (.int y :: .int x :: rest) μ := by
  obtain ⟨p, l, e, R, s, m, args, below, meth, c, Q, cells, slots, A⟩ := X
  exact fun ok H locs ls hP hS hl => lv_icmp_lt ok.1 ok.2.1 hd ht (fun h => kt h ok H locs ls hP hS hl) (fun h => kf h ok H locs ls hP hS hl)
theorem V.if_ge {x : Int32} {off : Int} (tgt : Nat) (hd : decode cc pc = .ok (.ifCond .ge off, 3)) (ht : (pc : Int) + off = (tgt : Int)) (kt : 0 ≤ x → V G own cc nL d X tgt lv rest μ) (kf : ¬ 0 ≤ x → V G own cc nL d X (pc + 3) lv rest μ) : V G own cc nL d X pc lv (.int x :: rest) μ := by
  obtain ⟨p, l, e, R, s, m, args, below, meth, c, Q, cells, slots, A⟩ := X
  exact fun ok H locs ls hP hS hl => lv_if_ge ok.1 ok.2.1 hd ht (fun h => kt h ok H locs ls hP hS hl) (fun h => kf h ok H locs ls hP hS hl)
theorem V.icmp_ge {x y : Int32} {off : Int} (tgt : Nat) (hd : decode cc pc = .ok (.if_icmp .ge off, 3)) (ht : (pc : Int) + off = (tgt : Int)) (kt : y ≤ x → V G own cc nL d X tgt lv rest μ) (kf : ¬ y ≤ x → V G own cc nL d X (pc + 3) lv rest μ) : V G own cc nL d X pc lv (.int y :: .int x :: rest) μ := by
  obtain ⟨p, l, e, R, s, m, args, below, meth, c, Q, cells, slots, A⟩ := X
  exact fun ok H locs ls hP hS hl => lv_icmp_ge ok.1 ok.2.1 hd ht (fun h => kt h ok H locs ls hP hS hl) (fun h => kf h ok H locs ls hP hS hl)
theorem V.if_gt {x : Int32} {off : Int} (tgt : Nat) (hd : decode cc pc = .ok (.ifCond .gt off, 3)) (ht : (pc : Int) + off = (tgt : Int)) (kt : 0 < x → V G own cc nL d X tgt lv rest μ) (kf : ¬ 0 < x → V G own cc nL d X (pc + 3) lv rest μ) : V G own cc nL d X pc lv (.int x :: rest) μ := by
  obtain ⟨p, l, e, R, s, m, args, below, meth, c, Q, cells, slots, A⟩ := X
  exact fun ok H locs ls hP hS hl => lv_if_gt ok.1 ok.2.1 hd ht (fun h => kt h ok H locs ls hP hS hl) (fun h => kf h ok H locs ls hP hS hl)
theorem V.icmp_gt {x y : Int32} {off : Int} (tgt : Nat) (hd : decode cc pc = .ok (.if_icmp .gt off, 3)) (ht : (pc : Int) + off = (tgt : Int)) (kt : y < x → V G own cc nL d X tgt lv rest μ) (kf : ¬ y < x → V G own cc nL d X (pc + 3) lv rest μ) : V G own cc nL d X pc lv (.int y :: .int x :: rest) μ := by
  obtain ⟨p, l, e, R, s, m, args, below, meth, c, Q, cells, slots, A⟩ := X
  exact fun ok H locs ls hP hS hl => lv_icmp_gt ok.1 ok.2.1 hd ht (fun h => kt h ok H locs ls hP hS hl) (fun h => kf h ok H locs ls hP hS hl)
theorem V.if_le {x : Int32} {off : Int} (tgt : Nat) (hd : decode cc pc = .ok (.ifCond .le off, 3)) (ht : (pc : Int) + off = (tgt : Int)) (kt : x ≤ 0 → V G own cc nL d X tgt lv rest μ) (kf : ¬ x ≤ 0 → V G own cc nL d X (pc + 3) lv rest μ) : V G own cc nL d X pc lv (.int x :: rest) μ := by
  obtain ⟨p, l, e, R, s, m, args, below, meth, c, Q, cells, slots, A⟩ := X
  exact fun ok H locs ls hP hS hl => lv_if_le ok.1 ok.2.1 hd ht (fun h => kt h ok H locs ls hP hS hl) (fun h => kf h ok H locs ls hP hS hl)
theorem V.icmp_le {x y : Int32} {off : Int} (tgt : Nat) (hd : decode cc pc = .ok (.if_icmp .le off, 3)) (ht : (pc : Int) + off = (tgt : Int)) (kt : x ≤ y → V G own cc nL d X tgt lv rest μ) (kf : ¬ x ≤ y → V G own cc nL d X (pc + 3) lv rest μ) : V G own cc nL d X pc lv (.int y :: .int x :: rest) μ := by
  obtain ⟨p, l, e, R, s, m, args, below, meth, c, Q, cells, slots, A⟩ := X
  exact fun ok H locs ls hP hS hl => lv_icmp_le ok.1 ok.2.1 hd ht (fun h => kt h ok H locs ls hP hS hl) (fun h => kf h ok H locs ls hP hS hl)
theorem V.goto {off : Int} (tgt : Nat) (hd : decode cc pc = .ok (.goto off, 3)) (ht : (pc : Int) + off = (tgt : Int)) (kk : V G own cc nL d X tgt lv rest μ) : V G own cc nL d X pc lv rest μ := by
  obtain ⟨p, l, e, R, s, m, args, below, meth, c, Q, cells, slots, A⟩ := X
  exact fun ok H locs ls hP hS hl => lv_goto ok.1 ok.2.1 hd ht (kk ok H locs ls hP hS hl)
theorem V.iald {k n : Nat} {v : Int32} (hk : k < 118) (hs : ∀ f g, cell G k f g = aI G n f) (i : Nat) (hi : i < n) (hn : n < 2 ^ 31) (hd : decode cc pc = .ok (.iaload, 1)) (hv : μ.1 k i = v) (kk : V G own cc nL d X (pc + 1) lv (.int v :: rest) μ) : V G own cc nL d X pc lv (.int (nI i) :: .ref (G.2.2 k) :: rest) μ := by
  subst hv
  obtain ⟨p, l, e, R, s, m, args, below, meth, c, Q, cells, slots, A⟩ := X
  exact fun ok H locs ls hP hS hl => va_iald ok.1 ok.2.1 ok.2.2.2.2.2.2.1 hP k 1 ((wl_get G μ hk).trans (congrArg (fun e => some (G.2.2 k, e)) (hs _ _))) rfl (vp_in_nI hi hn) hd (by rw [nI_clamp (Nat.lt_trans hi hn)]; exact kk ok H locs ls hP hS hl)
theorem V.lald {k n : Nat} {v : Int64} (hk : k < 118) (hs : ∀ f g, cell G k f g = aJ G n g) (i : Nat) (hi : i < n) (hn : n < 2 ^ 31) (hd : decode cc pc = .ok (.laload, 1)) (hv : μ.2 k i = v) (kk : V G own cc nL d X (pc + 1) lv (.long v :: rest) μ) : V G own cc nL d X pc lv (.int (nI i) :: .ref (G.2.2 k) :: rest) μ := by
  subst hv
  obtain ⟨p, l, e, R, s, m, args, below, meth, c, Q, cells, slots, A⟩ := X
  exact fun ok H locs ls hP hS hl => va_lald ok.1 ok.2.1 ok.2.2.2.2.2.2.1 hP k 2 ((wl_get G μ hk).trans (congrArg (fun e => some (G.2.2 k, e)) (hs _ _))) rfl (vp_in_nI hi hn) hd (by rw [nI_clamp (Nat.lt_trans hi hn)]; exact kk ok H locs ls hP hS hl)
theorem V.bald {k n : Nat} {v : Int32} (hk : k < 118) (hs : ∀ f g, cell G k f g = aB G n f) (i : Nat) (hi : i < n) (hn : n < 2 ^ 31) (hd : decode cc pc = .ok (.baload, 1)) (hv : μ.1 k i = v) (kk : V G own cc nL d X (pc + 1) lv (.int v :: rest) μ) : V G own cc nL d X pc lv (.int (nI i) :: .ref (G.2.2 k) :: rest) μ := by
  subst hv
  obtain ⟨p, l, e, R, s, m, args, below, meth, c, Q, cells, slots, A⟩ := X
  exact fun ok H locs ls hP hS hl => va_bald ok.1 ok.2.1 ok.2.2.2.2.2.2.1 hP k 0 ((wl_get G μ hk).trans (congrArg (fun e => some (G.2.2 k, e)) (hs _ _))) rfl (vp_in_nI hi hn) hd (by rw [nI_clamp (Nat.lt_trans hi hn)]; exact kk ok H locs ls hP hS hl)
theorem V.zald {k n : Nat} {v : Int32} (hk : k < 118) (hs : ∀ f g, cell G k f g = aZ G n f) (i : Nat) (hi : i < n) (hn : n < 2 ^ 31) (hd : decode cc pc = .ok (.baload, 1)) (hv : μ.1 k i = v) (kk : V G own cc nL d X (pc + 1) lv (.int v :: rest) μ) : V G own cc nL d X pc lv (.int (nI i) :: .ref (G.2.2 k) :: rest) μ := by
  subst hv
  obtain ⟨p, l, e, R, s, m, args, below, meth, c, Q, cells, slots, A⟩ := X
  exact fun ok H locs ls hP hS hl => va_zald ok.1 ok.2.1 ok.2.2.2.2.2.2.1 hP k 3 ((wl_get G μ hk).trans (congrArg (fun e => some (G.2.2 k, e)) (hs _ _))) rfl (vp_in_nI hi hn) hd (by rw [nI_clamp (Nat.lt_trans hi hn)]; exact kk ok H locs ls hP hS hl)
theorem V.iast {k n : Nat} {x v : Int32} (hk : k < 118) (hs : ∀ f g, cell G k f g = aI G n f) (i : Nat) (hi : i < n) (hn : n < 2 ^ 31) (hd : decode cc pc = .ok (.iastore, 1)) (hv : x = v) (kk : V G own cc nL d X (pc + 1) lv rest (si μ k i v)) : V G own cc nL d X pc lv (.int x :: .int (nI i) :: .ref (G.2.2 k) :: rest) μ := by
  subst hv
  obtain ⟨p, l, e, R, s, m, args, below, meth, c, Q, cells, slots, A⟩ := X
  exact fun ok H locs ls hP hS hl => va_iast ok.1 ok.2.1 ok.2.2.2.2.2.2.1 hP (wl_D ok.2.2.2.2.2.2.2.1 ok.2.2.2.2.2.2.2.2.2.2.2.2.1 μ) hS k 1 ((wl_get G μ hk).trans (congrArg (fun e => some (G.2.2 k, e)) (hs _ _))) rfl (vp_in_nI hi hn) hd (fun H1 locs1 hP1 _ hS1 => kk ok H1 locs1 ls (by rw [← wl_si G μ hk i _ (hs _ _).symm]; rw [nI_clamp (Nat.lt_trans hi hn)] at hP1; exact hP1) hS1 hl)
theorem V.last {k n : Nat} {x v : Int64} (hk : k < 118) (hs : ∀ f g, cell G k f g = aJ G n g) (i : Nat) (hi : i < n) (hn : n < 2 ^ 31) (hd : decode cc pc = .ok (.lastore, 1)) (hv : x = v) (kk : V G own cc nL d X (pc + 1) lv rest (sj μ k i v)) : V G own cc nL d X pc lv (.long x :: .int (nI i) :: .ref (G.2.2 k) :: rest) μ := by
  subst hv
  obtain ⟨p, l, e, R, s, m, args, below, meth, c, Q, cells, slots, A⟩ := X
  exact fun ok H locs ls hP hS hl => va_last ok.1 ok.2.1 ok.2.2.2.2.2.2.1 hP (wl_D ok.2.2.2.2.2.2.2.1 ok.2.2.2.2.2.2.2.2.2.2.2.2.1 μ) hS k 2 ((wl_get G μ hk).trans (congrArg (fun e => some (G.2.2 k, e)) (hs _ _))) rfl (vp_in_nI hi hn) hd (fun H1 locs1 hP1 _ hS1 => kk ok H1 locs1 ls (by rw [← wl_sj G μ hk i _ (hs _ _).symm]; rw [nI_clamp (Nat.lt_trans hi hn)] at hP1; exact hP1) hS1 hl)
theorem V.bast {k n : Nat} {x v : Int32} (hk : k < 118) (hs : ∀ f g, cell G k f g = aB G n f) (i : Nat) (hi : i < n) (hn : n < 2 ^ 31) (hd : decode cc pc = .ok (.bastore, 1)) (hv : vp_nar .byte x = v) (kk : V G own cc nL d X (pc + 1) lv rest (si μ k i v)) : V G own cc nL d X pc lv (.int x :: .int (nI i) :: .ref (G.2.2 k) :: rest) μ := by
  subst hv
  obtain ⟨p, l, e, R, s, m, args, below, meth, c, Q, cells, slots, A⟩ := X
  exact fun ok H locs ls hP hS hl => va_bast ok.1 ok.2.1 ok.2.2.2.2.2.2.1 hP (wl_D ok.2.2.2.2.2.2.2.1 ok.2.2.2.2.2.2.2.2.2.2.2.2.1 μ) hS k 0 ((wl_get G μ hk).trans (congrArg (fun e => some (G.2.2 k, e)) (hs _ _))) rfl (vp_in_nI hi hn) hd (fun H1 locs1 hP1 _ hS1 => kk ok H1 locs1 ls (by rw [← wl_si G μ hk i _ (hs _ _).symm]; rw [nI_clamp (Nat.lt_trans hi hn)] at hP1; exact hP1) hS1 hl)
theorem V.zast {k n : Nat} {x v : Int32} (hk : k < 118) (hs : ∀ f g, cell G k f g = aZ G n f) (i : Nat) (hi : i < n) (hn : n < 2 ^ 31) (hd : decode cc pc = .ok (.bastore, 1)) (hv : vp_nar .boolean x = v) (kk : V G own cc nL d X (pc + 1) lv rest (si μ k i v)) : V G own cc nL d X pc lv (.int x :: .int (nI i) :: .ref (G.2.2 k) :: rest) μ := by
  subst hv
  obtain ⟨p, l, e, R, s, m, args, below, meth, c, Q, cells, slots, A⟩ := X
  exact fun ok H locs ls hP hS hl => va_zast ok.1 ok.2.1 ok.2.2.2.2.2.2.1 hP (wl_D ok.2.2.2.2.2.2.2.1 ok.2.2.2.2.2.2.2.2.2.2.2.2.1 μ) hS k 3 ((wl_get G μ hk).trans (congrArg (fun e => some (G.2.2 k, e)) (hs _ _))) rfl (vp_in_nI hi hn) hd (fun H1 locs1 hP1 _ hS1 => kk ok H1 locs1 ls (by rw [← wl_si G μ hk i _ (hs _ _).symm]; rw [nI_clamp (Nat.lt_trans hi hn)] at hP1; exact hP1) hS1 hl)
theorem V.aaldS {k n : Nat} {h : Nat → Nat} (hk : k < 118) (hs : ∀ f g, cell G k f g = aR G 4 n h) (i : Nat) (hi : i < n) (hn : n < 2 ^ 31) (hd : decode cc pc = .ok (.aaload, 1)) (kk : V G own cc nL d X (pc + 1) lv (.ref (G.2.2 (h i)) :: rest) μ) : V G own cc nL d X pc lv (.int (nI i) :: .ref (G.2.2 k) :: rest) μ := by
  obtain ⟨p, l, e, R, s, m, args, below, meth, c, Q, cells, slots, A⟩ := X
  exact fun ok H locs ls hP hS hl => va_aldq ok.1 ok.2.1 ok.2.2.2.2.2.2.1 hP k 4 ((wl_get G μ hk).trans (congrArg (fun e => some (G.2.2 k, e)) (hs _ _))) rfl (vp_in_nI hi hn) hd (by rw [nI_clamp (Nat.lt_trans hi hn)]; exact kk ok H locs ls hP hS hl)
theorem V.aaldJ {k n : Nat} {h : Nat → Nat} (hk : k < 118) (hs : ∀ f g, cell G k f g = aR G 5 n h) (i : Nat) (hi : i < n) (hn : n < 2 ^ 31) (hd : decode cc pc = .ok (.aaload, 1)) (kk : V G own cc nL d X (pc + 1) lv (.ref (G.2.2 (h i)) :: rest) μ) : V G own cc nL d X pc lv (.int (nI i) :: .ref (G.2.2 k) :: rest) μ := by
  obtain ⟨p, l, e, R, s, m, args, below, meth, c, Q, cells, slots, A⟩ := X
  intro ok H locs ls hP hS hl
  have ha : va_at G.1 vwCl (G.2.2 k, aR G 5 n h) H := hP k _ ((wl_get G μ hk).trans (by rw [hs]))
  have hz : ((ok.2.2.2.2.2.2.1).2 5 _ rfl).1 = ((ok.2.2.2.2.2.2.1).2 5 _ rfl).1 := rfl
  refine W.aald (v := .ref (G.2.2 (h i))) (ty := .array .long) ok.1 ok.2.1 ha (((ok.2.2.2.2.2.2.1).2 5 _ rfl).1 n (fun j => va_rf (some (G.2.2 (h j))))) rfl (fun q => by cases q) (by show ¬ (nI i < 0 ∨ (arrV _ _ _).slots.size ≤ _); rw [arrV_size]; exact vp_in_nI hi hn) (by show (arrV _ _ _).slots[_]? = _; rw [nI_clamp (Nat.lt_trans hi hn), arrV_read _ _ hi]; rfl) rfl rfl hd (kk ok H locs ls hP hS hl)
theorem V.alenB {k n : Nat} (hk : k < 118) (hs : ∀ f g, cell G k f g = aB G n f) (hd : decode cc pc = .ok (.arraylength, 1)) (kk : V G own cc nL d X (pc + 1) lv (.int (nI n) :: rest) μ) : V G own cc nL d X pc lv (.ref (G.2.2 k) :: rest) μ := by
  obtain ⟨p, l, e, R, s, m, args, below, meth, c, Q, cells, slots, A⟩ := X
  exact fun ok H locs ls hP hS hl => va_alen (x := (n, .inl (μ.1 k))) (v := nI n) ok.1 ok.2.1 ok.2.2.2.2.2.2.1 hP k 0 ((wl_get G μ hk).trans (congrArg (fun e => some (G.2.2 k, e)) (hs _ _))) (ty := .byte) rfl rfl hd (kk ok H locs ls hP hS hl)
theorem V.iret {v : Int32} {Φ : Option Value → Mu → Prop} (hF : Fin' G X (some .int) Φ) (hd : decode cc pc = .ok (.ireturn, 1)) (h : Φ (some (.int v)) μ) : V G own cc nL d X pc lv [.int v] μ := by
  obtain ⟨p, l, e, R, s, m, args, below, meth, c, Q, cells, slots, A⟩ := X
  obtain ⟨hr, rfl, rfl, rfl, rfl⟩ := hF
  intro ok H locs ls hP hS hl
  exact W.iret ok.1 ok.2.1 hr (fun t ht hW => ⟨_, μ, rfl, h, ⟨by rw [ht]; exact hP, va_K.moved hW.alike ok.2.2.2.2.2.2.1, ok.2.2.2.2.2.2.2.1, NW_moved hW ok.2.2.2.2.2.1⟩, hS.F ht⟩) hS.2.2 hd ok.2.2.2.2.2.2.2.2.2.2.2.2.2
theorem V.zret {v : Int32} {Φ : Option Value → Mu → Prop} (hF : Fin' G X (some .boolean) Φ) (hd : decode cc pc = .ok (.ireturn, 1)) (hn : narrow .boolean (.int v) = .int v) (h : Φ (some (.int v)) μ) : V G own cc nL d X pc lv [.int v] μ := by
  obtain ⟨p, l, e, R, s, m, args, below, meth, c, Q, cells, slots, A⟩ := X
  obtain ⟨hr, rfl, rfl, rfl, rfl⟩ := hF
  intro ok H locs ls hP hS hl
  exact W.zret ok.1 ok.2.1 hr hn (fun t ht hW => ⟨_, μ, rfl, h, ⟨by rw [ht]; exact hP, va_K.moved hW.alike ok.2.2.2.2.2.2.1, ok.2.2.2.2.2.2.2.1, NW_moved hW ok.2.2.2.2.2.1⟩, hS.F ht⟩) hS.2.2 hd ok.2.2.2.2.2.2.2.2.2.2.2.2.2
theorem V.lret {v : Int64} {Φ : Option Value → Mu → Prop} (hF : Fin' G X (some .long) Φ) (hd : decode cc pc = .ok (.lreturn, 1)) (h : Φ (some (.long v)) μ) : V G own cc nL d X pc lv [.long v] μ := by
  obtain ⟨p, l, e, R, s, m, args, below, meth, c, Q, cells, slots, A⟩ := X
  obtain ⟨hr, rfl, rfl, rfl, rfl⟩ := hF
  intro ok H locs ls hP hS hl
  exact W.lret ok.1 ok.2.1 hr (fun t ht hW => ⟨_, μ, rfl, h, ⟨by rw [ht]; exact hP, va_K.moved hW.alike ok.2.2.2.2.2.2.1, ok.2.2.2.2.2.2.2.1, NW_moved hW ok.2.2.2.2.2.1⟩, hS.F ht⟩) hS.2.2 hd ok.2.2.2.2.2.2.2.2.2.2.2.2.2
theorem V.vret {Φ : Option Value → Mu → Prop} (hF : Fin' G X none Φ) (hd : decode cc pc = .ok (.return_, 1)) (h : Φ none μ) : V G own cc nL d X pc lv [] μ := by
  obtain ⟨p, l, e, R, s, m, args, below, meth, c, Q, cells, slots, A⟩ := X
  obtain ⟨hr, rfl, rfl, rfl, rfl⟩ := hF
  intro ok H locs ls hP hS hl
  exact W.vret ok.1 ok.2.1 hr (fun t ht hW => ⟨_, μ, rfl, h, ⟨by rw [ht]; exact hP, va_K.moved hW.alike ok.2.2.2.2.2.2.1, ok.2.2.2.2.2.2.2.1, NW_moved hW ok.2.2.2.2.2.1⟩, hS.F ht⟩) hS.2.2 hd ok.2.2.2.2.2.2.2.2.2.2.2.2.2
/-! fields -/
theorem V.get {k ci i index N : Nat} {C : String} {T : u_T} {v : Value} {F : (Nat → Int32) → (Nat → Int64) → List Value} (hk : k < 118) (hs : ∀ f g, cell G k f g = .inr (ci, F f g)) (hc : vwCl[ci]? = some (C, T, N)) (hin : ∀ w ∈ u_ws C T N, w ∈ TT) (hi : i < N) (hw : Cond.fieldLink own index (T i).1 (T i).2.1 (T i).2.2.1 ∈ TT) (hd : decode cc pc = .ok (.getfield index, 3)) (hv : (F (μ.1 k) (μ.2 k))[i]? = some v) (kk : V G own cc nL d X (pc + 3) lv (v :: rest) μ) : V G own cc nL d X pc lv (.ref (G.2.2 k) :: rest) μ := by
  obtain ⟨p, l, e, R, s, m, args, below, meth, c, Q, cells, slots, A⟩ := X
  exact fun ok H locs ls hP hS hl => va_get (D := G.1) (ci := ci) (v := v) (C := C) (T := T) (N := N) ok.1 ok.2.1 ok.2.2.2.2.1 hin ok.2.2.2.1 ok.2.2.2.2.2.2.1 hP k ((wl_get G μ hk).trans (congrArg (fun e => some (G.2.2 k, e)) (hs _ _))) hc i hi (ok.2.2.2.2.1 _ hw) (fun _ h => h) hv hd (kk ok H locs ls hP hS hl)
theorem V.getN {k ci i index N : Nat} {C host : String} {T : u_T} {v : Value} {F : (Nat → Int32) → (Nat → Int64) → List Value} (hk : k < 118) (hs : ∀ f g, cell G k f g = .inr (ci, F f g)) (hc : vwCl[ci]? = some (C, T, N)) (hin : ∀ w ∈ u_ws C T N, w ∈ TT) (hi : i < N) (hw : Cond.fieldLinkNest own index (T i).1 (T i).2.1 (T i).2.2.1 host ∈ NW) (hd : decode cc pc = .ok (.getfield index, 3)) (hv : (F (μ.1 k) (μ.2 k))[i]? = some v) (kk : V G own cc nL d X (pc + 3) lv (v :: rest) μ) : V G own cc nL d X pc lv (.ref (G.2.2 k) :: rest) μ := by
  obtain ⟨p, l, e, R, s, m, args, below, meth, c, Q, cells, slots, A⟩ := X
  exact fun ok H locs ls hP hS hl => va_getN (D := G.1) (ci := ci) (v := v) (C := C) (T := T) (N := N) ok.1 ok.2.1 ok.2.2.2.2.1 hin ok.2.2.2.1 ok.2.2.2.2.2.2.1 hP k ((wl_get G μ hk).trans (congrArg (fun e => some (G.2.2 k, e)) (hs _ _))) hc i hi (va_Nw.use rfl (ok.2.2.2.2.2.1 _ hw)) (fun _ h => h) hv hd (kk ok H locs ls hP hS hl)
theorem V.put {k ci i index N : Nat} {C : String} {T : u_T} {v : Value} {F : (Nat → Int32) → (Nat → Int64) → List Value} {μ' : Mu} {ty : FieldType} (ty0 : Nat → FieldType) (hty : ∀ k, k < N → parseFieldDescriptor (T k).2.2.1 = some (ty0 k)) (hnm : ∀ a, a < N → ∀ b, b < N → a ≠ b → (T a).2.1 ≠ (T b).2.1) (hk : k < 118) (hs : ∀ f g, cell G k f g = .inr (ci, F f g)) (hc : vwCl[ci]? = some (C, T, N)) (hin : ∀ w ∈ u_ws C T N, w ∈ TT) (hi : i < N) (hw : Cond.fieldLink own index (T i).1 (T i).2.1 (T i).2.2.1 ∈ TT) (hfin : (T i).2.2.2 = false) (hpd : parseFieldDescriptor (T i).2.2.1 = some ty) (hn : narrow ty v = v) (hfit : fits ty v = true) (hl0 : i < (F (μ.1 k) (μ.2 k)).length) (hd : decode cc pc = .ok (.putfield index, 3)) (hμ : (wl G μ).set k (G.2.2 k, .inr (ci, (F (μ.1 k) (μ.2 k)).set i v)) = wl G μ') (kk : V G own cc nL d X (pc + 3) lv rest μ') : V G own cc nL d X pc lv (v :: .ref (G.2.2 k) :: rest) μ := by
  obtain ⟨p, l, e, R, s, m, args, below, meth, c, Q, cells, slots, A⟩ := X
  exact fun ok H locs ls hP hS hl => va_put (D := G.1) (ci := ci) (v := v) (ty := ty) (C := C) (T := T) (N := N) ok.1 ok.2.1 ok.2.2.2.2.1 hin ty0 hty hnm ok.2.2.2.1 ok.2.2.2.2.2.2.1 hP (wl_D ok.2.2.2.2.2.2.2.1 ok.2.2.2.2.2.2.2.2.2.2.2.2.1 μ) hS k ((wl_get G μ hk).trans (congrArg (fun e => some (G.2.2 k, e)) (hs _ _))) hc i hi (ok.2.2.2.2.1 _ hw) (fun _ h => h) hfin hpd hn hfit hl0 hd (fun H1 locs1 hP1 _ hS1 => kk ok H1 locs1 ls (by rw [← hμ]; exact hP1) hS1 hl)
theorem V.putN {k ci i index N : Nat} {C host : String} {T : u_T} {v : Value} {F : (Nat → Int32) → (Nat → Int64) → List Value} {μ' : Mu} {ty : FieldType} (ty0 : Nat → FieldType) (hty : ∀ k, k < N → parseFieldDescriptor (T k).2.2.1 = some (ty0 k)) (hnm : ∀ a, a < N → ∀ b, b < N → a ≠ b → (T a).2.1 ≠ (T b).2.1) (hk : k < 118) (hs : ∀ f g, cell G k f g = .inr (ci, F f g)) (hc : vwCl[ci]? = some (C, T, N)) (hin : ∀ w ∈ u_ws C T N, w ∈ TT) (hi : i < N) (hw : Cond.fieldLinkNest own index (T i).1 (T i).2.1 (T i).2.2.1 host ∈ NW) (hfin : (T i).2.2.2 = false) (hpd : parseFieldDescriptor (T i).2.2.1 = some ty) (hn : narrow ty v = v) (hfit : fits ty v = true) (hl0 : i < (F (μ.1 k) (μ.2 k)).length) (hd : decode cc pc = .ok (.putfield index, 3)) (hμ : (wl G μ).set k (G.2.2 k, .inr (ci, (F (μ.1 k) (μ.2 k)).set i v)) = wl G μ') (kk : V G own cc nL d X (pc + 3) lv rest μ') : V G own cc nL d X pc lv (v :: .ref (G.2.2 k) :: rest) μ := by
  obtain ⟨p, l, e, R, s, m, args, below, meth, c, Q, cells, slots, A⟩ := X
  exact fun ok H locs ls hP hS hl => va_putN (D := G.1) (ci := ci) (v := v) (ty := ty) (C := C) (T := T) (N := N) ok.1 ok.2.1 ok.2.2.2.2.1 hin ty0 hty hnm ok.2.2.2.1 ok.2.2.2.2.2.2.1 hP (wl_D ok.2.2.2.2.2.2.2.1 ok.2.2.2.2.2.2.2.2.2.2.2.2.1 μ) hS k ((wl_get G μ hk).trans (congrArg (fun e => some (G.2.2 k, e)) (hs _ _))) hc i hi (va_Nw.use rfl (ok.2.2.2.2.2.1 _ hw)) (fun _ h => h) hfin hpd hn hfit hl0 hd (fun H1 locs1 hP1 _ hS1 => kk ok H1 locs1 ls (by rw [← hμ]; exact hP1) hS1 hl)
end VV
section VCall
variable {p : Program} {l : Launch} {e : Env} {R : Room} {s : State} {m : MethodId} {args : Array Value} {below : List Frame} {meth : Method} {c : Code} {H : Heap} {locs : List Loc} {cells slots : Nat} {Q : State → Prop}
theorem v_call {G : Gx} {Φ : Option Value → Mu → Prop} {pc : Nat} {ls : Array Slot} {rest st0 : List Value} {a : Array Value} {A : Nat → Prop} (hr : va_Run p l e R s m args below meth c H locs cells slots 0 0 (F0 m pc ls st0) rest (QR G Φ a) (AdW G)) (hS : va_S A s.heap H locs) (hA : ∀ k, k < 118 → A (G.2.2 k))
    (kk : ∀ (r : Option Value) (μ' : Mu) (H1 : Heap) (locs1 : List Loc), Φ r μ' → va_P G.1 vwCl (wl G μ') H1 → va_S A s.heap H1 locs1 → W p l e R s m args below meth c H1 locs1 cells slots Q (F0 m (pc + 3) ls (r.toList ++ rest))) : W p l e R s m args below meth c H locs cells slots Q (F0 m pc ls st0) := by
  intro T hT X
  obtain ⟨v, st₀, t, T', L, h0, X', hL, e1, e2, ⟨r, μ', hv, hp, hb, hz, hk⟩, st⟩ := hr T hT X
  cases hv
  rw [h0] at hz hk
  have hAd : ∀ q, AdW G q → A q := fun q ⟨k, h1, h2⟩ => by rw [h2]; exact hA k h1
  obtain ⟨t2, a1, b1⟩ := kk v μ' T'.heap (locs ++ L) hp (by rw [e1]; exact hb.1)
    ⟨Nat.le_trans hS.1 (by rw [e1]; exact hz), fun q h1 h2 => by rw [e1, hk q (Nat.lt_of_lt_of_le h1 hS.1) (fun z => h2 (hAd q z))]; exact hS.2.1 q h1 h2, fun q hq => by
      rcases List.mem_append.mp hq with h | h
      · exact hS.2.2 q h
      · exact hAd _ (hL q h)⟩ T' rfl X'
  exact ⟨t2, st t2 a1, b1⟩
end VCall
section VV2
variable {G : Gx} {own : String} {cc : ByteArray} {nL d : Nat} {X : Cx} {pc : Nat} {lv : List (Nat × Value)} {rest : List Value} {μ : Mu}
abbrev DescOk (y : MethodName) (n : Nat) : Prop := y.cls ≠ "java/lang/invoke/MethodHandle" ∧ y.cls ≠ "java/lang/invoke/VarHandle" ∧ (parseMethodDescriptor y.desc).map (fun d => d.parameters.length) = some n
theorem V.callV {d' : Nat} {y : MethodName} {bytes : ByteArray} {maxL : Nat} {ret : Option FieldType} {k ci n index N : Nat} {T : u_T} {As st : List Value} {Φ : Option Value → Mu → Prop} {F : (Nat → Int32) → (Nat → Int64) → List Value} (hR : Runs d' (y, bytes, maxL, ret) (.ref (G.2.2 k) :: As) G μ Φ) (hd' : d' + 1 ≤ d) (hmx : maxL ≤ 21) (hk : k < 118) (hs : ∀ f g, cell G k f g = .inr (ci, F f g)) (hc : vwCl[ci]? = some (y.cls, T, N)) (w1 : Cond.methodLink own index y ∈ TT) (w2 : Cond.instanceMethod y ∈ TT) (w3 : Cond.selects y.cls y y ∈ TT) (w4 : Cond.initialized y.cls ∈ TT) (w5 : Cond.code y bytes maxL ret ∈ TT) (hdd : DescOk y n) (hn : As.length = n) (hst : st = As.reverse ++ .ref (G.2.2 k) :: rest) (hcat : (rest.map fun v => v.category).sum ≤ 8) (hd : decode cc pc = .ok (.invokevirtual index, 3)) (kk : ∀ (r : Option Value) (μ' : Mu), Φ r μ' → V G own cc nL d X (pc + 3) lv (r.toList ++ rest) μ') : V G own cc nL d X pc lv st μ := by
  obtain ⟨p, l, e, R, s, m, args, below, meth, c, Q, cells, slots, A⟩ := X
  intro ok H locs ls hP hS hl
  obtain ⟨hx, hb, hml, hown, hts, hN, hK, hI, hfr, hlo, hce, hsl, hA, hlk⟩ := id ok
  have hcb : CallB R s args own index y bytes maxL ret (Cond.code y bytes maxL ret :: TT) (rmD d') 0 0 n := callB_of n hts (TT_good' w5) rfl rfl rfl (hts _ w4) (hts _ w1) hdd ⟨Nat.le_trans hd' hfr, by show 8 + (maxL + 11) + 40 * d' ≤ R.locals; omega⟩
  exact v_call (va_runV (As := As) (rest := rest) (b := G.2.2 k) (C := y.cls) ⟨hx, hb, hml, hown, hts⟩ (hR l) ⟨hcb, hts _ w2, hts _ w3⟩ ⟨Wd_blind, va_recv hK hP hc ((wl_get G μ hk).trans (congrArg (fun e => some (G.2.2 k, e)) (hs _ _))), fun U hU hW => ⟨rfl, by rw [hU]; exact hP, va_K.moved hW.alike hK, hI, NW_moved hW hN⟩⟩ rfl hn hl.1 hst (lv_room hcat) hd ⟨hce, hsl⟩) hS hA (fun r μ' H1 locs1 hp hP1 hS1 => kk r μ' hp ok H1 locs1 ls hP1 hS1 hl)
theorem V.callVN {d' : Nat} {y : MethodName} {host : String} {bytes : ByteArray} {maxL : Nat} {ret : Option FieldType} {k ci n index N : Nat} {T : u_T} {As st : List Value} {Φ : Option Value → Mu → Prop} {F : (Nat → Int32) → (Nat → Int64) → List Value} (hR : Runs d' (y, bytes, maxL, ret) (.ref (G.2.2 k) :: As) G μ Φ) (hd' : d' + 1 ≤ d) (hmx : maxL ≤ 21) (hk : k < 118) (hs : ∀ f g, cell G k f g = .inr (ci, F f g)) (hc : vwCl[ci]? = some (y.cls, T, N)) (w1 : Cond.methodLinkNest own index y host ∈ NW) (w2 : Cond.instanceMethod y ∈ TT) (w3 : Cond.selects y.cls y y ∈ TT) (w4 : Cond.initialized y.cls ∈ TT) (w5 : Cond.code y bytes maxL ret ∈ TT) (hdd : DescOk y n) (hn : As.length = n) (hst : st = As.reverse ++ .ref (G.2.2 k) :: rest) (hcat : (rest.map fun v => v.category).sum ≤ 8) (hd : decode cc pc = .ok (.invokevirtual index, 3)) (kk : ∀ (r : Option Value) (μ' : Mu), Φ r μ' → V G own cc nL d X (pc + 3) lv (r.toList ++ rest) μ') : V G own cc nL d X pc lv st μ := by
  obtain ⟨p, l, e, R, s, m, args, below, meth, c, Q, cells, slots, A⟩ := X
  intro ok H locs ls hP hS hl
  obtain ⟨hx, hb, hml, hown, hts, hN, hK, hI, hfr, hlo, hce, hsl, hA, hlk⟩ := id ok
  have hcb : va_CN R s args own index y host bytes maxL ret (Cond.code y bytes maxL ret :: TT) (rmD d') 0 0 n := va_cnB n hts (TT_good' w5) rfl rfl rfl (hN _ w1) (hts _ w4) hdd ⟨Nat.le_trans hd' hfr, by show 8 + (maxL + 11) + 40 * d' ≤ R.locals; omega⟩
  exact v_call (va_runVN (As := As) (rest := rest) (b := G.2.2 k) (C := y.cls) ⟨hx, hb, hml, hown, hts⟩ (hR l) ⟨hcb, hts _ w2, hts _ w3⟩ ⟨Wd_blind, va_recv hK hP hc ((wl_get G μ hk).trans (congrArg (fun e => some (G.2.2 k, e)) (hs _ _))), fun U hU hW => ⟨rfl, by rw [hU]; exact hP, va_K.moved hW.alike hK, hI, NW_moved hW hN⟩⟩ rfl hn hl.1 hst (lv_room hcat) hd ⟨hce, hsl⟩) hS hA (fun r μ' H1 locs1 hp hP1 hS1 => kk r μ' hp ok H1 locs1 ls hP1 hS1 hl)
theorem V.callS {d' : Nat} {y : MethodName} {bytes : ByteArray} {maxL : Nat} {ret : Option FieldType} {n index : Nat} {As st : List Value} {Φ : Option Value → Mu → Prop} (hR : Runs d' (y, bytes, maxL, ret) As G μ Φ) (hd' : d' + 1 ≤ d) (hmx : maxL ≤ 21) (w1 : Cond.methodLink own index y ∈ TT) (w2 : Cond.static y ∈ TT) (w4 : Cond.initialized y.cls ∈ TT) (w5 : Cond.code y bytes maxL ret ∈ TT) (hdd : DescOk y n) (hn : As.length = n) (hst : st = As.reverse ++ rest) (hcat : (rest.map fun v => v.category).sum ≤ 8) (hd : decode cc pc = .ok (.invokestatic index, 3)) (kk : ∀ (r : Option Value) (μ' : Mu), Φ r μ' → V G own cc nL d X (pc + 3) lv (r.toList ++ rest) μ') : V G own cc nL d X pc lv st μ := by
  obtain ⟨p, l, e, R, s, m, args, below, meth, c, Q, cells, slots, A⟩ := X
  intro ok H locs ls hP hS hl
  obtain ⟨hx, hb, hml, hown, hts, hN, hK, hI, hfr, hlo, hce, hsl, hA, hlk⟩ := id ok
  have hcb : CallB R s args own index y bytes maxL ret (Cond.code y bytes maxL ret :: TT) (rmD d') 0 0 n := callB_of n hts (TT_good' w5) rfl rfl rfl (hts _ w4) (hts _ w1) hdd ⟨Nat.le_trans hd' hfr, by show 8 + (maxL + 11) + 40 * d' ≤ R.locals; omega⟩
  exact v_call (va_runS (As := As) (rest := rest) ⟨hx, hb, hml, hown, hts⟩ (hR l) ⟨hcb, hts _ w2⟩ ⟨Wd_blind, fun U hU hW => ⟨rfl, by rw [hU]; exact hP, va_K.moved hW.alike hK, hI, NW_moved hW hN⟩⟩ rfl hn hl.1 hst (lv_room hcat) hd ⟨hce, hsl⟩) hS hA (fun r μ' H1 locs1 hp hP1 hS1 => kk r μ' hp ok H1 locs1 ls hP1 hS1 hl)
theorem V.callSN {d' : Nat} {y : MethodName} {host : String} {bytes : ByteArray} {maxL : Nat} {ret : Option FieldType} {n index : Nat} {As st : List Value} {Φ : Option Value → Mu → Prop} (hR : Runs d' (y, bytes, maxL, ret) As G μ Φ) (hd' : d' + 1 ≤ d) (hmx : maxL ≤ 21) (w1 : Cond.methodLinkNest own index y host ∈ NW) (w2 : Cond.static y ∈ TT) (w4 : Cond.initialized y.cls ∈ TT) (w5 : Cond.code y bytes maxL ret ∈ TT) (hdd : DescOk y n) (hn : As.length = n) (hst : st = As.reverse ++ rest) (hcat : (rest.map fun v => v.category).sum ≤ 8) (hd : decode cc pc = .ok (.invokestatic index, 3)) (kk : ∀ (r : Option Value) (μ' : Mu), Φ r μ' → V G own cc nL d X (pc + 3) lv (r.toList ++ rest) μ') : V G own cc nL d X pc lv st μ := by
  obtain ⟨p, l, e, R, s, m, args, below, meth, c, Q, cells, slots, A⟩ := X
  intro ok H locs ls hP hS hl
  obtain ⟨hx, hb, hml, hown, hts, hN, hK, hI, hfr, hlo, hce, hsl, hA, hlk⟩ := id ok
  have hcb : va_CN R s args own index y host bytes maxL ret (Cond.code y bytes maxL ret :: TT) (rmD d') 0 0 n := va_cnB n hts (TT_good' w5) rfl rfl rfl (hN _ w1) (hts _ w4) hdd ⟨Nat.le_trans hd' hfr, by show 8 + (maxL + 11) + 40 * d' ≤ R.locals; omega⟩
  exact v_call (va_runSN (As := As) (rest := rest) ⟨hx, hb, hml, hown, hts⟩ (hR l) ⟨hcb, hts _ w2, trivial⟩ ⟨Wd_blind, fun U hU hW => ⟨rfl, by rw [hU]; exact hP, va_K.moved hW.alike hK, hI, NW_moved hW hN⟩⟩ rfl hn hl.1 hst (lv_room hcat) hd ⟨hce, hsl⟩) hS hA (fun r μ' H1 locs1 hp hP1 hS1 => kk r μ' hp ok H1 locs1 ls hP1 hS1 hl)
end VV2

