/-! an array of arrays of longs, made at once -/
def mnO (c : ClassId) (N b i : Nat) : Cell := arrV c N (fun j => va_rf (if j < i then some (b + 1 + j) else none))
def mnS (s : State) (c ci : ClassId) (N K : Nat) : Nat → State
  | 0 => s.pushCell (mnO c N s.heap.size 0)
  | i + 1 => ((mnS s c ci N K i).pushCell (arrV ci K (fun _ => .long 0))).setCell s.heap.size (mnO c N s.heap.size (i + 1))
theorem mnO_up (c : ClassId) (N b i : Nat) : (mnO c N b i).setSlot i (.ref (b + 1 + i)) = mnO c N b (i + 1) := by
  unfold mnO
  rw [arrV_store]
  refine congrArg (arrV c N) (funext fun j => ?_)
  by_cases e : j = i
  · subst e
    simp [updV, va_rf]
  · by_cases h : j < i
    · simp [updV, e, h, Nat.lt_succ_of_lt h]
    · simp [updV, e, h, show ¬ j < i + 1 by omega]
theorem mn_facts (s : State) (c ci : ClassId) (N K : Nat) : ∀ i, (mnS s c ci N K i).heap.size = s.heap.size + 1 + i ∧ (mnS s c ci N K i).heap[s.heap.size]? = some (mnO c N s.heap.size i) ∧ (mnS s c ci N K i).vm = s.vm ∧ (mnS s c ci N K i).slotsUsed = s.slotsUsed + N + i * K ∧ (∀ q : Nat, q < s.heap.size → (mnS s c ci N K i).heap[q]? = s.heap[q]?) ∧ (∀ j, j < i → (mnS s c ci N K i).heap[s.heap.size + 1 + j]? = some (arrV ci K (fun _ => .long 0)))
  | 0 => by
    refine ⟨?_, ?_, rfl, ?_, ?_, fun j h => absurd h (Nat.not_lt_zero _)⟩
    · simp [mnS]
    · simp [mnS]
    · simp [mnS, mnO, arrV_size]
    · intro q hq
      exact State.heap_pushCell_of_lt _ _ hq
  | i + 1 => by
    obtain ⟨a, b, v, u, ol, inn⟩ := mn_facts s c ci N K i
    have hlt : s.heap.size < (mnS s c ci N K i).heap.size := by omega
    have hb : ((mnS s c ci N K i).pushCell (arrV ci K (fun _ => .long 0))).heap[s.heap.size]? = some (mnO c N s.heap.size i) := (State.heap_pushCell_of_lt _ _ hlt).trans b
    refine ⟨?_, State.heap_setCell_self hb, ?_, ?_, ?_, ?_⟩
    · simp [mnS, State.setCell, a]
      omega
    · simp [mnS, v]
    · simp [mnS, u, arrV_size, Nat.succ_mul]
      omega
    · intro q hq
      show (((mnS s c ci N K i).pushCell _).setCell s.heap.size _).heap[q]? = _
      have hq2 : q < (mnS s c ci N K i).heap.size := by rw [a]; exact Nat.lt_of_lt_of_le hq (by omega)
      rw [State.heap_setCell_other (Nat.ne_of_gt hq), State.heap_pushCell_of_lt (h := hq2)]
      exact ol q hq
    · intro j hj
      show (((mnS s c ci N K i).pushCell _).setCell s.heap.size _).heap[s.heap.size + 1 + j]? = _
      rw [State.heap_setCell_other (show s.heap.size ≠ s.heap.size + 1 + j by omega)]
      by_cases e : j = i
      · subst e
        rw [← a]
        exact State.heap_pushCell_size _ _
      · have hq2 : s.heap.size + 1 + j < (mnS s c ci N K i).heap.size := by rw [a]; omega
        rw [State.heap_pushCell_of_lt (h := hq2)]
        exact inn j (by omega)
theorem mn_top (s : State) (f : JFrame) (c ci : ClassId) (N K : Nat) : ∀ i, mnS (s.setTop f) c ci N K i = (mnS s c ci N K i).setTop f
  | 0 => rfl
  | i + 1 => by simp only [mnS, mn_top s f c ci N K i, State.heap_setTop, State.pushCell_setTop, State.setCell_setTop]
theorem mn_new (ci : ClassId) (K : Nat) : ({ cls := ci, slots := Array.replicate K (.long 0) } : Cell) = arrV ci K (fun _ => .long 0) := arrV_new _ _ _
theorem mn_newO (c : ClassId) (N b : Nat) : ({ cls := c, slots := Array.replicate N .null } : Cell) = mnO c N b 0 := by
  unfold mnO
  rw [show (fun j => va_rf (if j < 0 then some (b + 1 + j) else none)) = (fun _ => Value.null) from funext fun j => by simp [va_rf]]
  exact arrV_new _ _ _
section MN
variable {ECp : CtlPost} {e : Env} {d : Bool} {acts : List Action} {s : State}
theorem mn_make {c ci cc : ClassId} {k kc : Class} {n q : Int32} (hk : s.vm.classes[c]? = some k) (hkind : k.kind = .array ci (.array .long)) (hkc : s.vm.classes[ci]? = some kc) (hkindc : kc.kind = .array cc .long) (hn : ¬ n < 0) (hq : ¬ q < 0)
    (hl1 : ¬ n.toNatClampNeg > e.platform.arrayLengthLimit) (hh1 : ¬ n.toNatClampNeg * componentBytes (.array .long) > e.platform.maxHeapBytes) (hl2 : ¬ q.toNatClampNeg > e.platform.arrayLengthLimit) (hh2 : ¬ q.toNatClampNeg * componentBytes .long > e.platform.maxHeapBytes)
    (hc : s.heap.size + (1 + n.toNatClampNeg) ≤ e.platform.maxCells) (hs : s.slotsUsed + (n.toNatClampNeg + n.toNatClampNeg * q.toNatClampNeg) ≤ e.platform.maxSlots) {Q : Addr → Pre}
    (hQ : ∀ d' acts', Q s.heap.size d' acts' (mnS s c ci n.toNatClampNeg q.toNatClampNeg n.toNatClampNeg)) : wp (multianewarray.make c [n, q]) Q ECp e d acts s := by
  have hf : ([q].find? (· < 0)) = none := by simp [hq]
  rw [multianewarray.make]
  simp only [wp_bind', W.ite, hn, if_false, wp_pure', W.theClass, hk, hkind, Option.some.injEq, exists_eq_left']
  refine W.newArray_of hk hkind hl1 hh1 (by omega) (by omega) rfl (fun acts1 => ?_)
  rw [mn_newO c _ s.heap.size]
  simp only [hf]
  rw [ite_self, wp_bind', Std.Legacy.Range.forIn_eq_forIn_range']
  rw [show ([:n.toNatClampNeg] : Std.Legacy.Range).size = n.toNatClampNeg by simp [Std.Legacy.Range.size]]
  show wp (forIn (List.range' 0 n.toNatClampNeg 1) PUnit.unit _) _ ECp e d acts1 _
  refine wp_forIn_inv (fun rest st => rest.length ≤ n.toNatClampNeg ∧ rest = List.range' (n.toNatClampNeg - rest.length) rest.length ∧ st = mnS s c ci n.toNatClampNeg q.toNatClampNeg (n.toNatClampNeg - rest.length)) _ _ ⟨by simp, by simp, by simp [mnS]⟩ ?_ ?_
  · rintro x rest st d1 acts2 Q1 ⟨hle, hl, rfl⟩ hnext
    rw [List.length_cons] at hle hl ⊢
    obtain ⟨i, hi⟩ : ∃ i, n.toNatClampNeg = i + (rest.length + 1) := ⟨n.toNatClampNeg - (rest.length + 1), by omega⟩
    rw [show n.toNatClampNeg - (rest.length + 1) = i by omega] at hl ⊢
    rw [List.range'_succ] at hl
    obtain ⟨rfl, hrest⟩ := List.cons.inj hl
    obtain ⟨f1, f2, f3, f4, f5, f6⟩ := mn_facts s c ci n.toNatClampNeg q.toNatClampNeg x
    have hmul : x * q.toNatClampNeg + q.toNatClampNeg ≤ n.toNatClampNeg * q.toNatClampNeg := by
      have := Nat.mul_le_mul_right q.toNatClampNeg (show x + 1 ≤ n.toNatClampNeg by omega)
      rwa [Nat.succ_mul] at this
    simp only [wp_bind']
    rw [multianewarray.make]
    simp only [wp_bind', W.ite, hq, if_false, wp_pure', W.theClass, f3, hkc, hkindc, Option.some.injEq, exists_eq_left']
    refine W.newArray_of (by rw [f3]; exact hkc) hkindc hl2 hh2 (by rw [f1]; omega) (by rw [f4]; omega) rfl (fun acts3 => ?_)
    rw [show defaultValue FieldType.long = Value.long 0 from rfl, mn_new]
    have hlt : s.heap.size < (mnS s c ci n.toNatClampNeg q.toNatClampNeg x).heap.size := by rw [f1]; omega
    refine ⟨mnO c n.toNatClampNeg s.heap.size x, (State.heap_pushCell_of_lt _ _ hlt).trans f2, (fun h => by cases h), ?_, ?_, ?_⟩
    · show x < (arrV _ _ _).slots.size
      rw [arrV_size]
      omega
    · show State.fitsSlot _ c .none x _ = true
      simp [State.fitsSlot, State.slotType?, f3, hk, hkind, fits]
    · refine hnext _ _ _ ⟨by omega, by rw [show n.toNatClampNeg - rest.length = x + 1 by omega]; exact hrest, ?_⟩
      rw [show n.toNatClampNeg - rest.length = x + 1 by omega, f1, mnO_up]
      rfl
  · rintro st d1 acts2 ⟨-, -, rfl⟩
    exact hQ _ _
end MN
theorem mn_stand {p : Program} {l : Launch} {e : Env} {R : Room} {s : State} {m : MethodId} {args : Array Value} {below : List Frame} {meth : Method} {c : Code} {T : State} {locs : List Loc} {cells slots : Nat} (X : Stand p l e R s m args below meth c T locs cells slots) (cA ci : ClassId) (N K : Nat) :
    ∀ i, ∃ L : List Loc, (∀ q ∈ L, q.base = T.heap.size) ∧ Stand p l e R s m args below meth c (mnS T cA ci N K i) (locs ++ L) (cells + (1 + i)) (slots + (N + i * K))
  | 0 => by
    refine ⟨[], (fun q h => by cases h), ?_⟩
    have h := X.pushed (mnO cA N T.heap.size 0)
    rw [show (mnO cA N T.heap.size 0).slots.size = N from arrV_size _ _ _] at h
    rw [List.append_nil, Nat.zero_mul]
    exact h
  | i + 1 => by
    obtain ⟨L, hL, Xi⟩ := mn_stand X cA ci N K i
    obtain ⟨f1, f2, f3, f4, f5, f6⟩ := mn_facts T cA ci N K i
    have hlt : T.heap.size < (mnS T cA ci N K i).heap.size := by rw [f1]; omega
    have hcell : ((mnS T cA ci N K i).pushCell (arrV ci K (fun _ => .long 0))).heap[T.heap.size]? = some (mnO cA N T.heap.size i) := (State.heap_pushCell_of_lt _ _ hlt).trans f2
    have h := (Xi.pushed (arrV ci K (fun _ => .long 0))).stored hcell i (.ref (T.heap.size + 1 + i))
    rw [mnO_up, arrV_size, List.append_assoc] at h
    refine ⟨L ++ [⟨T.heap.size, i⟩], fun q hq => (List.mem_append.mp hq).elim (hL q) (fun h => by rw [List.mem_singleton.mp h]), ?_⟩
    rw [show cells + (1 + (i + 1)) = cells + (1 + i) + 1 by omega, show slots + (N + (i + 1) * K) = slots + (N + i * K) + K by rw [Nat.succ_mul]; omega]
    exact h
section ZM
variable {G : Gx} {own : String} {cc : ByteArray} {nL d mc ms h0 n o ci : Nat} {E : Nat → va_E} {X : Cx} {pc : Nat} {lv : List (Nat × Value)} {rest fs : List Value} {as : List va_E} {sl : Nat}
theorem Zj.mna {index N K j : Nat} {q1 q2 : Int32} {as' : List va_E} (ho : o < n) (w1 : Cond.classLink own index "[[J" ∈ TT) (w2 : Cond.arrayClass .long ∈ TT) (hq1 : ¬ q1 < 0) (hq2 : ¬ q2 < 0) (hN : q1.toNatClampNeg = N) (hKn : q2.toNatClampNeg = K) (hb1 : N * 8 ≤ 536870912) (hb2 : K * 8 ≤ 536870912) (hj : as.length = j) (hmc : j + (1 + N) ≤ mc) (hms : sl + (N + N * K) ≤ ms) (hd : decode cc pc = .ok (.multianewarray index 2, 4)) (has : as ++ (.inl (G.2.1 5, N, .inr (.inr (.inr (.inr (fun i => if i < N then some (h0 + (n + j + 1 + i)) else none))))) :: List.replicate N (aJ G K z0L)) = as')
    (kk : Zj G own cc nL d mc ms h0 n o ci E X (pc + 4) lv (.ref (h0 + (n + j)) :: rest) fs as' (sl + (N + N * K))) : Zj G own cc nL d mc ms h0 n o ci E X pc lv (.int q2 :: .int q1 :: rest) fs as sl := by
  obtain ⟨p, l, e, R, s, m, args, below, meth, c, Q, cells, slots, A⟩ := X
  subst has
  subst hj
  subst hN
  subst hKn
  intro ok H locs ls hP hS hl
  obtain ⟨hx, hb, hml, hown, hts, hNw, hK, hA, hfr, hlo, hce, hsl, hh, hlk⟩ := id ok
  refine Zsz hh hP hS.1 (fun hz => ?_)
  intro T hT Xs
  obtain ⟨kA, hkA, hkindA⟩ := hA.2
  obtain ⟨comp, kC, cc', hcomp, hkC, hkindC⟩ := Cond.arrayClass_spec (hts _ w2)
  have hRA2 : s.vm.findClass ("[" ++ FieldType.long.toString) = some (G.2.1 2) := (hK.2 2 _ rfl).2
  have hRA5 : s.vm.findClass ("[" ++ (FieldType.array .long).toString) = some (G.2.1 5) := (hK.2 5 _ rfl).2
  have hc2 : comp = G.2.1 2 := Option.some.inj (hcomp.symm.trans hRA2)
  subst hc2
  have hpl : e.platform.magicAccessors = ({} : Platform).magicAccessors := by rw [Xs.admits.platform]
  obtain ⟨c0, hfc0, hcl⟩ := Cond.classLink_spec hown (hts _ w1) e.platform hpl
  have hc5 : c0 = G.2.1 5 := Option.some.inj (hfc0.symm.trans hRA5)
  subst hc5
  obtain ⟨hg₁, hwarm₁, hready₁⟩ := State.classEntry (e := e) Xs.warmed hcl
  generalize T.vm.noted m.cls index (.cls (G.2.1 5)) = vm₁ at hg₁ hwarm₁ hready₁
  have hal : s.vm.Alike vm₁ := hwarm₁.alike
  obtain ⟨kA₁, hkA₁, heA⟩ := hal.2.2 _ _ hkA
  obtain ⟨kC₁, hkC₁, heC⟩ := hal.2.2 _ _ hkC
  have hkindA₁ : kA₁.kind = .array (G.2.1 2) (.array .long) := by rw [heA]; exact hkindA
  have hkindC₁ : kC₁.kind = .array cc' .long := by rw [heC]; exact hkindC
  have X₁ := Xs.noted hwarm₁
  obtain ⟨hr1, hr2⟩ := Xs.roomAbove (a := 1 + q1.toNatClampNeg) (b := q1.toNatClampNeg + q1.toNatClampNeg * q2.toNatClampNeg) (by omega) (by omega)
  obtain ⟨L, hL, XF⟩ := mn_stand X₁ (G.2.1 5) (G.2.1 2) q1.toNatClampNeg q2.toNatClampNeg q1.toNatClampNeg
  have hTh : (T.setVm vm₁).heap = H := hT
  obtain ⟨f1, f2, f3, f4, f5, f6⟩ := mn_facts (T.setVm vm₁) (G.2.1 5) (G.2.1 2) q1.toNatClampNeg q2.toNatClampNeg q1.toNatClampNeg
  have hlen : (as ++ (.inl (G.2.1 5, q1.toNatClampNeg, .inr (.inr (.inr (.inr (fun i => if i < q1.toNatClampNeg then some (h0 + (n + as.length + 1 + i)) else none))))) :: List.replicate q1.toNatClampNeg (aJ G q2.toNatClampNeg z0L))).length = as.length + (1 + q1.toNatClampNeg) := by
    rw [List.length_append, List.length_cons, List.length_replicate]
    omega
  have hl1 : ¬ q1.toNatClampNeg > e.platform.arrayLengthLimit := by rw [Launch.admits_arrayLengthLimit Xs.admits]; omega
  have hh1 : ¬ q1.toNatClampNeg * componentBytes (.array .long) > e.platform.maxHeapBytes := by
    rw [Launch.admits_maxHeapBytes Xs.admits]
    show ¬ q1.toNatClampNeg * 4 > 536870912
    omega
  have hl2 : ¬ q2.toNatClampNeg > e.platform.arrayLengthLimit := by rw [Launch.admits_arrayLengthLimit Xs.admits]; omega
  have hh2 : ¬ q2.toNatClampNeg * componentBytes .long > e.platform.maxHeapBytes := by
    rw [Launch.admits_maxHeapBytes Xs.admits]
    show ¬ q2.toNatClampNeg * 8 > 536870912
    omega
  have hP1 : va_P G.1 vwCl (we h0 (n + as.length + (1 + q1.toNatClampNeg)) (cE E n o ci fs (as ++ (.inl (G.2.1 5, q1.toNatClampNeg, .inr (.inr (.inr (.inr (fun i => if i < q1.toNatClampNeg then some (h0 + (n + as.length + 1 + i)) else none))))) :: List.replicate q1.toNatClampNeg (aJ G q2.toNatClampNeg z0L))))) (mnS (T.setVm vm₁) (G.2.1 5) (G.2.1 2) q1.toNatClampNeg q2.toNatClampNeg q1.toNatClampNeg).heap := by
    rw [hTh] at f1 f2 f5 f6
    refine we_more (n := n + as.length) hz hP f5 (fun i hi => cE_more i hi) (fun k hk => ?_)
    rw [cE_new k (by omega)]
    cases k with
    | zero =>
      show (mnS (T.setVm vm₁) (G.2.1 5) (G.2.1 2) q1.toNatClampNeg q2.toNatClampNeg q1.toNatClampNeg).heap[h0 + (n + as.length)]? = some (vp_cell _ _)
      rw [← hz, f2, vp_cell_q]
      unfold mnO
      refine congrArg (fun f => some (arrV (G.2.1 5) q1.toNatClampNeg f)) (funext fun i => ?_)
      rw [hz]
      by_cases h : i < q1.toNatClampNeg
      · rw [if_pos h, if_pos h, show h0 + (n + as.length) + 1 + i = h0 + (n + as.length + 1 + i) by omega]
      · rw [if_neg h, if_neg h]
    | succ k =>
      have hk' : k < q1.toNatClampNeg := by omega
      have h6 := f6 k hk'
      rw [hz, show h0 + (n + as.length) + 1 + k = h0 + (n + as.length + (k + 1)) by omega] at h6
      rw [List.getD_cons_succ, List.getD_eq_getElem?_getD, List.getElem?_replicate, if_pos hk']
      exact h6
  have hS1 : va_S (fun q => h0 ≤ q) s.heap (mnS (T.setVm vm₁) (G.2.1 5) (G.2.1 2) q1.toNatClampNeg q2.toNatClampNeg q1.toNatClampNeg).heap (locs ++ L) := by
    rw [hTh] at f1 f5
    refine ⟨by have := hS.1; omega, fun q h1 h2 => (f5 q (Nat.lt_of_lt_of_le h1 hS.1)).trans (hS.2.1 q h1 h2), fun q hq => (List.mem_append.mp hq).elim (hS.2.2 q) (fun h => ?_)⟩
    show h0 ≤ q.base
    rw [hL q h, hTh, hz]
    omega
  have hgo := kk ok _ (locs ++ L) ls (by rw [hlen, ← Nat.add_assoc]; exact hP1) hS1 hl
  rw [hlen] at hgo
  obtain ⟨t2, a1, b1⟩ := hgo (mnS (T.setVm vm₁) (G.2.1 5) (G.2.1 2) q1.toNatClampNeg q2.toNatClampNeg q1.toNatClampNeg) rfl XF
  refine ⟨t2, ?_, b1⟩
  have hr1' : T.heap.size + (1 + q1.toNatClampNeg) ≤ e.platform.maxCells := hr1
  jvm_step Xs.here [hx, hb, hd]
  simp only [multianewarray.sem, wp_bind', W.resolveClassAt_links (State.method?_setTop (F0 m pc ls (.int q2 :: .int q1 :: rest)) Xs.here.top) hg₁]
  rw [W.popN, if_neg (by decide)]
  refine ⟨F0 m pc ls (.int q2 :: .int q1 :: rest), State.topJava?_setTop' (s := T.setVm vm₁) _ Xs.here.top, [.int q1, .int q2], rest, rfl, rfl, ?_⟩
  simp only [List.mapM_cons, List.mapM_nil, wp_bind', wp_pure']
  refine mn_make (k := kA₁) (kc := kC₁) hkA₁ hkindA₁ hkC₁ hkindC₁ hq1 hq2 hl1 hh1 hl2 hh2 (by exact hr1) (by exact hr2) (fun d' acts' => ?_)
  have eS : ((T.setTop (F0 m pc ls (.int q2 :: .int q1 :: rest))).setVm vm₁).setTop { F0 m pc ls (.int q2 :: .int q1 :: rest) with stack := rest } = (T.setVm vm₁).setTop { F0 m pc ls (.int q2 :: .int q1 :: rest) with stack := rest } := by
    show ((T.setVm vm₁).setTop _).setTop _ = _
    rw [State.setTop_setTop]
  rw [eS, mn_top]
  simp only [wp_bind', W.mark, W.pushRef, State.topJava?_setTop' _ XF.here.top, Option.some.injEq, exists_eq_left', State.setTop_setTop, State.heap_setTop]
  intro acts
  simp [jvm, XF.here.top]
  rw [show T.heap.size = h0 + (n + as.length) by rw [hT]; exact hz]
  exact a1
end ZM
