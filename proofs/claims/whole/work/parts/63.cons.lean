/-! constructors: the world by order of making, address h0 + i -/
def we (h0 n : Nat) (E : Nat → va_E) : va_W := (List.range n).map (fun i => (h0 + i, E i))
theorem we_len (h0 n : Nat) (E : Nat → va_E) : (we h0 n E).length = n := by simp [we]
theorem we_get {h0 n : Nat} (E : Nat → va_E) {i : Nat} (h : i < n) : (we h0 n E)[i]? = some (h0 + i, E i) := by simp [we, h]
theorem we_at {h0 n : Nat} {E : Nat → va_E} {i : Nat} {q : Nat × va_E} (h : (we h0 n E)[i]? = some q) : i < n ∧ q = (h0 + i, E i) := by
  have hi : i < n := by
    have := (List.getElem?_eq_some_iff.mp h).1
    rwa [we_len] at this
  rw [we_get E hi] at h
  cases h
  exact ⟨hi, rfl⟩
theorem we_D (h0 n : Nat) (E : Nat → va_E) : va_D (fun q => h0 ≤ q) (we h0 n E) := by
  refine ⟨fun i j p q hp hq e => ?_, fun k q hq => ?_⟩
  · obtain ⟨_, rfl⟩ := we_at hp
    obtain ⟨_, rfl⟩ := we_at hq
    dsimp only at e
    omega
  · obtain ⟨_, rfl⟩ := we_at hq
    exact Nat.le_add_right _ _
theorem we_set {h0 n o : Nat} {E E' : Nat → va_E} (ho : o < n) {v : va_E} (hv : E' o = v) (h : ∀ i, i ≠ o → i < n → E' i = E i) : (we h0 n E).set o (h0 + o, v) = we h0 n E' := by
  subst hv
  apply List.ext_getElem?
  intro j
  by_cases hj : j < n
  · rw [we_get E' hj]
    by_cases e : j = o
    · subst e
      rw [List.getElem?_set_self (by rw [we_len]; exact hj)]
    · rw [List.getElem?_set_ne (Ne.symm e), we_get E hj, h j e hj]
  · rw [List.getElem?_eq_none (by rw [List.length_set, we_len]; omega), List.getElem?_eq_none (by rw [we_len]; omega)]
theorem we_eq {h0 n : Nat} {E E' : Nat → va_E} (h : ∀ i, i < n → E' i = E i) : we h0 n E = we h0 n E' := by
  apply List.map_congr_left
  intro i hi
  rw [h i (List.mem_range.mp hi)]
theorem we_more {D : va_G} {h0 n r : Nat} {E E' : Nat → va_E} {H H1 : Heap} (hz : H.size = h0 + n) (hP : va_P D vwCl (we h0 n E) H) (h1 : ∀ q : Nat, q < H.size → H1[q]? = H[q]?) (he : ∀ i, i < n → E' i = E i) (hn : ∀ j, j < r → va_at D vwCl (h0 + (n + j), E' (n + j)) H1) : va_P D vwCl (we h0 (n + r) E') H1 := by
  intro k q hq
  obtain ⟨hk, rfl⟩ := we_at hq
  by_cases h : k < n
  · rw [he k h]
    exact (hP k _ (we_get E h)).kept (h1 _ (by show h0 + k < H.size; omega))
  · have := hn (k - n) (by omega)
    rwa [show n + (k - n) = k by omega] at this
/-- the object o that is made, its fields; what was there; what is new -/
def cE (E : Nat → va_E) (n o ci : Nat) (fs : List Value) (as : List va_E) : Nat → va_E := fun i => if i = o then .inr (ci, fs) else if i < n then E i else as.getD (i - n) (.inr (0, []))
def Ax (G : Gx) (U : State) : Prop := va_AO "CoverExtract$State" U ∧ ∃ kA : Class, U.vm.classes[G.2.1 5]? = some kA ∧ kA.kind = .array (G.2.1 2) (.array .long)
theorem Ax.moved {G : Gx} {u U : State} (hvm : u.vm.Alike U.vm) (h : Ax G u) : Ax G U := by
  refine ⟨va_AO.moved hvm h.1, ?_⟩
  obtain ⟨kA, h1, h2⟩ := h.2
  obtain ⟨k', hk', he⟩ := hvm.2.2 _ _ h1
  exact ⟨k', hk', by rw [he]; exact h2⟩
def Wz (G : Gx) (h0 n : Nat) (E : Nat → va_E) (U : State) : Prop := U.heap.size = h0 + n ∧ va_P G.1 vwCl (we h0 n E) U.heap ∧ va_K G.1 vwCl (tysG G) U ∧ (∀ w ∈ NW, va_Nw w U) ∧ Ax G U
def rmZ (d mc ms : Nat) : Room := { frames := d, cells := mc, slots := ms, locals := 40 * d }
def QZ (G : Gx) (h0 n : Nat) (E : Nat → va_E) : Array Value → State → Outcome → State → Prop := fun _ st oc t => oc = .returned none ∧ t.heap.size = h0 + n ∧ va_P G.1 vwCl (we h0 n E) t.heap ∧ va_F (fun q => h0 ≤ q) st t
def RunsZ (d ms : Nat) (y : Mm) (G : Gx) (h0 n o ci : Nat) (E : Nat → va_E) (fs : List Value) (as : List va_E) : Prop := ∀ l : Launch, Met l y.1 (.code y.1 y.2.1 y.2.2.1 y.2.2.2 :: TT) (rmZ d as.length ms) (va_Pc [.ref (h0 + o)] (Wz G h0 n E)) (QZ G h0 (n + as.length) (cE E n o ci fs as)) as.length ms (fun q => h0 ≤ q)
def OkZ (G : Gx) (own : String) (cc : ByteArray) (nL d mc ms h0 n : Nat) (X : Cx) : Prop := match X with
  | (p, _, _, R, s, m, args, _, meth, c, _, _, _, _) => p.tables.exec = Jvm.exec ∧ c.code = cc ∧ c.maxLocals = nL ∧ s.vm.findClass own = some m.cls ∧ (∀ w ∈ TT, w.before args s = true) ∧ (∀ w ∈ NW, va_Nw w s) ∧ va_K G.1 vwCl (tysG G) s ∧ Ax G s ∧ d ≤ R.frames ∧ 40 * d ≤ R.locals ∧ mc ≤ R.cells ∧ ms ≤ R.slots ∧ s.heap.size = h0 + n ∧ meth.locks = false
def Zj (G : Gx) (own : String) (cc : ByteArray) (nL d mc ms h0 n o ci : Nat) (E : Nat → va_E) (X : Cx) (pc : Nat) (lv : List (Nat × Value)) (st : List Value) (fs : List Value) (as : List va_E) (sl : Nat) : Prop := match X with
  | (p, l, e, R, s, m, args, below, meth, c, Q, _, _, _) => OkZ G own cc nL d mc ms h0 n X → ∀ (H : Heap) (locs : List Loc) (ls : Array Slot), va_P G.1 vwCl (we h0 (n + as.length) (cE E n o ci fs as)) H → va_S (fun q => h0 ≤ q) s.heap H locs → lv_has ls nL lv → W p l e R s m args below meth c H locs as.length sl Q (F0 m pc ls st)
def FinZ (G : Gx) (X : Cx) (h0 n o ci : Nat) (E : Nat → va_E) (fs : List Value) (as : List va_E) (ms : Nat) : Prop := match X with
  | (_, _, _, _, s, _, args, below, meth, _, Q, _, _, _) => meth.sig.returnType = none ∧ meth.name = "<init>" ∧ Q = MQ below (QZ G h0 (n + as.length) (cE E n o ci fs as)) args s as.length ms (fun q => h0 ≤ q)
theorem Wz_blind {G : Gx} {h0 n : Nat} {E : Nat → va_E} {av : List Value} : FrameBlind (va_Pc av (Wz G h0 n E)) := by
  intro a U g mk q
  obtain ⟨q0, qz, qP, qK, qN, qA⟩ := q
  exact ⟨q0, qz, qP, va_K.moved (u := U) (U := U.calling g mk a) (Vm.Alike.refl U.vm) qK, NW_same (s := U) (U := U.calling g mk a) rfl qN, Ax.moved (u := U) (U := U.calling g mk a) (Vm.Alike.refl U.vm) qA⟩
theorem RunsZ.of {d ms : Nat} {y : MethodName} {cc : ByteArray} {nL : Nat} {G : Gx} {h0 n o ci : Nat} {E : Nat → va_E} (own : String) (how : y.cls = own) {fs0 fs : List Value} {as : List va_E} (hi : y.name = "<init>") (hy : plainName y.cls = true) (hn : 1 ≤ nL) (hE : E o = .inr (ci, fs0)) (ho : o < n)
    (body : ∀ X : Cx, FinZ G X h0 n o ci E fs as ms → Zj G own cc nL d as.length ms h0 n o ci E X 0 [(0, .ref (h0 + o))] [] fs0 [] 0) : RunsZ d ms (y, cc, nL, none) G h0 n o ci E fs as := by
  subst how
  intro l
  refine Met.ofW (cc := cc) (maxL := nL) (ret := none) hy rfl ?_
  intro p e s m args below meth c s₁ B hml hv
  obtain ⟨rfl, hz, hP, hK, hN, hA⟩ := hv
  have hts := atoms_spec (ws := .code y cc nL none :: TT) B.pre
  have hl := lv_entry [.ref (h0 + o)] (n := nL) hn
  rw [lg_entry_eq]
  refine body (p, l, e, (headSpec (.code y cc nL none :: TT) (rmZ d as.length ms)).room, s, m, [Value.ref (h0 + o)].toArray, below, meth, c, MQ below (QZ G h0 (n + as.length) (cE E n o ci fs as)) [Value.ref (h0 + o)].toArray s as.length ms (fun q => h0 ≤ q), 0, 0, fun _ => True) ⟨B.returns, (name_of_methodNamed B.named B.method).1.trans hi, rfl⟩ ⟨B.exec, B.bytes, hml, findClass_of_methodNamed B.named, fun w hw => hts w (List.mem_cons_of_mem _ hw), hN, hK, hA, Nat.le_refl _, Nat.le_refl _, Nat.le_refl _, Nat.le_refl _, hz, B.notSynchronized⟩ s.heap [] _ ?_ va_S.rf hl
  show va_P G.1 vwCl (we h0 n (cE E n o ci fs0 [])) s.heap
  rw [← we_eq (E := E)]
  · exact hP
  · intro i hi
    unfold cE
    by_cases e : i = o
    · rw [if_pos e, e, hE]
    · rw [if_neg e, if_pos hi]
section ZZ
variable {G : Gx} {own : String} {cc : ByteArray} {nL d mc ms h0 n o ci : Nat} {E : Nat → va_E} {X : Cx} {pc : Nat} {lv : List (Nat × Value)} {rest fs : List Value} {as : List va_E} {sl : Nat}
theorem Zj.iconst {q : Int} {v : Int32} (hd : decode cc pc = .ok (.iconst q, 1)) (hv : Int32.ofInt q = v) (kk : Zj G own cc nL d mc ms h0 n o ci E X (pc + 1) lv (.int v :: rest) fs as sl) : Zj G own cc nL d mc ms h0 n o ci E X pc lv rest fs as sl := by
  obtain ⟨p, l, e, R, s, m, args, below, meth, c, Q, cells, slots, A⟩ := X
  exact fun ok H locs ls hP hS hl => lv_iconst ok.1 ok.2.1 hd hv (kk ok H locs ls hP hS hl)
theorem Zj.bipush {q : Int} {v : Int32} (hd : decode cc pc = .ok (.bipush q, 2)) (hv : (Int8.ofInt q).toInt32 = v) (kk : Zj G own cc nL d mc ms h0 n o ci E X (pc + 2) lv (.int v :: rest) fs as sl) : Zj G own cc nL d mc ms h0 n o ci E X pc lv rest fs as sl := by
  obtain ⟨p, l, e, R, s, m, args, below, meth, c, Q, cells, slots, A⟩ := X
  exact fun ok H locs ls hP hS hl => lv_bipush ok.1 ok.2.1 hd hv (kk ok H locs ls hP hS hl)
theorem Zj.sipush {q : Int} {v : Int32} (hd : decode cc pc = .ok (.sipush q, 3)) (hv : (Int16.ofInt q).toInt32 = v) (kk : Zj G own cc nL d mc ms h0 n o ci E X (pc + 3) lv (.int v :: rest) fs as sl) : Zj G own cc nL d mc ms h0 n o ci E X pc lv rest fs as sl := by
  obtain ⟨p, l, e, R, s, m, args, below, meth, c, Q, cells, slots, A⟩ := X
  exact fun ok H locs ls hP hS hl => lv_sipush ok.1 ok.2.1 hd hv (kk ok H locs ls hP hS hl)
theorem Zj.lconst {q : Fin 2} {v : Int64} (hd : decode cc pc = .ok (.lconst q, 1)) (hv : Int64.ofNat (q : Nat) = v) (kk : Zj G own cc nL d mc ms h0 n o ci E X (pc + 1) lv (.long v :: rest) fs as sl) : Zj G own cc nL d mc ms h0 n o ci E X pc lv rest fs as sl := by
  obtain ⟨p, l, e, R, s, m, args, below, meth, c, Q, cells, slots, A⟩ := X
  exact fun ok H locs ls hP hS hl => lv_lconst ok.1 ok.2.1 hd hv (kk ok H locs ls hP hS hl)
theorem Zj.ldc {index : Nat} {v : Int32} (hw : Cond.constant own index v ∈ TT) (hd : decode cc pc = .ok (.ldc index, 2)) (kk : Zj G own cc nL d mc ms h0 n o ci E X (pc + 2) lv (.int v :: rest) fs as sl) : Zj G own cc nL d mc ms h0 n o ci E X pc lv rest fs as sl := by
  obtain ⟨p, l, e, R, s, m, args, below, meth, c, Q, cells, slots, A⟩ := X
  exact fun ok H locs ls hP hS hl => lv_ldc ok.1 ok.2.1 ok.2.2.2.1 (ok.2.2.2.2.1 _ hw) hd (kk ok H locs ls hP hS hl)
theorem Zj.ldc2_w {index : Nat} {v : Int64} (hw : Cond.constantLong own index v ∈ TT) (hd : decode cc pc = .ok (.ldc2_w index, 3)) (kk : Zj G own cc nL d mc ms h0 n o ci E X (pc + 3) lv (.long v :: rest) fs as sl) : Zj G own cc nL d mc ms h0 n o ci E X pc lv rest fs as sl := by
  obtain ⟨p, l, e, R, s, m, args, below, meth, c, Q, cells, slots, A⟩ := X
  exact fun ok H locs ls hP hS hl => lv_ldc2 ok.1 ok.2.1 ok.2.2.2.1 (ok.2.2.2.2.1 _ hw) hd (kk ok H locs ls hP hS hl)
theorem Zj.aload_n {k : Fin 4} {x : Nat} (j : Nat) (hd : decode cc pc = .ok (.aload_n k, 1)) (h : lv[j]? = some ((k : Nat), .ref x)) (kk : Zj G own cc nL d mc ms h0 n o ci E X (pc + 1) lv (.ref x :: rest) fs as sl) : Zj G own cc nL d mc ms h0 n o ci E X pc lv rest fs as sl := by
  obtain ⟨p, l, e, R, s, m, args, below, meth, c, Q, cells, slots, A⟩ := X
  exact fun ok H locs ls hP hS hl => lv_aload_n ok.1 ok.2.1 hd rfl (lv_at hl j h) (kk ok H locs ls hP hS hl)
theorem Zj.iload_n {k : Fin 4} {x : Int32} (j : Nat) (hd : decode cc pc = .ok (.iload_n k, 1)) (h : lv[j]? = some ((k : Nat), .int x)) (kk : Zj G own cc nL d mc ms h0 n o ci E X (pc + 1) lv (.int x :: rest) fs as sl) : Zj G own cc nL d mc ms h0 n o ci E X pc lv rest fs as sl := by
  obtain ⟨p, l, e, R, s, m, args, below, meth, c, Q, cells, slots, A⟩ := X
  exact fun ok H locs ls hP hS hl => lv_iload_n ok.1 ok.2.1 hd rfl (lv_at hl j h) (kk ok H locs ls hP hS hl)
theorem Zj.istore_n {k : Fin 4} {x : Int32} {lv' : List (Nat × Value)} (hd : decode cc pc = .ok (.istore_n k, 1)) (hn : (k : Nat) < nL) (hv : lset1 (k : Nat) (.int x) lv = lv') (kk : Zj G own cc nL d mc ms h0 n o ci E X (pc + 1) lv' rest fs as sl) : Zj G own cc nL d mc ms h0 n o ci E X pc lv (.int x :: rest) fs as sl := by
  subst hv
  obtain ⟨p, l, e, R, s, m, args, below, meth, c, Q, cells, slots, A⟩ := X
  exact fun ok H locs ls hP hS hl => lv_istore_n ok.1 ok.2.1 hd rfl hl hn rfl (fun ls hl => kk ok H locs ls hP hS (lv_mem hl (fun _ hq => lins_mem hq)))
theorem Zj.iinc {i : Nat} {q : Int} {x v : Int32} {lv' : List (Nat × Value)} (j : Nat) (hd : decode cc pc = .ok (.iinc i q, 3)) (h : lv[j]? = some (i, .int x)) (he : x + Int32.ofInt q = v) (hn : i < nL) (hv : lset1 i (.int v) lv = lv') (kk : Zj G own cc nL d mc ms h0 n o ci E X (pc + 3) lv' rest fs as sl) : Zj G own cc nL d mc ms h0 n o ci E X pc lv rest fs as sl := by
  subst hv
  obtain ⟨p, l, e, R, s, m, args, below, meth, c, Q, cells, slots, A⟩ := X
  exact fun ok H locs ls hP hS hl => lv_iinc ok.1 ok.2.1 hd hl h he hn rfl (fun ls hl => kk ok H locs ls hP hS (lv_mem hl (fun _ hq => lins_mem hq)))
theorem Zj.dup {va : Value} (hd : decode cc pc = .ok (.dup, 1)) (hc : va.category = 1) (kk : Zj G own cc nL d mc ms h0 n o ci E X (pc + 1) lv (va :: va :: rest) fs as sl) : Zj G own cc nL d mc ms h0 n o ci E X pc lv (va :: rest) fs as sl := by
  obtain ⟨p, l, e, R, s, m, args, below, meth, c, Q, cells, slots, A⟩ := X
  exact fun ok H locs ls hP hS hl => lv_dup ok.1 ok.2.1 hd hc (kk ok H locs ls hP hS hl)
theorem Zj.icmp_ge {x y : Int32} {off : Int} (tgt : Nat) (hd : decode cc pc = .ok (.if_icmp .ge off, 3)) (ht : (pc : Int) + off = (tgt : Int)) (kt : y ≤ x → Zj G own cc nL d mc ms h0 n o ci E X tgt lv rest fs as sl) (kf : ¬ y ≤ x → Zj G own cc nL d mc ms h0 n o ci E X (pc + 3) lv rest fs as sl) : Zj G own cc nL d mc ms h0 n o ci E X pc lv (.int y :: .int x :: rest) fs as sl := by
  obtain ⟨p, l, e, R, s, m, args, below, meth, c, Q, cells, slots, A⟩ := X
  exact fun ok H locs ls hP hS hl => lv_icmp_ge ok.1 ok.2.1 hd ht (fun h => kt h ok H locs ls hP hS hl) (fun h => kf h ok H locs ls hP hS hl)
theorem Zj.goto {off : Int} (tgt : Nat) (hd : decode cc pc = .ok (.goto off, 3)) (ht : (pc : Int) + off = (tgt : Int)) (kk : Zj G own cc nL d mc ms h0 n o ci E X tgt lv rest fs as sl) : Zj G own cc nL d mc ms h0 n o ci E X pc lv rest fs as sl := by
  obtain ⟨p, l, e, R, s, m, args, below, meth, c, Q, cells, slots, A⟩ := X
  exact fun ok H locs ls hP hS hl => lv_goto ok.1 ok.2.1 hd ht (kk ok H locs ls hP hS hl)
theorem Zj.objInit {a idx : Nat} (w1 : Cond.methodLink own idx Lib.objectInit ∈ TT) (w2 : Cond.instanceMethod Lib.objectInit ∈ TT) (w3 : Cond.code Lib.objectInit ⟨#[177]⟩ 1 none ∈ TT) (hdp : 1 ≤ d) (hr : (rest.map fun v => v.category).sum ≤ 8) (hd : decode cc pc = .ok (.invokespecial idx, 3)) (kk : Zj G own cc nL d mc ms h0 n o ci E X (pc + 3) lv rest fs as sl) : Zj G own cc nL d mc ms h0 n o ci E X pc lv (.ref a :: rest) fs as sl := by
  obtain ⟨p, l, e, R, s, m, args, below, meth, c, Q, cells, slots, A⟩ := X
  intro ok H locs ls hP hS hl
  obtain ⟨hx, hb, hml, ho, hts, hN, hK, hA, hfr, hlo, hce, hsl, hh, hlk⟩ := id ok
  exact W.objInit (g := F0 m pc ls (.ref a :: rest)) hx hb ho (hts _ w1) (hts _ w2) (hts _ w3) rfl (hl.1.trans hml.symm) rfl hd (by omega) (by show 2 * 0 + (rest.map fun v => v.category).sum + 12 ≤ R.locals; omega) (kk ok H locs ls hP hS hl)
theorem cE_put {fs' : List Value} (i : Nat) (hi : i ≠ o) : cE E n o ci fs' as i = cE E n o ci fs as i := by
  unfold cE
  rw [if_neg hi, if_neg hi]
theorem Zj.put {i index N : Nat} {C : String} {T : u_T} {v : Value} {ty : FieldType} {fs' : List Value} (ty0 : Nat → FieldType) (hty : ∀ k, k < N → parseFieldDescriptor (T k).2.2.1 = some (ty0 k)) (hnm : ∀ a, a < N → ∀ b, b < N → a ≠ b → (T a).2.1 ≠ (T b).2.1) (ho : o < n) (hc : vwCl[ci]? = some (C, T, N)) (hin : ∀ w ∈ u_ws C T N, w ∈ TT) (hi : i < N) (hw : Cond.fieldLink own index (T i).1 (T i).2.1 (T i).2.2.1 ∈ TT) (hfin : (T i).2.2.2 = false) (hpd : parseFieldDescriptor (T i).2.2.1 = some ty) (hn : narrow ty v = v) (hfit : fits ty v = true) (hl0 : i < fs.length) (hd : decode cc pc = .ok (.putfield index, 3)) (hf : fs.set i v = fs') (kk : Zj G own cc nL d mc ms h0 n o ci E X (pc + 3) lv rest fs' as sl) : Zj G own cc nL d mc ms h0 n o ci E X pc lv (v :: .ref (h0 + o) :: rest) fs as sl := by
  obtain ⟨p, l, e, R, s, m, args, below, meth, c, Q, cells, slots, A⟩ := X
  subst hf
  intro ok H locs ls hP hS hl
  obtain ⟨hx, hb, hml, hown, hts, hN, hK, hA, hfr, hlo, hce, hsl, hh, hlk⟩ := id ok
  have ho' : o < n + as.length := by omega
  refine va_put (D := G.1) (ci := ci) (v := v) (ty := ty) (C := C) (T := T) (N := N) hx hb hts hin ty0 hty hnm hown hK hP (we_D h0 _ _) hS o ((we_get _ ho').trans (by unfold cE; rw [if_pos rfl])) hc i hi (hts _ hw) (fun _ h => h) hfin hpd hn hfit hl0 hd (fun H1 locs1 hP1 _ hS1 => ?_)
  rw [we_set (E' := cE E n o ci (fs.set i v) as) ho' (by unfold cE; rw [if_pos rfl]) (fun j hj _ => cE_put j hj)] at hP1
  exact kk ok H1 locs1 ls hP1 hS1 hl
theorem Zj.putF {i index N : Nat} {C : String} {T : u_T} {v : Value} {ty : FieldType} {fs' fsE : List Value} {asE : List va_E} {msE : Nat} (hF : FinZ G X h0 n o ci E fsE asE msE) (ty0 : Nat → FieldType) (hty : ∀ k, k < N → parseFieldDescriptor (T k).2.2.1 = some (ty0 k)) (hnm : ∀ a, a < N → ∀ b, b < N → a ≠ b → (T a).2.1 ≠ (T b).2.1) (ho : o < n) (hc : vwCl[ci]? = some (C, T, N)) (hin : ∀ w ∈ u_ws C T N, w ∈ TT) (hi : i < N) (hw : Cond.fieldLink own index (T i).1 (T i).2.1 (T i).2.2.1 ∈ TT) (hfin : (T i).2.2.2 = true) (hdecl : (T i).1 = own) (hpd : parseFieldDescriptor (T i).2.2.1 = some ty) (hn : narrow ty v = v) (hfit : fits ty v = true) (hl0 : i < fs.length) (hd : decode cc pc = .ok (.putfield index, 3)) (hf : fs.set i v = fs') (kk : Zj G own cc nL d mc ms h0 n o ci E X (pc + 3) lv rest fs' as sl) : Zj G own cc nL d mc ms h0 n o ci E X pc lv (v :: .ref (h0 + o) :: rest) fs as sl := by
  obtain ⟨p, l, e, R, s, m, args, below, meth, c, Q, cells, slots, A⟩ := X
  subst hf
  intro ok H locs ls hP hS hl
  obtain ⟨hx, hb, hml, hown, hts, hN, hK, hA, hfr, hlo, hce, hsl, hh, hlk⟩ := id ok
  have ho' : o < n + as.length := by omega
  refine va_putF (D := G.1) (ci := ci) (v := v) (ty := ty) (C := C) (T := T) (N := N) hx hb hts hin ty0 hty hnm hown hK hP (we_D h0 _ _) hS o ((we_get _ ho').trans (by unfold cE; rw [if_pos rfl])) hc i hi (hts _ hw) (fun _ h => h) hfin hF.2.1 hdecl hpd hn hfit hl0 hd (fun H1 locs1 hP1 _ hS1 => ?_)
  rw [we_set (E' := cE E n o ci (fs.set i v) as) ho' (by unfold cE; rw [if_pos rfl]) (fun j hj _ => cE_put j hj)] at hP1
  exact kk ok H1 locs1 ls hP1 hS1 hl
theorem Zsz {D : va_G} {p : Program} {l : Launch} {e : Env} {R : Room} {s : State} {m : MethodId} {args : Array Value} {below : List Frame} {meth : Method} {c : Code} {H : Heap} {locs : List Loc} {slots k : Nat} {Q : State → Prop} {g : JFrame} {E1 : Nat → va_E} (hs : s.heap.size = h0 + n) (hP : va_P D vwCl (we h0 (n + k) E1) H) (hS : s.heap.size ≤ H.size) (kk : H.size = h0 + (n + k) → W p l e R s m args below meth c H locs k slots Q g) : W p l e R s m args below meth c H locs k slots Q g := by
  intro T hT X
  refine kk ?_ T hT X
  have h1 := X.heapSize
  rw [hT] at h1
  cases k with
  | zero => omega
  | succ k =>
    have h2 := (hP (n + k) _ (we_get E1 (by omega))).lt
    have h3 : h0 + (n + k) < H.size := h2
    omega
theorem cE_more {x : List va_E} (i : Nat) (hi : i < n + as.length) : cE E n o ci fs (as ++ x) i = cE E n o ci fs as i := by
  unfold cE
  by_cases h1 : i = o
  · rw [if_pos h1, if_pos h1]
  · rw [if_neg h1, if_neg h1]
    by_cases h2 : i < n
    · rw [if_pos h2, if_pos h2]
    · rw [if_neg h2, if_neg h2, List.getD_eq_getElem?_getD, List.getD_eq_getElem?_getD, List.getElem?_append_left (by omega)]
theorem cE_new {x : List va_E} (j : Nat) (ho : n + as.length + j ≠ o) : cE E n o ci fs (as ++ x) (n + as.length + j) = x.getD j (.inr (0, [])) := by
  unfold cE
  rw [if_neg ho, if_neg (by omega), show n + as.length + j - n = as.length + j by omega, List.getD_eq_getElem?_getD, List.getD_eq_getElem?_getD, List.getElem?_append_right (by omega), show as.length + j - as.length = j by omega]
theorem Zj.newa {atype : ArrayType} {ty : FieldType} {ti N j : Nat} {q : Int32} {a0 : vp_A} {as' : List va_E} (ho : n + j ≠ o) (hty : newarray.typeOf atype = ty) (hti : (tysG G)[ti]? = some (G.2.1 ti, ty)) (hra : ∀ (U : State) (cA : ClassId), va_RA U cA ty → U.vm.findClass ("[" ++ ty.toString) = some cA) (w1 : Cond.arrayClass ty ∈ TT) (ha : ∀ cA : ClassId, vp_cell cA a0 = arrV cA N (fun _ => defaultValue ty)) (hq : ¬ q < 0) (hN : q.toNatClampNeg = N) (hby : N * componentBytes ty ≤ 536870912) (hj : as.length = j) (hmc : j + 1 ≤ mc) (hms : sl + N ≤ ms) (hd : decode cc pc = .ok (.newarray atype, 2)) (has : as ++ [.inl (G.2.1 ti, a0)] = as')
    (kk : Zj G own cc nL d mc ms h0 n o ci E X (pc + 2) lv (.ref (h0 + (n + j)) :: rest) fs as' (sl + N)) : Zj G own cc nL d mc ms h0 n o ci E X pc lv (.int q :: rest) fs as sl := by
  obtain ⟨p, l, e, R, s, m, args, below, meth, c, Q, cells, slots, A⟩ := X
  subst has
  subst hj
  subst hty
  intro ok H locs ls hP hS hl
  obtain ⟨hx, hb, hml, hown, hts, hNw, hK, hA, hfr, hlo, hce, hsl, hh, hlk⟩ := id ok
  refine Zsz hh hP hS.1 (fun hz => ?_)
  refine va_newaK (g := F0 m pc ls (.int q :: rest)) hx hb (hts _ w1) rfl hd rfl hq hN hby (by omega) (by omega) hz (fun H1 cA e1 z1 o1 hAr hNm => ?_)
  have hcA : cA = G.2.1 ti := Option.some.inj (hNm.symm.trans (hra s _ (hK.2 ti _ hti).2))
  subst hcA
  have hlen : (as ++ [Sum.inl (G.2.1 ti, a0)] : List va_E).length = as.length + 1 := by rw [List.length_append]; rfl
  have := kk ok H1 locs ls (by
    rw [hlen]
    refine we_more (n := n + as.length) (r := 1) hz hP (fun q hq => o1 q (by omega)) (fun i hi => cE_more i hi) (fun j hj => ?_)
    have hj0 : j = 0 := by omega
    subst hj0
    rw [cE_new 0 ho]
    show H1[h0 + (n + as.length)]? = some (vp_cell _ _)
    rw [ha]
    exact e1) ⟨by have := hS.1; omega, fun q h1 h2 => (o1 q (by have := hS.1; omega)).trans (hS.2.1 q h1 h2), hS.2.2⟩ hl
  rw [hlen] at this
  exact this
theorem Zj.new {C : String} {T : u_T} {N c1 index j : Nat} {fr : List Value} {as' : List va_E} (ho : n + j ≠ o) (ty0 : Nat → FieldType) (hty : ∀ k, k < N → parseFieldDescriptor (T k).2.2.1 = some (ty0 k)) (hin : ∀ w ∈ u_ws C T N, w ∈ TT) (hc : vwCl[c1]? = some (C, T, N)) (w1 : Cond.classLink own index C ∈ TT) (w2 : Cond.instantiable C N ∈ TT) (w3 : Cond.initialized C ∈ TT) (hfr : ∀ j, j < N → defaultValue (ty0 j) = vp_V fr j) (hj : as.length = j) (hmc : j + 1 ≤ mc) (hms : sl + N ≤ ms) (hd : decode cc pc = .ok (.new index, 3)) (has : as ++ [.inr (c1, fr)] = as')
    (kk : Zj G own cc nL d mc ms h0 n o ci E X (pc + 3) lv (.ref (h0 + (n + j)) :: rest) fs as' (sl + N)) : Zj G own cc nL d mc ms h0 n o ci E X pc lv rest fs as sl := by
  obtain ⟨p, l, e, R, s, m, args, below, meth, c, Q, cells, slots, A⟩ := X
  subst has
  subst hj
  intro ok H locs ls hP hS hl
  obtain ⟨hx, hb, hml, hown, hts, hNw, hK, hA, hfr', hlo, hce, hsl, hh, hlk⟩ := id ok
  refine Zsz hh hP hS.1 (fun hz => ?_)
  have hKn := hK.1 c1 _ hc
  refine W.newcK (g := F0 m pc ls rest) hx hb hown (hts _ w1) (hts _ w2) (hts _ w3) rfl hd (by omega) (by omega) hKn.2.1 hz (fun H1 kC hkC e1 z1 o1 => ?_)
  have hlen : (as ++ [Sum.inr (c1, fr)] : List va_E).length = as.length + 1 := by rw [List.length_append]; rfl
  have := kk ok H1 locs ls (by
    rw [hlen]
    refine we_more (n := n + as.length) (r := 1) hz hP (fun q hq => o1 q (by omega)) (fun i hi => cE_more i hi) (fun j hj => ?_)
    have hj0 : j = 0 := by omega
    subst hj0
    rw [cE_new 0 ho]
    exact ⟨_, hc, (u_born ty0 hts hin hKn hkC e1 hty).to hfr⟩) ⟨by have := hS.1; omega, fun q h1 h2 => (o1 q (by have := hS.1; omega)).trans (hS.2.1 q h1 h2), hS.2.2⟩ hl
  rw [hlen] at this
  exact this
theorem Zj.vret {msE : Nat} (hF : FinZ G X h0 n o ci E fs as msE) (hsl : sl = msE) (hd : decode cc pc = .ok (.return_, 1)) : Zj G own cc nL d mc ms h0 n o ci E X pc lv [] fs as sl := by
  subst hsl
  obtain ⟨p, l, e, R, s, m, args, below, meth, c, Q, cells, slots, A⟩ := X
  obtain ⟨hr, -, rfl⟩ := hF
  intro ok H locs ls hP hS hl
  obtain ⟨hx, hb, hml, hown, hts, hNw, hK, hA, hfr', hlo, hce, hsl, hh, hlk⟩ := id ok
  exact Zsz hh hP hS.1 (fun hz => W.vret hx hb hr (fun t ht hW => ⟨rfl, by rw [ht]; exact hz, by rw [ht]; exact hP, hS.F ht⟩) hS.2.2 hd hlk)
theorem cE_at {j : Nat} {v : va_E} (h : as[j]? = some v) (ho : n + j ≠ o) : cE E n o ci fs as (n + j) = v := by
  unfold cE
  rw [if_neg ho, if_neg (by omega), show n + j - n = j by omega, List.getD_eq_getElem?_getD, h]
  rfl
theorem cE_set {j : Nat} {v : va_E} (i : Nat) (hi : i ≠ n + j) : cE E n o ci fs (as.set j v) i = cE E n o ci fs as i := by
  unfold cE
  by_cases h1 : i = o
  · rw [if_pos h1, if_pos h1]
  · rw [if_neg h1, if_neg h1]
    by_cases h2 : i < n
    · rw [if_pos h2, if_pos h2]
    · rw [if_neg h2, if_neg h2, List.getD_eq_getElem?_getD, List.getD_eq_getElem?_getD, List.getElem?_set_ne (by omega)]
theorem cE_call {j c1 : Nat} {fs1 : List Value} {as1 : List va_E} (hj : j < as.length) (ho : n + j ≠ o) (ho2 : o < n ∨ n + as.length + as1.length ≤ o) (i : Nat) (hi : i < n + as.length + as1.length) : cE E n o ci fs (as.set j (.inr (c1, fs1)) ++ as1) i = cE (cE E n o ci fs as) (n + as.length) (n + j) c1 fs1 as1 i := by
  have hl : (as.set j (.inr (c1, fs1))).length = as.length := List.length_set
  by_cases h1 : i < n + as.length
  · rw [cE_more i (by rw [hl]; exact h1)]
    by_cases h2 : i = n + j
    · subst h2
      rw [cE_at (v := .inr (c1, fs1)) (List.getElem?_set_self hj) ho]
      unfold cE
      rw [if_pos rfl]
    · rw [cE_set i h2]
      conv => rhs; unfold cE
      rw [if_neg h2, if_pos h1]
      rfl
  · have h3 := cE_new (E := E) (n := n) (o := o) (ci := ci) (fs := fs) (as := as.set j (.inr (c1, fs1))) (x := as1) (i - (n + as.length)) (by rw [hl]; omega)
    rw [hl, show n + as.length + (i - (n + as.length)) = i by omega] at h3
    rw [h3]
    unfold cE
    rw [if_neg (show ¬ i = n + j by omega), if_neg h1]
theorem Zj.after {ms' : Nat} {p : Program} {l : Launch} {e : Env} {R : Room} {s : State} {m : MethodId} {args : Array Value} {below : List Frame} {meth : Method} {c : Code} {Q : State → Prop} {H : Heap} {locs : List Loc} {ls : Array Slot} {st0 : List Value} {a : Array Value} {j c1 : Nat} {fs1 : List Value} {as1 as' : List va_E} (hr : va_Run p l e R s m args below meth c H locs as.length sl as1.length ms' (F0 m pc ls st0) rest (QZ G h0 (n + as.length + as1.length) (cE (cE E n o ci fs as) (n + as.length) (n + j) c1 fs1 as1) a) (fun q => h0 ≤ q)) (hj : j < as.length) (ho : n + j ≠ o) (ho2 : o < n ∨ n + as.length + as1.length ≤ o) (hS : va_S (fun q => h0 ≤ q) s.heap H locs) (has : as.set j (.inr (c1, fs1)) ++ as1 = as')
    (kk : ∀ (H1 : Heap) (locs1 : List Loc), va_P G.1 vwCl (we h0 (n + as'.length) (cE E n o ci fs as')) H1 → va_S (fun q => h0 ≤ q) s.heap H1 locs1 → W p l e R s m args below meth c H1 locs1 as'.length (sl + ms') Q (F0 m (pc + 3) ls rest)) : W p l e R s m args below meth c H locs as.length sl Q (F0 m pc ls st0) := by
  subst has
  intro T hT X
  obtain ⟨v, st₀, t, T', L, h9, X', hL, e1, e2, ⟨hv, hz, hP', hz', hk'⟩, st⟩ := hr T hT X
  cases hv
  rw [h9] at hz' hk'
  have hlen : (as.set j (.inr (c1, fs1)) ++ as1).length = as.length + as1.length := by rw [List.length_append, List.length_set]
  obtain ⟨t2, a1, b1⟩ := kk T'.heap (locs ++ L) (by
    rw [hlen, e1, ← Nat.add_assoc, ← we_eq (E := cE (cE E n o ci fs as) (n + as.length) (n + j) c1 fs1 as1)]
    · exact hP'
    · exact fun i hi => cE_call hj ho ho2 i hi)
    ⟨Nat.le_trans hS.1 (by rw [e1]; exact hz'), fun q h1 h2 => by rw [e1, hk' q (Nat.lt_of_lt_of_le h1 hS.1) h2]; exact hS.2.1 q h1 h2, fun q hq => (List.mem_append.mp hq).elim (hS.2.2 q) (hL q)⟩ T' rfl (by rw [hlen]; exact X')
  exact ⟨t2, st t2 a1, b1⟩
theorem Zj.callN {d' ms' : Nat} {y : MethodName} {host : String} {bytes : ByteArray} {maxL : Nat} {c1 j index : Nat} {fs1 : List Value} {as1 as' : List va_E} (hR : RunsZ d' ms' (y, bytes, maxL, none) G h0 (n + as.length) (n + j) c1 (cE E n o ci fs as) fs1 as1) (hd' : d' + 1 ≤ d) (hmx : maxL ≤ 21) (hj : j < as.length) (ho : n + j ≠ o) (ho2 : o < n ∨ n + as.length + as1.length ≤ o) (hmc : as.length + as1.length ≤ mc) (hms : sl + ms' ≤ ms) (w1 : Cond.methodLinkNest own index y host ∈ NW) (w2 : Cond.instanceMethod y ∈ TT) (w4 : Cond.initialized y.cls ∈ TT) (w5 : Cond.code y bytes maxL none ∈ TT) (hdd : DescOk y 0) (hi : y.name = "<init>") (hcat : (rest.map fun v => v.category).sum ≤ 8) (hd : decode cc pc = .ok (.invokespecial index, 3)) (has : as.set j (.inr (c1, fs1)) ++ as1 = as')
    (kk : Zj G own cc nL d mc ms h0 n o ci E X (pc + 3) lv rest fs as' (sl + ms')) : Zj G own cc nL d mc ms h0 n o ci E X pc lv (.ref (h0 + (n + j)) :: rest) fs as sl := by
  obtain ⟨p, l, e, R, s, m, args, below, meth, c, Q, cells, slots, A⟩ := X
  intro ok H locs ls hP hS hl
  obtain ⟨hx, hb, hml, hown, hts, hN, hK, hA, hfr, hlo, hce, hsl, hh, hlk⟩ := id ok
  have hcb : va_CN R s args own index y host bytes maxL none (Cond.code y bytes maxL none :: TT) (rmZ d' as1.length ms') as1.length ms' 0 := va_cnB 0 hts (TT_good' w5) rfl rfl rfl (hN _ w1) (hts _ w4) hdd ⟨Nat.le_trans hd' hfr, by show 8 + (maxL + 11) + 40 * d' ≤ R.locals; omega⟩
  refine Zsz hh hP hS.1 (fun hz => ?_)
  exact Zj.after (va_runIN (As := []) (rest := rest) (b := h0 + (n + j)) ⟨hx, hb, hml, hown, hts⟩ (hR l) ⟨hcb, hi, hts _ w2⟩ ⟨Wz_blind, fun U hU hW => ⟨rfl, by rw [hU]; exact hz, by rw [hU]; exact hP, va_K.moved hW.alike hK, NW_moved hW hN, Ax.moved hW.alike hA⟩⟩ rfl rfl hl.1 rfl (lv_room hcat) hd ⟨by omega, by omega⟩) hj ho ho2 hS has (fun H1 locs1 hP1 hS1 => kk ok H1 locs1 ls hP1 hS1 hl)
theorem Zj.call {d' ms' : Nat} {y : MethodName} {bytes : ByteArray} {maxL : Nat} {c1 j index : Nat} {fs1 : List Value} {as1 as' : List va_E} (hR : RunsZ d' ms' (y, bytes, maxL, none) G h0 (n + as.length) (n + j) c1 (cE E n o ci fs as) fs1 as1) (hd' : d' + 1 ≤ d) (hmx : maxL ≤ 21) (hj : j < as.length) (ho : n + j ≠ o) (ho2 : o < n ∨ n + as.length + as1.length ≤ o) (hmc : as.length + as1.length ≤ mc) (hms : sl + ms' ≤ ms) (w1 : Cond.methodLink own index y ∈ TT) (w2 : Cond.instanceMethod y ∈ TT) (w4 : Cond.initialized y.cls ∈ TT) (w5 : Cond.code y bytes maxL none ∈ TT) (hdd : DescOk y 0) (hi : y.name = "<init>") (hcat : (rest.map fun v => v.category).sum ≤ 8) (hd : decode cc pc = .ok (.invokespecial index, 3)) (has : as.set j (.inr (c1, fs1)) ++ as1 = as')
    (kk : Zj G own cc nL d mc ms h0 n o ci E X (pc + 3) lv rest fs as' (sl + ms')) : Zj G own cc nL d mc ms h0 n o ci E X pc lv (.ref (h0 + (n + j)) :: rest) fs as sl := by
  obtain ⟨p, l, e, R, s, m, args, below, meth, c, Q, cells, slots, A⟩ := X
  intro ok H locs ls hP hS hl
  obtain ⟨hx, hb, hml, hown, hts, hN, hK, hA, hfr, hlo, hce, hsl, hh, hlk⟩ := id ok
  have hcb : CallB R s args own index y bytes maxL none (Cond.code y bytes maxL none :: TT) (rmZ d' as1.length ms') as1.length ms' 0 := callB_of 0 hts (TT_good' w5) rfl rfl rfl (hts _ w4) (hts _ w1) hdd ⟨Nat.le_trans hd' hfr, by show 8 + (maxL + 11) + 40 * d' ≤ R.locals; omega⟩
  refine Zsz hh hP hS.1 (fun hz => ?_)
  exact Zj.after (va_runI (As := []) (rest := rest) (b := h0 + (n + j)) ⟨hx, hb, hml, hown, hts⟩ (hR l) ⟨hcb, hi, hts _ w2⟩ ⟨Wz_blind, fun U hU hW => ⟨rfl, by rw [hU]; exact hz, by rw [hU]; exact hP, va_K.moved hW.alike hK, NW_moved hW hN, Ax.moved hW.alike hA⟩⟩ rfl rfl hl.1 rfl (lv_room hcat) hd ⟨by omega, by omega⟩) hj ho ho2 hS has (fun H1 locs1 hP1 hS1 => kk ok H1 locs1 ls hP1 hS1 hl)
theorem Zj.get {i index N : Nat} {C : String} {T : u_T} {v : Value} (ho : o < n) (hc : vwCl[ci]? = some (C, T, N)) (hin : ∀ w ∈ u_ws C T N, w ∈ TT) (hi : i < N) (hw : Cond.fieldLink own index (T i).1 (T i).2.1 (T i).2.2.1 ∈ TT) (hd : decode cc pc = .ok (.getfield index, 3)) (hv : fs[i]? = some v) (kk : Zj G own cc nL d mc ms h0 n o ci E X (pc + 3) lv (v :: rest) fs as sl) : Zj G own cc nL d mc ms h0 n o ci E X pc lv (.ref (h0 + o) :: rest) fs as sl := by
  obtain ⟨p, l, e, R, s, m, args, below, meth, c, Q, cells, slots, A⟩ := X
  intro ok H locs ls hP hS hl
  obtain ⟨hx, hb, hml, hown, hts, hN, hK, hA, hfr, hlo, hce, hsl, hh, hlk⟩ := id ok
  exact va_get (D := G.1) (ci := ci) (v := v) (C := C) (T := T) (N := N) hx hb hts hin hown hK hP o ((we_get _ (show o < n + as.length by omega)).trans (by unfold cE; rw [if_pos rfl])) hc i hi (hts _ hw) (fun _ h => h) hv hd (kk ok H locs ls hP hS hl)
theorem Zj.last {ja N : Nat} {f : Nat → Int64} {i : Int32} {x : Int64} {as' : List va_E} (ho : n + ja ≠ o) (ha : as[ja]? = some (.inl (G.2.1 2, N, .inr (.inl f)))) (hin : vp_in i N) (hd : decode cc pc = .ok (.lastore, 1)) (has : as.set ja (.inl (G.2.1 2, N, .inr (.inl (vp_updL f i.toNatClampNeg x)))) = as') (kk : Zj G own cc nL d mc ms h0 n o ci E X (pc + 1) lv rest fs as' sl) : Zj G own cc nL d mc ms h0 n o ci E X pc lv (.long x :: .int i :: .ref (h0 + (n + ja)) :: rest) fs as sl := by
  obtain ⟨p, l, e, R, s, m, args, below, meth, c, Q, cells, slots, A⟩ := X
  subst has
  intro ok H locs ls hP hS hl
  obtain ⟨hx, hb, hml, hown, hts, hN, hK, hA, hfr, hlo, hce, hsl, hh, hlk⟩ := id ok
  have hja : ja < as.length := (List.getElem?_eq_some_iff.mp ha).1
  refine va_last (D := G.1) hx hb hK hP (we_D h0 _ _) hS (n + ja) 2 (cA := G.2.1 2) (n := N) (f := f) ((we_get _ (show n + ja < n + as.length by omega)).trans (by rw [cE_at ha ho])) rfl hin hd (fun H1 locs1 hP1 _ hS1 => ?_)
  have hlen : (as.set ja (.inl (G.2.1 2, N, .inr (.inl (vp_updL f i.toNatClampNeg x))))).length = as.length := List.length_set
  have h9 := we_set (h0 := h0) (n := n + as.length) (o := n + ja) (E := cE E n o ci fs as) (E' := cE E n o ci fs (as.set ja (.inl (G.2.1 2, N, .inr (.inl (vp_updL f i.toNatClampNeg x)))))) (v := .inl (G.2.1 2, N, .inr (.inl (vp_updL f i.toNatClampNeg x)))) (by omega) (cE_at (List.getElem?_set_self hja) ho) (fun k hk _ => cE_set k hk)
  rw [h9] at hP1
  have := kk ok H1 locs1 ls (by rw [hlen]; exact hP1) hS1 hl
  rw [hlen] at this
  exact this
theorem Zj.aast {ja jv N : Nat} {f : Nat → Option Nat} {i : Int32} {vs : List Value} {as' : List va_E} (ho : n + ja ≠ o) (ho2 : n + jv ≠ o) (ha : as[ja]? = some (.inl (G.2.1 4, N, .inr (.inr (.inr (.inr f)))))) (hv : as[jv]? = some (.inr (6, vs))) (hin : vp_in i N) (hd : decode cc pc = .ok (.aastore, 1)) (has : as.set ja (.inl (G.2.1 4, N, .inr (.inr (.inr (.inr (va_up f i.toNatClampNeg (some (h0 + (n + jv)))))))) ) = as') (kk : Zj G own cc nL d mc ms h0 n o ci E X (pc + 1) lv rest fs as' sl) : Zj G own cc nL d mc ms h0 n o ci E X pc lv (.ref (h0 + (n + jv)) :: .int i :: .ref (h0 + (n + ja)) :: rest) fs as sl := by
  obtain ⟨p, l, e, R, s, m, args, below, meth, c, Q, cells, slots, A⟩ := X
  subst has
  intro ok H locs ls hP hS hl
  obtain ⟨hx, hb, hml, hown, hts, hN, hK, hA, hfr, hlo, hce, hsl, hh, hlk⟩ := id ok
  have hja : ja < as.length := (List.getElem?_eq_some_iff.mp ha).1
  have hjv : jv < as.length := (List.getElem?_eq_some_iff.mp hv).1
  refine va_astq (D := G.1) (r := (RX6, TX6, 12)) hx hb hK hP (we_D h0 _ _) hS (n + ja) 4 (n + jv) 6 (cA := G.2.1 4) (n := N) (f := f) (vs := vs) ((we_get _ (show n + ja < n + as.length by omega)).trans (by rw [cE_at ha ho])) rfl ((we_get _ (show n + jv < n + as.length by omega)).trans (by rw [cE_at hv ho2])) rfl hin hd (fun H1 locs1 hP1 _ hS1 => ?_)
  have hlen : ∀ v : va_E, (as.set ja v).length = as.length := fun _ => List.length_set
  have h9 := we_set (h0 := h0) (n := n + as.length) (o := n + ja) (E := cE E n o ci fs as) (E' := cE E n o ci fs (as.set ja (.inl (G.2.1 4, N, .inr (.inr (.inr (.inr (va_up f i.toNatClampNeg (some (h0 + (n + jv))))))))))) (v := .inl (G.2.1 4, N, .inr (.inr (.inr (.inr (va_up f i.toNatClampNeg (some (h0 + (n + jv))))))))) (by omega) (cE_at (List.getElem?_set_self hja) ho) (fun k hk _ => cE_set k hk)
  rw [h9] at hP1
  have := kk ok H1 locs1 ls (by rw [hlen]; exact hP1) hS1 hl
  rw [hlen] at this
  exact this
theorem Zj.anew {index N j : Nat} {q : Int32} {as' : List va_E} (ho : n + j ≠ o) (w1 : Cond.classLink own index "CoverExtract$State" ∈ TT) (hq : ¬ q < 0) (hN : q.toNatClampNeg = N) (hby : N * 4 ≤ 536870912) (hj : as.length = j) (hmc : j + 1 ≤ mc) (hms : sl + N ≤ ms) (hd : decode cc pc = .ok (.anewarray index, 3)) (has : as ++ [.inl (G.2.1 4, N, .inr (.inr (.inr (.inr (fun _ => none)))))] = as')
    (kk : Zj G own cc nL d mc ms h0 n o ci E X (pc + 3) lv (.ref (h0 + (n + j)) :: rest) fs as' (sl + N)) : Zj G own cc nL d mc ms h0 n o ci E X pc lv (.int q :: rest) fs as sl := by
  obtain ⟨p, l, e, R, s, m, args, below, meth, c, Q, cells, slots, A⟩ := X
  subst has
  subst hj
  subst hN
  intro ok H locs ls hP hS hl
  obtain ⟨hx, hb, hml, hown, hts, hNw, hK, hA, hfr, hlo, hce, hsl, hh, hlk⟩ := id ok
  refine Zsz hh hP hS.1 (fun hz => ?_)
  refine W.anew (g := F0 m pc ls (.int q :: rest)) hx hb hown (hts _ w1) (va_AO.use hA.1) rfl hd rfl hq hby (by omega) (by omega) (fun cA kA comp f1 f2 f3 f4 => ?_)
  obtain ⟨kA', comp', -, -, -, hra⟩ := (hK.2 4 _ rfl).2
  have hcA : cA = G.2.1 4 := Option.some.inj (f1.symm.trans hra)
  subst hcA
  generalize hH1 : H.push ({ cls := G.2.1 4, slots := Array.replicate q.toNatClampNeg .null, vm := .none } : Cell) = H1
  have z1 : H1.size = H.size + 1 := by rw [← hH1, Array.size_push]
  have e1 : H1[H.size]? = some (arrV (G.2.1 4) q.toNatClampNeg (fun _ => .null)) := by rw [← hH1, Array.getElem?_push_size, ← arrV_new]
  have o1 : ∀ q : Nat, q < H.size → H1[q]? = H[q]? := fun q hq => by rw [← hH1, Array.getElem?_push, if_neg (Nat.ne_of_lt hq)]
  have hlen : ∀ x : va_E, (as ++ [x]).length = as.length + 1 := fun x => by rw [List.length_append]; rfl
  have := kk ok H1 locs ls (by
    rw [hlen]
    refine we_more (n := n + as.length) (r := 1) hz hP o1 (fun i hi => cE_more i hi) (fun j hj => ?_)
    have hj0 : j = 0 := by omega
    subst hj0
    rw [cE_new 0 ho]
    show H1[h0 + (n + as.length)]? = some (vp_cell _ _)
    rw [← hz, vp_cell_q]
    exact e1) ⟨by have := hS.1; omega, fun q h1 h2 => (o1 q (by have := hS.1; omega)).trans (hS.2.1 q h1 h2), hS.2.2⟩ hl
  rw [hlen] at this
  rw [hz]
  exact this
end ZZ
