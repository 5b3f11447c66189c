/-! THE CLAIM OUT OF ONE WALK OF THE LAW'S BODY. Your part is whole_start (and what it stands on); all else here is the same for every law, but numbers. -/
def R_law : String := "CoverExtractLaw"
def lw_P (b : Addr) (xs : List Int32) (args : Array Value) (s : State) : Prop := args = #[.ref b] ∧ s.IntsAt b xs ∧ xs.length ≤ 3072 ∧ (Jvm.Cond.and given_1 narrow_1).before args s = true
def lw_Q (_ : Array Value) (s : State) (o : Outcome) (t : State) : Prop := o = .returned (some (.int 1)) ∧ Framed s o t [] 601024 7293034
def lw_Z (below : List Frame) (a : Array Value) (s : State) : State → Prop := fun t => ∃ o, t.status = .running ∧ Ended t below o ∧ lw_Q a s o t
/-- the law's own end, with 1 on the stack, nothing written that was there before, its room as the claim has it -/
theorem lw_ret {p : Program} {l : Launch} {e : Env} {s : State} {m : MethodId} {below : List Frame} {meth : Method} {c : Code} {b : Nat} (hx : p.tables.exec = Jvm.exec) (hb : c.code = code) (hr : meth.sig.returnType = ret) (hlocks : meth.locks = false) {pc : Nat} {H : Heap} {ls : Array Slot} (hdg : decode code pc = .ok (.ireturn, 1)) : W p l e room_1 s m #[Value.ref b] below meth c H [] 601024 7293034 (lw_Z below #[Value.ref b] s) (F0 m pc ls [.int 1]) := by
  intro T hT X
  obtain ⟨fs, hret, hrun, hended, hW, hframe⟩ := X.leave (v := some (.int 1)) (hlocks := hlocks) (fun h => by rw [hr] at h; cases h)
  have hmeth' : T.vm.method? m = some meth := X.method'
  refine ⟨T.setFrames fs, ?_, .returned (some (.int 1)), hrun, hended, rfl, ⟨_, rfl⟩, hW, hframe⟩
  jvm_step X.here [X.here.top, hx, hb, hdg, hmeth', hr, ret, narrow_b1]
  (try refine ⟨rfl, ?_⟩); (try refine ⟨rfl, ?_⟩)
  first | (intro acts; rw [hret _ acts rfl rfl rfl]) | rw [hret _ _ rfl rfl rfl]
  exact Steps.refl _
/-- what holds at the law's entry: the machine, the code, the tables' words (any of lw_tbl by 'hts w (by decide +kernel)'), the script of L ints xs at the cell b, what the Statement gives of the start (any of its parts by flat_of_before) -/
def lw_At (p : Program) (s : State) (m : MethodId) (meth : Method) (c : Code) (b L : Nat) (xs : Nat → Int32) : Prop :=
  p.tables.exec = Jvm.exec ∧ c.code = code ∧ meth.sig.returnType = ret ∧ c.maxLocals = 8 ∧ s.vm.findClass R_law = some m.cls ∧ (∀ w ∈ lw_tbl, w.before #[Value.ref b] s = true) ∧ va_X b L xs s s.heap ∧ b < s.heap.size ∧ meth.locks = false ∧ (Jvm.Cond.and given_1 narrow_1).before #[Value.ref b] s = true
/-! the law's own frame, between its calls -/
def FinW (G : Gx) (X : Cx) (b L : Nat) (y : Nat → Nat) (k : Nat) : Prop := match X with
  | (_, l, _, R, s, _, args, below, meth, c, Q, cells, slots, A) => meth.sig.returnType = ret ∧ c.code = code ∧ args = #[Value.ref b] ∧ Q = lw_Z below #[Value.ref b] s ∧ A = (fun q => s.heap.size ≤ q) ∧ R = room_1 ∧ l.stackTraces = false ∧ va_X b L (fun j => nI (y j)) s s.heap ∧ b < s.heap.size ∧ Zx G s s.heap ∧ cells = 118 + 4 * k ∧ slots = 140890 + 24 * k ∧ k ≤ 512
section VW
variable {G : Gx} {own : String} {cc : ByteArray} {nL d : Nat} {X : Cx} {pc : Nat} {lv : List (Nat × Value)} {rest : List Value} {μ : Mu} {b L k : Nat} {y : Nat → Nat}
theorem V.slen (hF : FinW G X b L y k) (hd : decode cc pc = .ok (.arraylength, 1)) (kk : V G own cc nL d X (pc + 1) lv (.int (nI L) :: rest) μ) : V G own cc nL d X pc lv (.ref b :: rest) μ := by
  obtain ⟨p, l, e, R, s, m, args, below, meth, c, Q, cells, slots, A⟩ := X
  obtain ⟨hr, hb, rfl, rfl, rfl, rfl, htr, hX, hbl, hZ, rfl, rfl, hk⟩ := hF
  exact fun ok H locs ls hP hS hl => va_slen ok.1 ok.2.1 hX hbl (Nat.not_le.mpr hbl) hS hd (kk ok H locs ls hP hS hl)
theorem V.sld (hF : FinW G X b L y k) (i : Nat) (hi : i < L) (hL : L ≤ 3072) (hd : decode cc pc = .ok (.iaload, 1)) (kk : V G own cc nL d X (pc + 1) lv (.int (nI (y i)) :: rest) μ) : V G own cc nL d X pc lv (.int (nI i) :: .ref b :: rest) μ := by
  obtain ⟨p, l, e, R, s, m, args, below, meth, c, Q, cells, slots, A⟩ := X
  obtain ⟨hr, hb, rfl, rfl, rfl, rfl, htr, hX, hbl, hZ, rfl, rfl, hk⟩ := hF
  have hc : (nI i).toNatClampNeg = i := nI_clamp (by omega)
  refine fun ok H locs ls hP hS hl => va_sld ok.1 ok.2.1 hX hbl (Nat.not_le.mpr hbl) hS (nI_in hi (by omega)) hd ?_
  rw [hc]
  exact kk ok H locs ls hP hS hl
theorem V.lawEnd (hF : FinW G X b L y k) (hd : decode code pc = .ok (.ireturn, 1)) : V G own cc nL d X pc lv [.int 1] μ := by
  obtain ⟨p, l, e, R, s, m, args, below, meth, c, Q, cells, slots, A⟩ := X
  obtain ⟨hr, hb, rfl, rfl, rfl, rfl, htr, hX, hbl, hZ, rfl, rfl, hk⟩ := hF
  exact fun ok H locs ls hP hS hl => va_forget (fun q hq => hS.2.2 q hq) (W.widen (by omega) (by omega) (lw_ret ok.1 hb hr ok.2.2.2.2.2.2.2.2.2.2.2.2.2 hd))
theorem V.callL {d' : Nat} {z : MethodName} {bytes : ByteArray} {maxL : Nat} {hh : Hh} {n index : Nat} {As st : List Value} {Φ : Option Value → Mu → Prop} (hF : FinW G X b L y k) (hk5 : k < 512) (hR : RunsL d' (z, bytes, maxL, some .int) hh As G μ Φ) (hd' : d' + 1 ≤ d) (hmx : maxL ≤ 21) (w1 : Cond.methodLink own index z ∈ TT) (w2 : Cond.static z ∈ TT) (w4 : Cond.initialized z.cls ∈ TT) (w5 : Cond.codeWith z bytes maxL (some .int) hh ∈ TT) (hdd : DescOk z n) (hn : As.length = n) (hst : st = As.reverse ++ rest) (hcat : (rest.map fun v => v.category).sum ≤ 8) (hd : decode cc pc = .ok (.invokestatic index, 3)) (kk : ∀ X' : Cx, FinW G X' b L y (k + 1) → ∀ (r : Option Value) (μ' : Mu), Φ r μ' → V G own cc nL d X' (pc + 3) lv (r.toList ++ rest) μ') : V G own cc nL d X pc lv st μ := by
  obtain ⟨p, l, e, R, s, m, args, below, meth, c, Q, cells, slots, A⟩ := X
  obtain ⟨hr, hbc, rfl, rfl, rfl, rfl, htr, hX, hbl, hZ, rfl, rfl, hk⟩ := hF
  intro ok H locs ls hP hS hl
  obtain ⟨hx, hb, hml, hown, hts, hN, hK, hI, hfr, hlo, hce, hsl, hA, hlk⟩ := id ok
  have hcb : vx_CSW room_1 s #[Value.ref b] own index z bytes maxL (some .int) hh (Cond.codeWith z bytes maxL (some .int) hh :: TT) (rmX d' 4) 4 24 n := ⟨⟨rfl, rfl, Nat.le_trans hd' hfr, by show 8 + (maxL + 11) + 40 * d' ≤ room_1.locals; omega, pay_in hts (TT_good' w5), List.mem_cons_self⟩, hts _ w5, hts _ w4, ⟨hdd.1, hdd.2.1⟩, (fun sig h => by have h2 := hdd.2.2; rw [h] at h2; exact (Option.some.inj h2).symm), hts _ w1, hts _ w2⟩
  have hrun := vx_runSW (As := As) (rest := rest) (below := below) (meth := meth) (e := e) (H := H) (locs := locs) (cells := 118 + 4 * k) (slots := 140890 + 24 * k) (g := F0 m pc ls st) ⟨hx, hb, hml, hown, hts⟩ (hR l htr) hcb ⟨Wx_blind, fun U hU hW => ⟨rfl, ⟨by rw [hU]; exact hP, va_K.moved hW.alike hK, hI, NW_moved hW hN⟩, hZ.at hW (fun a ha _ => by rw [hU]; exact hS.2.1 a ha (Nat.not_le.mpr ha))⟩⟩ rfl hn hl.1 hst (lv_room hcat) hd ⟨by show 118 + 4 * k + 4 ≤ 601024; omega, by show 140890 + 24 * k + 24 ≤ 7293034; omega⟩
  have hX1 : FinW G (p, l, e, room_1, s, m, #[Value.ref b], below, meth, c, lw_Z below #[Value.ref b] s, 118 + 4 * k + 4, 140890 + 24 * k + 24, fun q => s.heap.size ≤ q) b L y (k + 1) := ⟨hr, hbc, rfl, rfl, rfl, rfl, htr, hX, hbl, hZ, by omega, by omega, by omega⟩
  have ok1 : OkX G own cc nL d (p, l, e, room_1, s, m, #[Value.ref b], below, meth, c, lw_Z below #[Value.ref b] s, 118 + 4 * k + 4, 140890 + 24 * k + 24, fun q => s.heap.size ≤ q) := ⟨hx, hb, hml, hown, hts, hN, hK, hI, hfr, hlo, by show 118 + 4 * k + 4 ≤ 601024; omega, by show 140890 + 24 * k + 24 ≤ 7293034; omega, hA, hlk⟩
  intro T hT X
  obtain ⟨v, st₀, t, T', L1, h0, X', hL, e1, e2, ⟨r, μ', hv, hp, hb', hz, hk'⟩, st1⟩ := hrun T hT X
  cases hv
  rw [h0] at hz hk'
  have hAd : ∀ q, AdW G q → s.heap.size ≤ q := fun q ⟨k, h1, h2⟩ => by rw [h2]; exact hA k h1
  obtain ⟨t2, a1, b1⟩ := kk _ hX1 v μ' hp ok1 T'.heap (locs ++ L1) ls (by rw [e1]; exact hb'.1)
    ⟨Nat.le_trans hS.1 (by rw [e1]; exact hz), fun q h1 h2 => by rw [e1, hk' q (Nat.lt_of_lt_of_le h1 hS.1) (fun z => h2 (hAd q z))]; exact hS.2.1 q h1 h2, fun q hq => (List.mem_append.mp hq).elim (hS.2.2 q) (fun h => hAd _ (hL q h))⟩ hl T' rfl X'
  exact ⟨t2, st1 t2 a1, b1⟩
end VW
theorem Rf.out {μ μ' : Mu} {a : AS} {P : Nat → Prop} (h : Rf μ a) (hf : Fr μ μ' P) (hP : ∀ c, P c → c < 96) : Rf μ' a := by
  have h1 : ∀ c, 96 ≤ c → μ'.1 c = μ.1 c ∧ μ'.2 c = μ.2 c := fun c hc => hf c (fun q => by have := hP c q; omega)
  exact h.keep (fun i _ => congrFun (h1 96 (Nat.le_refl _)).1 i) (fun c hc => (h1 c (by omega)).1) (fun c hc => (h1 c (by omega)).2)
theorem Kl.out {μ μ' : Mu} {a : AS} (h : Kl μ a) (hf : Fr μ μ' RK) : Kl μ' a := h.fr hf (fun c hc => Or.inl (Nat.le_trans (by decide) hc))
theorem lcmp_eq (x : Int64) : lg_cmp x x = 0 := by
  unfold lg_cmp
  simp
theorem nI_nz {x : Nat} (h : x < 2 ^ 32) : nI x = 0 ↔ x = 0 := by
  constructor
  · intro e
    have : (BitVec.ofNat 32 x).toNat = 0 := congrArg (fun v : Int32 => v.toBitVec.toNat) e
    rw [BitVec.toNat_ofNat] at this
    omega
  · rintro rfl
    exact nI_0
theorem lawIn {i L : Nat} (hL : L ≤ 3072) (hi : i ≤ 3078) (h : ¬ nI L - nI 6 < nI i) : i + 6 ≤ L := by
  by_cases h6 : 6 ≤ L
  · rw [pk_sub h6] at h
    exact Nat.not_lt.mp (fun q => h (nI_lt (by omega) (by omega)))
  · exact absurd (Int32.lt_of_lt_of_le (show nI L - nI 6 < 0 by
      rcases (show L = 0 ∨ L = 1 ∨ L = 2 ∨ L = 3 ∨ L = 4 ∨ L = 5 by omega) with rfl | rfl | rfl | rfl | rfl | rfl <;> decide) (nI_pos' (by omega))) h
