theorem lq_nat (v : Int32) : v = nI v.toBitVec.toNat := by
  apply Int32.toBitVec_inj.1
  rw [nn_bv, BitVec.ofNat_toNat, BitVec.setWidth_eq]
theorem lq_lt (v : Int32) : v.toBitVec.toNat < 2 ^ 32 := v.toBitVec.isLt
theorem lq_over {args : Array Value} {s : State} {t : FieldType} (h : (Cond.arrayOver (.array t)).before args s = true) : ∃ (ca : ClassId) (cA : ClassId) (kA : Class), s.vm.findClass (FieldType.array t).toString = some ca ∧ s.vm.classes[cA]? = some kA ∧ kA.kind = .array ca (.array t) ∧ s.vm.findClass ("[" ++ (FieldType.array t).toString) = some cA := by
  unfold Cond.before Cond.holds at h
  simp only [Cond.value, beq_iff_eq] at h
  rcases hf : s.vm.findClass (FieldType.array t).toString with _ | ca
  · rw [hf] at h
    simp at h
  · rw [hf] at h
    simp only [Option.bind_some, Option.bind_eq_some_iff, Option.map_eq_some_iff] at h
    obtain ⟨cA, hi, kA, hk, hq⟩ := h
    obtain ⟨hlt, hp, -⟩ := Array.findIdx?_eq_some_iff_getElem.mp hi
    rw [(Array.getElem?_eq_some_iff.mp hk).2] at hp
    rcases hkd : kA.kind with _ | ⟨c1, t1⟩ | _ <;> rw [hkd] at hp hq <;> simp at hp hq
    exact ⟨ca, cA, kA, rfl, hk, by rw [hkd, hp, hq.1], hq.2⟩
def ts0 : TS := (0, 0, 100, 0, 0, fun _ => 0, fun _ => 0, fun _ => 0, fun _ => 0, fun _ => 0, fun _ => 0, fun _ _ => 0)
def as0 : AS := (fun _ => 0, 0, 0, fun _ => 0, ts0, 0, fun _ => ts0)
theorem ts0_ok : VS ts0 := ⟨by decide, by decide, by decide, by decide, by decide, (fun i (hi : i < 0) => absurd hi (Nat.not_lt_zero _)), (fun i (hi : i < 0) => absurd hi (Nat.not_lt_zero _)), (show (0 : Nat) ≤ 600 by decide)⟩
theorem Kl_0 : Kl mu0 as0 := by
  refine ⟨by decide, by decide, (fun i (hi : i < 0) => absurd hi (Nat.not_lt_zero _)), rfl, (fun r _ => (show (0 : Int32) = nI 0 by decide)), ⟨⟨by decide, by decide, by decide, by decide, by decide, ?_, ?_, ?_, ?_, ?_, ?_, ts0_ok⟩, ?_⟩, 0, by decide, by decide, by decide, by decide, (fun i (hi : i < 0) => absurd hi (Nat.not_lt_zero _))⟩ <;> exact fun i (hi : i < 0) => absurd hi (Nat.not_lt_zero _)
theorem Rf_0 : Rf mu0 as0 := by
  refine ⟨by decide, by decide, (fun i (hi : i < 0) => absurd hi (Nat.not_lt_zero _)), rfl, (fun r _ => (show (0 : Int32) = nI 0 by decide)), ⟨by decide, by decide, by decide, by decide, by decide, ?_, ?_, ts0_ok⟩, by decide, by decide, (fun i (hi : i < 0) => absurd hi (Nat.not_lt_zero _)), false, by decide, (fun h => by cases h)⟩ <;> exact fun i (hi : i < 0) => absurd hi (Nat.not_lt_zero _)
section ZS
variable {G : Gx} {own : String} {cc : ByteArray} {nL d mc ms h0 n o ci : Nat} {E : Nat → va_E} {X : Cx} {pc : Nat} {lv : List (Nat × Value)} {rest fs : List Value} {as : List va_E} {sl : Nat}
theorem Zj.astore_n {k : Fin 4} {x : Nat} {lv' : List (Nat × Value)} (hd : decode cc pc = .ok (.astore_n k, 1)) (hn : (k : Nat) < nL) (hv : lset1 (k : Nat) (.ref x) lv = lv') (kk : Zj G own cc nL d mc ms h0 n o ci E X (pc + 1) lv' rest fs as sl) : Zj G own cc nL d mc ms h0 n o ci E X pc lv (.ref x :: rest) fs as sl := by
  subst hv
  obtain ⟨p, l, e, R, s, m, args, below, meth, c, Q, cells, slots, A⟩ := X
  exact fun ok H locs ls hP hS hl => lv_astore_n ok.1 ok.2.1 hd rfl hl hn rfl (fun ls hl => kk ok H locs ls hP hS (lv_mem hl (fun _ hq => lins_mem hq)))
theorem Zj.istore {i : Nat} {x : Int32} {lv' : List (Nat × Value)} (hd : decode cc pc = .ok (.istore i, 2)) (hn : i < nL) (hv : lset1 i (.int x) lv = lv') (kk : Zj G own cc nL d mc ms h0 n o ci E X (pc + 2) lv' rest fs as sl) : Zj G own cc nL d mc ms h0 n o ci E X pc lv (.int x :: rest) fs as sl := by
  subst hv
  obtain ⟨p, l, e, R, s, m, args, below, meth, c, Q, cells, slots, A⟩ := X
  exact fun ok H locs ls hP hS hl => lv_istore ok.1 ok.2.1 hd hl hn rfl (fun ls hl => kk ok H locs ls hP hS (lv_mem hl (fun _ hq => lins_mem hq)))
end ZS
theorem mt_1_211 : Cond.instantiable RX0 2 ∈ TT := tt_in (tb_1 (List.mem_of_getElem? (i := 211) (by decide +kernel))) (by decide +kernel)
theorem mt_1_162 : Cond.instantiable RX1 4 ∈ TT := tt_in (tb_1 (List.mem_of_getElem? (i := 162) (by decide +kernel))) (by decide +kernel)
theorem mt_1_110 : Cond.instantiable RX2 3 ∈ TT := tt_in (tb_1 (List.mem_of_getElem? (i := 110) (by decide +kernel))) (by decide +kernel)
theorem mt_1_187 : Cond.instantiable RX3 5 ∈ TT := tt_in (tb_1 (List.mem_of_getElem? (i := 187) (by decide +kernel))) (by decide +kernel)
theorem mt_1_130 : Cond.instantiable RX4 7 ∈ TT := tt_in (tb_1 (List.mem_of_getElem? (i := 130) (by decide +kernel))) (by decide +kernel)
theorem mt_1_226 : Cond.instantiable RX5 9 ∈ TT := tt_in (tb_1 (List.mem_of_getElem? (i := 226) (by decide +kernel))) (by decide +kernel)
theorem mt_1_30 : Cond.instantiable RX6 12 ∈ TT := tt_in (tb_1 (List.mem_of_getElem? (i := 30) (by decide +kernel))) (by decide +kernel)
theorem mt_2_24 : Cond.instantiable RX7 3 ∈ TT := tt_in (tb_2 (List.mem_of_getElem? (i := 24) (by decide +kernel))) (by decide +kernel)
theorem mt_1_22 : Cond.instantiable RX8 12 ∈ TT := tt_in (tb_1 (List.mem_of_getElem? (i := 22) (by decide +kernel))) (by decide +kernel)
theorem mt_4_166 : Cond.instantiable RX9 27 ∈ TT := tt_in (tb_4 (List.mem_of_getElem? (i := 166) (by decide +kernel))) (by decide +kernel)
theorem mt_1_106 : Cond.arrayClass .byte ∈ TT := tt_in (tb_1 (List.mem_of_getElem? (i := 106) (by decide +kernel))) (by decide +kernel)
theorem mt_1_107 : Cond.arrayClass .int ∈ TT := tt_in (tb_1 (List.mem_of_getElem? (i := 107) (by decide +kernel))) (by decide +kernel)
theorem mt_1_108 : Cond.arrayClass .long ∈ TT := tt_in (tb_1 (List.mem_of_getElem? (i := 108) (by decide +kernel))) (by decide +kernel)
theorem mt_5_17 : Cond.arrayClass .boolean ∈ TT := tt_in (tb_5 (List.mem_of_getElem? (i := 17) (by decide +kernel))) (by decide +kernel)
theorem mr_1_116 : Cond.arrayOver (.object "CoverExtract$State") ∈ lw_tbl := List.mem_append_right _ (tb_1 (List.mem_of_getElem? (i := 116) (by decide +kernel)))
theorem mr_4_172 : Cond.arrayOver (.array .long) ∈ lw_tbl := List.mem_append_right _ (tb_4 (List.mem_of_getElem? (i := 172) (by decide +kernel)))
theorem lq_K {s : State} {args : Array Value} (hts : ∀ w ∈ lw_tbl, w.before args s = true) : ∃ (D : va_G) (tc : Nat → ClassId), ∀ h0 : Nat, va_K (Gqq D tc h0).1 vwCl (tysG (Gqq D tc h0)) s ∧ Ax (Gqq D tc h0) s := by
  have hTT : ∀ w ∈ TT, w.before args s = true := fun w hw => hts w (List.mem_filter.mp hw).1
  obtain ⟨c0, iS0, hK0⟩ := u_known (C := RX0) (T := TX0) (N := 2) (n := 2) hTT inX0 (hTT _ mt_1_211)
  obtain ⟨c1, iS1, hK1⟩ := u_known (C := RX1) (T := TX1) (N := 4) (n := 4) hTT inX1 (hTT _ mt_1_162)
  obtain ⟨c2, iS2, hK2⟩ := u_known (C := RX2) (T := TX2) (N := 3) (n := 3) hTT inX2 (hTT _ mt_1_110)
  obtain ⟨c3, iS3, hK3⟩ := u_known (C := RX3) (T := TX3) (N := 5) (n := 5) hTT inX3 (hTT _ mt_1_187)
  obtain ⟨c4, iS4, hK4⟩ := u_known (C := RX4) (T := TX4) (N := 7) (n := 7) hTT inX4 (hTT _ mt_1_130)
  obtain ⟨c5, iS5, hK5⟩ := u_known (C := RX5) (T := TX5) (N := 9) (n := 9) hTT inX5 (hTT _ mt_1_226)
  obtain ⟨c6, iS6, hK6⟩ := u_known (C := RX6) (T := TX6) (N := 12) (n := 12) hTT inX6 (hTT _ mt_1_30)
  obtain ⟨c7, iS7, hK7⟩ := u_known (C := RX7) (T := TX7) (N := 3) (n := 3) hTT inX7 (hTT _ mt_2_24)
  obtain ⟨c8, iS8, hK8⟩ := u_known (C := RX8) (T := TX8) (N := 12) (n := 12) hTT inX8 (hTT _ mt_1_22)
  obtain ⟨c9, iS9, hK9⟩ := u_known (C := RX9) (T := TX9) (N := 27) (n := 27) hTT inX9 (hTT _ mt_4_166)
  obtain ⟨t0, k0, p0, a0, b0, e0⟩ := Cond.arrayClass_spec (hTT _ mt_1_106)
  obtain ⟨t1, k1, p1, a1, b1, e1⟩ := Cond.arrayClass_spec (hTT _ mt_1_107)
  obtain ⟨t2, k2, p2, a2, b2, e2⟩ := Cond.arrayClass_spec (hTT _ mt_1_108)
  obtain ⟨t3, k3, p3, a3, b3, e3⟩ := Cond.arrayClass_spec (hTT _ mt_5_17)
  obtain ⟨p4, t4, k4, f4, -, b4, e4, a4⟩ := Cond.arrayOver_spec (hts _ mr_1_116)
  obtain ⟨p5, t5, k5, f5, b5, e5, a5⟩ := lq_over (hts _ mr_4_172)
  have e52 : p5 = t2 := Option.some.inj (f5.symm.trans a2)
  refine ⟨(fun k => [c0, c1, c2, c3, c4, c5, c6, c7, c8, c9].getD k 0, fun k => [iS0, iS1, iS2, iS3, iS4, iS5, iS6, iS7, iS8, iS9].getD k (fun _ => 0)), fun k => [t0, t1, t2, t3, t4, t5].getD k 0, fun h0 => ⟨⟨fun k q hq => ?_, fun k q hq => ?_⟩, va_AO.of (hts _ mr_1_116), k5, b5, by rw [e5, e52]; rfl⟩⟩
  · match k, hq with
    | 0, hq => cases hq; exact hK0
    | 1, hq => cases hq; exact hK1
    | 2, hq => cases hq; exact hK2
    | 3, hq => cases hq; exact hK3
    | 4, hq => cases hq; exact hK4
    | 5, hq => cases hq; exact hK5
    | 6, hq => cases hq; exact hK6
    | 7, hq => cases hq; exact hK7
    | 8, hq => cases hq; exact hK8
    | 9, hq => cases hq; exact hK9
    | k + 10, hq => simp [vwCl] at hq
  · match k, hq with
    | 0, hq => cases hq; exact ⟨fun n z => ⟨(fun k h => by cases h), k0, b0, p0, e0⟩, a0⟩
    | 1, hq => cases hq; exact ⟨fun n z => ⟨(fun k h => by cases h), k1, b1, p1, e1⟩, a1⟩
    | 2, hq => cases hq; exact ⟨fun n z => ⟨(fun k h => by cases h), k2, b2, p2, e2⟩, a2⟩
    | 3, hq => cases hq; exact ⟨fun n z => ⟨(fun k h => by cases h), k3, b3, p3, e3⟩, a3⟩
    | 4, hq => cases hq; exact ⟨fun n z => ⟨(fun k h => by cases h), k4, b4, p4, e4⟩, k4, p4, b4, e4, f4, a4⟩
    | 5, hq => cases hq; exact ⟨fun n z => ⟨(fun k h => by cases h), k5, b5, p5, e5⟩, a5⟩
    | k + 6, hq => simp [tysG] at hq
theorem lq_NW {s : State} {args : Array Value} (hts : ∀ w ∈ lw_tbl, w.before args s = true) : ∀ w ∈ NW, va_Nw w s := by
  intro w hw
  obtain ⟨h1, h2⟩ := List.mem_filter.mp hw
  have h3 := hts w (List.mem_append_right _ h1)
  cases w <;> first | (exact va_Nw.of rfl h3) | (simp [isNest] at h2)
theorem mr_2_178 : Cond.laysStatic "java/lang/Throwable" "UNASSIGNED_STACK" Bundle.steD ∈ lw_tbl := List.mem_append_right _ (tb_2 (List.mem_of_getElem? (i := 178) (by decide +kernel)))
theorem mr_2_180 : Cond.laysStatic "java/lang/Throwable" "SUPPRESSED_SENTINEL" Bundle.listD ∈ lw_tbl := List.mem_append_right _ (tb_2 (List.mem_of_getElem? (i := 180) (by decide +kernel)))
theorem mr_1_11 : Cond.initialized "java/lang/Throwable" ∈ lw_tbl := List.mem_append_right _ (tb_1 (List.mem_of_getElem? (i := 11) (by decide +kernel)))
theorem mr_3_55 : Cond.stringRef "CoverExtract" 284 "no such element" ∈ lw_tbl := List.mem_append_right _ (tb_3 (List.mem_of_getElem? (i := 55) (by decide +kernel)))
theorem mr_2_192 : Cond.stringRef "CoverExtract" 291 "another number" ∈ lw_tbl := List.mem_append_right _ (tb_2 (List.mem_of_getElem? (i := 192) (by decide +kernel)))
theorem mr_3_111 : Cond.stringRef "CoverExtract" 296 "not as the extract stands" ∈ lw_tbl := List.mem_append_right _ (tb_3 (List.mem_of_getElem? (i := 111) (by decide +kernel)))
theorem mr_2_155 : Cond.declares (Bundle.initS "java/lang/RuntimeException") ∈ lw_tbl := List.mem_append_right _ (tb_2 (List.mem_of_getElem? (i := 155) (by decide +kernel)))
theorem mr_2_157 : Cond.declares (Bundle.initS "java/lang/Exception") ∈ lw_tbl := List.mem_append_right _ (tb_2 (List.mem_of_getElem? (i := 157) (by decide +kernel)))
theorem mr_2_159 : Cond.declares (Bundle.initS "java/lang/Throwable") ∈ lw_tbl := List.mem_append_right _ (tb_2 (List.mem_of_getElem? (i := 159) (by decide +kernel)))
theorem mr_3_48 : Cond.castable nNS nNS ∈ lw_tbl := List.mem_append_right _ (tb_3 (List.mem_of_getElem? (i := 48) (by decide +kernel)))
theorem mr_2_153 : Cond.castable nIA nIA ∈ lw_tbl := List.mem_append_right _ (tb_2 (List.mem_of_getElem? (i := 153) (by decide +kernel)))
theorem mr_3_104 : Cond.castable nIS nIS ∈ lw_tbl := List.mem_append_right _ (tb_3 (List.mem_of_getElem? (i := 104) (by decide +kernel)))
theorem lq_Z {s : State} {args : Array Value} {G : Gx} (hts : ∀ w ∈ lw_tbl, w.before args s = true) (hn : ∀ w ∈ flatC (Jvm.Cond.and given_1 narrow_1), w.before args s = true) (hA : ∀ a : Nat, a < s.heap.size → ¬ AdW G a) : Zx G s s.heap := by
  refine ⟨vx_Zqof (hts _ mr_2_178) (hts _ mr_1_11) (hn _ (by decide +kernel)) hA, vx_Zqof (hts _ mr_2_180) (hts _ mr_1_11) (hn _ (by decide +kernel)) hA, fun q hq => ?_, fun x hx => ?_, fun q hq => ?_, fun q hq => ?_⟩
  · rcases List.mem_cons.mp hq with rfl | hq
    · obtain ⟨a, _, _, _, h, -⟩ := Cond.exactly_spec (hn (.exactly (.string "CoverExtract" 284) "java/lang/String") (by decide +kernel))
      exact ⟨a, vk_R.of (hts _ mr_3_55) h⟩
    · rcases List.mem_cons.mp hq with rfl | hq
      · obtain ⟨a, _, _, _, h, -⟩ := Cond.exactly_spec (hn (.exactly (.string "CoverExtract" 291) "java/lang/String") (by decide +kernel))
        exact ⟨a, vk_R.of (hts _ mr_2_192) h⟩
      · rw [List.mem_singleton.mp hq]
        obtain ⟨a, _, _, _, h, -⟩ := Cond.exactly_spec (hn (.exactly (.string "CoverExtract" 296) "java/lang/String") (by decide +kernel))
        exact ⟨a, vk_R.of (hts _ mr_3_111) h⟩
  · rcases List.mem_cons.mp hx with rfl | hx
    · exact va_Nw.of rfl (hts _ mr_2_155)
    · rcases List.mem_cons.mp hx with rfl | hx
      · exact va_Nw.of rfl (hts _ mr_2_157)
      · rw [List.mem_singleton.mp hx]
        exact va_Nw.of rfl (hts _ mr_2_159)
  · rcases List.mem_cons.mp hq with rfl | hq
    · exact va_Nw.of rfl (hts _ mr_3_48)
    · rcases List.mem_cons.mp hq with rfl | hq
      · exact va_Nw.of rfl (hts _ mr_2_153)
      · rw [List.mem_singleton.mp hq]
        exact va_Nw.of rfl (hts _ mr_3_104)
  · rcases List.mem_cons.mp hq with rfl | hq
    · exact va_Nc.of (hn (.not (.castable nIA nNS)) (by decide +kernel))
    · rcases List.mem_cons.mp hq with rfl | hq
      · exact va_Nc.of (hn (.not (.castable nNS nIA)) (by decide +kernel))
      · rw [List.mem_singleton.mp hq]
        exact va_Nc.of (hn (.not (.castable nIS nNS)) (by decide +kernel))
