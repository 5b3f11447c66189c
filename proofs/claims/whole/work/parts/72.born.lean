def od_L : List Nat := [3, 4, 5, 6, 7, 8, 9, 10, 78, 79, 80, 81, 82, 83, 84, 85, 13, 14, 15, 16, 17, 18, 19, 20, 21, 22, 23, 24, 25, 26, 27, 28, 29, 30, 31, 32, 33, 34, 35, 36, 37, 38, 39, 40, 41, 42, 43, 44, 45, 46, 47, 48, 49, 50, 51, 52, 53, 54, 55, 56, 57, 58, 59, 60, 61, 62, 63, 64, 65, 66, 67, 68, 69, 70, 71, 72, 73, 74, 75, 76, 0, 1, 2, 11, 12, 77, 86, 87, 88, 89, 90, 91, 92, 93, 94, 117, 95, 96, 97, 98, 99, 100, 101, 102, 103, 104, 105, 106, 107, 108, 109, 110, 111, 112, 113, 114, 115, 116]
def od_I : List Nat := [80, 81, 82, 0, 1, 2, 3, 4, 5, 6, 7, 83, 84, 16, 17, 18, 19, 20, 21, 22, 23, 24, 25, 26, 27, 28, 29, 30, 31, 32, 33, 34, 35, 36, 37, 38, 39, 40, 41, 42, 43, 44, 45, 46, 47, 48, 49, 50, 51, 52, 53, 54, 55, 56, 57, 58, 59, 60, 61, 62, 63, 64, 65, 66, 67, 68, 69, 70, 71, 72, 73, 74, 75, 76, 77, 78, 79, 85, 8, 9, 10, 11, 12, 13, 14, 15, 86, 87, 88, 89, 90, 91, 92, 93, 94, 96, 97, 98, 99, 100, 101, 102, 103, 104, 105, 106, 107, 108, 109, 110, 111, 112, 113, 114, 115, 116, 117, 95]
def od_k (k : Nat) : Nat := od_L.getD k 0
theorem od_inv : ∀ k, k < 118 → od_k k < 118 ∧ od_I.getD (od_k k) 0 = k := by decide +kernel
abbrev Gqq (D : va_G) (tc : Nat → ClassId) (h0 : Nat) : Gx := (D, tc, fun k => h0 + od_k k)
theorem Gqq_inj (D : va_G) (tc : Nat → ClassId) (h0 : Nat) : InjG (Gqq D tc h0) := by
  intro i j hi hj e
  have h1 : h0 + od_k i = h0 + od_k j := e
  have h2 : od_k i = od_k j := by omega
  rw [← (od_inv i hi).2, ← (od_inv j hj).2, h2]
def mu0 : Mu := (fun k => if k < 80 ∧ k % 8 = 0 then (fun i => if i = 2 then 100 else 0) else if k = 80 ∨ k = 85 then (fun i => if i = 2 then -1 else 0) else if k = 92 then (fun i => if i = 1 then -1 else 0) else if k = 94 then (fun i => if i = 0 then -1 else if i = 1 then -1 else 0) else if k = 96 then (fun i => if i = 5 then -1 else 0) else z0, fun k => if k = 99 then vp_updL z0L 2 100 else z0L)
def asE (G : Gx) (h0 : Nat) : List va_E := ((.inr (8, fiX8 h0 1) :: caX8 G h0 1) ++ (.inr (9, fiX9 h0 96) :: caX9 G h0 96)) ++ [aJ G 1 z0L]
theorem asE_len (G : Gx) (h0 : Nat) : (asE G h0).length = 118 := rfl
theorem cq_0 (D : va_G) (tc : Nat → ClassId) (h0 : Nat) : (asE (Gqq D tc h0) h0).getD 3 (.inr (0, [])) = cell (Gqq D tc h0) 0 (mu0.1 0) (mu0.2 0) := rfl
theorem cq_1 (D : va_G) (tc : Nat → ClassId) (h0 : Nat) : (asE (Gqq D tc h0) h0).getD 4 (.inr (0, [])) = cell (Gqq D tc h0) 1 (mu0.1 1) (mu0.2 1) := rfl
theorem cq_2 (D : va_G) (tc : Nat → ClassId) (h0 : Nat) : (asE (Gqq D tc h0) h0).getD 5 (.inr (0, [])) = cell (Gqq D tc h0) 2 (mu0.1 2) (mu0.2 2) := rfl
theorem cq_3 (D : va_G) (tc : Nat → ClassId) (h0 : Nat) : (asE (Gqq D tc h0) h0).getD 6 (.inr (0, [])) = cell (Gqq D tc h0) 3 (mu0.1 3) (mu0.2 3) := rfl
theorem cq_4 (D : va_G) (tc : Nat → ClassId) (h0 : Nat) : (asE (Gqq D tc h0) h0).getD 7 (.inr (0, [])) = cell (Gqq D tc h0) 4 (mu0.1 4) (mu0.2 4) := rfl
theorem cq_5 (D : va_G) (tc : Nat → ClassId) (h0 : Nat) : (asE (Gqq D tc h0) h0).getD 8 (.inr (0, [])) = cell (Gqq D tc h0) 5 (mu0.1 5) (mu0.2 5) := rfl
theorem cq_6 (D : va_G) (tc : Nat → ClassId) (h0 : Nat) : (asE (Gqq D tc h0) h0).getD 9 (.inr (0, [])) = cell (Gqq D tc h0) 6 (mu0.1 6) (mu0.2 6) := rfl
theorem cq_7 (D : va_G) (tc : Nat → ClassId) (h0 : Nat) : (asE (Gqq D tc h0) h0).getD 10 (.inr (0, [])) = cell (Gqq D tc h0) 7 (mu0.1 7) (mu0.2 7) := rfl
theorem cq_8 (D : va_G) (tc : Nat → ClassId) (h0 : Nat) : (asE (Gqq D tc h0) h0).getD 78 (.inr (0, [])) = cell (Gqq D tc h0) 8 (mu0.1 8) (mu0.2 8) := rfl
theorem cq_9 (D : va_G) (tc : Nat → ClassId) (h0 : Nat) : (asE (Gqq D tc h0) h0).getD 79 (.inr (0, [])) = cell (Gqq D tc h0) 9 (mu0.1 9) (mu0.2 9) := rfl
theorem cq_10 (D : va_G) (tc : Nat → ClassId) (h0 : Nat) : (asE (Gqq D tc h0) h0).getD 80 (.inr (0, [])) = cell (Gqq D tc h0) 10 (mu0.1 10) (mu0.2 10) := rfl
theorem cq_11 (D : va_G) (tc : Nat → ClassId) (h0 : Nat) : (asE (Gqq D tc h0) h0).getD 81 (.inr (0, [])) = cell (Gqq D tc h0) 11 (mu0.1 11) (mu0.2 11) := rfl
theorem cq_12 (D : va_G) (tc : Nat → ClassId) (h0 : Nat) : (asE (Gqq D tc h0) h0).getD 82 (.inr (0, [])) = cell (Gqq D tc h0) 12 (mu0.1 12) (mu0.2 12) := rfl
theorem cq_13 (D : va_G) (tc : Nat → ClassId) (h0 : Nat) : (asE (Gqq D tc h0) h0).getD 83 (.inr (0, [])) = cell (Gqq D tc h0) 13 (mu0.1 13) (mu0.2 13) := rfl
theorem cq_14 (D : va_G) (tc : Nat → ClassId) (h0 : Nat) : (asE (Gqq D tc h0) h0).getD 84 (.inr (0, [])) = cell (Gqq D tc h0) 14 (mu0.1 14) (mu0.2 14) := rfl
theorem cq_15 (D : va_G) (tc : Nat → ClassId) (h0 : Nat) : (asE (Gqq D tc h0) h0).getD 85 (.inr (0, [])) = cell (Gqq D tc h0) 15 (mu0.1 15) (mu0.2 15) := rfl
theorem cq_16 (D : va_G) (tc : Nat → ClassId) (h0 : Nat) : (asE (Gqq D tc h0) h0).getD 13 (.inr (0, [])) = cell (Gqq D tc h0) 16 (mu0.1 16) (mu0.2 16) := rfl
theorem cq_17 (D : va_G) (tc : Nat → ClassId) (h0 : Nat) : (asE (Gqq D tc h0) h0).getD 14 (.inr (0, [])) = cell (Gqq D tc h0) 17 (mu0.1 17) (mu0.2 17) := rfl
theorem cq_18 (D : va_G) (tc : Nat → ClassId) (h0 : Nat) : (asE (Gqq D tc h0) h0).getD 15 (.inr (0, [])) = cell (Gqq D tc h0) 18 (mu0.1 18) (mu0.2 18) := rfl
theorem cq_19 (D : va_G) (tc : Nat → ClassId) (h0 : Nat) : (asE (Gqq D tc h0) h0).getD 16 (.inr (0, [])) = cell (Gqq D tc h0) 19 (mu0.1 19) (mu0.2 19) := rfl
theorem cq_20 (D : va_G) (tc : Nat → ClassId) (h0 : Nat) : (asE (Gqq D tc h0) h0).getD 17 (.inr (0, [])) = cell (Gqq D tc h0) 20 (mu0.1 20) (mu0.2 20) := rfl
theorem cq_21 (D : va_G) (tc : Nat → ClassId) (h0 : Nat) : (asE (Gqq D tc h0) h0).getD 18 (.inr (0, [])) = cell (Gqq D tc h0) 21 (mu0.1 21) (mu0.2 21) := rfl
theorem cq_22 (D : va_G) (tc : Nat → ClassId) (h0 : Nat) : (asE (Gqq D tc h0) h0).getD 19 (.inr (0, [])) = cell (Gqq D tc h0) 22 (mu0.1 22) (mu0.2 22) := rfl
theorem cq_23 (D : va_G) (tc : Nat → ClassId) (h0 : Nat) : (asE (Gqq D tc h0) h0).getD 20 (.inr (0, [])) = cell (Gqq D tc h0) 23 (mu0.1 23) (mu0.2 23) := rfl
theorem cq_24 (D : va_G) (tc : Nat → ClassId) (h0 : Nat) : (asE (Gqq D tc h0) h0).getD 21 (.inr (0, [])) = cell (Gqq D tc h0) 24 (mu0.1 24) (mu0.2 24) := rfl
theorem cq_25 (D : va_G) (tc : Nat → ClassId) (h0 : Nat) : (asE (Gqq D tc h0) h0).getD 22 (.inr (0, [])) = cell (Gqq D tc h0) 25 (mu0.1 25) (mu0.2 25) := rfl
theorem cq_26 (D : va_G) (tc : Nat → ClassId) (h0 : Nat) : (asE (Gqq D tc h0) h0).getD 23 (.inr (0, [])) = cell (Gqq D tc h0) 26 (mu0.1 26) (mu0.2 26) := rfl
theorem cq_27 (D : va_G) (tc : Nat → ClassId) (h0 : Nat) : (asE (Gqq D tc h0) h0).getD 24 (.inr (0, [])) = cell (Gqq D tc h0) 27 (mu0.1 27) (mu0.2 27) := rfl
theorem cq_28 (D : va_G) (tc : Nat → ClassId) (h0 : Nat) : (asE (Gqq D tc h0) h0).getD 25 (.inr (0, [])) = cell (Gqq D tc h0) 28 (mu0.1 28) (mu0.2 28) := rfl
theorem cq_29 (D : va_G) (tc : Nat → ClassId) (h0 : Nat) : (asE (Gqq D tc h0) h0).getD 26 (.inr (0, [])) = cell (Gqq D tc h0) 29 (mu0.1 29) (mu0.2 29) := rfl
theorem cq_30 (D : va_G) (tc : Nat → ClassId) (h0 : Nat) : (asE (Gqq D tc h0) h0).getD 27 (.inr (0, [])) = cell (Gqq D tc h0) 30 (mu0.1 30) (mu0.2 30) := rfl
theorem cq_31 (D : va_G) (tc : Nat → ClassId) (h0 : Nat) : (asE (Gqq D tc h0) h0).getD 28 (.inr (0, [])) = cell (Gqq D tc h0) 31 (mu0.1 31) (mu0.2 31) := rfl
theorem cq_32 (D : va_G) (tc : Nat → ClassId) (h0 : Nat) : (asE (Gqq D tc h0) h0).getD 29 (.inr (0, [])) = cell (Gqq D tc h0) 32 (mu0.1 32) (mu0.2 32) := rfl
theorem cq_33 (D : va_G) (tc : Nat → ClassId) (h0 : Nat) : (asE (Gqq D tc h0) h0).getD 30 (.inr (0, [])) = cell (Gqq D tc h0) 33 (mu0.1 33) (mu0.2 33) := rfl
theorem cq_34 (D : va_G) (tc : Nat → ClassId) (h0 : Nat) : (asE (Gqq D tc h0) h0).getD 31 (.inr (0, [])) = cell (Gqq D tc h0) 34 (mu0.1 34) (mu0.2 34) := rfl
theorem cq_35 (D : va_G) (tc : Nat → ClassId) (h0 : Nat) : (asE (Gqq D tc h0) h0).getD 32 (.inr (0, [])) = cell (Gqq D tc h0) 35 (mu0.1 35) (mu0.2 35) := rfl
theorem cq_36 (D : va_G) (tc : Nat → ClassId) (h0 : Nat) : (asE (Gqq D tc h0) h0).getD 33 (.inr (0, [])) = cell (Gqq D tc h0) 36 (mu0.1 36) (mu0.2 36) := rfl
theorem cq_37 (D : va_G) (tc : Nat → ClassId) (h0 : Nat) : (asE (Gqq D tc h0) h0).getD 34 (.inr (0, [])) = cell (Gqq D tc h0) 37 (mu0.1 37) (mu0.2 37) := rfl
theorem cq_38 (D : va_G) (tc : Nat → ClassId) (h0 : Nat) : (asE (Gqq D tc h0) h0).getD 35 (.inr (0, [])) = cell (Gqq D tc h0) 38 (mu0.1 38) (mu0.2 38) := rfl
theorem cq_39 (D : va_G) (tc : Nat → ClassId) (h0 : Nat) : (asE (Gqq D tc h0) h0).getD 36 (.inr (0, [])) = cell (Gqq D tc h0) 39 (mu0.1 39) (mu0.2 39) := rfl
theorem cq_40 (D : va_G) (tc : Nat → ClassId) (h0 : Nat) : (asE (Gqq D tc h0) h0).getD 37 (.inr (0, [])) = cell (Gqq D tc h0) 40 (mu0.1 40) (mu0.2 40) := rfl
theorem cq_41 (D : va_G) (tc : Nat → ClassId) (h0 : Nat) : (asE (Gqq D tc h0) h0).getD 38 (.inr (0, [])) = cell (Gqq D tc h0) 41 (mu0.1 41) (mu0.2 41) := rfl
theorem cq_42 (D : va_G) (tc : Nat → ClassId) (h0 : Nat) : (asE (Gqq D tc h0) h0).getD 39 (.inr (0, [])) = cell (Gqq D tc h0) 42 (mu0.1 42) (mu0.2 42) := rfl
theorem cq_43 (D : va_G) (tc : Nat → ClassId) (h0 : Nat) : (asE (Gqq D tc h0) h0).getD 40 (.inr (0, [])) = cell (Gqq D tc h0) 43 (mu0.1 43) (mu0.2 43) := rfl
theorem cq_44 (D : va_G) (tc : Nat → ClassId) (h0 : Nat) : (asE (Gqq D tc h0) h0).getD 41 (.inr (0, [])) = cell (Gqq D tc h0) 44 (mu0.1 44) (mu0.2 44) := rfl
theorem cq_45 (D : va_G) (tc : Nat → ClassId) (h0 : Nat) : (asE (Gqq D tc h0) h0).getD 42 (.inr (0, [])) = cell (Gqq D tc h0) 45 (mu0.1 45) (mu0.2 45) := rfl
theorem cq_46 (D : va_G) (tc : Nat → ClassId) (h0 : Nat) : (asE (Gqq D tc h0) h0).getD 43 (.inr (0, [])) = cell (Gqq D tc h0) 46 (mu0.1 46) (mu0.2 46) := rfl
theorem cq_47 (D : va_G) (tc : Nat → ClassId) (h0 : Nat) : (asE (Gqq D tc h0) h0).getD 44 (.inr (0, [])) = cell (Gqq D tc h0) 47 (mu0.1 47) (mu0.2 47) := rfl
theorem cq_48 (D : va_G) (tc : Nat → ClassId) (h0 : Nat) : (asE (Gqq D tc h0) h0).getD 45 (.inr (0, [])) = cell (Gqq D tc h0) 48 (mu0.1 48) (mu0.2 48) := rfl
theorem cq_49 (D : va_G) (tc : Nat → ClassId) (h0 : Nat) : (asE (Gqq D tc h0) h0).getD 46 (.inr (0, [])) = cell (Gqq D tc h0) 49 (mu0.1 49) (mu0.2 49) := rfl
theorem cq_50 (D : va_G) (tc : Nat → ClassId) (h0 : Nat) : (asE (Gqq D tc h0) h0).getD 47 (.inr (0, [])) = cell (Gqq D tc h0) 50 (mu0.1 50) (mu0.2 50) := rfl
theorem cq_51 (D : va_G) (tc : Nat → ClassId) (h0 : Nat) : (asE (Gqq D tc h0) h0).getD 48 (.inr (0, [])) = cell (Gqq D tc h0) 51 (mu0.1 51) (mu0.2 51) := rfl
theorem cq_52 (D : va_G) (tc : Nat → ClassId) (h0 : Nat) : (asE (Gqq D tc h0) h0).getD 49 (.inr (0, [])) = cell (Gqq D tc h0) 52 (mu0.1 52) (mu0.2 52) := rfl
theorem cq_53 (D : va_G) (tc : Nat → ClassId) (h0 : Nat) : (asE (Gqq D tc h0) h0).getD 50 (.inr (0, [])) = cell (Gqq D tc h0) 53 (mu0.1 53) (mu0.2 53) := rfl
theorem cq_54 (D : va_G) (tc : Nat → ClassId) (h0 : Nat) : (asE (Gqq D tc h0) h0).getD 51 (.inr (0, [])) = cell (Gqq D tc h0) 54 (mu0.1 54) (mu0.2 54) := rfl
theorem cq_55 (D : va_G) (tc : Nat → ClassId) (h0 : Nat) : (asE (Gqq D tc h0) h0).getD 52 (.inr (0, [])) = cell (Gqq D tc h0) 55 (mu0.1 55) (mu0.2 55) := rfl
theorem cq_56 (D : va_G) (tc : Nat → ClassId) (h0 : Nat) : (asE (Gqq D tc h0) h0).getD 53 (.inr (0, [])) = cell (Gqq D tc h0) 56 (mu0.1 56) (mu0.2 56) := rfl
theorem cq_57 (D : va_G) (tc : Nat → ClassId) (h0 : Nat) : (asE (Gqq D tc h0) h0).getD 54 (.inr (0, [])) = cell (Gqq D tc h0) 57 (mu0.1 57) (mu0.2 57) := rfl
theorem cq_58 (D : va_G) (tc : Nat → ClassId) (h0 : Nat) : (asE (Gqq D tc h0) h0).getD 55 (.inr (0, [])) = cell (Gqq D tc h0) 58 (mu0.1 58) (mu0.2 58) := rfl
theorem cq_59 (D : va_G) (tc : Nat → ClassId) (h0 : Nat) : (asE (Gqq D tc h0) h0).getD 56 (.inr (0, [])) = cell (Gqq D tc h0) 59 (mu0.1 59) (mu0.2 59) := rfl
theorem cq_60 (D : va_G) (tc : Nat → ClassId) (h0 : Nat) : (asE (Gqq D tc h0) h0).getD 57 (.inr (0, [])) = cell (Gqq D tc h0) 60 (mu0.1 60) (mu0.2 60) := rfl
theorem cq_61 (D : va_G) (tc : Nat → ClassId) (h0 : Nat) : (asE (Gqq D tc h0) h0).getD 58 (.inr (0, [])) = cell (Gqq D tc h0) 61 (mu0.1 61) (mu0.2 61) := rfl
theorem cq_62 (D : va_G) (tc : Nat → ClassId) (h0 : Nat) : (asE (Gqq D tc h0) h0).getD 59 (.inr (0, [])) = cell (Gqq D tc h0) 62 (mu0.1 62) (mu0.2 62) := rfl
theorem cq_63 (D : va_G) (tc : Nat → ClassId) (h0 : Nat) : (asE (Gqq D tc h0) h0).getD 60 (.inr (0, [])) = cell (Gqq D tc h0) 63 (mu0.1 63) (mu0.2 63) := rfl
theorem cq_64 (D : va_G) (tc : Nat → ClassId) (h0 : Nat) : (asE (Gqq D tc h0) h0).getD 61 (.inr (0, [])) = cell (Gqq D tc h0) 64 (mu0.1 64) (mu0.2 64) := rfl
theorem cq_65 (D : va_G) (tc : Nat → ClassId) (h0 : Nat) : (asE (Gqq D tc h0) h0).getD 62 (.inr (0, [])) = cell (Gqq D tc h0) 65 (mu0.1 65) (mu0.2 65) := rfl
theorem cq_66 (D : va_G) (tc : Nat → ClassId) (h0 : Nat) : (asE (Gqq D tc h0) h0).getD 63 (.inr (0, [])) = cell (Gqq D tc h0) 66 (mu0.1 66) (mu0.2 66) := rfl
theorem cq_67 (D : va_G) (tc : Nat → ClassId) (h0 : Nat) : (asE (Gqq D tc h0) h0).getD 64 (.inr (0, [])) = cell (Gqq D tc h0) 67 (mu0.1 67) (mu0.2 67) := rfl
theorem cq_68 (D : va_G) (tc : Nat → ClassId) (h0 : Nat) : (asE (Gqq D tc h0) h0).getD 65 (.inr (0, [])) = cell (Gqq D tc h0) 68 (mu0.1 68) (mu0.2 68) := rfl
theorem cq_69 (D : va_G) (tc : Nat → ClassId) (h0 : Nat) : (asE (Gqq D tc h0) h0).getD 66 (.inr (0, [])) = cell (Gqq D tc h0) 69 (mu0.1 69) (mu0.2 69) := rfl
theorem cq_70 (D : va_G) (tc : Nat → ClassId) (h0 : Nat) : (asE (Gqq D tc h0) h0).getD 67 (.inr (0, [])) = cell (Gqq D tc h0) 70 (mu0.1 70) (mu0.2 70) := rfl
theorem cq_71 (D : va_G) (tc : Nat → ClassId) (h0 : Nat) : (asE (Gqq D tc h0) h0).getD 68 (.inr (0, [])) = cell (Gqq D tc h0) 71 (mu0.1 71) (mu0.2 71) := rfl
theorem cq_72 (D : va_G) (tc : Nat → ClassId) (h0 : Nat) : (asE (Gqq D tc h0) h0).getD 69 (.inr (0, [])) = cell (Gqq D tc h0) 72 (mu0.1 72) (mu0.2 72) := rfl
theorem cq_73 (D : va_G) (tc : Nat → ClassId) (h0 : Nat) : (asE (Gqq D tc h0) h0).getD 70 (.inr (0, [])) = cell (Gqq D tc h0) 73 (mu0.1 73) (mu0.2 73) := rfl
theorem cq_74 (D : va_G) (tc : Nat → ClassId) (h0 : Nat) : (asE (Gqq D tc h0) h0).getD 71 (.inr (0, [])) = cell (Gqq D tc h0) 74 (mu0.1 74) (mu0.2 74) := rfl
theorem cq_75 (D : va_G) (tc : Nat → ClassId) (h0 : Nat) : (asE (Gqq D tc h0) h0).getD 72 (.inr (0, [])) = cell (Gqq D tc h0) 75 (mu0.1 75) (mu0.2 75) := rfl
theorem cq_76 (D : va_G) (tc : Nat → ClassId) (h0 : Nat) : (asE (Gqq D tc h0) h0).getD 73 (.inr (0, [])) = cell (Gqq D tc h0) 76 (mu0.1 76) (mu0.2 76) := rfl
theorem cq_77 (D : va_G) (tc : Nat → ClassId) (h0 : Nat) : (asE (Gqq D tc h0) h0).getD 74 (.inr (0, [])) = cell (Gqq D tc h0) 77 (mu0.1 77) (mu0.2 77) := rfl
theorem cq_78 (D : va_G) (tc : Nat → ClassId) (h0 : Nat) : (asE (Gqq D tc h0) h0).getD 75 (.inr (0, [])) = cell (Gqq D tc h0) 78 (mu0.1 78) (mu0.2 78) := rfl
theorem cq_79 (D : va_G) (tc : Nat → ClassId) (h0 : Nat) : (asE (Gqq D tc h0) h0).getD 76 (.inr (0, [])) = cell (Gqq D tc h0) 79 (mu0.1 79) (mu0.2 79) := rfl
theorem cq_80 (D : va_G) (tc : Nat → ClassId) (h0 : Nat) : (asE (Gqq D tc h0) h0).getD 0 (.inr (0, [])) = cell (Gqq D tc h0) 80 (mu0.1 80) (mu0.2 80) := rfl
theorem cq_81 (D : va_G) (tc : Nat → ClassId) (h0 : Nat) : (asE (Gqq D tc h0) h0).getD 1 (.inr (0, [])) = cell (Gqq D tc h0) 81 (mu0.1 81) (mu0.2 81) := rfl
theorem cq_82 (D : va_G) (tc : Nat → ClassId) (h0 : Nat) : (asE (Gqq D tc h0) h0).getD 2 (.inr (0, [])) = cell (Gqq D tc h0) 82 (mu0.1 82) (mu0.2 82) := rfl
theorem cq_83 (D : va_G) (tc : Nat → ClassId) (h0 : Nat) : (asE (Gqq D tc h0) h0).getD 11 (.inr (0, [])) = cell (Gqq D tc h0) 83 (mu0.1 83) (mu0.2 83) := rfl
theorem cq_85 (D : va_G) (tc : Nat → ClassId) (h0 : Nat) : (asE (Gqq D tc h0) h0).getD 77 (.inr (0, [])) = cell (Gqq D tc h0) 85 (mu0.1 85) (mu0.2 85) := rfl
theorem cq_86 (D : va_G) (tc : Nat → ClassId) (h0 : Nat) : (asE (Gqq D tc h0) h0).getD 86 (.inr (0, [])) = cell (Gqq D tc h0) 86 (mu0.1 86) (mu0.2 86) := rfl
theorem cq_87 (D : va_G) (tc : Nat → ClassId) (h0 : Nat) : (asE (Gqq D tc h0) h0).getD 87 (.inr (0, [])) = cell (Gqq D tc h0) 87 (mu0.1 87) (mu0.2 87) := rfl
theorem cq_88 (D : va_G) (tc : Nat → ClassId) (h0 : Nat) : (asE (Gqq D tc h0) h0).getD 88 (.inr (0, [])) = cell (Gqq D tc h0) 88 (mu0.1 88) (mu0.2 88) := rfl
theorem cq_89 (D : va_G) (tc : Nat → ClassId) (h0 : Nat) : (asE (Gqq D tc h0) h0).getD 89 (.inr (0, [])) = cell (Gqq D tc h0) 89 (mu0.1 89) (mu0.2 89) := rfl
theorem cq_90 (D : va_G) (tc : Nat → ClassId) (h0 : Nat) : (asE (Gqq D tc h0) h0).getD 90 (.inr (0, [])) = cell (Gqq D tc h0) 90 (mu0.1 90) (mu0.2 90) := rfl
theorem cq_91 (D : va_G) (tc : Nat → ClassId) (h0 : Nat) : (asE (Gqq D tc h0) h0).getD 91 (.inr (0, [])) = cell (Gqq D tc h0) 91 (mu0.1 91) (mu0.2 91) := rfl
theorem cq_92 (D : va_G) (tc : Nat → ClassId) (h0 : Nat) : (asE (Gqq D tc h0) h0).getD 92 (.inr (0, [])) = cell (Gqq D tc h0) 92 (mu0.1 92) (mu0.2 92) := rfl
theorem cq_93 (D : va_G) (tc : Nat → ClassId) (h0 : Nat) : (asE (Gqq D tc h0) h0).getD 93 (.inr (0, [])) = cell (Gqq D tc h0) 93 (mu0.1 93) (mu0.2 93) := rfl
theorem cq_94 (D : va_G) (tc : Nat → ClassId) (h0 : Nat) : (asE (Gqq D tc h0) h0).getD 94 (.inr (0, [])) = cell (Gqq D tc h0) 94 (mu0.1 94) (mu0.2 94) := rfl
theorem cq_95 (D : va_G) (tc : Nat → ClassId) (h0 : Nat) : (asE (Gqq D tc h0) h0).getD 117 (.inr (0, [])) = cell (Gqq D tc h0) 95 (mu0.1 95) (mu0.2 95) := rfl
theorem cq_96 (D : va_G) (tc : Nat → ClassId) (h0 : Nat) : (asE (Gqq D tc h0) h0).getD 95 (.inr (0, [])) = cell (Gqq D tc h0) 96 (mu0.1 96) (mu0.2 96) := rfl
theorem cq_97 (D : va_G) (tc : Nat → ClassId) (h0 : Nat) : (asE (Gqq D tc h0) h0).getD 96 (.inr (0, [])) = cell (Gqq D tc h0) 97 (mu0.1 97) (mu0.2 97) := rfl
theorem cq_98 (D : va_G) (tc : Nat → ClassId) (h0 : Nat) : (asE (Gqq D tc h0) h0).getD 97 (.inr (0, [])) = cell (Gqq D tc h0) 98 (mu0.1 98) (mu0.2 98) := rfl
theorem cq_99 (D : va_G) (tc : Nat → ClassId) (h0 : Nat) : (asE (Gqq D tc h0) h0).getD 98 (.inr (0, [])) = cell (Gqq D tc h0) 99 (mu0.1 99) (mu0.2 99) := rfl
theorem cq_100 (D : va_G) (tc : Nat → ClassId) (h0 : Nat) : (asE (Gqq D tc h0) h0).getD 99 (.inr (0, [])) = cell (Gqq D tc h0) 100 (mu0.1 100) (mu0.2 100) := rfl
theorem cq_102 (D : va_G) (tc : Nat → ClassId) (h0 : Nat) : (asE (Gqq D tc h0) h0).getD 101 (.inr (0, [])) = cell (Gqq D tc h0) 102 (mu0.1 102) (mu0.2 102) := rfl
theorem cq_103 (D : va_G) (tc : Nat → ClassId) (h0 : Nat) : (asE (Gqq D tc h0) h0).getD 102 (.inr (0, [])) = cell (Gqq D tc h0) 103 (mu0.1 103) (mu0.2 103) := rfl
theorem cq_104 (D : va_G) (tc : Nat → ClassId) (h0 : Nat) : (asE (Gqq D tc h0) h0).getD 103 (.inr (0, [])) = cell (Gqq D tc h0) 104 (mu0.1 104) (mu0.2 104) := rfl
theorem cq_105 (D : va_G) (tc : Nat → ClassId) (h0 : Nat) : (asE (Gqq D tc h0) h0).getD 104 (.inr (0, [])) = cell (Gqq D tc h0) 105 (mu0.1 105) (mu0.2 105) := rfl
theorem cq_106 (D : va_G) (tc : Nat → ClassId) (h0 : Nat) : (asE (Gqq D tc h0) h0).getD 105 (.inr (0, [])) = cell (Gqq D tc h0) 106 (mu0.1 106) (mu0.2 106) := rfl
theorem cq_107 (D : va_G) (tc : Nat → ClassId) (h0 : Nat) : (asE (Gqq D tc h0) h0).getD 106 (.inr (0, [])) = cell (Gqq D tc h0) 107 (mu0.1 107) (mu0.2 107) := rfl
theorem cq_108 (D : va_G) (tc : Nat → ClassId) (h0 : Nat) : (asE (Gqq D tc h0) h0).getD 107 (.inr (0, [])) = cell (Gqq D tc h0) 108 (mu0.1 108) (mu0.2 108) := rfl
theorem cq_109 (D : va_G) (tc : Nat → ClassId) (h0 : Nat) : (asE (Gqq D tc h0) h0).getD 108 (.inr (0, [])) = cell (Gqq D tc h0) 109 (mu0.1 109) (mu0.2 109) := rfl
theorem cq_110 (D : va_G) (tc : Nat → ClassId) (h0 : Nat) : (asE (Gqq D tc h0) h0).getD 109 (.inr (0, [])) = cell (Gqq D tc h0) 110 (mu0.1 110) (mu0.2 110) := rfl
theorem cq_111 (D : va_G) (tc : Nat → ClassId) (h0 : Nat) : (asE (Gqq D tc h0) h0).getD 110 (.inr (0, [])) = cell (Gqq D tc h0) 111 (mu0.1 111) (mu0.2 111) := rfl
theorem cq_112 (D : va_G) (tc : Nat → ClassId) (h0 : Nat) : (asE (Gqq D tc h0) h0).getD 111 (.inr (0, [])) = cell (Gqq D tc h0) 112 (mu0.1 112) (mu0.2 112) := rfl
theorem cq_113 (D : va_G) (tc : Nat → ClassId) (h0 : Nat) : (asE (Gqq D tc h0) h0).getD 112 (.inr (0, [])) = cell (Gqq D tc h0) 113 (mu0.1 113) (mu0.2 113) := rfl
theorem cq_114 (D : va_G) (tc : Nat → ClassId) (h0 : Nat) : (asE (Gqq D tc h0) h0).getD 113 (.inr (0, [])) = cell (Gqq D tc h0) 114 (mu0.1 114) (mu0.2 114) := rfl
theorem cq_115 (D : va_G) (tc : Nat → ClassId) (h0 : Nat) : (asE (Gqq D tc h0) h0).getD 114 (.inr (0, [])) = cell (Gqq D tc h0) 115 (mu0.1 115) (mu0.2 115) := rfl
theorem cq_116 (D : va_G) (tc : Nat → ClassId) (h0 : Nat) : (asE (Gqq D tc h0) h0).getD 115 (.inr (0, [])) = cell (Gqq D tc h0) 116 (mu0.1 116) (mu0.2 116) := rfl
theorem cq_117 (D : va_G) (tc : Nat → ClassId) (h0 : Nat) : (asE (Gqq D tc h0) h0).getD 116 (.inr (0, [])) = cell (Gqq D tc h0) 117 (mu0.1 117) (mu0.2 117) := rfl
theorem cq_same (D : va_G) {q : Nat} {e1 e2 : va_E} {H : Heap} (h : e1 = e2) (h1 : va_at D vwCl (q, e1) H) : va_at D vwCl (q, e2) H := h ▸ h1
theorem cq_refs (D : va_G) {q : Nat} {c : ClassId} {n : Nat} {f g : Nat → Option Nat} {H : Heap} (h : ∀ i, i < n → f i = g i) (h1 : va_at D vwCl (q, .inl (c, n, .inr (.inr (.inr (.inr f))))) H) : va_at D vwCl (q, .inl (c, n, .inr (.inr (.inr (.inr g))))) H := by
  have h2 : H[q]? = some (vp_cell c (n, .inr (.inr (.inr (.inr f))))) := h1
  show H[q]? = some (vp_cell c (n, .inr (.inr (.inr (.inr g)))))
  rw [h2, vp_cell_q, vp_cell_q]
  have h3 : (fun j : Fin n => va_rf (f j.val)) = (fun j : Fin n => va_rf (g j.val)) := funext fun j => by rw [h j.val j.isLt]
  unfold arrV
  rw [h3]
theorem cq_84 (D : va_G) (tc : Nat → ClassId) (h0 : Nat) (H : Heap) (h : va_at D vwCl (h0 + 12, (asE (Gqq D tc h0) h0).getD 12 (.inr (0, []))) H) : va_at D vwCl (h0 + 12, cell (Gqq D tc h0) 84 (mu0.1 84) (mu0.2 84)) H := by
  refine cq_refs D (c := tc 4) (n := 8) (fun i hi => ?_) h
  match i, hi with
  | 0, _ => rfl
  | 1, _ => rfl
  | 2, _ => rfl
  | 3, _ => rfl
  | 4, _ => rfl
  | 5, _ => rfl
  | 6, _ => rfl
  | 7, _ => rfl
  | (i + 8), hi => exact absurd hi (by omega)
theorem cq_101 (D : va_G) (tc : Nat → ClassId) (h0 : Nat) (H : Heap) (h : va_at D vwCl (h0 + 100, (asE (Gqq D tc h0) h0).getD 100 (.inr (0, []))) H) : va_at D vwCl (h0 + 100, cell (Gqq D tc h0) 101 (mu0.1 101) (mu0.2 101)) H := by
  refine cq_refs D (c := tc 5) (n := 8) (fun i hi => ?_) h
  match i, hi with
  | 0, _ => rfl
  | 1, _ => rfl
  | 2, _ => rfl
  | 3, _ => rfl
  | 4, _ => rfl
  | 5, _ => rfl
  | 6, _ => rfl
  | 7, _ => rfl
  | (i + 8), hi => exact absurd hi (by omega)
theorem cq_all (D : va_G) (tc : Nat → ClassId) (h0 : Nat) (H : Heap) (h : ∀ i, i < 118 → va_at D vwCl (h0 + i, (asE (Gqq D tc h0) h0).getD i (.inr (0, []))) H) : ∀ k, k < 118 → va_at D vwCl (h0 + od_k k, cell (Gqq D tc h0) k (mu0.1 k) (mu0.2 k)) H := by
  intro k hk
  match k, hk with
  | 0, _ => exact cq_same D (cq_0 D tc h0) (h 3 (by decide))
  | 1, _ => exact cq_same D (cq_1 D tc h0) (h 4 (by decide))
  | 2, _ => exact cq_same D (cq_2 D tc h0) (h 5 (by decide))
  | 3, _ => exact cq_same D (cq_3 D tc h0) (h 6 (by decide))
  | 4, _ => exact cq_same D (cq_4 D tc h0) (h 7 (by decide))
  | 5, _ => exact cq_same D (cq_5 D tc h0) (h 8 (by decide))
  | 6, _ => exact cq_same D (cq_6 D tc h0) (h 9 (by decide))
  | 7, _ => exact cq_same D (cq_7 D tc h0) (h 10 (by decide))
  | 8, _ => exact cq_same D (cq_8 D tc h0) (h 78 (by decide))
  | 9, _ => exact cq_same D (cq_9 D tc h0) (h 79 (by decide))
  | 10, _ => exact cq_same D (cq_10 D tc h0) (h 80 (by decide))
  | 11, _ => exact cq_same D (cq_11 D tc h0) (h 81 (by decide))
  | 12, _ => exact cq_same D (cq_12 D tc h0) (h 82 (by decide))
  | 13, _ => exact cq_same D (cq_13 D tc h0) (h 83 (by decide))
  | 14, _ => exact cq_same D (cq_14 D tc h0) (h 84 (by decide))
  | 15, _ => exact cq_same D (cq_15 D tc h0) (h 85 (by decide))
  | 16, _ => exact cq_same D (cq_16 D tc h0) (h 13 (by decide))
  | 17, _ => exact cq_same D (cq_17 D tc h0) (h 14 (by decide))
  | 18, _ => exact cq_same D (cq_18 D tc h0) (h 15 (by decide))
  | 19, _ => exact cq_same D (cq_19 D tc h0) (h 16 (by decide))
  | 20, _ => exact cq_same D (cq_20 D tc h0) (h 17 (by decide))
  | 21, _ => exact cq_same D (cq_21 D tc h0) (h 18 (by decide))
  | 22, _ => exact cq_same D (cq_22 D tc h0) (h 19 (by decide))
  | 23, _ => exact cq_same D (cq_23 D tc h0) (h 20 (by decide))
  | 24, _ => exact cq_same D (cq_24 D tc h0) (h 21 (by decide))
  | 25, _ => exact cq_same D (cq_25 D tc h0) (h 22 (by decide))
  | 26, _ => exact cq_same D (cq_26 D tc h0) (h 23 (by decide))
  | 27, _ => exact cq_same D (cq_27 D tc h0) (h 24 (by decide))
  | 28, _ => exact cq_same D (cq_28 D tc h0) (h 25 (by decide))
  | 29, _ => exact cq_same D (cq_29 D tc h0) (h 26 (by decide))
  | 30, _ => exact cq_same D (cq_30 D tc h0) (h 27 (by decide))
  | 31, _ => exact cq_same D (cq_31 D tc h0) (h 28 (by decide))
  | 32, _ => exact cq_same D (cq_32 D tc h0) (h 29 (by decide))
  | 33, _ => exact cq_same D (cq_33 D tc h0) (h 30 (by decide))
  | 34, _ => exact cq_same D (cq_34 D tc h0) (h 31 (by decide))
  | 35, _ => exact cq_same D (cq_35 D tc h0) (h 32 (by decide))
  | 36, _ => exact cq_same D (cq_36 D tc h0) (h 33 (by decide))
  | 37, _ => exact cq_same D (cq_37 D tc h0) (h 34 (by decide))
  | 38, _ => exact cq_same D (cq_38 D tc h0) (h 35 (by decide))
  | 39, _ => exact cq_same D (cq_39 D tc h0) (h 36 (by decide))
  | 40, _ => exact cq_same D (cq_40 D tc h0) (h 37 (by decide))
  | 41, _ => exact cq_same D (cq_41 D tc h0) (h 38 (by decide))
  | 42, _ => exact cq_same D (cq_42 D tc h0) (h 39 (by decide))
  | 43, _ => exact cq_same D (cq_43 D tc h0) (h 40 (by decide))
  | 44, _ => exact cq_same D (cq_44 D tc h0) (h 41 (by decide))
  | 45, _ => exact cq_same D (cq_45 D tc h0) (h 42 (by decide))
  | 46, _ => exact cq_same D (cq_46 D tc h0) (h 43 (by decide))
  | 47, _ => exact cq_same D (cq_47 D tc h0) (h 44 (by decide))
  | 48, _ => exact cq_same D (cq_48 D tc h0) (h 45 (by decide))
  | 49, _ => exact cq_same D (cq_49 D tc h0) (h 46 (by decide))
  | 50, _ => exact cq_same D (cq_50 D tc h0) (h 47 (by decide))
  | 51, _ => exact cq_same D (cq_51 D tc h0) (h 48 (by decide))
  | 52, _ => exact cq_same D (cq_52 D tc h0) (h 49 (by decide))
  | 53, _ => exact cq_same D (cq_53 D tc h0) (h 50 (by decide))
  | 54, _ => exact cq_same D (cq_54 D tc h0) (h 51 (by decide))
  | 55, _ => exact cq_same D (cq_55 D tc h0) (h 52 (by decide))
  | 56, _ => exact cq_same D (cq_56 D tc h0) (h 53 (by decide))
  | 57, _ => exact cq_same D (cq_57 D tc h0) (h 54 (by decide))
  | 58, _ => exact cq_same D (cq_58 D tc h0) (h 55 (by decide))
  | 59, _ => exact cq_same D (cq_59 D tc h0) (h 56 (by decide))
  | 60, _ => exact cq_same D (cq_60 D tc h0) (h 57 (by decide))
  | 61, _ => exact cq_same D (cq_61 D tc h0) (h 58 (by decide))
  | 62, _ => exact cq_same D (cq_62 D tc h0) (h 59 (by decide))
  | 63, _ => exact cq_same D (cq_63 D tc h0) (h 60 (by decide))
  | 64, _ => exact cq_same D (cq_64 D tc h0) (h 61 (by decide))
  | 65, _ => exact cq_same D (cq_65 D tc h0) (h 62 (by decide))
  | 66, _ => exact cq_same D (cq_66 D tc h0) (h 63 (by decide))
  | 67, _ => exact cq_same D (cq_67 D tc h0) (h 64 (by decide))
  | 68, _ => exact cq_same D (cq_68 D tc h0) (h 65 (by decide))
  | 69, _ => exact cq_same D (cq_69 D tc h0) (h 66 (by decide))
  | 70, _ => exact cq_same D (cq_70 D tc h0) (h 67 (by decide))
  | 71, _ => exact cq_same D (cq_71 D tc h0) (h 68 (by decide))
  | 72, _ => exact cq_same D (cq_72 D tc h0) (h 69 (by decide))
  | 73, _ => exact cq_same D (cq_73 D tc h0) (h 70 (by decide))
  | 74, _ => exact cq_same D (cq_74 D tc h0) (h 71 (by decide))
  | 75, _ => exact cq_same D (cq_75 D tc h0) (h 72 (by decide))
  | 76, _ => exact cq_same D (cq_76 D tc h0) (h 73 (by decide))
  | 77, _ => exact cq_same D (cq_77 D tc h0) (h 74 (by decide))
  | 78, _ => exact cq_same D (cq_78 D tc h0) (h 75 (by decide))
  | 79, _ => exact cq_same D (cq_79 D tc h0) (h 76 (by decide))
  | 80, _ => exact cq_same D (cq_80 D tc h0) (h 0 (by decide))
  | 81, _ => exact cq_same D (cq_81 D tc h0) (h 1 (by decide))
  | 82, _ => exact cq_same D (cq_82 D tc h0) (h 2 (by decide))
  | 83, _ => exact cq_same D (cq_83 D tc h0) (h 11 (by decide))
  | 84, _ => exact cq_84 D tc h0 H (h 12 (by decide))
  | 85, _ => exact cq_same D (cq_85 D tc h0) (h 77 (by decide))
  | 86, _ => exact cq_same D (cq_86 D tc h0) (h 86 (by decide))
  | 87, _ => exact cq_same D (cq_87 D tc h0) (h 87 (by decide))
  | 88, _ => exact cq_same D (cq_88 D tc h0) (h 88 (by decide))
  | 89, _ => exact cq_same D (cq_89 D tc h0) (h 89 (by decide))
  | 90, _ => exact cq_same D (cq_90 D tc h0) (h 90 (by decide))
  | 91, _ => exact cq_same D (cq_91 D tc h0) (h 91 (by decide))
  | 92, _ => exact cq_same D (cq_92 D tc h0) (h 92 (by decide))
  | 93, _ => exact cq_same D (cq_93 D tc h0) (h 93 (by decide))
  | 94, _ => exact cq_same D (cq_94 D tc h0) (h 94 (by decide))
  | 95, _ => exact cq_same D (cq_95 D tc h0) (h 117 (by decide))
  | 96, _ => exact cq_same D (cq_96 D tc h0) (h 95 (by decide))
  | 97, _ => exact cq_same D (cq_97 D tc h0) (h 96 (by decide))
  | 98, _ => exact cq_same D (cq_98 D tc h0) (h 97 (by decide))
  | 99, _ => exact cq_same D (cq_99 D tc h0) (h 98 (by decide))
  | 100, _ => exact cq_same D (cq_100 D tc h0) (h 99 (by decide))
  | 101, _ => exact cq_101 D tc h0 H (h 100 (by decide))
  | 102, _ => exact cq_same D (cq_102 D tc h0) (h 101 (by decide))
  | 103, _ => exact cq_same D (cq_103 D tc h0) (h 102 (by decide))
  | 104, _ => exact cq_same D (cq_104 D tc h0) (h 103 (by decide))
  | 105, _ => exact cq_same D (cq_105 D tc h0) (h 104 (by decide))
  | 106, _ => exact cq_same D (cq_106 D tc h0) (h 105 (by decide))
  | 107, _ => exact cq_same D (cq_107 D tc h0) (h 106 (by decide))
  | 108, _ => exact cq_same D (cq_108 D tc h0) (h 107 (by decide))
  | 109, _ => exact cq_same D (cq_109 D tc h0) (h 108 (by decide))
  | 110, _ => exact cq_same D (cq_110 D tc h0) (h 109 (by decide))
  | 111, _ => exact cq_same D (cq_111 D tc h0) (h 110 (by decide))
  | 112, _ => exact cq_same D (cq_112 D tc h0) (h 111 (by decide))
  | 113, _ => exact cq_same D (cq_113 D tc h0) (h 112 (by decide))
  | 114, _ => exact cq_same D (cq_114 D tc h0) (h 113 (by decide))
  | 115, _ => exact cq_same D (cq_115 D tc h0) (h 114 (by decide))
  | 116, _ => exact cq_same D (cq_116 D tc h0) (h 115 (by decide))
  | 117, _ => exact cq_same D (cq_117 D tc h0) (h 116 (by decide))
  | (k + 118), hk => exact absurd hk (by omega)
theorem cq_world (D : va_G) (tc : Nat → ClassId) (h0 o ci : Nat) (E : Nat → va_E) (fs : List Value) (ho : 118 ≤ o) (H : Heap) (h : va_P D vwCl (we h0 (0 + 118) (cE E 0 o ci fs (asE (Gqq D tc h0) h0))) H) : va_P D vwCl (wl (Gqq D tc h0) mu0) H := by
  intro k q hq
  have hk : k < 118 := by
    have := (List.getElem?_eq_some_iff.mp hq).1
    rwa [wl_len] at this
  rw [wl_get _ _ hk] at hq
  cases hq
  refine cq_all D tc h0 H (fun i hi => ?_) k hk
  have h1 := h i _ (we_get _ (show i < 0 + 118 by omega))
  unfold cE at h1
  rw [if_neg (show ¬ i = o by omega), if_neg (show ¬ i < 0 by omega)] at h1
  exact h1
