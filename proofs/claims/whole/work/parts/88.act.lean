/-! acts -/
def nt (A : tz_Mem) (n : Nat) (x : Int32) : tz_Mem := if 20 ≤ n then tz_s A 148 0 (tz_j (n + 1)) else tz_s (tz_s A 149 n x) 148 0 (tz_j (n + 1))
def mr (A : tz_Mem) (n : Nat) (x : Int32) : tz_Mem := if 20 ≤ n then tz_s A 157 28 (tz_j (n + 1)) else tz_s (tz_s A 178 n x) 157 28 (tz_j (n + 1))
def nU (U : tz_U) (n : Nat) (x : Int32) : tz_U := if 20 ≤ n then tz_u U 4 0 (tz_j (n + 1)) else tz_u (tz_u U 5 n x) 4 0 (tz_j (n + 1))
theorem nt0 {A : tz_Mem} {n : Nat} {x : Int32} : tz_g (nt A n x) 148 0 = tz_j (n + 1) := by
  unfold nt
  split <;> rw [tz_gs1]
theorem nt2 {A : tz_Mem} {n i : Nat} {x : Int32} (h : i ≠ 0) : tz_g (nt A n x) 148 i = tz_g A 148 i := by
  unfold nt
  split
  · rw [tz_gsi h]
  · rw [tz_gsi h, tz_gsk (by omega)]
theorem mr0 {A : tz_Mem} {n : Nat} {x : Int32} : tz_g (mr A n x) 157 28 = tz_j (n + 1) := by
  unfold mr
  split <;> rw [tz_gs1]
theorem mr2 {A : tz_Mem} {n k i : Nat} {x : Int32} (h : k ≠ 157) (h2 : k ≠ 178) : tz_g (mr A n x) k i = tz_g A k i := by
  unfold mr
  split
  · rw [tz_gsk h]
  · rw [tz_gsk h, tz_gsk h2]
theorem e_nt {A : tz_Mem} {n : Nat} {x : Int32} (h : tz_g A 148 0 = tz_j n) (hn : n < 60) : f_X0_note x A = some (none, nt A n x) := by
  rw [e_X0_note, h]
  unfold nt
  by_cases z : 20 ≤ n
  · rw [if_pos (c := 20 ≤ n) z]
    simp (disch := omega) only [tz_lit, nj_m1, ↓reduceIte, nj_cl, nj_ltt, nj_ltf, nj_let, nj_lef, nj_eqf, nj_lt, nj_le, nj_eq, nj_add, nj_mul, nj_modx, nj_and7, nj_div, tz_bI_some, tz_bV_some, or_false, false_or, or_self, and_false, false_and, and_true, true_and, not_true_eq_false, not_false_eq_true, nt_lef, nt_let, nt_ltf, nt_ltt, nt_eqf, nj_m2, nj_m3, nj_m4, nj_m5, nj_m6, nj_m7, tz_bL_some, nj_sub, ng_ltt, ng_let, ng_gtf, ng_gef]
  · rw [if_neg (c := 20 ≤ n) z]
    simp (disch := omega) only [tz_lit, nj_m1, ↓reduceIte, nj_cl, nj_ltt, nj_ltf, nj_let, nj_lef, nj_eqf, nj_lt, nj_le, nj_eq, nj_add, nj_mul, nj_modx, nj_and7, nj_div, tz_bI_some, tz_bV_some, or_false, false_or, or_self, and_false, false_and, and_true, true_and, not_true_eq_false, not_false_eq_true, nt_lef, nt_let, nt_ltf, nt_ltt, nt_eqf, nj_m2, nj_m3, nj_m4, nj_m5, nj_m6, nj_m7, tz_bL_some, nj_sub, ng_ltt, ng_let, ng_gtf, ng_gef, tz_gsk, h]
theorem e_mr {A : tz_Mem} {n : Nat} {x : Int32} (h : tz_g A 157 28 = tz_j n) (hn : n < 60) : f_X12_ran x A = some (none, mr A n x) := by
  rw [e_X12_ran, h]
  unfold mr
  by_cases z : 20 ≤ n
  · rw [if_pos (c := 20 ≤ n) z]
    simp (disch := omega) only [tz_lit, nj_m1, ↓reduceIte, nj_cl, nj_ltt, nj_ltf, nj_let, nj_lef, nj_eqf, nj_lt, nj_le, nj_eq, nj_add, nj_mul, nj_modx, nj_and7, nj_div, tz_bI_some, tz_bV_some, or_false, false_or, or_self, and_false, false_and, and_true, true_and, not_true_eq_false, not_false_eq_true, nt_lef, nt_let, nt_ltf, nt_ltt, nt_eqf, nj_m2, nj_m3, nj_m4, nj_m5, nj_m6, nj_m7, tz_bL_some, nj_sub, ng_ltt, ng_let, ng_gtf, ng_gef]
  · rw [if_neg (c := 20 ≤ n) z]
    simp (disch := omega) only [tz_lit, nj_m1, ↓reduceIte, nj_cl, nj_ltt, nj_ltf, nj_let, nj_lef, nj_eqf, nj_lt, nj_le, nj_eq, nj_add, nj_mul, nj_modx, nj_and7, nj_div, tz_bI_some, tz_bV_some, or_false, false_or, or_self, and_false, false_and, and_true, true_and, not_true_eq_false, not_false_eq_true, nt_lef, nt_let, nt_ltf, nt_ltt, nt_eqf, nj_m2, nj_m3, nj_m4, nj_m5, nj_m6, nj_m7, tz_bL_some, nj_sub, ng_ltt, ng_let, ng_gtf, ng_gef, tz_gsk, h]
theorem xt_a : tz_XT 1 0 = tz_j 4294967295 ∧ tz_XT 1 1 = tz_j 0 ∧ tz_XT 1 2 = tz_j 0 ∧ tz_XT 1 3 = tz_j 1 ∧ tz_XT 1 4 = tz_j 0 ∧ tz_XT 1 5 = tz_j 2 ∧ tz_XT 1 6 = tz_j 4 := by decide +kernel
theorem xt_b : tz_XT 2 0 = tz_j 10 ∧ tz_XT 2 1 = tz_j 20 ∧ tz_XT 2 2 = tz_j 0 ∧ tz_XT 2 3 = tz_j 0 ∧ tz_XT 2 4 = tz_j 51 ∧ tz_XT 2 5 = tz_j 0 ∧ tz_XT 2 6 = tz_j 70 := by decide +kernel
theorem xt_c : tz_XT 3 0 = tz_j 11 ∧ tz_XT 3 1 = tz_j 0 ∧ tz_XT 3 2 = tz_j 30 ∧ tz_XT 3 3 = tz_j 40 ∧ tz_XT 3 4 = tz_j 0 ∧ tz_XT 3 5 = tz_j 0 ∧ tz_XT 3 6 = tz_j 71 := by decide +kernel
theorem xt_d : tz_XT 4 0 = tz_j 12 ∧ tz_XT 4 1 = tz_j 0 ∧ tz_XT 4 2 = tz_j 0 ∧ tz_XT 4 3 = tz_j 0 ∧ tz_XT 4 4 = tz_j 50 ∧ tz_XT 4 5 = tz_j 60 ∧ tz_XT 4 6 = tz_j 0 := by decide +kernel
theorem bo_0_0 {A : tz_Mem} : f_X0_bodyOf (tz_j 0) (tz_j 0) A = some (some (.int (tz_j 10)), A) := by
  rw [e_X0_bodyOf]
  simp (disch := omega) only [tz_lit, nj_m1, nj_m2, nj_m3, nj_m4, nj_m5, nj_m6, nj_m7, ↓reduceIte, tz_bI_some, tz_bV_some, tz_bL_some, cj10, cj01, cjm0, eq_self, not_true_eq_false, not_false_eq_true, or_false, false_or, or_true, true_or, or_self, and_true, true_and, and_false, false_and, nj_eqf, nj_ltt, nj_ltf, nj_let, nj_lef, nj_cl, nt_lef, xt_b]
theorem bo_0_1 {A : tz_Mem} : f_X0_bodyOf (tz_j 0) (tz_j 1) A = some (some (.int (tz_j 20)), A) := by
  rw [e_X0_bodyOf]
  simp (disch := omega) only [tz_lit, nj_m1, nj_m2, nj_m3, nj_m4, nj_m5, nj_m6, nj_m7, ↓reduceIte, tz_bI_some, tz_bV_some, tz_bL_some, cj10, cj01, cjm0, eq_self, not_true_eq_false, not_false_eq_true, or_false, false_or, or_true, true_or, or_self, and_true, true_and, and_false, false_and, nj_eqf, nj_ltt, nj_ltf, nj_let, nj_lef, nj_cl, nt_lef, xt_b]
theorem bo_0_2 {A : tz_Mem} : f_X0_bodyOf (tz_j 0) (tz_j 2) A = some (some (.int (tz_j 0)), A) := by
  rw [e_X0_bodyOf]
  simp (disch := omega) only [tz_lit, nj_m1, nj_m2, nj_m3, nj_m4, nj_m5, nj_m6, nj_m7, ↓reduceIte, tz_bI_some, tz_bV_some, tz_bL_some, cj10, cj01, cjm0, eq_self, not_true_eq_false, not_false_eq_true, or_false, false_or, or_true, true_or, or_self, and_true, true_and, and_false, false_and, nj_eqf, nj_ltt, nj_ltf, nj_let, nj_lef, nj_cl, nt_lef, xt_b]
theorem bo_0_3 {A : tz_Mem} : f_X0_bodyOf (tz_j 0) (tz_j 3) A = some (some (.int (tz_j 0)), A) := by
  rw [e_X0_bodyOf]
  simp (disch := omega) only [tz_lit, nj_m1, nj_m2, nj_m3, nj_m4, nj_m5, nj_m6, nj_m7, ↓reduceIte, tz_bI_some, tz_bV_some, tz_bL_some, cj10, cj01, cjm0, eq_self, not_true_eq_false, not_false_eq_true, or_false, false_or, or_true, true_or, or_self, and_true, true_and, and_false, false_and, nj_eqf, nj_ltt, nj_ltf, nj_let, nj_lef, nj_cl, nt_lef, xt_b]
theorem bo_0_4 {A : tz_Mem} : f_X0_bodyOf (tz_j 0) (tz_j 4) A = some (some (.int (tz_j 51)), A) := by
  rw [e_X0_bodyOf]
  simp (disch := omega) only [tz_lit, nj_m1, nj_m2, nj_m3, nj_m4, nj_m5, nj_m6, nj_m7, ↓reduceIte, tz_bI_some, tz_bV_some, tz_bL_some, cj10, cj01, cjm0, eq_self, not_true_eq_false, not_false_eq_true, or_false, false_or, or_true, true_or, or_self, and_true, true_and, and_false, false_and, nj_eqf, nj_ltt, nj_ltf, nj_let, nj_lef, nj_cl, nt_lef, xt_b]
theorem bo_0_5 {A : tz_Mem} : f_X0_bodyOf (tz_j 0) (tz_j 5) A = some (some (.int (tz_j 0)), A) := by
  rw [e_X0_bodyOf]
  simp (disch := omega) only [tz_lit, nj_m1, nj_m2, nj_m3, nj_m4, nj_m5, nj_m6, nj_m7, ↓reduceIte, tz_bI_some, tz_bV_some, tz_bL_some, cj10, cj01, cjm0, eq_self, not_true_eq_false, not_false_eq_true, or_false, false_or, or_true, true_or, or_self, and_true, true_and, and_false, false_and, nj_eqf, nj_ltt, nj_ltf, nj_let, nj_lef, nj_cl, nt_lef, xt_b]
theorem bo_0_6 {A : tz_Mem} : f_X0_bodyOf (tz_j 0) (tz_j 6) A = some (some (.int (tz_j 70)), A) := by
  rw [e_X0_bodyOf]
  simp (disch := omega) only [tz_lit, nj_m1, nj_m2, nj_m3, nj_m4, nj_m5, nj_m6, nj_m7, ↓reduceIte, tz_bI_some, tz_bV_some, tz_bL_some, cj10, cj01, cjm0, eq_self, not_true_eq_false, not_false_eq_true, or_false, false_or, or_true, true_or, or_self, and_true, true_and, and_false, false_and, nj_eqf, nj_ltt, nj_ltf, nj_let, nj_lef, nj_cl, nt_lef, xt_b]
theorem bo_1_0 {A : tz_Mem} : f_X0_bodyOf (tz_j 1) (tz_j 0) A = some (some (.int (tz_j 11)), A) := by
  rw [e_X0_bodyOf]
  simp (disch := omega) only [tz_lit, nj_m1, nj_m2, nj_m3, nj_m4, nj_m5, nj_m6, nj_m7, ↓reduceIte, tz_bI_some, tz_bV_some, tz_bL_some, cj10, cj01, cjm0, eq_self, not_true_eq_false, not_false_eq_true, or_false, false_or, or_true, true_or, or_self, and_true, true_and, and_false, false_and, nj_eqf, nj_ltt, nj_ltf, nj_let, nj_lef, nj_cl, nt_lef, xt_c]
theorem bo_1_1 {A : tz_Mem} : f_X0_bodyOf (tz_j 1) (tz_j 1) A = some (some (.int (tz_j 0)), A) := by
  rw [e_X0_bodyOf]
  simp (disch := omega) only [tz_lit, nj_m1, nj_m2, nj_m3, nj_m4, nj_m5, nj_m6, nj_m7, ↓reduceIte, tz_bI_some, tz_bV_some, tz_bL_some, cj10, cj01, cjm0, eq_self, not_true_eq_false, not_false_eq_true, or_false, false_or, or_true, true_or, or_self, and_true, true_and, and_false, false_and, nj_eqf, nj_ltt, nj_ltf, nj_let, nj_lef, nj_cl, nt_lef, xt_c]
theorem bo_1_2 {A : tz_Mem} : f_X0_bodyOf (tz_j 1) (tz_j 2) A = some (some (.int (tz_j 30)), A) := by
  rw [e_X0_bodyOf]
  simp (disch := omega) only [tz_lit, nj_m1, nj_m2, nj_m3, nj_m4, nj_m5, nj_m6, nj_m7, ↓reduceIte, tz_bI_some, tz_bV_some, tz_bL_some, cj10, cj01, cjm0, eq_self, not_true_eq_false, not_false_eq_true, or_false, false_or, or_true, true_or, or_self, and_true, true_and, and_false, false_and, nj_eqf, nj_ltt, nj_ltf, nj_let, nj_lef, nj_cl, nt_lef, xt_c]
theorem bo_1_3 {A : tz_Mem} : f_X0_bodyOf (tz_j 1) (tz_j 3) A = some (some (.int (tz_j 40)), A) := by
  rw [e_X0_bodyOf]
  simp (disch := omega) only [tz_lit, nj_m1, nj_m2, nj_m3, nj_m4, nj_m5, nj_m6, nj_m7, ↓reduceIte, tz_bI_some, tz_bV_some, tz_bL_some, cj10, cj01, cjm0, eq_self, not_true_eq_false, not_false_eq_true, or_false, false_or, or_true, true_or, or_self, and_true, true_and, and_false, false_and, nj_eqf, nj_ltt, nj_ltf, nj_let, nj_lef, nj_cl, nt_lef, xt_c]
theorem bo_1_4 {A : tz_Mem} : f_X0_bodyOf (tz_j 1) (tz_j 4) A = some (some (.int (tz_j 0)), A) := by
  rw [e_X0_bodyOf]
  simp (disch := omega) only [tz_lit, nj_m1, nj_m2, nj_m3, nj_m4, nj_m5, nj_m6, nj_m7, ↓reduceIte, tz_bI_some, tz_bV_some, tz_bL_some, cj10, cj01, cjm0, eq_self, not_true_eq_false, not_false_eq_true, or_false, false_or, or_true, true_or, or_self, and_true, true_and, and_false, false_and, nj_eqf, nj_ltt, nj_ltf, nj_let, nj_lef, nj_cl, nt_lef, xt_c]
theorem bo_1_5 {A : tz_Mem} : f_X0_bodyOf (tz_j 1) (tz_j 5) A = some (some (.int (tz_j 0)), A) := by
  rw [e_X0_bodyOf]
  simp (disch := omega) only [tz_lit, nj_m1, nj_m2, nj_m3, nj_m4, nj_m5, nj_m6, nj_m7, ↓reduceIte, tz_bI_some, tz_bV_some, tz_bL_some, cj10, cj01, cjm0, eq_self, not_true_eq_false, not_false_eq_true, or_false, false_or, or_true, true_or, or_self, and_true, true_and, and_false, false_and, nj_eqf, nj_ltt, nj_ltf, nj_let, nj_lef, nj_cl, nt_lef, xt_c]
theorem bo_1_6 {A : tz_Mem} : f_X0_bodyOf (tz_j 1) (tz_j 6) A = some (some (.int (tz_j 71)), A) := by
  rw [e_X0_bodyOf]
  simp (disch := omega) only [tz_lit, nj_m1, nj_m2, nj_m3, nj_m4, nj_m5, nj_m6, nj_m7, ↓reduceIte, tz_bI_some, tz_bV_some, tz_bL_some, cj10, cj01, cjm0, eq_self, not_true_eq_false, not_false_eq_true, or_false, false_or, or_true, true_or, or_self, and_true, true_and, and_false, false_and, nj_eqf, nj_ltt, nj_ltf, nj_let, nj_lef, nj_cl, nt_lef, xt_c]
theorem bo_2_0 {A : tz_Mem} : f_X0_bodyOf (tz_j 2) (tz_j 0) A = some (some (.int (tz_j 12)), A) := by
  rw [e_X0_bodyOf]
  simp (disch := omega) only [tz_lit, nj_m1, nj_m2, nj_m3, nj_m4, nj_m5, nj_m6, nj_m7, ↓reduceIte, tz_bI_some, tz_bV_some, tz_bL_some, cj10, cj01, cjm0, eq_self, not_true_eq_false, not_false_eq_true, or_false, false_or, or_true, true_or, or_self, and_true, true_and, and_false, false_and, nj_eqf, nj_ltt, nj_ltf, nj_let, nj_lef, nj_cl, nt_lef, xt_d]
theorem bo_2_1 {A : tz_Mem} : f_X0_bodyOf (tz_j 2) (tz_j 1) A = some (some (.int (tz_j 0)), A) := by
  rw [e_X0_bodyOf]
  simp (disch := omega) only [tz_lit, nj_m1, nj_m2, nj_m3, nj_m4, nj_m5, nj_m6, nj_m7, ↓reduceIte, tz_bI_some, tz_bV_some, tz_bL_some, cj10, cj01, cjm0, eq_self, not_true_eq_false, not_false_eq_true, or_false, false_or, or_true, true_or, or_self, and_true, true_and, and_false, false_and, nj_eqf, nj_ltt, nj_ltf, nj_let, nj_lef, nj_cl, nt_lef, xt_d]
theorem bo_2_2 {A : tz_Mem} : f_X0_bodyOf (tz_j 2) (tz_j 2) A = some (some (.int (tz_j 0)), A) := by
  rw [e_X0_bodyOf]
  simp (disch := omega) only [tz_lit, nj_m1, nj_m2, nj_m3, nj_m4, nj_m5, nj_m6, nj_m7, ↓reduceIte, tz_bI_some, tz_bV_some, tz_bL_some, cj10, cj01, cjm0, eq_self, not_true_eq_false, not_false_eq_true, or_false, false_or, or_true, true_or, or_self, and_true, true_and, and_false, false_and, nj_eqf, nj_ltt, nj_ltf, nj_let, nj_lef, nj_cl, nt_lef, xt_d]
theorem bo_2_3 {A : tz_Mem} : f_X0_bodyOf (tz_j 2) (tz_j 3) A = some (some (.int (tz_j 0)), A) := by
  rw [e_X0_bodyOf]
  simp (disch := omega) only [tz_lit, nj_m1, nj_m2, nj_m3, nj_m4, nj_m5, nj_m6, nj_m7, ↓reduceIte, tz_bI_some, tz_bV_some, tz_bL_some, cj10, cj01, cjm0, eq_self, not_true_eq_false, not_false_eq_true, or_false, false_or, or_true, true_or, or_self, and_true, true_and, and_false, false_and, nj_eqf, nj_ltt, nj_ltf, nj_let, nj_lef, nj_cl, nt_lef, xt_d]
theorem bo_2_4 {A : tz_Mem} : f_X0_bodyOf (tz_j 2) (tz_j 4) A = some (some (.int (tz_j 50)), A) := by
  rw [e_X0_bodyOf]
  simp (disch := omega) only [tz_lit, nj_m1, nj_m2, nj_m3, nj_m4, nj_m5, nj_m6, nj_m7, ↓reduceIte, tz_bI_some, tz_bV_some, tz_bL_some, cj10, cj01, cjm0, eq_self, not_true_eq_false, not_false_eq_true, or_false, false_or, or_true, true_or, or_self, and_true, true_and, and_false, false_and, nj_eqf, nj_ltt, nj_ltf, nj_let, nj_lef, nj_cl, nt_lef, xt_d]
theorem bo_2_5 {A : tz_Mem} : f_X0_bodyOf (tz_j 2) (tz_j 5) A = some (some (.int (tz_j 60)), A) := by
  rw [e_X0_bodyOf]
  simp (disch := omega) only [tz_lit, nj_m1, nj_m2, nj_m3, nj_m4, nj_m5, nj_m6, nj_m7, ↓reduceIte, tz_bI_some, tz_bV_some, tz_bL_some, cj10, cj01, cjm0, eq_self, not_true_eq_false, not_false_eq_true, or_false, false_or, or_true, true_or, or_self, and_true, true_and, and_false, false_and, nj_eqf, nj_ltt, nj_ltf, nj_let, nj_lef, nj_cl, nt_lef, xt_d]
theorem bo_2_6 {A : tz_Mem} : f_X0_bodyOf (tz_j 2) (tz_j 6) A = some (some (.int (tz_j 0)), A) := by
  rw [e_X0_bodyOf]
  simp (disch := omega) only [tz_lit, nj_m1, nj_m2, nj_m3, nj_m4, nj_m5, nj_m6, nj_m7, ↓reduceIte, tz_bI_some, tz_bV_some, tz_bL_some, cj10, cj01, cjm0, eq_self, not_true_eq_false, not_false_eq_true, or_false, false_or, or_true, true_or, or_self, and_true, true_and, and_false, false_and, nj_eqf, nj_ltt, nj_ltf, nj_let, nj_lef, nj_cl, nt_lef, xt_d]
theorem kq_0_0 {A : tz_Mem} {i : Nat} (hi : i < 8) : q_X0_kindWithBody_4 (tz_j 0) (tz_j 0) (tz_j i) A = some (some (.int (tz_j 0)), A) := by
  rw [e_X0_kindWithBody_4]
  split
  · simp (disch := omega) only [tz_lit, nj_m1, nj_m2, nj_m3, nj_m4, nj_m5, nj_m6, nj_m7, ↓reduceIte, tz_bI_some, tz_bV_some, tz_bL_some, cj10, cj01, cjm0, eq_self, not_true_eq_false, not_false_eq_true, or_false, false_or, or_true, true_or, or_self, and_true, true_and, and_false, false_and, nj_eqf, nj_ltt, nj_ltf, nj_let, nj_lef, nj_cl, nt_lef]
  · simp (disch := omega) only [tz_lit, nj_m1, nj_m2, nj_m3, nj_m4, nj_m5, nj_m6, nj_m7, ↓reduceIte, tz_bI_some, tz_bV_some, tz_bL_some, cj10, cj01, cjm0, eq_self, not_true_eq_false, not_false_eq_true, or_false, false_or, or_true, true_or, or_self, and_true, true_and, and_false, false_and, nj_eqf, nj_ltt, nj_ltf, nj_let, nj_lef, nj_cl, nt_lef]
theorem kq_0_1 {A : tz_Mem} {i : Nat} (hi : i < 5) : q_X0_kindWithBody_4 (tz_j 0) (tz_j 1) (tz_j i) A = some (some (.int (tz_j 1)), A) := by
  rw [e_X0_kindWithBody_4]
  simp (disch := omega) only [tz_lit, nj_m1, nj_m2, nj_m3, nj_m4, nj_m5, nj_m6, nj_m7, ↓reduceIte, tz_bI_some, tz_bV_some, tz_bL_some, cj10, cj01, cjm0, eq_self, not_true_eq_false, not_false_eq_true, or_false, false_or, or_true, true_or, or_self, and_true, true_and, and_false, false_and, nj_eqf, nj_ltt, nj_ltf, nj_let, nj_lef, nj_cl, nt_lef, bo_0_1]
theorem kq_0_2 {A : tz_Mem} {i : Nat} (hi : i < 5) : q_X0_kindWithBody_4 (tz_j 0) (tz_j 2) (tz_j i) A = some (some (.int (tz_j 0)), A) := by
  rw [e_X0_kindWithBody_4]
  simp (disch := omega) only [tz_lit, nj_m1, nj_m2, nj_m3, nj_m4, nj_m5, nj_m6, nj_m7, ↓reduceIte, tz_bI_some, tz_bV_some, tz_bL_some, cj10, cj01, cjm0, eq_self, not_true_eq_false, not_false_eq_true, or_false, false_or, or_true, true_or, or_self, and_true, true_and, and_false, false_and, nj_eqf, nj_ltt, nj_ltf, nj_let, nj_lef, nj_cl, nt_lef, bo_0_2, xt_a, nj_add, kq_0_0 (A := A) (i := i + 1) (by omega)]
theorem kq_0_4 {A : tz_Mem} {i : Nat} (hi : i < 5) : q_X0_kindWithBody_4 (tz_j 0) (tz_j 4) (tz_j i) A = some (some (.int (tz_j 4)), A) := by
  rw [e_X0_kindWithBody_4]
  simp (disch := omega) only [tz_lit, nj_m1, nj_m2, nj_m3, nj_m4, nj_m5, nj_m6, nj_m7, ↓reduceIte, tz_bI_some, tz_bV_some, tz_bL_some, cj10, cj01, cjm0, eq_self, not_true_eq_false, not_false_eq_true, or_false, false_or, or_true, true_or, or_self, and_true, true_and, and_false, false_and, nj_eqf, nj_ltt, nj_ltf, nj_let, nj_lef, nj_cl, nt_lef, bo_0_4]
theorem kq_0_3 {A : tz_Mem} {i : Nat} (hi : i < 4) : q_X0_kindWithBody_4 (tz_j 0) (tz_j 3) (tz_j i) A = some (some (.int (tz_j 1)), A) := by
  rw [e_X0_kindWithBody_4]
  simp (disch := omega) only [tz_lit, nj_m1, nj_m2, nj_m3, nj_m4, nj_m5, nj_m6, nj_m7, ↓reduceIte, tz_bI_some, tz_bV_some, tz_bL_some, cj10, cj01, cjm0, eq_self, not_true_eq_false, not_false_eq_true, or_false, false_or, or_true, true_or, or_self, and_true, true_and, and_false, false_and, nj_eqf, nj_ltt, nj_ltf, nj_let, nj_lef, nj_cl, nt_lef, bo_0_3, xt_a, nj_add, kq_0_1 (A := A) (i := i + 1) (by omega)]
theorem kq_0_5 {A : tz_Mem} {i : Nat} (hi : i < 4) : q_X0_kindWithBody_4 (tz_j 0) (tz_j 5) (tz_j i) A = some (some (.int (tz_j 0)), A) := by
  rw [e_X0_kindWithBody_4]
  simp (disch := omega) only [tz_lit, nj_m1, nj_m2, nj_m3, nj_m4, nj_m5, nj_m6, nj_m7, ↓reduceIte, tz_bI_some, tz_bV_some, tz_bL_some, cj10, cj01, cjm0, eq_self, not_true_eq_false, not_false_eq_true, or_false, false_or, or_true, true_or, or_self, and_true, true_and, and_false, false_and, nj_eqf, nj_ltt, nj_ltf, nj_let, nj_lef, nj_cl, nt_lef, bo_0_5, xt_a, nj_add, kq_0_2 (A := A) (i := i + 1) (by omega)]
theorem kq_0_6 {A : tz_Mem} {i : Nat} (hi : i < 5) : q_X0_kindWithBody_4 (tz_j 0) (tz_j 6) (tz_j i) A = some (some (.int (tz_j 6)), A) := by
  rw [e_X0_kindWithBody_4]
  simp (disch := omega) only [tz_lit, nj_m1, nj_m2, nj_m3, nj_m4, nj_m5, nj_m6, nj_m7, ↓reduceIte, tz_bI_some, tz_bV_some, tz_bL_some, cj10, cj01, cjm0, eq_self, not_true_eq_false, not_false_eq_true, or_false, false_or, or_true, true_or, or_self, and_true, true_and, and_false, false_and, nj_eqf, nj_ltt, nj_ltf, nj_let, nj_lef, nj_cl, nt_lef, bo_0_6]
theorem kw_0_0 {A : tz_Mem} : f_X0_kindWithBody (tz_j 0) (tz_j 0) A = some (some (.int (tz_j 0)), A) := by
  rw [e_X0_kindWithBody]
  exact kq_0_0 (i := 0) (by omega)
theorem kw_0_1 {A : tz_Mem} : f_X0_kindWithBody (tz_j 0) (tz_j 1) A = some (some (.int (tz_j 1)), A) := by
  rw [e_X0_kindWithBody]
  exact kq_0_1 (i := 0) (by omega)
theorem kw_0_2 {A : tz_Mem} : f_X0_kindWithBody (tz_j 0) (tz_j 2) A = some (some (.int (tz_j 0)), A) := by
  rw [e_X0_kindWithBody]
  exact kq_0_2 (i := 0) (by omega)
theorem kw_0_3 {A : tz_Mem} : f_X0_kindWithBody (tz_j 0) (tz_j 3) A = some (some (.int (tz_j 1)), A) := by
  rw [e_X0_kindWithBody]
  exact kq_0_3 (i := 0) (by omega)
theorem kw_0_4 {A : tz_Mem} : f_X0_kindWithBody (tz_j 0) (tz_j 4) A = some (some (.int (tz_j 4)), A) := by
  rw [e_X0_kindWithBody]
  exact kq_0_4 (i := 0) (by omega)
theorem kw_0_5 {A : tz_Mem} : f_X0_kindWithBody (tz_j 0) (tz_j 5) A = some (some (.int (tz_j 0)), A) := by
  rw [e_X0_kindWithBody]
  exact kq_0_5 (i := 0) (by omega)
theorem kw_0_6 {A : tz_Mem} : f_X0_kindWithBody (tz_j 0) (tz_j 6) A = some (some (.int (tz_j 6)), A) := by
  rw [e_X0_kindWithBody]
  exact kq_0_6 (i := 0) (by omega)
theorem kq_1_0 {A : tz_Mem} {i : Nat} (hi : i < 8) : q_X0_kindWithBody_4 (tz_j 1) (tz_j 0) (tz_j i) A = some (some (.int (tz_j 0)), A) := by
  rw [e_X0_kindWithBody_4]
  split
  · simp (disch := omega) only [tz_lit, nj_m1, nj_m2, nj_m3, nj_m4, nj_m5, nj_m6, nj_m7, ↓reduceIte, tz_bI_some, tz_bV_some, tz_bL_some, cj10, cj01, cjm0, eq_self, not_true_eq_false, not_false_eq_true, or_false, false_or, or_true, true_or, or_self, and_true, true_and, and_false, false_and, nj_eqf, nj_ltt, nj_ltf, nj_let, nj_lef, nj_cl, nt_lef]
  · simp (disch := omega) only [tz_lit, nj_m1, nj_m2, nj_m3, nj_m4, nj_m5, nj_m6, nj_m7, ↓reduceIte, tz_bI_some, tz_bV_some, tz_bL_some, cj10, cj01, cjm0, eq_self, not_true_eq_false, not_false_eq_true, or_false, false_or, or_true, true_or, or_self, and_true, true_and, and_false, false_and, nj_eqf, nj_ltt, nj_ltf, nj_let, nj_lef, nj_cl, nt_lef]
theorem kq_1_1 {A : tz_Mem} {i : Nat} (hi : i < 5) : q_X0_kindWithBody_4 (tz_j 1) (tz_j 1) (tz_j i) A = some (some (.int (tz_j 0)), A) := by
  rw [e_X0_kindWithBody_4]
  simp (disch := omega) only [tz_lit, nj_m1, nj_m2, nj_m3, nj_m4, nj_m5, nj_m6, nj_m7, ↓reduceIte, tz_bI_some, tz_bV_some, tz_bL_some, cj10, cj01, cjm0, eq_self, not_true_eq_false, not_false_eq_true, or_false, false_or, or_true, true_or, or_self, and_true, true_and, and_false, false_and, nj_eqf, nj_ltt, nj_ltf, nj_let, nj_lef, nj_cl, nt_lef, bo_1_1, xt_a, nj_add, kq_1_0 (A := A) (i := i + 1) (by omega)]
theorem kq_1_2 {A : tz_Mem} {i : Nat} (hi : i < 5) : q_X0_kindWithBody_4 (tz_j 1) (tz_j 2) (tz_j i) A = some (some (.int (tz_j 2)), A) := by
  rw [e_X0_kindWithBody_4]
  simp (disch := omega) only [tz_lit, nj_m1, nj_m2, nj_m3, nj_m4, nj_m5, nj_m6, nj_m7, ↓reduceIte, tz_bI_some, tz_bV_some, tz_bL_some, cj10, cj01, cjm0, eq_self, not_true_eq_false, not_false_eq_true, or_false, false_or, or_true, true_or, or_self, and_true, true_and, and_false, false_and, nj_eqf, nj_ltt, nj_ltf, nj_let, nj_lef, nj_cl, nt_lef, bo_1_2]
theorem kq_1_4 {A : tz_Mem} {i : Nat} (hi : i < 5) : q_X0_kindWithBody_4 (tz_j 1) (tz_j 4) (tz_j i) A = some (some (.int (tz_j 0)), A) := by
  rw [e_X0_kindWithBody_4]
  simp (disch := omega) only [tz_lit, nj_m1, nj_m2, nj_m3, nj_m4, nj_m5, nj_m6, nj_m7, ↓reduceIte, tz_bI_some, tz_bV_some, tz_bL_some, cj10, cj01, cjm0, eq_self, not_true_eq_false, not_false_eq_true, or_false, false_or, or_true, true_or, or_self, and_true, true_and, and_false, false_and, nj_eqf, nj_ltt, nj_ltf, nj_let, nj_lef, nj_cl, nt_lef, bo_1_4, xt_a, nj_add, kq_1_0 (A := A) (i := i + 1) (by omega)]
theorem kq_1_3 {A : tz_Mem} {i : Nat} (hi : i < 5) : q_X0_kindWithBody_4 (tz_j 1) (tz_j 3) (tz_j i) A = some (some (.int (tz_j 3)), A) := by
  rw [e_X0_kindWithBody_4]
  simp (disch := omega) only [tz_lit, nj_m1, nj_m2, nj_m3, nj_m4, nj_m5, nj_m6, nj_m7, ↓reduceIte, tz_bI_some, tz_bV_some, tz_bL_some, cj10, cj01, cjm0, eq_self, not_true_eq_false, not_false_eq_true, or_false, false_or, or_true, true_or, or_self, and_true, true_and, and_false, false_and, nj_eqf, nj_ltt, nj_ltf, nj_let, nj_lef, nj_cl, nt_lef, bo_1_3]
theorem kq_1_5 {A : tz_Mem} {i : Nat} (hi : i < 4) : q_X0_kindWithBody_4 (tz_j 1) (tz_j 5) (tz_j i) A = some (some (.int (tz_j 2)), A) := by
  rw [e_X0_kindWithBody_4]
  simp (disch := omega) only [tz_lit, nj_m1, nj_m2, nj_m3, nj_m4, nj_m5, nj_m6, nj_m7, ↓reduceIte, tz_bI_some, tz_bV_some, tz_bL_some, cj10, cj01, cjm0, eq_self, not_true_eq_false, not_false_eq_true, or_false, false_or, or_true, true_or, or_self, and_true, true_and, and_false, false_and, nj_eqf, nj_ltt, nj_ltf, nj_let, nj_lef, nj_cl, nt_lef, bo_1_5, xt_a, nj_add, kq_1_2 (A := A) (i := i + 1) (by omega)]
theorem kq_1_6 {A : tz_Mem} {i : Nat} (hi : i < 5) : q_X0_kindWithBody_4 (tz_j 1) (tz_j 6) (tz_j i) A = some (some (.int (tz_j 6)), A) := by
  rw [e_X0_kindWithBody_4]
  simp (disch := omega) only [tz_lit, nj_m1, nj_m2, nj_m3, nj_m4, nj_m5, nj_m6, nj_m7, ↓reduceIte, tz_bI_some, tz_bV_some, tz_bL_some, cj10, cj01, cjm0, eq_self, not_true_eq_false, not_false_eq_true, or_false, false_or, or_true, true_or, or_self, and_true, true_and, and_false, false_and, nj_eqf, nj_ltt, nj_ltf, nj_let, nj_lef, nj_cl, nt_lef, bo_1_6]
theorem kw_1_0 {A : tz_Mem} : f_X0_kindWithBody (tz_j 1) (tz_j 0) A = some (some (.int (tz_j 0)), A) := by
  rw [e_X0_kindWithBody]
  exact kq_1_0 (i := 0) (by omega)
theorem kw_1_1 {A : tz_Mem} : f_X0_kindWithBody (tz_j 1) (tz_j 1) A = some (some (.int (tz_j 0)), A) := by
  rw [e_X0_kindWithBody]
  exact kq_1_1 (i := 0) (by omega)
theorem kw_1_2 {A : tz_Mem} : f_X0_kindWithBody (tz_j 1) (tz_j 2) A = some (some (.int (tz_j 2)), A) := by
  rw [e_X0_kindWithBody]
  exact kq_1_2 (i := 0) (by omega)
theorem kw_1_3 {A : tz_Mem} : f_X0_kindWithBody (tz_j 1) (tz_j 3) A = some (some (.int (tz_j 3)), A) := by
  rw [e_X0_kindWithBody]
  exact kq_1_3 (i := 0) (by omega)
theorem kw_1_4 {A : tz_Mem} : f_X0_kindWithBody (tz_j 1) (tz_j 4) A = some (some (.int (tz_j 0)), A) := by
  rw [e_X0_kindWithBody]
  exact kq_1_4 (i := 0) (by omega)
theorem kw_1_5 {A : tz_Mem} : f_X0_kindWithBody (tz_j 1) (tz_j 5) A = some (some (.int (tz_j 2)), A) := by
  rw [e_X0_kindWithBody]
  exact kq_1_5 (i := 0) (by omega)
theorem kw_1_6 {A : tz_Mem} : f_X0_kindWithBody (tz_j 1) (tz_j 6) A = some (some (.int (tz_j 6)), A) := by
  rw [e_X0_kindWithBody]
  exact kq_1_6 (i := 0) (by omega)
theorem kq_2_0 {A : tz_Mem} {i : Nat} (hi : i < 8) : q_X0_kindWithBody_4 (tz_j 2) (tz_j 0) (tz_j i) A = some (some (.int (tz_j 0)), A) := by
  rw [e_X0_kindWithBody_4]
  split
  · simp (disch := omega) only [tz_lit, nj_m1, nj_m2, nj_m3, nj_m4, nj_m5, nj_m6, nj_m7, ↓reduceIte, tz_bI_some, tz_bV_some, tz_bL_some, cj10, cj01, cjm0, eq_self, not_true_eq_false, not_false_eq_true, or_false, false_or, or_true, true_or, or_self, and_true, true_and, and_false, false_and, nj_eqf, nj_ltt, nj_ltf, nj_let, nj_lef, nj_cl, nt_lef]
  · simp (disch := omega) only [tz_lit, nj_m1, nj_m2, nj_m3, nj_m4, nj_m5, nj_m6, nj_m7, ↓reduceIte, tz_bI_some, tz_bV_some, tz_bL_some, cj10, cj01, cjm0, eq_self, not_true_eq_false, not_false_eq_true, or_false, false_or, or_true, true_or, or_self, and_true, true_and, and_false, false_and, nj_eqf, nj_ltt, nj_ltf, nj_let, nj_lef, nj_cl, nt_lef]
theorem kq_2_1 {A : tz_Mem} {i : Nat} (hi : i < 5) : q_X0_kindWithBody_4 (tz_j 2) (tz_j 1) (tz_j i) A = some (some (.int (tz_j 0)), A) := by
  rw [e_X0_kindWithBody_4]
  simp (disch := omega) only [tz_lit, nj_m1, nj_m2, nj_m3, nj_m4, nj_m5, nj_m6, nj_m7, ↓reduceIte, tz_bI_some, tz_bV_some, tz_bL_some, cj10, cj01, cjm0, eq_self, not_true_eq_false, not_false_eq_true, or_false, false_or, or_true, true_or, or_self, and_true, true_and, and_false, false_and, nj_eqf, nj_ltt, nj_ltf, nj_let, nj_lef, nj_cl, nt_lef, bo_2_1, xt_a, nj_add, kq_2_0 (A := A) (i := i + 1) (by omega)]
theorem kq_2_2 {A : tz_Mem} {i : Nat} (hi : i < 5) : q_X0_kindWithBody_4 (tz_j 2) (tz_j 2) (tz_j i) A = some (some (.int (tz_j 0)), A) := by
  rw [e_X0_kindWithBody_4]
  simp (disch := omega) only [tz_lit, nj_m1, nj_m2, nj_m3, nj_m4, nj_m5, nj_m6, nj_m7, ↓reduceIte, tz_bI_some, tz_bV_some, tz_bL_some, cj10, cj01, cjm0, eq_self, not_true_eq_false, not_false_eq_true, or_false, false_or, or_true, true_or, or_self, and_true, true_and, and_false, false_and, nj_eqf, nj_ltt, nj_ltf, nj_let, nj_lef, nj_cl, nt_lef, bo_2_2, xt_a, nj_add, kq_2_0 (A := A) (i := i + 1) (by omega)]
theorem kq_2_4 {A : tz_Mem} {i : Nat} (hi : i < 5) : q_X0_kindWithBody_4 (tz_j 2) (tz_j 4) (tz_j i) A = some (some (.int (tz_j 4)), A) := by
  rw [e_X0_kindWithBody_4]
  simp (disch := omega) only [tz_lit, nj_m1, nj_m2, nj_m3, nj_m4, nj_m5, nj_m6, nj_m7, ↓reduceIte, tz_bI_some, tz_bV_some, tz_bL_some, cj10, cj01, cjm0, eq_self, not_true_eq_false, not_false_eq_true, or_false, false_or, or_true, true_or, or_self, and_true, true_and, and_false, false_and, nj_eqf, nj_ltt, nj_ltf, nj_let, nj_lef, nj_cl, nt_lef, bo_2_4]
theorem kq_2_3 {A : tz_Mem} {i : Nat} (hi : i < 4) : q_X0_kindWithBody_4 (tz_j 2) (tz_j 3) (tz_j i) A = some (some (.int (tz_j 0)), A) := by
  rw [e_X0_kindWithBody_4]
  simp (disch := omega) only [tz_lit, nj_m1, nj_m2, nj_m3, nj_m4, nj_m5, nj_m6, nj_m7, ↓reduceIte, tz_bI_some, tz_bV_some, tz_bL_some, cj10, cj01, cjm0, eq_self, not_true_eq_false, not_false_eq_true, or_false, false_or, or_true, true_or, or_self, and_true, true_and, and_false, false_and, nj_eqf, nj_ltt, nj_ltf, nj_let, nj_lef, nj_cl, nt_lef, bo_2_3, xt_a, nj_add, kq_2_1 (A := A) (i := i + 1) (by omega)]
theorem kq_2_5 {A : tz_Mem} {i : Nat} (hi : i < 5) : q_X0_kindWithBody_4 (tz_j 2) (tz_j 5) (tz_j i) A = some (some (.int (tz_j 5)), A) := by
  rw [e_X0_kindWithBody_4]
  simp (disch := omega) only [tz_lit, nj_m1, nj_m2, nj_m3, nj_m4, nj_m5, nj_m6, nj_m7, ↓reduceIte, tz_bI_some, tz_bV_some, tz_bL_some, cj10, cj01, cjm0, eq_self, not_true_eq_false, not_false_eq_true, or_false, false_or, or_true, true_or, or_self, and_true, true_and, and_false, false_and, nj_eqf, nj_ltt, nj_ltf, nj_let, nj_lef, nj_cl, nt_lef, bo_2_5]
theorem kq_2_6 {A : tz_Mem} {i : Nat} (hi : i < 4) : q_X0_kindWithBody_4 (tz_j 2) (tz_j 6) (tz_j i) A = some (some (.int (tz_j 4)), A) := by
  rw [e_X0_kindWithBody_4]
  simp (disch := omega) only [tz_lit, nj_m1, nj_m2, nj_m3, nj_m4, nj_m5, nj_m6, nj_m7, ↓reduceIte, tz_bI_some, tz_bV_some, tz_bL_some, cj10, cj01, cjm0, eq_self, not_true_eq_false, not_false_eq_true, or_false, false_or, or_true, true_or, or_self, and_true, true_and, and_false, false_and, nj_eqf, nj_ltt, nj_ltf, nj_let, nj_lef, nj_cl, nt_lef, bo_2_6, xt_a, nj_add, kq_2_4 (A := A) (i := i + 1) (by omega)]
theorem kw_2_0 {A : tz_Mem} : f_X0_kindWithBody (tz_j 2) (tz_j 0) A = some (some (.int (tz_j 0)), A) := by
  rw [e_X0_kindWithBody]
  exact kq_2_0 (i := 0) (by omega)
theorem kw_2_1 {A : tz_Mem} : f_X0_kindWithBody (tz_j 2) (tz_j 1) A = some (some (.int (tz_j 0)), A) := by
  rw [e_X0_kindWithBody]
  exact kq_2_1 (i := 0) (by omega)
theorem kw_2_2 {A : tz_Mem} : f_X0_kindWithBody (tz_j 2) (tz_j 2) A = some (some (.int (tz_j 0)), A) := by
  rw [e_X0_kindWithBody]
  exact kq_2_2 (i := 0) (by omega)
theorem kw_2_3 {A : tz_Mem} : f_X0_kindWithBody (tz_j 2) (tz_j 3) A = some (some (.int (tz_j 0)), A) := by
  rw [e_X0_kindWithBody]
  exact kq_2_3 (i := 0) (by omega)
theorem kw_2_4 {A : tz_Mem} : f_X0_kindWithBody (tz_j 2) (tz_j 4) A = some (some (.int (tz_j 4)), A) := by
  rw [e_X0_kindWithBody]
  exact kq_2_4 (i := 0) (by omega)
theorem kw_2_5 {A : tz_Mem} : f_X0_kindWithBody (tz_j 2) (tz_j 5) A = some (some (.int (tz_j 5)), A) := by
  rw [e_X0_kindWithBody]
  exact kq_2_5 (i := 0) (by omega)
theorem kw_2_6 {A : tz_Mem} : f_X0_kindWithBody (tz_j 2) (tz_j 6) A = some (some (.int (tz_j 4)), A) := by
  rw [e_X0_kindWithBody]
  exact kq_2_6 (i := 0) (by omega)
theorem cr_0_0_0_x {A : tz_Mem} {n : Nat} {x mm oo : Int32} (h0 : tz_g A 148 0 = tz_j n) (hn : n + 1 ≤ 60) (h2 : tz_g A 148 2 = mm) (h3 : tz_g A 148 3 = oo) : f_X0_run_0 (tz_j 0) (tz_j 0) x (tz_j 0) A = some (some (.int (x + mm)), (nt A n (tz_j 10))) := by
  have e1 := e_nt (x := tz_j 10) h0 (by omega)
  have a1 : ∀ f, tz_bI (f_X0_kindWithBody (tz_j 0) (tz_j 0) A) f = f (tz_j 0) A := bI_pre kw_0_0
  have a2 := bI_pre (bo_0_0 (A := A))
  have a3 := bV_pre e1
  rw [e_X0_run_0]
  simp (disch := omega) only [tz_lit, nj_m1, nj_m2, nj_m3, nj_m4, nj_m5, nj_m6, nj_m7, ↓reduceIte, tz_bI_some, tz_bV_some, tz_bL_some, cj10, cj01, cjm0, eq_self, not_true_eq_false, not_false_eq_true, or_false, false_or, or_true, true_or, or_self, and_true, true_and, and_false, false_and, nj_eqf, nj_ltt, nj_ltf, nj_let, nj_lef, nj_cl, nt_lef, ↓a1, ↓a2, ↓a3, xt_a, nt2, h2, h3, nj_add]
theorem cr_1_0_0_x {A : tz_Mem} {n : Nat} {x mm oo : Int32} (h0 : tz_g A 148 0 = tz_j n) (hn : n + 1 ≤ 60) (h2 : tz_g A 148 2 = mm) (h3 : tz_g A 148 3 = oo) : f_X0_run_1 (tz_j 0) (tz_j 0) x (tz_j 1) A = some (some (.int (x + mm)), (nt A n (tz_j 10))) := by
  have e1 := e_nt (x := tz_j 10) h0 (by omega)
  have a1 : ∀ f, tz_bI (f_X0_kindWithBody (tz_j 0) (tz_j 0) A) f = f (tz_j 0) A := bI_pre kw_0_0
  have a2 := bI_pre (bo_0_0 (A := A))
  have a3 := bV_pre e1
  rw [e_X0_run_1]
  simp (disch := omega) only [tz_lit, nj_m1, nj_m2, nj_m3, nj_m4, nj_m5, nj_m6, nj_m7, ↓reduceIte, tz_bI_some, tz_bV_some, tz_bL_some, cj10, cj01, cjm0, eq_self, not_true_eq_false, not_false_eq_true, or_false, false_or, or_true, true_or, or_self, and_true, true_and, and_false, false_and, nj_eqf, nj_ltt, nj_ltf, nj_let, nj_lef, nj_cl, nt_lef, ↓a1, ↓a2, ↓a3, xt_a, nt2, h2, h3, nj_add]
theorem cr_0_0_1_x {A : tz_Mem} {n : Nat} {x mm oo : Int32} (h0 : tz_g A 148 0 = tz_j n) (hn : n + 2 ≤ 60) (h2 : tz_g A 148 2 = mm) (h3 : tz_g A 148 3 = oo) : f_X0_run_0 (tz_j 0) (tz_j 1) x (tz_j 0) A = some (some (.int ((x + mm) + oo)), (nt (nt A n (tz_j 20)) (n + 1) (tz_j 10))) := by
  have s0 := cr_1_0_0_x (A := (nt A n (tz_j 20))) (n := (n + 1)) (x := x) (mm := mm) (oo := oo) nt0 (by omega) (by simp (disch := omega) only [nt2, h2]) (by simp (disch := omega) only [nt2, h3])
  have e1 := e_nt (x := tz_j 20) h0 (by omega)
  have a1 : ∀ f, tz_bI (f_X0_kindWithBody (tz_j 0) (tz_j 1) A) f = f (tz_j 1) A := bI_pre kw_0_1
  have a2 := bI_pre (bo_0_1 (A := A))
  have a3 := bV_pre e1
  rw [e_X0_run_0]
  simp (disch := omega) only [tz_lit, nj_m1, nj_m2, nj_m3, nj_m4, nj_m5, nj_m6, nj_m7, ↓reduceIte, tz_bI_some, tz_bV_some, tz_bL_some, cj10, cj01, cjm0, eq_self, not_true_eq_false, not_false_eq_true, or_false, false_or, or_true, true_or, or_self, and_true, true_and, and_false, false_and, nj_eqf, nj_ltt, nj_ltf, nj_let, nj_lef, nj_cl, nt_lef, ↓a1, ↓a2, ↓a3, xt_a, nt2, h2, h3, nj_add, s0]
theorem cr_0_0_2_x {A : tz_Mem} {n : Nat} {x mm oo : Int32} (h0 : tz_g A 148 0 = tz_j n) (hn : n + 1 ≤ 60) (h2 : tz_g A 148 2 = mm) (h3 : tz_g A 148 3 = oo) : f_X0_run_0 (tz_j 0) (tz_j 2) x (tz_j 0) A = some (some (.int (x + mm)), (nt A n (tz_j 10))) := by
  have e1 := e_nt (x := tz_j 10) h0 (by omega)
  have a1 : ∀ f, tz_bI (f_X0_kindWithBody (tz_j 0) (tz_j 2) A) f = f (tz_j 0) A := bI_pre kw_0_2
  have a2 := bI_pre (bo_0_0 (A := A))
  have a3 := bV_pre e1
  rw [e_X0_run_0]
  simp (disch := omega) only [tz_lit, nj_m1, nj_m2, nj_m3, nj_m4, nj_m5, nj_m6, nj_m7, ↓reduceIte, tz_bI_some, tz_bV_some, tz_bL_some, cj10, cj01, cjm0, eq_self, not_true_eq_false, not_false_eq_true, or_false, false_or, or_true, true_or, or_self, and_true, true_and, and_false, false_and, nj_eqf, nj_ltt, nj_ltf, nj_let, nj_lef, nj_cl, nt_lef, ↓a1, ↓a2, ↓a3, xt_a, nt2, h2, h3, nj_add]
theorem cr_0_0_3_x {A : tz_Mem} {n : Nat} {x mm oo : Int32} (h0 : tz_g A 148 0 = tz_j n) (hn : n + 2 ≤ 60) (h2 : tz_g A 148 2 = mm) (h3 : tz_g A 148 3 = oo) : f_X0_run_0 (tz_j 0) (tz_j 3) x (tz_j 0) A = some (some (.int ((x + mm) + oo)), (nt (nt A n (tz_j 20)) (n + 1) (tz_j 10))) := by
  have s0 := cr_1_0_0_x (A := (nt A n (tz_j 20))) (n := (n + 1)) (x := x) (mm := mm) (oo := oo) nt0 (by omega) (by simp (disch := omega) only [nt2, h2]) (by simp (disch := omega) only [nt2, h3])
  have e1 := e_nt (x := tz_j 20) h0 (by omega)
  have a1 : ∀ f, tz_bI (f_X0_kindWithBody (tz_j 0) (tz_j 3) A) f = f (tz_j 1) A := bI_pre kw_0_3
  have a2 := bI_pre (bo_0_1 (A := A))
  have a3 := bV_pre e1
  rw [e_X0_run_0]
  simp (disch := omega) only [tz_lit, nj_m1, nj_m2, nj_m3, nj_m4, nj_m5, nj_m6, nj_m7, ↓reduceIte, tz_bI_some, tz_bV_some, tz_bL_some, cj10, cj01, cjm0, eq_self, not_true_eq_false, not_false_eq_true, or_false, false_or, or_true, true_or, or_self, and_true, true_and, and_false, false_and, nj_eqf, nj_ltt, nj_ltf, nj_let, nj_lef, nj_cl, nt_lef, ↓a1, ↓a2, ↓a3, xt_a, nt2, h2, h3, nj_add, s0]
theorem cr_0_0_4_x {A : tz_Mem} {n : Nat} {x mm oo : Int32} (h0 : tz_g A 148 0 = tz_j n) (hn : n + 2 ≤ 60) (h2 : tz_g A 148 2 = mm) (h3 : tz_g A 148 3 = oo) : f_X0_run_0 (tz_j 0) (tz_j 4) x (tz_j 0) A = some (some (.int ((x + mm) - mm)), (nt (nt A n (tz_j 51)) (n + 1) (tz_j 10))) := by
  have s0 := cr_1_0_0_x (A := (nt A n (tz_j 51))) (n := (n + 1)) (x := x) (mm := mm) (oo := oo) nt0 (by omega) (by simp (disch := omega) only [nt2, h2]) (by simp (disch := omega) only [nt2, h3])
  have e1 := e_nt (x := tz_j 51) h0 (by omega)
  have a1 : ∀ f, tz_bI (f_X0_kindWithBody (tz_j 0) (tz_j 4) A) f = f (tz_j 4) A := bI_pre kw_0_4
  have a2 := bI_pre (bo_0_4 (A := A))
  have a3 := bV_pre e1
  rw [e_X0_run_0]
  simp (disch := omega) only [tz_lit, nj_m1, nj_m2, nj_m3, nj_m4, nj_m5, nj_m6, nj_m7, ↓reduceIte, tz_bI_some, tz_bV_some, tz_bL_some, cj10, cj01, cjm0, eq_self, not_true_eq_false, not_false_eq_true, or_false, false_or, or_true, true_or, or_self, and_true, true_and, and_false, false_and, nj_eqf, nj_ltt, nj_ltf, nj_let, nj_lef, nj_cl, nt_lef, ↓a1, ↓a2, ↓a3, xt_a, nt2, h2, h3, nj_add, s0]
theorem cr_0_0_5_x {A : tz_Mem} {n : Nat} {x mm oo : Int32} (h0 : tz_g A 148 0 = tz_j n) (hn : n + 1 ≤ 60) (h2 : tz_g A 148 2 = mm) (h3 : tz_g A 148 3 = oo) : f_X0_run_0 (tz_j 0) (tz_j 5) x (tz_j 0) A = some (some (.int (x + mm)), (nt A n (tz_j 10))) := by
  have e1 := e_nt (x := tz_j 10) h0 (by omega)
  have a1 : ∀ f, tz_bI (f_X0_kindWithBody (tz_j 0) (tz_j 5) A) f = f (tz_j 0) A := bI_pre kw_0_5
  have a2 := bI_pre (bo_0_0 (A := A))
  have a3 := bV_pre e1
  rw [e_X0_run_0]
  simp (disch := omega) only [tz_lit, nj_m1, nj_m2, nj_m3, nj_m4, nj_m5, nj_m6, nj_m7, ↓reduceIte, tz_bI_some, tz_bV_some, tz_bL_some, cj10, cj01, cjm0, eq_self, not_true_eq_false, not_false_eq_true, or_false, false_or, or_true, true_or, or_self, and_true, true_and, and_false, false_and, nj_eqf, nj_ltt, nj_ltf, nj_let, nj_lef, nj_cl, nt_lef, ↓a1, ↓a2, ↓a3, xt_a, nt2, h2, h3, nj_add]
theorem cr_2_0_0_x {A : tz_Mem} {n : Nat} {x mm oo : Int32} (h0 : tz_g A 148 0 = tz_j n) (hn : n + 1 ≤ 60) (h2 : tz_g A 148 2 = mm) (h3 : tz_g A 148 3 = oo) : f_X0_run_2 (tz_j 0) (tz_j 0) x (tz_j 2) A = some (some (.int (x + mm)), (nt A n (tz_j 10))) := by
  have e1 := e_nt (x := tz_j 10) h0 (by omega)
  have a1 : ∀ f, tz_bI (f_X0_kindWithBody (tz_j 0) (tz_j 0) A) f = f (tz_j 0) A := bI_pre kw_0_0
  have a2 := bI_pre (bo_0_0 (A := A))
  have a3 := bV_pre e1
  rw [e_X0_run_2]
  simp (disch := omega) only [tz_lit, nj_m1, nj_m2, nj_m3, nj_m4, nj_m5, nj_m6, nj_m7, ↓reduceIte, tz_bI_some, tz_bV_some, tz_bL_some, cj10, cj01, cjm0, eq_self, not_true_eq_false, not_false_eq_true, or_false, false_or, or_true, true_or, or_self, and_true, true_and, and_false, false_and, nj_eqf, nj_ltt, nj_ltf, nj_let, nj_lef, nj_cl, nt_lef, ↓a1, ↓a2, ↓a3, xt_a, nt2, h2, h3, nj_add]
theorem cr_1_0_4_x {A : tz_Mem} {n : Nat} {x mm oo : Int32} (h0 : tz_g A 148 0 = tz_j n) (hn : n + 2 ≤ 60) (h2 : tz_g A 148 2 = mm) (h3 : tz_g A 148 3 = oo) : f_X0_run_1 (tz_j 0) (tz_j 4) x (tz_j 1) A = some (some (.int ((x + mm) - mm)), (nt (nt A n (tz_j 51)) (n + 1) (tz_j 10))) := by
  have s0 := cr_2_0_0_x (A := (nt A n (tz_j 51))) (n := (n + 1)) (x := x) (mm := mm) (oo := oo) nt0 (by omega) (by simp (disch := omega) only [nt2, h2]) (by simp (disch := omega) only [nt2, h3])
  have e1 := e_nt (x := tz_j 51) h0 (by omega)
  have a1 : ∀ f, tz_bI (f_X0_kindWithBody (tz_j 0) (tz_j 4) A) f = f (tz_j 4) A := bI_pre kw_0_4
  have a2 := bI_pre (bo_0_4 (A := A))
  have a3 := bV_pre e1
  rw [e_X0_run_1]
  simp (disch := omega) only [tz_lit, nj_m1, nj_m2, nj_m3, nj_m4, nj_m5, nj_m6, nj_m7, ↓reduceIte, tz_bI_some, tz_bV_some, tz_bL_some, cj10, cj01, cjm0, eq_self, not_true_eq_false, not_false_eq_true, or_false, false_or, or_true, true_or, or_self, and_true, true_and, and_false, false_and, nj_eqf, nj_ltt, nj_ltf, nj_let, nj_lef, nj_cl, nt_lef, ↓a1, ↓a2, ↓a3, xt_a, nt2, h2, h3, nj_add, s0]
theorem cr_0_0_6_x {A : tz_Mem} {n : Nat} {x mm oo : Int32} (h0 : tz_g A 148 0 = tz_j n) (hn : n + 3 ≤ 60) (h2 : tz_g A 148 2 = mm) (h3 : tz_g A 148 3 = oo) : f_X0_run_0 (tz_j 0) (tz_j 6) x (tz_j 0) A = some (some (.int (((x + mm) - mm) * tz_j 2)), (nt (nt (nt A n (tz_j 70)) (n + 1) (tz_j 51)) ((n + 1) + 1) (tz_j 10))) := by
  have s0 := cr_1_0_4_x (A := (nt A n (tz_j 70))) (n := (n + 1)) (x := x) (mm := mm) (oo := oo) nt0 (by omega) (by simp (disch := omega) only [nt2, h2]) (by simp (disch := omega) only [nt2, h3])
  have e1 := e_nt (x := tz_j 70) h0 (by omega)
  have a1 : ∀ f, tz_bI (f_X0_kindWithBody (tz_j 0) (tz_j 6) A) f = f (tz_j 6) A := bI_pre kw_0_6
  have a2 := bI_pre (bo_0_6 (A := A))
  have a3 := bV_pre e1
  rw [e_X0_run_0]
  simp (disch := omega) only [tz_lit, nj_m1, nj_m2, nj_m3, nj_m4, nj_m5, nj_m6, nj_m7, ↓reduceIte, tz_bI_some, tz_bV_some, tz_bL_some, cj10, cj01, cjm0, eq_self, not_true_eq_false, not_false_eq_true, or_false, false_or, or_true, true_or, or_self, and_true, true_and, and_false, false_and, nj_eqf, nj_ltt, nj_ltf, nj_let, nj_lef, nj_cl, nt_lef, ↓a1, ↓a2, ↓a3, xt_a, nt2, h2, h3, nj_add, s0]
theorem cr_0_1_0_0 {A : tz_Mem} {n : Nat} {x mm oo : Int32} (h0 : tz_g A 148 0 = tz_j n) (hn : n + 2 ≤ 60) (h2 : tz_g A 148 2 = mm) (h3 : tz_g A 148 3 = oo) (h4 : tz_g A 148 4 = tz_j 0) : f_X0_run_0 (tz_j 1) (tz_j 0) x (tz_j 0) A = some (some (.int ((x + mm) * tz_j 2)), (nt (nt A n (tz_j 11)) (n + 1) (tz_j 10))) := by
  have s0 := cr_1_0_0_x (A := (nt A n (tz_j 11))) (n := (n + 1)) (x := x) (mm := mm) (oo := oo) nt0 (by omega) (by simp (disch := omega) only [nt2, h2]) (by simp (disch := omega) only [nt2, h3])
  have e1 := e_nt (x := tz_j 11) h0 (by omega)
  have a1 : ∀ f, tz_bI (f_X0_kindWithBody (tz_j 1) (tz_j 0) A) f = f (tz_j 0) A := bI_pre kw_1_0
  have a2 := bI_pre (bo_1_0 (A := A))
  have a3 := bV_pre e1
  rw [e_X0_run_0]
  simp (disch := omega) only [tz_lit, nj_m1, nj_m2, nj_m3, nj_m4, nj_m5, nj_m6, nj_m7, ↓reduceIte, tz_bI_some, tz_bV_some, tz_bL_some, cj10, cj01, cjm0, eq_self, not_true_eq_false, not_false_eq_true, or_false, false_or, or_true, true_or, or_self, and_true, true_and, and_false, false_and, nj_eqf, nj_ltt, nj_ltf, nj_let, nj_lef, nj_cl, nt_lef, ↓a1, ↓a2, ↓a3, xt_a, nt2, h2, h3, nj_add, h4, s0]
theorem cr_1_0_1_x {A : tz_Mem} {n : Nat} {x mm oo : Int32} (h0 : tz_g A 148 0 = tz_j n) (hn : n + 2 ≤ 60) (h2 : tz_g A 148 2 = mm) (h3 : tz_g A 148 3 = oo) : f_X0_run_1 (tz_j 0) (tz_j 1) x (tz_j 1) A = some (some (.int ((x + mm) + oo)), (nt (nt A n (tz_j 20)) (n + 1) (tz_j 10))) := by
  have s0 := cr_2_0_0_x (A := (nt A n (tz_j 20))) (n := (n + 1)) (x := x) (mm := mm) (oo := oo) nt0 (by omega) (by simp (disch := omega) only [nt2, h2]) (by simp (disch := omega) only [nt2, h3])
  have e1 := e_nt (x := tz_j 20) h0 (by omega)
  have a1 : ∀ f, tz_bI (f_X0_kindWithBody (tz_j 0) (tz_j 1) A) f = f (tz_j 1) A := bI_pre kw_0_1
  have a2 := bI_pre (bo_0_1 (A := A))
  have a3 := bV_pre e1
  rw [e_X0_run_1]
  simp (disch := omega) only [tz_lit, nj_m1, nj_m2, nj_m3, nj_m4, nj_m5, nj_m6, nj_m7, ↓reduceIte, tz_bI_some, tz_bV_some, tz_bL_some, cj10, cj01, cjm0, eq_self, not_true_eq_false, not_false_eq_true, or_false, false_or, or_true, true_or, or_self, and_true, true_and, and_false, false_and, nj_eqf, nj_ltt, nj_ltf, nj_let, nj_lef, nj_cl, nt_lef, ↓a1, ↓a2, ↓a3, xt_a, nt2, h2, h3, nj_add, s0]
theorem cr_0_1_1_1 {A : tz_Mem} {n : Nat} {x mm oo : Int32} (h0 : tz_g A 148 0 = tz_j n) (hn : n + 3 ≤ 60) (h2 : tz_g A 148 2 = mm) (h3 : tz_g A 148 3 = oo) (h4 : tz_g A 148 4 = tz_j 1) : f_X0_run_0 (tz_j 1) (tz_j 1) x (tz_j 0) A = some (some (.int (((x + mm) + oo) * tz_j 2)), (nt (nt (nt A n (tz_j 11)) (n + 1) (tz_j 20)) ((n + 1) + 1) (tz_j 10))) := by
  have s0 := cr_1_0_1_x (A := (nt A n (tz_j 11))) (n := (n + 1)) (x := x) (mm := mm) (oo := oo) nt0 (by omega) (by simp (disch := omega) only [nt2, h2]) (by simp (disch := omega) only [nt2, h3])
  have e1 := e_nt (x := tz_j 11) h0 (by omega)
  have a1 : ∀ f, tz_bI (f_X0_kindWithBody (tz_j 1) (tz_j 1) A) f = f (tz_j 0) A := bI_pre kw_1_1
  have a2 := bI_pre (bo_1_0 (A := A))
  have a3 := bV_pre e1
  rw [e_X0_run_0]
  simp (disch := omega) only [tz_lit, nj_m1, nj_m2, nj_m3, nj_m4, nj_m5, nj_m6, nj_m7, ↓reduceIte, tz_bI_some, tz_bV_some, tz_bL_some, cj10, cj01, cjm0, eq_self, not_true_eq_false, not_false_eq_true, or_false, false_or, or_true, true_or, or_self, and_true, true_and, and_false, false_and, nj_eqf, nj_ltt, nj_ltf, nj_let, nj_lef, nj_cl, nt_lef, ↓a1, ↓a2, ↓a3, xt_a, nt2, h2, h3, nj_add, h4, s0]
theorem cr_2_0_2_x {A : tz_Mem} {n : Nat} {x mm oo : Int32} (h0 : tz_g A 148 0 = tz_j n) (hn : n + 1 ≤ 60) (h2 : tz_g A 148 2 = mm) (h3 : tz_g A 148 3 = oo) : f_X0_run_2 (tz_j 0) (tz_j 2) x (tz_j 2) A = some (some (.int (x + mm)), (nt A n (tz_j 10))) := by
  have e1 := e_nt (x := tz_j 10) h0 (by omega)
  have a1 : ∀ f, tz_bI (f_X0_kindWithBody (tz_j 0) (tz_j 2) A) f = f (tz_j 0) A := bI_pre kw_0_2
  have a2 := bI_pre (bo_0_0 (A := A))
  have a3 := bV_pre e1
  rw [e_X0_run_2]
  simp (disch := omega) only [tz_lit, nj_m1, nj_m2, nj_m3, nj_m4, nj_m5, nj_m6, nj_m7, ↓reduceIte, tz_bI_some, tz_bV_some, tz_bL_some, cj10, cj01, cjm0, eq_self, not_true_eq_false, not_false_eq_true, or_false, false_or, or_true, true_or, or_self, and_true, true_and, and_false, false_and, nj_eqf, nj_ltt, nj_ltf, nj_let, nj_lef, nj_cl, nt_lef, ↓a1, ↓a2, ↓a3, xt_a, nt2, h2, h3, nj_add]
theorem cr_1_1_0_2 {A : tz_Mem} {n : Nat} {x mm oo : Int32} (h0 : tz_g A 148 0 = tz_j n) (hn : n + 2 ≤ 60) (h2 : tz_g A 148 2 = mm) (h3 : tz_g A 148 3 = oo) (h4 : tz_g A 148 4 = tz_j 2) : f_X0_run_1 (tz_j 1) (tz_j 0) x (tz_j 1) A = some (some (.int ((x + mm) * tz_j 2)), (nt (nt A n (tz_j 11)) (n + 1) (tz_j 10))) := by
  have s0 := cr_2_0_2_x (A := (nt A n (tz_j 11))) (n := (n + 1)) (x := x) (mm := mm) (oo := oo) nt0 (by omega) (by simp (disch := omega) only [nt2, h2]) (by simp (disch := omega) only [nt2, h3])
  have e1 := e_nt (x := tz_j 11) h0 (by omega)
  have a1 : ∀ f, tz_bI (f_X0_kindWithBody (tz_j 1) (tz_j 0) A) f = f (tz_j 0) A := bI_pre kw_1_0
  have a2 := bI_pre (bo_1_0 (A := A))
  have a3 := bV_pre e1
  rw [e_X0_run_1]
  simp (disch := omega) only [tz_lit, nj_m1, nj_m2, nj_m3, nj_m4, nj_m5, nj_m6, nj_m7, ↓reduceIte, tz_bI_some, tz_bV_some, tz_bL_some, cj10, cj01, cjm0, eq_self, not_true_eq_false, not_false_eq_true, or_false, false_or, or_true, true_or, or_self, and_true, true_and, and_false, false_and, nj_eqf, nj_ltt, nj_ltf, nj_let, nj_lef, nj_cl, nt_lef, ↓a1, ↓a2, ↓a3, xt_a, nt2, h2, h3, nj_add, h4, s0]
theorem cr_0_1_2_2 {A : tz_Mem} {n : Nat} {x mm oo : Int32} (h0 : tz_g A 148 0 = tz_j n) (hn : n + 3 ≤ 60) (h2 : tz_g A 148 2 = mm) (h3 : tz_g A 148 3 = oo) (h4 : tz_g A 148 4 = tz_j 2) : f_X0_run_0 (tz_j 1) (tz_j 2) x (tz_j 0) A = some (some (.int (((x + mm) * tz_j 2) * tz_j 3)), (nt (nt (nt A n (tz_j 30)) (n + 1) (tz_j 11)) ((n + 1) + 1) (tz_j 10))) := by
  have s0 := cr_1_1_0_2 (A := (nt A n (tz_j 30))) (n := (n + 1)) (x := x) (mm := mm) (oo := oo) nt0 (by omega) (by simp (disch := omega) only [nt2, h2]) (by simp (disch := omega) only [nt2, h3]) (by simp (disch := omega) only [nt2, h4])
  have e1 := e_nt (x := tz_j 30) h0 (by omega)
  have a1 : ∀ f, tz_bI (f_X0_kindWithBody (tz_j 1) (tz_j 2) A) f = f (tz_j 2) A := bI_pre kw_1_2
  have a2 := bI_pre (bo_1_2 (A := A))
  have a3 := bV_pre e1
  rw [e_X0_run_0]
  simp (disch := omega) only [tz_lit, nj_m1, nj_m2, nj_m3, nj_m4, nj_m5, nj_m6, nj_m7, ↓reduceIte, tz_bI_some, tz_bV_some, tz_bL_some, cj10, cj01, cjm0, eq_self, not_true_eq_false, not_false_eq_true, or_false, false_or, or_true, true_or, or_self, and_true, true_and, and_false, false_and, nj_eqf, nj_ltt, nj_ltf, nj_let, nj_lef, nj_cl, nt_lef, ↓a1, ↓a2, ↓a3, xt_a, nt2, h2, h3, nj_add, h4, s0]
theorem cr_3_0_0_x {A : tz_Mem} {n : Nat} {x mm oo : Int32} (h0 : tz_g A 148 0 = tz_j n) (hn : n + 1 ≤ 60) (h2 : tz_g A 148 2 = mm) (h3 : tz_g A 148 3 = oo) : f_X0_run_3 (tz_j 0) (tz_j 0) x (tz_j 3) A = some (some (.int (x + mm)), (nt A n (tz_j 10))) := by
  have e1 := e_nt (x := tz_j 10) h0 (by omega)
  have a1 : ∀ f, tz_bI (f_X0_kindWithBody (tz_j 0) (tz_j 0) A) f = f (tz_j 0) A := bI_pre kw_0_0
  have a2 := bI_pre (bo_0_0 (A := A))
  have a3 := bV_pre e1
  rw [e_X0_run_3]
  simp (disch := omega) only [tz_lit, nj_m1, nj_m2, nj_m3, nj_m4, nj_m5, nj_m6, nj_m7, ↓reduceIte, tz_bI_some, tz_bV_some, tz_bL_some, cj10, cj01, cjm0, eq_self, not_true_eq_false, not_false_eq_true, or_false, false_or, or_true, true_or, or_self, and_true, true_and, and_false, false_and, nj_eqf, nj_ltt, nj_ltf, nj_let, nj_lef, nj_cl, nt_lef, ↓a1, ↓a2, ↓a3, xt_a, nt2, h2, h3, nj_add]
theorem cr_2_0_3_x {A : tz_Mem} {n : Nat} {x mm oo : Int32} (h0 : tz_g A 148 0 = tz_j n) (hn : n + 2 ≤ 60) (h2 : tz_g A 148 2 = mm) (h3 : tz_g A 148 3 = oo) : f_X0_run_2 (tz_j 0) (tz_j 3) x (tz_j 2) A = some (some (.int ((x + mm) + oo)), (nt (nt A n (tz_j 20)) (n + 1) (tz_j 10))) := by
  have s0 := cr_3_0_0_x (A := (nt A n (tz_j 20))) (n := (n + 1)) (x := x) (mm := mm) (oo := oo) nt0 (by omega) (by simp (disch := omega) only [nt2, h2]) (by simp (disch := omega) only [nt2, h3])
  have e1 := e_nt (x := tz_j 20) h0 (by omega)
  have a1 : ∀ f, tz_bI (f_X0_kindWithBody (tz_j 0) (tz_j 3) A) f = f (tz_j 1) A := bI_pre kw_0_3
  have a2 := bI_pre (bo_0_1 (A := A))
  have a3 := bV_pre e1
  rw [e_X0_run_2]
  simp (disch := omega) only [tz_lit, nj_m1, nj_m2, nj_m3, nj_m4, nj_m5, nj_m6, nj_m7, ↓reduceIte, tz_bI_some, tz_bV_some, tz_bL_some, cj10, cj01, cjm0, eq_self, not_true_eq_false, not_false_eq_true, or_false, false_or, or_true, true_or, or_self, and_true, true_and, and_false, false_and, nj_eqf, nj_ltt, nj_ltf, nj_let, nj_lef, nj_cl, nt_lef, ↓a1, ↓a2, ↓a3, xt_a, nt2, h2, h3, nj_add, s0]
theorem cr_1_1_1_3 {A : tz_Mem} {n : Nat} {x mm oo : Int32} (h0 : tz_g A 148 0 = tz_j n) (hn : n + 3 ≤ 60) (h2 : tz_g A 148 2 = mm) (h3 : tz_g A 148 3 = oo) (h4 : tz_g A 148 4 = tz_j 3) : f_X0_run_1 (tz_j 1) (tz_j 1) x (tz_j 1) A = some (some (.int (((x + mm) + oo) * tz_j 2)), (nt (nt (nt A n (tz_j 11)) (n + 1) (tz_j 20)) ((n + 1) + 1) (tz_j 10))) := by
  have s0 := cr_2_0_3_x (A := (nt A n (tz_j 11))) (n := (n + 1)) (x := x) (mm := mm) (oo := oo) nt0 (by omega) (by simp (disch := omega) only [nt2, h2]) (by simp (disch := omega) only [nt2, h3])
  have e1 := e_nt (x := tz_j 11) h0 (by omega)
  have a1 : ∀ f, tz_bI (f_X0_kindWithBody (tz_j 1) (tz_j 1) A) f = f (tz_j 0) A := bI_pre kw_1_1
  have a2 := bI_pre (bo_1_0 (A := A))
  have a3 := bV_pre e1
  rw [e_X0_run_1]
  simp (disch := omega) only [tz_lit, nj_m1, nj_m2, nj_m3, nj_m4, nj_m5, nj_m6, nj_m7, ↓reduceIte, tz_bI_some, tz_bV_some, tz_bL_some, cj10, cj01, cjm0, eq_self, not_true_eq_false, not_false_eq_true, or_false, false_or, or_true, true_or, or_self, and_true, true_and, and_false, false_and, nj_eqf, nj_ltt, nj_ltf, nj_let, nj_lef, nj_cl, nt_lef, ↓a1, ↓a2, ↓a3, xt_a, nt2, h2, h3, nj_add, h4, s0]
theorem cr_0_1_3_3 {A : tz_Mem} {n : Nat} {x mm oo : Int32} (h0 : tz_g A 148 0 = tz_j n) (hn : n + 4 ≤ 60) (h2 : tz_g A 148 2 = mm) (h3 : tz_g A 148 3 = oo) (h4 : tz_g A 148 4 = tz_j 3) : f_X0_run_0 (tz_j 1) (tz_j 3) x (tz_j 0) A = some (some (.int ((((x + tz_j 1) + mm) + oo) * tz_j 2)), (nt (nt (nt (nt A n (tz_j 40)) (n + 1) (tz_j 11)) ((n + 1) + 1) (tz_j 20)) (((n + 1) + 1) + 1) (tz_j 10))) := by
  have s0 := cr_1_1_1_3 (A := (nt A n (tz_j 40))) (n := (n + 1)) (x := (x + tz_j 1)) (mm := mm) (oo := oo) nt0 (by omega) (by simp (disch := omega) only [nt2, h2]) (by simp (disch := omega) only [nt2, h3]) (by simp (disch := omega) only [nt2, h4])
  have e1 := e_nt (x := tz_j 40) h0 (by omega)
  have a1 : ∀ f, tz_bI (f_X0_kindWithBody (tz_j 1) (tz_j 3) A) f = f (tz_j 3) A := bI_pre kw_1_3
  have a2 := bI_pre (bo_1_3 (A := A))
  have a3 := bV_pre e1
  rw [e_X0_run_0]
  simp (disch := omega) only [tz_lit, nj_m1, nj_m2, nj_m3, nj_m4, nj_m5, nj_m6, nj_m7, ↓reduceIte, tz_bI_some, tz_bV_some, tz_bL_some, cj10, cj01, cjm0, eq_self, not_true_eq_false, not_false_eq_true, or_false, false_or, or_true, true_or, or_self, and_true, true_and, and_false, false_and, nj_eqf, nj_ltt, nj_ltf, nj_let, nj_lef, nj_cl, nt_lef, ↓a1, ↓a2, ↓a3, xt_a, nt2, h2, h3, nj_add, h4, s0]
theorem cr_0_1_4_4 {A : tz_Mem} {n : Nat} {x mm oo : Int32} (h0 : tz_g A 148 0 = tz_j n) (hn : n + 3 ≤ 60) (h2 : tz_g A 148 2 = mm) (h3 : tz_g A 148 3 = oo) (h4 : tz_g A 148 4 = tz_j 4) : f_X0_run_0 (tz_j 1) (tz_j 4) x (tz_j 0) A = some (some (.int (((x + mm) - mm) * tz_j 2)), (nt (nt (nt A n (tz_j 11)) (n + 1) (tz_j 51)) ((n + 1) + 1) (tz_j 10))) := by
  have s0 := cr_1_0_4_x (A := (nt A n (tz_j 11))) (n := (n + 1)) (x := x) (mm := mm) (oo := oo) nt0 (by omega) (by simp (disch := omega) only [nt2, h2]) (by simp (disch := omega) only [nt2, h3])
  have e1 := e_nt (x := tz_j 11) h0 (by omega)
  have a1 : ∀ f, tz_bI (f_X0_kindWithBody (tz_j 1) (tz_j 4) A) f = f (tz_j 0) A := bI_pre kw_1_4
  have a2 := bI_pre (bo_1_0 (A := A))
  have a3 := bV_pre e1
  rw [e_X0_run_0]
  simp (disch := omega) only [tz_lit, nj_m1, nj_m2, nj_m3, nj_m4, nj_m5, nj_m6, nj_m7, ↓reduceIte, tz_bI_some, tz_bV_some, tz_bL_some, cj10, cj01, cjm0, eq_self, not_true_eq_false, not_false_eq_true, or_false, false_or, or_true, true_or, or_self, and_true, true_and, and_false, false_and, nj_eqf, nj_ltt, nj_ltf, nj_let, nj_lef, nj_cl, nt_lef, ↓a1, ↓a2, ↓a3, xt_a, nt2, h2, h3, nj_add, h4, s0]
theorem cr_2_0_5_x {A : tz_Mem} {n : Nat} {x mm oo : Int32} (h0 : tz_g A 148 0 = tz_j n) (hn : n + 1 ≤ 60) (h2 : tz_g A 148 2 = mm) (h3 : tz_g A 148 3 = oo) : f_X0_run_2 (tz_j 0) (tz_j 5) x (tz_j 2) A = some (some (.int (x + mm)), (nt A n (tz_j 10))) := by
  have e1 := e_nt (x := tz_j 10) h0 (by omega)
  have a1 : ∀ f, tz_bI (f_X0_kindWithBody (tz_j 0) (tz_j 5) A) f = f (tz_j 0) A := bI_pre kw_0_5
  have a2 := bI_pre (bo_0_0 (A := A))
  have a3 := bV_pre e1
  rw [e_X0_run_2]
  simp (disch := omega) only [tz_lit, nj_m1, nj_m2, nj_m3, nj_m4, nj_m5, nj_m6, nj_m7, ↓reduceIte, tz_bI_some, tz_bV_some, tz_bL_some, cj10, cj01, cjm0, eq_self, not_true_eq_false, not_false_eq_true, or_false, false_or, or_true, true_or, or_self, and_true, true_and, and_false, false_and, nj_eqf, nj_ltt, nj_ltf, nj_let, nj_lef, nj_cl, nt_lef, ↓a1, ↓a2, ↓a3, xt_a, nt2, h2, h3, nj_add]
theorem cr_1_1_0_5 {A : tz_Mem} {n : Nat} {x mm oo : Int32} (h0 : tz_g A 148 0 = tz_j n) (hn : n + 2 ≤ 60) (h2 : tz_g A 148 2 = mm) (h3 : tz_g A 148 3 = oo) (h4 : tz_g A 148 4 = tz_j 5) : f_X0_run_1 (tz_j 1) (tz_j 0) x (tz_j 1) A = some (some (.int ((x + mm) * tz_j 2)), (nt (nt A n (tz_j 11)) (n + 1) (tz_j 10))) := by
  have s0 := cr_2_0_5_x (A := (nt A n (tz_j 11))) (n := (n + 1)) (x := x) (mm := mm) (oo := oo) nt0 (by omega) (by simp (disch := omega) only [nt2, h2]) (by simp (disch := omega) only [nt2, h3])
  have e1 := e_nt (x := tz_j 11) h0 (by omega)
  have a1 : ∀ f, tz_bI (f_X0_kindWithBody (tz_j 1) (tz_j 0) A) f = f (tz_j 0) A := bI_pre kw_1_0
  have a2 := bI_pre (bo_1_0 (A := A))
  have a3 := bV_pre e1
  rw [e_X0_run_1]
  simp (disch := omega) only [tz_lit, nj_m1, nj_m2, nj_m3, nj_m4, nj_m5, nj_m6, nj_m7, ↓reduceIte, tz_bI_some, tz_bV_some, tz_bL_some, cj10, cj01, cjm0, eq_self, not_true_eq_false, not_false_eq_true, or_false, false_or, or_true, true_or, or_self, and_true, true_and, and_false, false_and, nj_eqf, nj_ltt, nj_ltf, nj_let, nj_lef, nj_cl, nt_lef, ↓a1, ↓a2, ↓a3, xt_a, nt2, h2, h3, nj_add, h4, s0]
theorem cr_0_1_5_5 {A : tz_Mem} {n : Nat} {x mm oo : Int32} (h0 : tz_g A 148 0 = tz_j n) (hn : n + 3 ≤ 60) (h2 : tz_g A 148 2 = mm) (h3 : tz_g A 148 3 = oo) (h4 : tz_g A 148 4 = tz_j 5) : f_X0_run_0 (tz_j 1) (tz_j 5) x (tz_j 0) A = some (some (.int (((x + mm) * tz_j 2) * tz_j 3)), (nt (nt (nt A n (tz_j 30)) (n + 1) (tz_j 11)) ((n + 1) + 1) (tz_j 10))) := by
  have s0 := cr_1_1_0_5 (A := (nt A n (tz_j 30))) (n := (n + 1)) (x := x) (mm := mm) (oo := oo) nt0 (by omega) (by simp (disch := omega) only [nt2, h2]) (by simp (disch := omega) only [nt2, h3]) (by simp (disch := omega) only [nt2, h4])
  have e1 := e_nt (x := tz_j 30) h0 (by omega)
  have a1 : ∀ f, tz_bI (f_X0_kindWithBody (tz_j 1) (tz_j 5) A) f = f (tz_j 2) A := bI_pre kw_1_5
  have a2 := bI_pre (bo_1_2 (A := A))
  have a3 := bV_pre e1
  rw [e_X0_run_0]
  simp (disch := omega) only [tz_lit, nj_m1, nj_m2, nj_m3, nj_m4, nj_m5, nj_m6, nj_m7, ↓reduceIte, tz_bI_some, tz_bV_some, tz_bL_some, cj10, cj01, cjm0, eq_self, not_true_eq_false, not_false_eq_true, or_false, false_or, or_true, true_or, or_self, and_true, true_and, and_false, false_and, nj_eqf, nj_ltt, nj_ltf, nj_let, nj_lef, nj_cl, nt_lef, ↓a1, ↓a2, ↓a3, xt_a, nt2, h2, h3, nj_add, h4, s0]
theorem cr_4_0_0_x {A : tz_Mem} {n : Nat} {x mm oo : Int32} (h0 : tz_g A 148 0 = tz_j n) (hn : n + 1 ≤ 60) (h2 : tz_g A 148 2 = mm) (h3 : tz_g A 148 3 = oo) : f_X0_run_4 (tz_j 0) (tz_j 0) x (tz_j 4) A = some (some (.int (x + mm)), (nt A n (tz_j 10))) := by
  have e1 := e_nt (x := tz_j 10) h0 (by omega)
  have a1 : ∀ f, tz_bI (f_X0_kindWithBody (tz_j 0) (tz_j 0) A) f = f (tz_j 0) A := bI_pre kw_0_0
  have a2 := bI_pre (bo_0_0 (A := A))
  have a3 := bV_pre e1
  rw [e_X0_run_4]
  simp (disch := omega) only [tz_lit, nj_m1, nj_m2, nj_m3, nj_m4, nj_m5, nj_m6, nj_m7, ↓reduceIte, tz_bI_some, tz_bV_some, tz_bL_some, cj10, cj01, cjm0, eq_self, not_true_eq_false, not_false_eq_true, or_false, false_or, or_true, true_or, or_self, and_true, true_and, and_false, false_and, nj_eqf, nj_ltt, nj_ltf, nj_let, nj_lef, nj_cl, nt_lef, ↓a1, ↓a2, ↓a3, xt_a, nt2, h2, h3, nj_add]
theorem cr_3_0_4_x {A : tz_Mem} {n : Nat} {x mm oo : Int32} (h0 : tz_g A 148 0 = tz_j n) (hn : n + 2 ≤ 60) (h2 : tz_g A 148 2 = mm) (h3 : tz_g A 148 3 = oo) : f_X0_run_3 (tz_j 0) (tz_j 4) x (tz_j 3) A = some (some (.int ((x + mm) - mm)), (nt (nt A n (tz_j 51)) (n + 1) (tz_j 10))) := by
  have s0 := cr_4_0_0_x (A := (nt A n (tz_j 51))) (n := (n + 1)) (x := x) (mm := mm) (oo := oo) nt0 (by omega) (by simp (disch := omega) only [nt2, h2]) (by simp (disch := omega) only [nt2, h3])
  have e1 := e_nt (x := tz_j 51) h0 (by omega)
  have a1 : ∀ f, tz_bI (f_X0_kindWithBody (tz_j 0) (tz_j 4) A) f = f (tz_j 4) A := bI_pre kw_0_4
  have a2 := bI_pre (bo_0_4 (A := A))
  have a3 := bV_pre e1
  rw [e_X0_run_3]
  simp (disch := omega) only [tz_lit, nj_m1, nj_m2, nj_m3, nj_m4, nj_m5, nj_m6, nj_m7, ↓reduceIte, tz_bI_some, tz_bV_some, tz_bL_some, cj10, cj01, cjm0, eq_self, not_true_eq_false, not_false_eq_true, or_false, false_or, or_true, true_or, or_self, and_true, true_and, and_false, false_and, nj_eqf, nj_ltt, nj_ltf, nj_let, nj_lef, nj_cl, nt_lef, ↓a1, ↓a2, ↓a3, xt_a, nt2, h2, h3, nj_add, s0]
theorem cr_2_0_6_x {A : tz_Mem} {n : Nat} {x mm oo : Int32} (h0 : tz_g A 148 0 = tz_j n) (hn : n + 3 ≤ 60) (h2 : tz_g A 148 2 = mm) (h3 : tz_g A 148 3 = oo) : f_X0_run_2 (tz_j 0) (tz_j 6) x (tz_j 2) A = some (some (.int (((x + mm) - mm) * tz_j 2)), (nt (nt (nt A n (tz_j 70)) (n + 1) (tz_j 51)) ((n + 1) + 1) (tz_j 10))) := by
  have s0 := cr_3_0_4_x (A := (nt A n (tz_j 70))) (n := (n + 1)) (x := x) (mm := mm) (oo := oo) nt0 (by omega) (by simp (disch := omega) only [nt2, h2]) (by simp (disch := omega) only [nt2, h3])
  have e1 := e_nt (x := tz_j 70) h0 (by omega)
  have a1 : ∀ f, tz_bI (f_X0_kindWithBody (tz_j 0) (tz_j 6) A) f = f (tz_j 6) A := bI_pre kw_0_6
  have a2 := bI_pre (bo_0_6 (A := A))
  have a3 := bV_pre e1
  rw [e_X0_run_2]
  simp (disch := omega) only [tz_lit, nj_m1, nj_m2, nj_m3, nj_m4, nj_m5, nj_m6, nj_m7, ↓reduceIte, tz_bI_some, tz_bV_some, tz_bL_some, cj10, cj01, cjm0, eq_self, not_true_eq_false, not_false_eq_true, or_false, false_or, or_true, true_or, or_self, and_true, true_and, and_false, false_and, nj_eqf, nj_ltt, nj_ltf, nj_let, nj_lef, nj_cl, nt_lef, ↓a1, ↓a2, ↓a3, xt_a, nt2, h2, h3, nj_add, s0]
theorem cr_1_1_4_6 {A : tz_Mem} {n : Nat} {x mm oo : Int32} (h0 : tz_g A 148 0 = tz_j n) (hn : n + 4 ≤ 60) (h2 : tz_g A 148 2 = mm) (h3 : tz_g A 148 3 = oo) (h4 : tz_g A 148 4 = tz_j 6) : f_X0_run_1 (tz_j 1) (tz_j 4) x (tz_j 1) A = some (some (.int ((((x + mm) - mm) * tz_j 2) * tz_j 2)), (nt (nt (nt (nt A n (tz_j 11)) (n + 1) (tz_j 70)) ((n + 1) + 1) (tz_j 51)) (((n + 1) + 1) + 1) (tz_j 10))) := by
  have s0 := cr_2_0_6_x (A := (nt A n (tz_j 11))) (n := (n + 1)) (x := x) (mm := mm) (oo := oo) nt0 (by omega) (by simp (disch := omega) only [nt2, h2]) (by simp (disch := omega) only [nt2, h3])
  have e1 := e_nt (x := tz_j 11) h0 (by omega)
  have a1 : ∀ f, tz_bI (f_X0_kindWithBody (tz_j 1) (tz_j 4) A) f = f (tz_j 0) A := bI_pre kw_1_4
  have a2 := bI_pre (bo_1_0 (A := A))
  have a3 := bV_pre e1
  rw [e_X0_run_1]
  simp (disch := omega) only [tz_lit, nj_m1, nj_m2, nj_m3, nj_m4, nj_m5, nj_m6, nj_m7, ↓reduceIte, tz_bI_some, tz_bV_some, tz_bL_some, cj10, cj01, cjm0, eq_self, not_true_eq_false, not_false_eq_true, or_false, false_or, or_true, true_or, or_self, and_true, true_and, and_false, false_and, nj_eqf, nj_ltt, nj_ltf, nj_let, nj_lef, nj_cl, nt_lef, ↓a1, ↓a2, ↓a3, xt_a, nt2, h2, h3, nj_add, h4, s0]
theorem cr_0_1_6_6 {A : tz_Mem} {n : Nat} {x mm oo : Int32} (h0 : tz_g A 148 0 = tz_j n) (hn : n + 5 ≤ 60) (h2 : tz_g A 148 2 = mm) (h3 : tz_g A 148 3 = oo) (h4 : tz_g A 148 4 = tz_j 6) : f_X0_run_0 (tz_j 1) (tz_j 6) x (tz_j 0) A = some (some (.int (((((x - oo) + mm) - mm) * tz_j 2) * tz_j 2)), (nt (nt (nt (nt (nt A n (tz_j 71)) (n + 1) (tz_j 11)) ((n + 1) + 1) (tz_j 70)) (((n + 1) + 1) + 1) (tz_j 51)) ((((n + 1) + 1) + 1) + 1) (tz_j 10))) := by
  have s0 := cr_1_1_4_6 (A := (nt A n (tz_j 71))) (n := (n + 1)) (x := (x - oo)) (mm := mm) (oo := oo) nt0 (by omega) (by simp (disch := omega) only [nt2, h2]) (by simp (disch := omega) only [nt2, h3]) (by simp (disch := omega) only [nt2, h4])
  have e1 := e_nt (x := tz_j 71) h0 (by omega)
  have a1 : ∀ f, tz_bI (f_X0_kindWithBody (tz_j 1) (tz_j 6) A) f = f (tz_j 6) A := bI_pre kw_1_6
  have a2 := bI_pre (bo_1_6 (A := A))
  have a3 := bV_pre e1
  rw [e_X0_run_0]
  simp (disch := omega) only [tz_lit, nj_m1, nj_m2, nj_m3, nj_m4, nj_m5, nj_m6, nj_m7, ↓reduceIte, tz_bI_some, tz_bV_some, tz_bL_some, cj10, cj01, cjm0, eq_self, not_true_eq_false, not_false_eq_true, or_false, false_or, or_true, true_or, or_self, and_true, true_and, and_false, false_and, nj_eqf, nj_ltt, nj_ltf, nj_let, nj_lef, nj_cl, nt_lef, ↓a1, ↓a2, ↓a3, xt_a, nt2, h2, h3, nj_add, h4, s0]
theorem cr_1_1_0_0 {A : tz_Mem} {n : Nat} {x mm oo : Int32} (h0 : tz_g A 148 0 = tz_j n) (hn : n + 2 ≤ 60) (h2 : tz_g A 148 2 = mm) (h3 : tz_g A 148 3 = oo) (h4 : tz_g A 148 4 = tz_j 0) : f_X0_run_1 (tz_j 1) (tz_j 0) x (tz_j 1) A = some (some (.int ((x + mm) * tz_j 2)), (nt (nt A n (tz_j 11)) (n + 1) (tz_j 10))) := by
  have s0 := cr_2_0_0_x (A := (nt A n (tz_j 11))) (n := (n + 1)) (x := x) (mm := mm) (oo := oo) nt0 (by omega) (by simp (disch := omega) only [nt2, h2]) (by simp (disch := omega) only [nt2, h3])
  have e1 := e_nt (x := tz_j 11) h0 (by omega)
  have a1 : ∀ f, tz_bI (f_X0_kindWithBody (tz_j 1) (tz_j 0) A) f = f (tz_j 0) A := bI_pre kw_1_0
  have a2 := bI_pre (bo_1_0 (A := A))
  have a3 := bV_pre e1
  rw [e_X0_run_1]
  simp (disch := omega) only [tz_lit, nj_m1, nj_m2, nj_m3, nj_m4, nj_m5, nj_m6, nj_m7, ↓reduceIte, tz_bI_some, tz_bV_some, tz_bL_some, cj10, cj01, cjm0, eq_self, not_true_eq_false, not_false_eq_true, or_false, false_or, or_true, true_or, or_self, and_true, true_and, and_false, false_and, nj_eqf, nj_ltt, nj_ltf, nj_let, nj_lef, nj_cl, nt_lef, ↓a1, ↓a2, ↓a3, xt_a, nt2, h2, h3, nj_add, h4, s0]
theorem cr_0_2_0_0 {A : tz_Mem} {n : Nat} {x mm oo : Int32} (h0 : tz_g A 148 0 = tz_j n) (hn : n + 4 ≤ 60) (h2 : tz_g A 148 2 = mm) (h3 : tz_g A 148 3 = oo) (h4 : tz_g A 148 4 = tz_j 0) : f_X0_run_0 (tz_j 2) (tz_j 0) x (tz_j 0) A = some (some (.int (((x + mm) * tz_j 2) ^^^ ((x - oo) + mm))), (nt (nt (nt (nt A n (tz_j 12)) (n + 1) (tz_j 11)) ((n + 1) + 1) (tz_j 10)) (((n + 1) + 1) + 1) (tz_j 10))) := by
  have s0 := cr_1_1_0_0 (A := (nt A n (tz_j 12))) (n := (n + 1)) (x := x) (mm := mm) (oo := oo) nt0 (by omega) (by simp (disch := omega) only [nt2, h2]) (by simp (disch := omega) only [nt2, h3]) (by simp (disch := omega) only [nt2, h4])
  have s1 := cr_1_0_0_x (A := (nt (nt (nt A n (tz_j 12)) (n + 1) (tz_j 11)) ((n + 1) + 1) (tz_j 10))) (n := (((n + 1) + 1) + 1)) (x := (x - oo)) (mm := mm) (oo := oo) nt0 (by omega) (by simp (disch := omega) only [nt2, h2]) (by simp (disch := omega) only [nt2, h3])
  have e1 := e_nt (x := tz_j 12) h0 (by omega)
  have a1 : ∀ f, tz_bI (f_X0_kindWithBody (tz_j 2) (tz_j 0) A) f = f (tz_j 0) A := bI_pre kw_2_0
  have a2 := bI_pre (bo_2_0 (A := A))
  have a3 := bV_pre e1
  rw [e_X0_run_0]
  simp (disch := omega) only [tz_lit, nj_m1, nj_m2, nj_m3, nj_m4, nj_m5, nj_m6, nj_m7, ↓reduceIte, tz_bI_some, tz_bV_some, tz_bL_some, cj10, cj01, cjm0, eq_self, not_true_eq_false, not_false_eq_true, or_false, false_or, or_true, true_or, or_self, and_true, true_and, and_false, false_and, nj_eqf, nj_ltt, nj_ltf, nj_let, nj_lef, nj_cl, nt_lef, ↓a1, ↓a2, ↓a3, xt_a, nt2, h2, h3, nj_add, h4, s0, s1]
theorem cr_2_0_1_x {A : tz_Mem} {n : Nat} {x mm oo : Int32} (h0 : tz_g A 148 0 = tz_j n) (hn : n + 2 ≤ 60) (h2 : tz_g A 148 2 = mm) (h3 : tz_g A 148 3 = oo) : f_X0_run_2 (tz_j 0) (tz_j 1) x (tz_j 2) A = some (some (.int ((x + mm) + oo)), (nt (nt A n (tz_j 20)) (n + 1) (tz_j 10))) := by
  have s0 := cr_3_0_0_x (A := (nt A n (tz_j 20))) (n := (n + 1)) (x := x) (mm := mm) (oo := oo) nt0 (by omega) (by simp (disch := omega) only [nt2, h2]) (by simp (disch := omega) only [nt2, h3])
  have e1 := e_nt (x := tz_j 20) h0 (by omega)
  have a1 : ∀ f, tz_bI (f_X0_kindWithBody (tz_j 0) (tz_j 1) A) f = f (tz_j 1) A := bI_pre kw_0_1
  have a2 := bI_pre (bo_0_1 (A := A))
  have a3 := bV_pre e1
  rw [e_X0_run_2]
  simp (disch := omega) only [tz_lit, nj_m1, nj_m2, nj_m3, nj_m4, nj_m5, nj_m6, nj_m7, ↓reduceIte, tz_bI_some, tz_bV_some, tz_bL_some, cj10, cj01, cjm0, eq_self, not_true_eq_false, not_false_eq_true, or_false, false_or, or_true, true_or, or_self, and_true, true_and, and_false, false_and, nj_eqf, nj_ltt, nj_ltf, nj_let, nj_lef, nj_cl, nt_lef, ↓a1, ↓a2, ↓a3, xt_a, nt2, h2, h3, nj_add, s0]
theorem cr_1_1_1_1 {A : tz_Mem} {n : Nat} {x mm oo : Int32} (h0 : tz_g A 148 0 = tz_j n) (hn : n + 3 ≤ 60) (h2 : tz_g A 148 2 = mm) (h3 : tz_g A 148 3 = oo) (h4 : tz_g A 148 4 = tz_j 1) : f_X0_run_1 (tz_j 1) (tz_j 1) x (tz_j 1) A = some (some (.int (((x + mm) + oo) * tz_j 2)), (nt (nt (nt A n (tz_j 11)) (n + 1) (tz_j 20)) ((n + 1) + 1) (tz_j 10))) := by
  have s0 := cr_2_0_1_x (A := (nt A n (tz_j 11))) (n := (n + 1)) (x := x) (mm := mm) (oo := oo) nt0 (by omega) (by simp (disch := omega) only [nt2, h2]) (by simp (disch := omega) only [nt2, h3])
  have e1 := e_nt (x := tz_j 11) h0 (by omega)
  have a1 : ∀ f, tz_bI (f_X0_kindWithBody (tz_j 1) (tz_j 1) A) f = f (tz_j 0) A := bI_pre kw_1_1
  have a2 := bI_pre (bo_1_0 (A := A))
  have a3 := bV_pre e1
  rw [e_X0_run_1]
  simp (disch := omega) only [tz_lit, nj_m1, nj_m2, nj_m3, nj_m4, nj_m5, nj_m6, nj_m7, ↓reduceIte, tz_bI_some, tz_bV_some, tz_bL_some, cj10, cj01, cjm0, eq_self, not_true_eq_false, not_false_eq_true, or_false, false_or, or_true, true_or, or_self, and_true, true_and, and_false, false_and, nj_eqf, nj_ltt, nj_ltf, nj_let, nj_lef, nj_cl, nt_lef, ↓a1, ↓a2, ↓a3, xt_a, nt2, h2, h3, nj_add, h4, s0]
theorem cr_0_2_1_1 {A : tz_Mem} {n : Nat} {x mm oo : Int32} (h0 : tz_g A 148 0 = tz_j n) (hn : n + 6 ≤ 60) (h2 : tz_g A 148 2 = mm) (h3 : tz_g A 148 3 = oo) (h4 : tz_g A 148 4 = tz_j 1) : f_X0_run_0 (tz_j 2) (tz_j 1) x (tz_j 0) A = some (some (.int ((((x + mm) + oo) * tz_j 2) ^^^ (((x - oo) + mm) + oo))), (nt (nt (nt (nt (nt (nt A n (tz_j 12)) (n + 1) (tz_j 11)) ((n + 1) + 1) (tz_j 20)) (((n + 1) + 1) + 1) (tz_j 10)) ((((n + 1) + 1) + 1) + 1) (tz_j 20)) (((((n + 1) + 1) + 1) + 1) + 1) (tz_j 10))) := by
  have s0 := cr_1_1_1_1 (A := (nt A n (tz_j 12))) (n := (n + 1)) (x := x) (mm := mm) (oo := oo) nt0 (by omega) (by simp (disch := omega) only [nt2, h2]) (by simp (disch := omega) only [nt2, h3]) (by simp (disch := omega) only [nt2, h4])
  have s1 := cr_1_0_1_x (A := (nt (nt (nt (nt A n (tz_j 12)) (n + 1) (tz_j 11)) ((n + 1) + 1) (tz_j 20)) (((n + 1) + 1) + 1) (tz_j 10))) (n := ((((n + 1) + 1) + 1) + 1)) (x := (x - oo)) (mm := mm) (oo := oo) nt0 (by omega) (by simp (disch := omega) only [nt2, h2]) (by simp (disch := omega) only [nt2, h3])
  have e1 := e_nt (x := tz_j 12) h0 (by omega)
  have a1 : ∀ f, tz_bI (f_X0_kindWithBody (tz_j 2) (tz_j 1) A) f = f (tz_j 0) A := bI_pre kw_2_1
  have a2 := bI_pre (bo_2_0 (A := A))
  have a3 := bV_pre e1
  rw [e_X0_run_0]
  simp (disch := omega) only [tz_lit, nj_m1, nj_m2, nj_m3, nj_m4, nj_m5, nj_m6, nj_m7, ↓reduceIte, tz_bI_some, tz_bV_some, tz_bL_some, cj10, cj01, cjm0, eq_self, not_true_eq_false, not_false_eq_true, or_false, false_or, or_true, true_or, or_self, and_true, true_and, and_false, false_and, nj_eqf, nj_ltt, nj_ltf, nj_let, nj_lef, nj_cl, nt_lef, ↓a1, ↓a2, ↓a3, xt_a, nt2, h2, h3, nj_add, h4, s0, s1]
theorem cr_3_0_2_x {A : tz_Mem} {n : Nat} {x mm oo : Int32} (h0 : tz_g A 148 0 = tz_j n) (hn : n + 1 ≤ 60) (h2 : tz_g A 148 2 = mm) (h3 : tz_g A 148 3 = oo) : f_X0_run_3 (tz_j 0) (tz_j 2) x (tz_j 3) A = some (some (.int (x + mm)), (nt A n (tz_j 10))) := by
  have e1 := e_nt (x := tz_j 10) h0 (by omega)
  have a1 : ∀ f, tz_bI (f_X0_kindWithBody (tz_j 0) (tz_j 2) A) f = f (tz_j 0) A := bI_pre kw_0_2
  have a2 := bI_pre (bo_0_0 (A := A))
  have a3 := bV_pre e1
  rw [e_X0_run_3]
  simp (disch := omega) only [tz_lit, nj_m1, nj_m2, nj_m3, nj_m4, nj_m5, nj_m6, nj_m7, ↓reduceIte, tz_bI_some, tz_bV_some, tz_bL_some, cj10, cj01, cjm0, eq_self, not_true_eq_false, not_false_eq_true, or_false, false_or, or_true, true_or, or_self, and_true, true_and, and_false, false_and, nj_eqf, nj_ltt, nj_ltf, nj_let, nj_lef, nj_cl, nt_lef, ↓a1, ↓a2, ↓a3, xt_a, nt2, h2, h3, nj_add]
theorem cr_2_1_0_2 {A : tz_Mem} {n : Nat} {x mm oo : Int32} (h0 : tz_g A 148 0 = tz_j n) (hn : n + 2 ≤ 60) (h2 : tz_g A 148 2 = mm) (h3 : tz_g A 148 3 = oo) (h4 : tz_g A 148 4 = tz_j 2) : f_X0_run_2 (tz_j 1) (tz_j 0) x (tz_j 2) A = some (some (.int ((x + mm) * tz_j 2)), (nt (nt A n (tz_j 11)) (n + 1) (tz_j 10))) := by
  have s0 := cr_3_0_2_x (A := (nt A n (tz_j 11))) (n := (n + 1)) (x := x) (mm := mm) (oo := oo) nt0 (by omega) (by simp (disch := omega) only [nt2, h2]) (by simp (disch := omega) only [nt2, h3])
  have e1 := e_nt (x := tz_j 11) h0 (by omega)
  have a1 : ∀ f, tz_bI (f_X0_kindWithBody (tz_j 1) (tz_j 0) A) f = f (tz_j 0) A := bI_pre kw_1_0
  have a2 := bI_pre (bo_1_0 (A := A))
  have a3 := bV_pre e1
  rw [e_X0_run_2]
  simp (disch := omega) only [tz_lit, nj_m1, nj_m2, nj_m3, nj_m4, nj_m5, nj_m6, nj_m7, ↓reduceIte, tz_bI_some, tz_bV_some, tz_bL_some, cj10, cj01, cjm0, eq_self, not_true_eq_false, not_false_eq_true, or_false, false_or, or_true, true_or, or_self, and_true, true_and, and_false, false_and, nj_eqf, nj_ltt, nj_ltf, nj_let, nj_lef, nj_cl, nt_lef, ↓a1, ↓a2, ↓a3, xt_a, nt2, h2, h3, nj_add, h4, s0]
theorem cr_1_1_2_2 {A : tz_Mem} {n : Nat} {x mm oo : Int32} (h0 : tz_g A 148 0 = tz_j n) (hn : n + 3 ≤ 60) (h2 : tz_g A 148 2 = mm) (h3 : tz_g A 148 3 = oo) (h4 : tz_g A 148 4 = tz_j 2) : f_X0_run_1 (tz_j 1) (tz_j 2) x (tz_j 1) A = some (some (.int (((x + mm) * tz_j 2) * tz_j 3)), (nt (nt (nt A n (tz_j 30)) (n + 1) (tz_j 11)) ((n + 1) + 1) (tz_j 10))) := by
  have s0 := cr_2_1_0_2 (A := (nt A n (tz_j 30))) (n := (n + 1)) (x := x) (mm := mm) (oo := oo) nt0 (by omega) (by simp (disch := omega) only [nt2, h2]) (by simp (disch := omega) only [nt2, h3]) (by simp (disch := omega) only [nt2, h4])
  have e1 := e_nt (x := tz_j 30) h0 (by omega)
  have a1 : ∀ f, tz_bI (f_X0_kindWithBody (tz_j 1) (tz_j 2) A) f = f (tz_j 2) A := bI_pre kw_1_2
  have a2 := bI_pre (bo_1_2 (A := A))
  have a3 := bV_pre e1
  rw [e_X0_run_1]
  simp (disch := omega) only [tz_lit, nj_m1, nj_m2, nj_m3, nj_m4, nj_m5, nj_m6, nj_m7, ↓reduceIte, tz_bI_some, tz_bV_some, tz_bL_some, cj10, cj01, cjm0, eq_self, not_true_eq_false, not_false_eq_true, or_false, false_or, or_true, true_or, or_self, and_true, true_and, and_false, false_and, nj_eqf, nj_ltt, nj_ltf, nj_let, nj_lef, nj_cl, nt_lef, ↓a1, ↓a2, ↓a3, xt_a, nt2, h2, h3, nj_add, h4, s0]
theorem cr_1_0_2_x {A : tz_Mem} {n : Nat} {x mm oo : Int32} (h0 : tz_g A 148 0 = tz_j n) (hn : n + 1 ≤ 60) (h2 : tz_g A 148 2 = mm) (h3 : tz_g A 148 3 = oo) : f_X0_run_1 (tz_j 0) (tz_j 2) x (tz_j 1) A = some (some (.int (x + mm)), (nt A n (tz_j 10))) := by
  have e1 := e_nt (x := tz_j 10) h0 (by omega)
  have a1 : ∀ f, tz_bI (f_X0_kindWithBody (tz_j 0) (tz_j 2) A) f = f (tz_j 0) A := bI_pre kw_0_2
  have a2 := bI_pre (bo_0_0 (A := A))
  have a3 := bV_pre e1
  rw [e_X0_run_1]
  simp (disch := omega) only [tz_lit, nj_m1, nj_m2, nj_m3, nj_m4, nj_m5, nj_m6, nj_m7, ↓reduceIte, tz_bI_some, tz_bV_some, tz_bL_some, cj10, cj01, cjm0, eq_self, not_true_eq_false, not_false_eq_true, or_false, false_or, or_true, true_or, or_self, and_true, true_and, and_false, false_and, nj_eqf, nj_ltt, nj_ltf, nj_let, nj_lef, nj_cl, nt_lef, ↓a1, ↓a2, ↓a3, xt_a, nt2, h2, h3, nj_add]
theorem cr_0_2_2_2 {A : tz_Mem} {n : Nat} {x mm oo : Int32} (h0 : tz_g A 148 0 = tz_j n) (hn : n + 5 ≤ 60) (h2 : tz_g A 148 2 = mm) (h3 : tz_g A 148 3 = oo) (h4 : tz_g A 148 4 = tz_j 2) : f_X0_run_0 (tz_j 2) (tz_j 2) x (tz_j 0) A = some (some (.int ((((x + mm) * tz_j 2) * tz_j 3) ^^^ ((x - oo) + mm))), (nt (nt (nt (nt (nt A n (tz_j 12)) (n + 1) (tz_j 30)) ((n + 1) + 1) (tz_j 11)) (((n + 1) + 1) + 1) (tz_j 10)) ((((n + 1) + 1) + 1) + 1) (tz_j 10))) := by
  have s0 := cr_1_1_2_2 (A := (nt A n (tz_j 12))) (n := (n + 1)) (x := x) (mm := mm) (oo := oo) nt0 (by omega) (by simp (disch := omega) only [nt2, h2]) (by simp (disch := omega) only [nt2, h3]) (by simp (disch := omega) only [nt2, h4])
  have s1 := cr_1_0_2_x (A := (nt (nt (nt (nt A n (tz_j 12)) (n + 1) (tz_j 30)) ((n + 1) + 1) (tz_j 11)) (((n + 1) + 1) + 1) (tz_j 10))) (n := ((((n + 1) + 1) + 1) + 1)) (x := (x - oo)) (mm := mm) (oo := oo) nt0 (by omega) (by simp (disch := omega) only [nt2, h2]) (by simp (disch := omega) only [nt2, h3])
  have e1 := e_nt (x := tz_j 12) h0 (by omega)
  have a1 : ∀ f, tz_bI (f_X0_kindWithBody (tz_j 2) (tz_j 2) A) f = f (tz_j 0) A := bI_pre kw_2_2
  have a2 := bI_pre (bo_2_0 (A := A))
  have a3 := bV_pre e1
  rw [e_X0_run_0]
  simp (disch := omega) only [tz_lit, nj_m1, nj_m2, nj_m3, nj_m4, nj_m5, nj_m6, nj_m7, ↓reduceIte, tz_bI_some, tz_bV_some, tz_bL_some, cj10, cj01, cjm0, eq_self, not_true_eq_false, not_false_eq_true, or_false, false_or, or_true, true_or, or_self, and_true, true_and, and_false, false_and, nj_eqf, nj_ltt, nj_ltf, nj_let, nj_lef, nj_cl, nt_lef, ↓a1, ↓a2, ↓a3, xt_a, nt2, h2, h3, nj_add, h4, s0, s1]
theorem cr_3_0_3_x {A : tz_Mem} {n : Nat} {x mm oo : Int32} (h0 : tz_g A 148 0 = tz_j n) (hn : n + 2 ≤ 60) (h2 : tz_g A 148 2 = mm) (h3 : tz_g A 148 3 = oo) : f_X0_run_3 (tz_j 0) (tz_j 3) x (tz_j 3) A = some (some (.int ((x + mm) + oo)), (nt (nt A n (tz_j 20)) (n + 1) (tz_j 10))) := by
  have s0 := cr_4_0_0_x (A := (nt A n (tz_j 20))) (n := (n + 1)) (x := x) (mm := mm) (oo := oo) nt0 (by omega) (by simp (disch := omega) only [nt2, h2]) (by simp (disch := omega) only [nt2, h3])
  have e1 := e_nt (x := tz_j 20) h0 (by omega)
  have a1 : ∀ f, tz_bI (f_X0_kindWithBody (tz_j 0) (tz_j 3) A) f = f (tz_j 1) A := bI_pre kw_0_3
  have a2 := bI_pre (bo_0_1 (A := A))
  have a3 := bV_pre e1
  rw [e_X0_run_3]
  simp (disch := omega) only [tz_lit, nj_m1, nj_m2, nj_m3, nj_m4, nj_m5, nj_m6, nj_m7, ↓reduceIte, tz_bI_some, tz_bV_some, tz_bL_some, cj10, cj01, cjm0, eq_self, not_true_eq_false, not_false_eq_true, or_false, false_or, or_true, true_or, or_self, and_true, true_and, and_false, false_and, nj_eqf, nj_ltt, nj_ltf, nj_let, nj_lef, nj_cl, nt_lef, ↓a1, ↓a2, ↓a3, xt_a, nt2, h2, h3, nj_add, s0]
theorem cr_2_1_1_3 {A : tz_Mem} {n : Nat} {x mm oo : Int32} (h0 : tz_g A 148 0 = tz_j n) (hn : n + 3 ≤ 60) (h2 : tz_g A 148 2 = mm) (h3 : tz_g A 148 3 = oo) (h4 : tz_g A 148 4 = tz_j 3) : f_X0_run_2 (tz_j 1) (tz_j 1) x (tz_j 2) A = some (some (.int (((x + mm) + oo) * tz_j 2)), (nt (nt (nt A n (tz_j 11)) (n + 1) (tz_j 20)) ((n + 1) + 1) (tz_j 10))) := by
  have s0 := cr_3_0_3_x (A := (nt A n (tz_j 11))) (n := (n + 1)) (x := x) (mm := mm) (oo := oo) nt0 (by omega) (by simp (disch := omega) only [nt2, h2]) (by simp (disch := omega) only [nt2, h3])
  have e1 := e_nt (x := tz_j 11) h0 (by omega)
  have a1 : ∀ f, tz_bI (f_X0_kindWithBody (tz_j 1) (tz_j 1) A) f = f (tz_j 0) A := bI_pre kw_1_1
  have a2 := bI_pre (bo_1_0 (A := A))
  have a3 := bV_pre e1
  rw [e_X0_run_2]
  simp (disch := omega) only [tz_lit, nj_m1, nj_m2, nj_m3, nj_m4, nj_m5, nj_m6, nj_m7, ↓reduceIte, tz_bI_some, tz_bV_some, tz_bL_some, cj10, cj01, cjm0, eq_self, not_true_eq_false, not_false_eq_true, or_false, false_or, or_true, true_or, or_self, and_true, true_and, and_false, false_and, nj_eqf, nj_ltt, nj_ltf, nj_let, nj_lef, nj_cl, nt_lef, ↓a1, ↓a2, ↓a3, xt_a, nt2, h2, h3, nj_add, h4, s0]
theorem cr_1_1_3_3 {A : tz_Mem} {n : Nat} {x mm oo : Int32} (h0 : tz_g A 148 0 = tz_j n) (hn : n + 4 ≤ 60) (h2 : tz_g A 148 2 = mm) (h3 : tz_g A 148 3 = oo) (h4 : tz_g A 148 4 = tz_j 3) : f_X0_run_1 (tz_j 1) (tz_j 3) x (tz_j 1) A = some (some (.int ((((x + tz_j 1) + mm) + oo) * tz_j 2)), (nt (nt (nt (nt A n (tz_j 40)) (n + 1) (tz_j 11)) ((n + 1) + 1) (tz_j 20)) (((n + 1) + 1) + 1) (tz_j 10))) := by
  have s0 := cr_2_1_1_3 (A := (nt A n (tz_j 40))) (n := (n + 1)) (x := (x + tz_j 1)) (mm := mm) (oo := oo) nt0 (by omega) (by simp (disch := omega) only [nt2, h2]) (by simp (disch := omega) only [nt2, h3]) (by simp (disch := omega) only [nt2, h4])
  have e1 := e_nt (x := tz_j 40) h0 (by omega)
  have a1 : ∀ f, tz_bI (f_X0_kindWithBody (tz_j 1) (tz_j 3) A) f = f (tz_j 3) A := bI_pre kw_1_3
  have a2 := bI_pre (bo_1_3 (A := A))
  have a3 := bV_pre e1
  rw [e_X0_run_1]
  simp (disch := omega) only [tz_lit, nj_m1, nj_m2, nj_m3, nj_m4, nj_m5, nj_m6, nj_m7, ↓reduceIte, tz_bI_some, tz_bV_some, tz_bL_some, cj10, cj01, cjm0, eq_self, not_true_eq_false, not_false_eq_true, or_false, false_or, or_true, true_or, or_self, and_true, true_and, and_false, false_and, nj_eqf, nj_ltt, nj_ltf, nj_let, nj_lef, nj_cl, nt_lef, ↓a1, ↓a2, ↓a3, xt_a, nt2, h2, h3, nj_add, h4, s0]
theorem cr_1_0_3_x {A : tz_Mem} {n : Nat} {x mm oo : Int32} (h0 : tz_g A 148 0 = tz_j n) (hn : n + 2 ≤ 60) (h2 : tz_g A 148 2 = mm) (h3 : tz_g A 148 3 = oo) : f_X0_run_1 (tz_j 0) (tz_j 3) x (tz_j 1) A = some (some (.int ((x + mm) + oo)), (nt (nt A n (tz_j 20)) (n + 1) (tz_j 10))) := by
  have s0 := cr_2_0_0_x (A := (nt A n (tz_j 20))) (n := (n + 1)) (x := x) (mm := mm) (oo := oo) nt0 (by omega) (by simp (disch := omega) only [nt2, h2]) (by simp (disch := omega) only [nt2, h3])
  have e1 := e_nt (x := tz_j 20) h0 (by omega)
  have a1 : ∀ f, tz_bI (f_X0_kindWithBody (tz_j 0) (tz_j 3) A) f = f (tz_j 1) A := bI_pre kw_0_3
  have a2 := bI_pre (bo_0_1 (A := A))
  have a3 := bV_pre e1
  rw [e_X0_run_1]
  simp (disch := omega) only [tz_lit, nj_m1, nj_m2, nj_m3, nj_m4, nj_m5, nj_m6, nj_m7, ↓reduceIte, tz_bI_some, tz_bV_some, tz_bL_some, cj10, cj01, cjm0, eq_self, not_true_eq_false, not_false_eq_true, or_false, false_or, or_true, true_or, or_self, and_true, true_and, and_false, false_and, nj_eqf, nj_ltt, nj_ltf, nj_let, nj_lef, nj_cl, nt_lef, ↓a1, ↓a2, ↓a3, xt_a, nt2, h2, h3, nj_add, s0]
theorem cr_0_2_3_3 {A : tz_Mem} {n : Nat} {x mm oo : Int32} (h0 : tz_g A 148 0 = tz_j n) (hn : n + 7 ≤ 60) (h2 : tz_g A 148 2 = mm) (h3 : tz_g A 148 3 = oo) (h4 : tz_g A 148 4 = tz_j 3) : f_X0_run_0 (tz_j 2) (tz_j 3) x (tz_j 0) A = some (some (.int (((((x + tz_j 1) + mm) + oo) * tz_j 2) ^^^ (((x - oo) + mm) + oo))), (nt (nt (nt (nt (nt (nt (nt A n (tz_j 12)) (n + 1) (tz_j 40)) ((n + 1) + 1) (tz_j 11)) (((n + 1) + 1) + 1) (tz_j 20)) ((((n + 1) + 1) + 1) + 1) (tz_j 10)) (((((n + 1) + 1) + 1) + 1) + 1) (tz_j 20)) ((((((n + 1) + 1) + 1) + 1) + 1) + 1) (tz_j 10))) := by
  have s0 := cr_1_1_3_3 (A := (nt A n (tz_j 12))) (n := (n + 1)) (x := x) (mm := mm) (oo := oo) nt0 (by omega) (by simp (disch := omega) only [nt2, h2]) (by simp (disch := omega) only [nt2, h3]) (by simp (disch := omega) only [nt2, h4])
  have s1 := cr_1_0_3_x (A := (nt (nt (nt (nt (nt A n (tz_j 12)) (n + 1) (tz_j 40)) ((n + 1) + 1) (tz_j 11)) (((n + 1) + 1) + 1) (tz_j 20)) ((((n + 1) + 1) + 1) + 1) (tz_j 10))) (n := (((((n + 1) + 1) + 1) + 1) + 1)) (x := (x - oo)) (mm := mm) (oo := oo) nt0 (by omega) (by simp (disch := omega) only [nt2, h2]) (by simp (disch := omega) only [nt2, h3])
  have e1 := e_nt (x := tz_j 12) h0 (by omega)
  have a1 : ∀ f, tz_bI (f_X0_kindWithBody (tz_j 2) (tz_j 3) A) f = f (tz_j 0) A := bI_pre kw_2_3
  have a2 := bI_pre (bo_2_0 (A := A))
  have a3 := bV_pre e1
  rw [e_X0_run_0]
  simp (disch := omega) only [tz_lit, nj_m1, nj_m2, nj_m3, nj_m4, nj_m5, nj_m6, nj_m7, ↓reduceIte, tz_bI_some, tz_bV_some, tz_bL_some, cj10, cj01, cjm0, eq_self, not_true_eq_false, not_false_eq_true, or_false, false_or, or_true, true_or, or_self, and_true, true_and, and_false, false_and, nj_eqf, nj_ltt, nj_ltf, nj_let, nj_lef, nj_cl, nt_lef, ↓a1, ↓a2, ↓a3, xt_a, nt2, h2, h3, nj_add, h4, s0, s1]
theorem cr_2_1_4_4 {A : tz_Mem} {n : Nat} {x mm oo : Int32} (h0 : tz_g A 148 0 = tz_j n) (hn : n + 3 ≤ 60) (h2 : tz_g A 148 2 = mm) (h3 : tz_g A 148 3 = oo) (h4 : tz_g A 148 4 = tz_j 4) : f_X0_run_2 (tz_j 1) (tz_j 4) x (tz_j 2) A = some (some (.int (((x + mm) - mm) * tz_j 2)), (nt (nt (nt A n (tz_j 11)) (n + 1) (tz_j 51)) ((n + 1) + 1) (tz_j 10))) := by
  have s0 := cr_3_0_4_x (A := (nt A n (tz_j 11))) (n := (n + 1)) (x := x) (mm := mm) (oo := oo) nt0 (by omega) (by simp (disch := omega) only [nt2, h2]) (by simp (disch := omega) only [nt2, h3])
  have e1 := e_nt (x := tz_j 11) h0 (by omega)
  have a1 : ∀ f, tz_bI (f_X0_kindWithBody (tz_j 1) (tz_j 4) A) f = f (tz_j 0) A := bI_pre kw_1_4
  have a2 := bI_pre (bo_1_0 (A := A))
  have a3 := bV_pre e1
  rw [e_X0_run_2]
  simp (disch := omega) only [tz_lit, nj_m1, nj_m2, nj_m3, nj_m4, nj_m5, nj_m6, nj_m7, ↓reduceIte, tz_bI_some, tz_bV_some, tz_bL_some, cj10, cj01, cjm0, eq_self, not_true_eq_false, not_false_eq_true, or_false, false_or, or_true, true_or, or_self, and_true, true_and, and_false, false_and, nj_eqf, nj_ltt, nj_ltf, nj_let, nj_lef, nj_cl, nt_lef, ↓a1, ↓a2, ↓a3, xt_a, nt2, h2, h3, nj_add, h4, s0]
theorem cr_2_0_4_x {A : tz_Mem} {n : Nat} {x mm oo : Int32} (h0 : tz_g A 148 0 = tz_j n) (hn : n + 2 ≤ 60) (h2 : tz_g A 148 2 = mm) (h3 : tz_g A 148 3 = oo) : f_X0_run_2 (tz_j 0) (tz_j 4) x (tz_j 2) A = some (some (.int ((x + mm) - mm)), (nt (nt A n (tz_j 51)) (n + 1) (tz_j 10))) := by
  have s0 := cr_3_0_0_x (A := (nt A n (tz_j 51))) (n := (n + 1)) (x := x) (mm := mm) (oo := oo) nt0 (by omega) (by simp (disch := omega) only [nt2, h2]) (by simp (disch := omega) only [nt2, h3])
  have e1 := e_nt (x := tz_j 51) h0 (by omega)
  have a1 : ∀ f, tz_bI (f_X0_kindWithBody (tz_j 0) (tz_j 4) A) f = f (tz_j 4) A := bI_pre kw_0_4
  have a2 := bI_pre (bo_0_4 (A := A))
  have a3 := bV_pre e1
  rw [e_X0_run_2]
  simp (disch := omega) only [tz_lit, nj_m1, nj_m2, nj_m3, nj_m4, nj_m5, nj_m6, nj_m7, ↓reduceIte, tz_bI_some, tz_bV_some, tz_bL_some, cj10, cj01, cjm0, eq_self, not_true_eq_false, not_false_eq_true, or_false, false_or, or_true, true_or, or_self, and_true, true_and, and_false, false_and, nj_eqf, nj_ltt, nj_ltf, nj_let, nj_lef, nj_cl, nt_lef, ↓a1, ↓a2, ↓a3, xt_a, nt2, h2, h3, nj_add, s0]
theorem cr_1_2_0_4 {A : tz_Mem} {n : Nat} {x mm oo : Int32} (h0 : tz_g A 148 0 = tz_j n) (hn : n + 6 ≤ 60) (h2 : tz_g A 148 2 = mm) (h3 : tz_g A 148 3 = oo) (h4 : tz_g A 148 4 = tz_j 4) : f_X0_run_1 (tz_j 2) (tz_j 0) x (tz_j 1) A = some (some (.int ((((x + mm) - mm) * tz_j 2) ^^^ (((x - oo) + mm) - mm))), (nt (nt (nt (nt (nt (nt A n (tz_j 12)) (n + 1) (tz_j 11)) ((n + 1) + 1) (tz_j 51)) (((n + 1) + 1) + 1) (tz_j 10)) ((((n + 1) + 1) + 1) + 1) (tz_j 51)) (((((n + 1) + 1) + 1) + 1) + 1) (tz_j 10))) := by
  have s0 := cr_2_1_4_4 (A := (nt A n (tz_j 12))) (n := (n + 1)) (x := x) (mm := mm) (oo := oo) nt0 (by omega) (by simp (disch := omega) only [nt2, h2]) (by simp (disch := omega) only [nt2, h3]) (by simp (disch := omega) only [nt2, h4])
  have s1 := cr_2_0_4_x (A := (nt (nt (nt (nt A n (tz_j 12)) (n + 1) (tz_j 11)) ((n + 1) + 1) (tz_j 51)) (((n + 1) + 1) + 1) (tz_j 10))) (n := ((((n + 1) + 1) + 1) + 1)) (x := (x - oo)) (mm := mm) (oo := oo) nt0 (by omega) (by simp (disch := omega) only [nt2, h2]) (by simp (disch := omega) only [nt2, h3])
  have e1 := e_nt (x := tz_j 12) h0 (by omega)
  have a1 : ∀ f, tz_bI (f_X0_kindWithBody (tz_j 2) (tz_j 0) A) f = f (tz_j 0) A := bI_pre kw_2_0
  have a2 := bI_pre (bo_2_0 (A := A))
  have a3 := bV_pre e1
  rw [e_X0_run_1]
  simp (disch := omega) only [tz_lit, nj_m1, nj_m2, nj_m3, nj_m4, nj_m5, nj_m6, nj_m7, ↓reduceIte, tz_bI_some, tz_bV_some, tz_bL_some, cj10, cj01, cjm0, eq_self, not_true_eq_false, not_false_eq_true, or_false, false_or, or_true, true_or, or_self, and_true, true_and, and_false, false_and, nj_eqf, nj_ltt, nj_ltf, nj_let, nj_lef, nj_cl, nt_lef, ↓a1, ↓a2, ↓a3, xt_a, nt2, h2, h3, nj_add, h4, s0, s1]
theorem cr_0_2_4_4 {A : tz_Mem} {n : Nat} {x mm oo : Int32} (h0 : tz_g A 148 0 = tz_j n) (hn : n + 7 ≤ 60) (h2 : tz_g A 148 2 = mm) (h3 : tz_g A 148 3 = oo) (h4 : tz_g A 148 4 = tz_j 4) : f_X0_run_0 (tz_j 2) (tz_j 4) x (tz_j 0) A = some (some (.int (-((((x + mm) - mm) * tz_j 2) ^^^ (((x - oo) + mm) - mm)))), (nt (nt (nt (nt (nt (nt (nt A n (tz_j 50)) (n + 1) (tz_j 12)) ((n + 1) + 1) (tz_j 11)) (((n + 1) + 1) + 1) (tz_j 51)) ((((n + 1) + 1) + 1) + 1) (tz_j 10)) (((((n + 1) + 1) + 1) + 1) + 1) (tz_j 51)) ((((((n + 1) + 1) + 1) + 1) + 1) + 1) (tz_j 10))) := by
  have s0 := cr_1_2_0_4 (A := (nt A n (tz_j 50))) (n := (n + 1)) (x := x) (mm := mm) (oo := oo) nt0 (by omega) (by simp (disch := omega) only [nt2, h2]) (by simp (disch := omega) only [nt2, h3]) (by simp (disch := omega) only [nt2, h4])
  have e1 := e_nt (x := tz_j 50) h0 (by omega)
  have a1 : ∀ f, tz_bI (f_X0_kindWithBody (tz_j 2) (tz_j 4) A) f = f (tz_j 4) A := bI_pre kw_2_4
  have a2 := bI_pre (bo_2_4 (A := A))
  have a3 := bV_pre e1
  rw [e_X0_run_0]
  simp (disch := omega) only [tz_lit, nj_m1, nj_m2, nj_m3, nj_m4, nj_m5, nj_m6, nj_m7, ↓reduceIte, tz_bI_some, tz_bV_some, tz_bL_some, cj10, cj01, cjm0, eq_self, not_true_eq_false, not_false_eq_true, or_false, false_or, or_true, true_or, or_self, and_true, true_and, and_false, false_and, nj_eqf, nj_ltt, nj_ltf, nj_let, nj_lef, nj_cl, nt_lef, ↓a1, ↓a2, ↓a3, xt_a, nt2, h2, h3, nj_add, h4, s0]
theorem cr_4_0_5_x {A : tz_Mem} {n : Nat} {x mm oo : Int32} (h0 : tz_g A 148 0 = tz_j n) (hn : n + 1 ≤ 60) (h2 : tz_g A 148 2 = mm) (h3 : tz_g A 148 3 = oo) : f_X0_run_4 (tz_j 0) (tz_j 5) x (tz_j 4) A = some (some (.int (x + mm)), (nt A n (tz_j 10))) := by
  have e1 := e_nt (x := tz_j 10) h0 (by omega)
  have a1 : ∀ f, tz_bI (f_X0_kindWithBody (tz_j 0) (tz_j 5) A) f = f (tz_j 0) A := bI_pre kw_0_5
  have a2 := bI_pre (bo_0_0 (A := A))
  have a3 := bV_pre e1
  rw [e_X0_run_4]
  simp (disch := omega) only [tz_lit, nj_m1, nj_m2, nj_m3, nj_m4, nj_m5, nj_m6, nj_m7, ↓reduceIte, tz_bI_some, tz_bV_some, tz_bL_some, cj10, cj01, cjm0, eq_self, not_true_eq_false, not_false_eq_true, or_false, false_or, or_true, true_or, or_self, and_true, true_and, and_false, false_and, nj_eqf, nj_ltt, nj_ltf, nj_let, nj_lef, nj_cl, nt_lef, ↓a1, ↓a2, ↓a3, xt_a, nt2, h2, h3, nj_add]
theorem cr_3_1_0_5 {A : tz_Mem} {n : Nat} {x mm oo : Int32} (h0 : tz_g A 148 0 = tz_j n) (hn : n + 2 ≤ 60) (h2 : tz_g A 148 2 = mm) (h3 : tz_g A 148 3 = oo) (h4 : tz_g A 148 4 = tz_j 5) : f_X0_run_3 (tz_j 1) (tz_j 0) x (tz_j 3) A = some (some (.int ((x + mm) * tz_j 2)), (nt (nt A n (tz_j 11)) (n + 1) (tz_j 10))) := by
  have s0 := cr_4_0_5_x (A := (nt A n (tz_j 11))) (n := (n + 1)) (x := x) (mm := mm) (oo := oo) nt0 (by omega) (by simp (disch := omega) only [nt2, h2]) (by simp (disch := omega) only [nt2, h3])
  have e1 := e_nt (x := tz_j 11) h0 (by omega)
  have a1 : ∀ f, tz_bI (f_X0_kindWithBody (tz_j 1) (tz_j 0) A) f = f (tz_j 0) A := bI_pre kw_1_0
  have a2 := bI_pre (bo_1_0 (A := A))
  have a3 := bV_pre e1
  rw [e_X0_run_3]
  simp (disch := omega) only [tz_lit, nj_m1, nj_m2, nj_m3, nj_m4, nj_m5, nj_m6, nj_m7, ↓reduceIte, tz_bI_some, tz_bV_some, tz_bL_some, cj10, cj01, cjm0, eq_self, not_true_eq_false, not_false_eq_true, or_false, false_or, or_true, true_or, or_self, and_true, true_and, and_false, false_and, nj_eqf, nj_ltt, nj_ltf, nj_let, nj_lef, nj_cl, nt_lef, ↓a1, ↓a2, ↓a3, xt_a, nt2, h2, h3, nj_add, h4, s0]
theorem cr_2_1_5_5 {A : tz_Mem} {n : Nat} {x mm oo : Int32} (h0 : tz_g A 148 0 = tz_j n) (hn : n + 3 ≤ 60) (h2 : tz_g A 148 2 = mm) (h3 : tz_g A 148 3 = oo) (h4 : tz_g A 148 4 = tz_j 5) : f_X0_run_2 (tz_j 1) (tz_j 5) x (tz_j 2) A = some (some (.int (((x + mm) * tz_j 2) * tz_j 3)), (nt (nt (nt A n (tz_j 30)) (n + 1) (tz_j 11)) ((n + 1) + 1) (tz_j 10))) := by
  have s0 := cr_3_1_0_5 (A := (nt A n (tz_j 30))) (n := (n + 1)) (x := x) (mm := mm) (oo := oo) nt0 (by omega) (by simp (disch := omega) only [nt2, h2]) (by simp (disch := omega) only [nt2, h3]) (by simp (disch := omega) only [nt2, h4])
  have e1 := e_nt (x := tz_j 30) h0 (by omega)
  have a1 : ∀ f, tz_bI (f_X0_kindWithBody (tz_j 1) (tz_j 5) A) f = f (tz_j 2) A := bI_pre kw_1_5
  have a2 := bI_pre (bo_1_2 (A := A))
  have a3 := bV_pre e1
  rw [e_X0_run_2]
  simp (disch := omega) only [tz_lit, nj_m1, nj_m2, nj_m3, nj_m4, nj_m5, nj_m6, nj_m7, ↓reduceIte, tz_bI_some, tz_bV_some, tz_bL_some, cj10, cj01, cjm0, eq_self, not_true_eq_false, not_false_eq_true, or_false, false_or, or_true, true_or, or_self, and_true, true_and, and_false, false_and, nj_eqf, nj_ltt, nj_ltf, nj_let, nj_lef, nj_cl, nt_lef, ↓a1, ↓a2, ↓a3, xt_a, nt2, h2, h3, nj_add, h4, s0]
theorem cr_1_2_2_5 {A : tz_Mem} {n : Nat} {x mm oo : Int32} (h0 : tz_g A 148 0 = tz_j n) (hn : n + 5 ≤ 60) (h2 : tz_g A 148 2 = mm) (h3 : tz_g A 148 3 = oo) (h4 : tz_g A 148 4 = tz_j 5) : f_X0_run_1 (tz_j 2) (tz_j 2) x (tz_j 1) A = some (some (.int ((((x + mm) * tz_j 2) * tz_j 3) ^^^ ((x - oo) + mm))), (nt (nt (nt (nt (nt A n (tz_j 12)) (n + 1) (tz_j 30)) ((n + 1) + 1) (tz_j 11)) (((n + 1) + 1) + 1) (tz_j 10)) ((((n + 1) + 1) + 1) + 1) (tz_j 10))) := by
  have s0 := cr_2_1_5_5 (A := (nt A n (tz_j 12))) (n := (n + 1)) (x := x) (mm := mm) (oo := oo) nt0 (by omega) (by simp (disch := omega) only [nt2, h2]) (by simp (disch := omega) only [nt2, h3]) (by simp (disch := omega) only [nt2, h4])
  have s1 := cr_2_0_5_x (A := (nt (nt (nt (nt A n (tz_j 12)) (n + 1) (tz_j 30)) ((n + 1) + 1) (tz_j 11)) (((n + 1) + 1) + 1) (tz_j 10))) (n := ((((n + 1) + 1) + 1) + 1)) (x := (x - oo)) (mm := mm) (oo := oo) nt0 (by omega) (by simp (disch := omega) only [nt2, h2]) (by simp (disch := omega) only [nt2, h3])
  have e1 := e_nt (x := tz_j 12) h0 (by omega)
  have a1 : ∀ f, tz_bI (f_X0_kindWithBody (tz_j 2) (tz_j 2) A) f = f (tz_j 0) A := bI_pre kw_2_2
  have a2 := bI_pre (bo_2_0 (A := A))
  have a3 := bV_pre e1
  rw [e_X0_run_1]
  simp (disch := omega) only [tz_lit, nj_m1, nj_m2, nj_m3, nj_m4, nj_m5, nj_m6, nj_m7, ↓reduceIte, tz_bI_some, tz_bV_some, tz_bL_some, cj10, cj01, cjm0, eq_self, not_true_eq_false, not_false_eq_true, or_false, false_or, or_true, true_or, or_self, and_true, true_and, and_false, false_and, nj_eqf, nj_ltt, nj_ltf, nj_let, nj_lef, nj_cl, nt_lef, ↓a1, ↓a2, ↓a3, xt_a, nt2, h2, h3, nj_add, h4, s0, s1]
theorem cr_0_2_5_5 {A : tz_Mem} {n : Nat} {x mm oo : Int32} (h0 : tz_g A 148 0 = tz_j n) (hn : n + 6 ≤ 60) (h2 : tz_g A 148 2 = mm) (h3 : tz_g A 148 3 = oo) (h4 : tz_g A 148 4 = tz_j 5) : f_X0_run_0 (tz_j 2) (tz_j 5) x (tz_j 0) A = some (some (.int (((((x + mm) * tz_j 2) * tz_j 3) ^^^ ((x - oo) + mm)) ^^^ tz_j 5)), (nt (nt (nt (nt (nt (nt A n (tz_j 60)) (n + 1) (tz_j 12)) ((n + 1) + 1) (tz_j 30)) (((n + 1) + 1) + 1) (tz_j 11)) ((((n + 1) + 1) + 1) + 1) (tz_j 10)) (((((n + 1) + 1) + 1) + 1) + 1) (tz_j 10))) := by
  have s0 := cr_1_2_2_5 (A := (nt A n (tz_j 60))) (n := (n + 1)) (x := x) (mm := mm) (oo := oo) nt0 (by omega) (by simp (disch := omega) only [nt2, h2]) (by simp (disch := omega) only [nt2, h3]) (by simp (disch := omega) only [nt2, h4])
  have e1 := e_nt (x := tz_j 60) h0 (by omega)
  have a1 : ∀ f, tz_bI (f_X0_kindWithBody (tz_j 2) (tz_j 5) A) f = f (tz_j 5) A := bI_pre kw_2_5
  have a2 := bI_pre (bo_2_5 (A := A))
  have a3 := bV_pre e1
  rw [e_X0_run_0]
  simp (disch := omega) only [tz_lit, nj_m1, nj_m2, nj_m3, nj_m4, nj_m5, nj_m6, nj_m7, ↓reduceIte, tz_bI_some, tz_bV_some, tz_bL_some, cj10, cj01, cjm0, eq_self, not_true_eq_false, not_false_eq_true, or_false, false_or, or_true, true_or, or_self, and_true, true_and, and_false, false_and, nj_eqf, nj_ltt, nj_ltf, nj_let, nj_lef, nj_cl, nt_lef, ↓a1, ↓a2, ↓a3, xt_a, nt2, h2, h3, nj_add, h4, s0]
theorem cr_6_0_0_x {A : tz_Mem} {n : Nat} {x mm oo : Int32} (h0 : tz_g A 148 0 = tz_j n) (hn : n + 1 ≤ 60) (h2 : tz_g A 148 2 = mm) (h3 : tz_g A 148 3 = oo) : f_X0_run_6 (tz_j 0) (tz_j 0) x (tz_j 6) A = some (some (.int (x + mm)), (nt A n (tz_j 10))) := by
  have e1 := e_nt (x := tz_j 10) h0 (by omega)
  have a1 : ∀ f, tz_bI (f_X0_kindWithBody (tz_j 0) (tz_j 0) A) f = f (tz_j 0) A := bI_pre kw_0_0
  have a2 := bI_pre (bo_0_0 (A := A))
  have a3 := bV_pre e1
  rw [e_X0_run_6]
  simp (disch := omega) only [tz_lit, nj_m1, nj_m2, nj_m3, nj_m4, nj_m5, nj_m6, nj_m7, ↓reduceIte, tz_bI_some, tz_bV_some, tz_bL_some, cj10, cj01, cjm0, eq_self, not_true_eq_false, not_false_eq_true, or_false, false_or, or_true, true_or, or_self, and_true, true_and, and_false, false_and, nj_eqf, nj_ltt, nj_ltf, nj_let, nj_lef, nj_cl, nt_lef, ↓a1, ↓a2, ↓a3, xt_a, nt2, h2, h3, nj_add]
theorem cr_5_0_4_x {A : tz_Mem} {n : Nat} {x mm oo : Int32} (h0 : tz_g A 148 0 = tz_j n) (hn : n + 2 ≤ 60) (h2 : tz_g A 148 2 = mm) (h3 : tz_g A 148 3 = oo) : f_X0_run_5 (tz_j 0) (tz_j 4) x (tz_j 5) A = some (some (.int ((x + mm) - mm)), (nt (nt A n (tz_j 51)) (n + 1) (tz_j 10))) := by
  have s0 := cr_6_0_0_x (A := (nt A n (tz_j 51))) (n := (n + 1)) (x := x) (mm := mm) (oo := oo) nt0 (by omega) (by simp (disch := omega) only [nt2, h2]) (by simp (disch := omega) only [nt2, h3])
  have e1 := e_nt (x := tz_j 51) h0 (by omega)
  have a1 : ∀ f, tz_bI (f_X0_kindWithBody (tz_j 0) (tz_j 4) A) f = f (tz_j 4) A := bI_pre kw_0_4
  have a2 := bI_pre (bo_0_4 (A := A))
  have a3 := bV_pre e1
  rw [e_X0_run_5]
  simp (disch := omega) only [tz_lit, nj_m1, nj_m2, nj_m3, nj_m4, nj_m5, nj_m6, nj_m7, ↓reduceIte, tz_bI_some, tz_bV_some, tz_bL_some, cj10, cj01, cjm0, eq_self, not_true_eq_false, not_false_eq_true, or_false, false_or, or_true, true_or, or_self, and_true, true_and, and_false, false_and, nj_eqf, nj_ltt, nj_ltf, nj_let, nj_lef, nj_cl, nt_lef, ↓a1, ↓a2, ↓a3, xt_a, nt2, h2, h3, nj_add, s0]
theorem cr_4_0_6_x {A : tz_Mem} {n : Nat} {x mm oo : Int32} (h0 : tz_g A 148 0 = tz_j n) (hn : n + 3 ≤ 60) (h2 : tz_g A 148 2 = mm) (h3 : tz_g A 148 3 = oo) : f_X0_run_4 (tz_j 0) (tz_j 6) x (tz_j 4) A = some (some (.int (((x + mm) - mm) * tz_j 2)), (nt (nt (nt A n (tz_j 70)) (n + 1) (tz_j 51)) ((n + 1) + 1) (tz_j 10))) := by
  have s0 := cr_5_0_4_x (A := (nt A n (tz_j 70))) (n := (n + 1)) (x := x) (mm := mm) (oo := oo) nt0 (by omega) (by simp (disch := omega) only [nt2, h2]) (by simp (disch := omega) only [nt2, h3])
  have e1 := e_nt (x := tz_j 70) h0 (by omega)
  have a1 : ∀ f, tz_bI (f_X0_kindWithBody (tz_j 0) (tz_j 6) A) f = f (tz_j 6) A := bI_pre kw_0_6
  have a2 := bI_pre (bo_0_6 (A := A))
  have a3 := bV_pre e1
  rw [e_X0_run_4]
  simp (disch := omega) only [tz_lit, nj_m1, nj_m2, nj_m3, nj_m4, nj_m5, nj_m6, nj_m7, ↓reduceIte, tz_bI_some, tz_bV_some, tz_bL_some, cj10, cj01, cjm0, eq_self, not_true_eq_false, not_false_eq_true, or_false, false_or, or_true, true_or, or_self, and_true, true_and, and_false, false_and, nj_eqf, nj_ltt, nj_ltf, nj_let, nj_lef, nj_cl, nt_lef, ↓a1, ↓a2, ↓a3, xt_a, nt2, h2, h3, nj_add, s0]
theorem cr_3_1_4_6 {A : tz_Mem} {n : Nat} {x mm oo : Int32} (h0 : tz_g A 148 0 = tz_j n) (hn : n + 4 ≤ 60) (h2 : tz_g A 148 2 = mm) (h3 : tz_g A 148 3 = oo) (h4 : tz_g A 148 4 = tz_j 6) : f_X0_run_3 (tz_j 1) (tz_j 4) x (tz_j 3) A = some (some (.int ((((x + mm) - mm) * tz_j 2) * tz_j 2)), (nt (nt (nt (nt A n (tz_j 11)) (n + 1) (tz_j 70)) ((n + 1) + 1) (tz_j 51)) (((n + 1) + 1) + 1) (tz_j 10))) := by
  have s0 := cr_4_0_6_x (A := (nt A n (tz_j 11))) (n := (n + 1)) (x := x) (mm := mm) (oo := oo) nt0 (by omega) (by simp (disch := omega) only [nt2, h2]) (by simp (disch := omega) only [nt2, h3])
  have e1 := e_nt (x := tz_j 11) h0 (by omega)
  have a1 : ∀ f, tz_bI (f_X0_kindWithBody (tz_j 1) (tz_j 4) A) f = f (tz_j 0) A := bI_pre kw_1_4
  have a2 := bI_pre (bo_1_0 (A := A))
  have a3 := bV_pre e1
  rw [e_X0_run_3]
  simp (disch := omega) only [tz_lit, nj_m1, nj_m2, nj_m3, nj_m4, nj_m5, nj_m6, nj_m7, ↓reduceIte, tz_bI_some, tz_bV_some, tz_bL_some, cj10, cj01, cjm0, eq_self, not_true_eq_false, not_false_eq_true, or_false, false_or, or_true, true_or, or_self, and_true, true_and, and_false, false_and, nj_eqf, nj_ltt, nj_ltf, nj_let, nj_lef, nj_cl, nt_lef, ↓a1, ↓a2, ↓a3, xt_a, nt2, h2, h3, nj_add, h4, s0]
theorem cr_2_1_6_6 {A : tz_Mem} {n : Nat} {x mm oo : Int32} (h0 : tz_g A 148 0 = tz_j n) (hn : n + 5 ≤ 60) (h2 : tz_g A 148 2 = mm) (h3 : tz_g A 148 3 = oo) (h4 : tz_g A 148 4 = tz_j 6) : f_X0_run_2 (tz_j 1) (tz_j 6) x (tz_j 2) A = some (some (.int (((((x - oo) + mm) - mm) * tz_j 2) * tz_j 2)), (nt (nt (nt (nt (nt A n (tz_j 71)) (n + 1) (tz_j 11)) ((n + 1) + 1) (tz_j 70)) (((n + 1) + 1) + 1) (tz_j 51)) ((((n + 1) + 1) + 1) + 1) (tz_j 10))) := by
  have s0 := cr_3_1_4_6 (A := (nt A n (tz_j 71))) (n := (n + 1)) (x := (x - oo)) (mm := mm) (oo := oo) nt0 (by omega) (by simp (disch := omega) only [nt2, h2]) (by simp (disch := omega) only [nt2, h3]) (by simp (disch := omega) only [nt2, h4])
  have e1 := e_nt (x := tz_j 71) h0 (by omega)
  have a1 : ∀ f, tz_bI (f_X0_kindWithBody (tz_j 1) (tz_j 6) A) f = f (tz_j 6) A := bI_pre kw_1_6
  have a2 := bI_pre (bo_1_6 (A := A))
  have a3 := bV_pre e1
  rw [e_X0_run_2]
  simp (disch := omega) only [tz_lit, nj_m1, nj_m2, nj_m3, nj_m4, nj_m5, nj_m6, nj_m7, ↓reduceIte, tz_bI_some, tz_bV_some, tz_bL_some, cj10, cj01, cjm0, eq_self, not_true_eq_false, not_false_eq_true, or_false, false_or, or_true, true_or, or_self, and_true, true_and, and_false, false_and, nj_eqf, nj_ltt, nj_ltf, nj_let, nj_lef, nj_cl, nt_lef, ↓a1, ↓a2, ↓a3, xt_a, nt2, h2, h3, nj_add, h4, s0]
theorem cr_1_2_0_6 {A : tz_Mem} {n : Nat} {x mm oo : Int32} (h0 : tz_g A 148 0 = tz_j n) (hn : n + 9 ≤ 60) (h2 : tz_g A 148 2 = mm) (h3 : tz_g A 148 3 = oo) (h4 : tz_g A 148 4 = tz_j 6) : f_X0_run_1 (tz_j 2) (tz_j 0) x (tz_j 1) A = some (some (.int ((((((x - oo) + mm) - mm) * tz_j 2) * tz_j 2) ^^^ ((((x - oo) + mm) - mm) * tz_j 2))), (nt (nt (nt (nt (nt (nt (nt (nt (nt A n (tz_j 12)) (n + 1) (tz_j 71)) ((n + 1) + 1) (tz_j 11)) (((n + 1) + 1) + 1) (tz_j 70)) ((((n + 1) + 1) + 1) + 1) (tz_j 51)) (((((n + 1) + 1) + 1) + 1) + 1) (tz_j 10)) ((((((n + 1) + 1) + 1) + 1) + 1) + 1) (tz_j 70)) (((((((n + 1) + 1) + 1) + 1) + 1) + 1) + 1) (tz_j 51)) ((((((((n + 1) + 1) + 1) + 1) + 1) + 1) + 1) + 1) (tz_j 10))) := by
  have s0 := cr_2_1_6_6 (A := (nt A n (tz_j 12))) (n := (n + 1)) (x := x) (mm := mm) (oo := oo) nt0 (by omega) (by simp (disch := omega) only [nt2, h2]) (by simp (disch := omega) only [nt2, h3]) (by simp (disch := omega) only [nt2, h4])
  have s1 := cr_2_0_6_x (A := (nt (nt (nt (nt (nt (nt A n (tz_j 12)) (n + 1) (tz_j 71)) ((n + 1) + 1) (tz_j 11)) (((n + 1) + 1) + 1) (tz_j 70)) ((((n + 1) + 1) + 1) + 1) (tz_j 51)) (((((n + 1) + 1) + 1) + 1) + 1) (tz_j 10))) (n := ((((((n + 1) + 1) + 1) + 1) + 1) + 1)) (x := (x - oo)) (mm := mm) (oo := oo) nt0 (by omega) (by simp (disch := omega) only [nt2, h2]) (by simp (disch := omega) only [nt2, h3])
  have e1 := e_nt (x := tz_j 12) h0 (by omega)
  have a1 : ∀ f, tz_bI (f_X0_kindWithBody (tz_j 2) (tz_j 0) A) f = f (tz_j 0) A := bI_pre kw_2_0
  have a2 := bI_pre (bo_2_0 (A := A))
  have a3 := bV_pre e1
  rw [e_X0_run_1]
  simp (disch := omega) only [tz_lit, nj_m1, nj_m2, nj_m3, nj_m4, nj_m5, nj_m6, nj_m7, ↓reduceIte, tz_bI_some, tz_bV_some, tz_bL_some, cj10, cj01, cjm0, eq_self, not_true_eq_false, not_false_eq_true, or_false, false_or, or_true, true_or, or_self, and_true, true_and, and_false, false_and, nj_eqf, nj_ltt, nj_ltf, nj_let, nj_lef, nj_cl, nt_lef, ↓a1, ↓a2, ↓a3, xt_a, nt2, h2, h3, nj_add, h4, s0, s1]
theorem cr_0_2_6_6 {A : tz_Mem} {n : Nat} {x mm oo : Int32} (h0 : tz_g A 148 0 = tz_j n) (hn : n + 10 ≤ 60) (h2 : tz_g A 148 2 = mm) (h3 : tz_g A 148 3 = oo) (h4 : tz_g A 148 4 = tz_j 6) : f_X0_run_0 (tz_j 2) (tz_j 6) x (tz_j 0) A = some (some (.int (-((((((x - oo) + mm) - mm) * tz_j 2) * tz_j 2) ^^^ ((((x - oo) + mm) - mm) * tz_j 2)))), (nt (nt (nt (nt (nt (nt (nt (nt (nt (nt A n (tz_j 50)) (n + 1) (tz_j 12)) ((n + 1) + 1) (tz_j 71)) (((n + 1) + 1) + 1) (tz_j 11)) ((((n + 1) + 1) + 1) + 1) (tz_j 70)) (((((n + 1) + 1) + 1) + 1) + 1) (tz_j 51)) ((((((n + 1) + 1) + 1) + 1) + 1) + 1) (tz_j 10)) (((((((n + 1) + 1) + 1) + 1) + 1) + 1) + 1) (tz_j 70)) ((((((((n + 1) + 1) + 1) + 1) + 1) + 1) + 1) + 1) (tz_j 51)) (((((((((n + 1) + 1) + 1) + 1) + 1) + 1) + 1) + 1) + 1) (tz_j 10))) := by
  have s0 := cr_1_2_0_6 (A := (nt A n (tz_j 50))) (n := (n + 1)) (x := x) (mm := mm) (oo := oo) nt0 (by omega) (by simp (disch := omega) only [nt2, h2]) (by simp (disch := omega) only [nt2, h3]) (by simp (disch := omega) only [nt2, h4])
  have e1 := e_nt (x := tz_j 50) h0 (by omega)
  have a1 : ∀ f, tz_bI (f_X0_kindWithBody (tz_j 2) (tz_j 6) A) f = f (tz_j 4) A := bI_pre kw_2_6
  have a2 := bI_pre (bo_2_4 (A := A))
  have a3 := bV_pre e1
  rw [e_X0_run_0]
  simp (disch := omega) only [tz_lit, nj_m1, nj_m2, nj_m3, nj_m4, nj_m5, nj_m6, nj_m7, ↓reduceIte, tz_bI_some, tz_bV_some, tz_bL_some, cj10, cj01, cjm0, eq_self, not_true_eq_false, not_false_eq_true, or_false, false_or, or_true, true_or, or_self, and_true, true_and, and_false, false_and, nj_eqf, nj_ltt, nj_ltf, nj_let, nj_lef, nj_cl, nt_lef, ↓a1, ↓a2, ↓a3, xt_a, nt2, h2, h3, nj_add, h4, s0]
theorem mc_0_0 {A : tz_Mem} {n h : Nat} {x oo : Int32} (h0 : tz_g A 157 28 = tz_j n) (hn : n + 1 ≤ 60) (hh : h < 8) (hk : tz_g A 161 h = tz_j 0) (h3 : tz_g A 162 h = oo) : f_X12_saysBy (tz_j h) x A = some (some (.int (x + tz_j h)), (mr A n (tz_j 10))) := by
  have r0 := e_mr (A := A) (n := n) (x := tz_j 10) h0 (by omega)
  rw [e_X12_saysBy]
  simp (disch := omega) only [tz_lit, nj_m1, nj_m2, nj_m3, nj_m4, nj_m5, nj_m6, nj_m7, ↓reduceIte, tz_bI_some, tz_bV_some, tz_bL_some, cj10, cj01, cjm0, eq_self, not_true_eq_false, not_false_eq_true, or_false, false_or, or_true, true_or, or_self, and_true, true_and, and_false, false_and, nj_eqf, nj_ltt, nj_ltf, nj_let, nj_lef, nj_cl, nt_lef, hk, h3, mr2, nj_add, r0]
theorem mc_0_1 {A : tz_Mem} {n h : Nat} {x oo : Int32} (h0 : tz_g A 157 28 = tz_j n) (hn : n + 2 ≤ 60) (hh : h < 8) (hk : tz_g A 161 h = tz_j 1) (h3 : tz_g A 162 h = oo) : f_X12_saysBy (tz_j h) x A = some (some (.int ((x + tz_j h) + oo)), (mr (mr A n (tz_j 20)) (n + 1) (tz_j 10))) := by
  have r0 := e_mr (A := A) (n := n) (x := tz_j 20) h0 (by omega)
  have r1 := e_mr (A := (mr A n (tz_j 20))) (n := (n + 1)) (x := tz_j 10) mr0 (by omega)
  rw [e_X12_saysBy]
  simp (disch := omega) only [tz_lit, nj_m1, nj_m2, nj_m3, nj_m4, nj_m5, nj_m6, nj_m7, ↓reduceIte, tz_bI_some, tz_bV_some, tz_bL_some, cj10, cj01, cjm0, eq_self, not_true_eq_false, not_false_eq_true, or_false, false_or, or_true, true_or, or_self, and_true, true_and, and_false, false_and, nj_eqf, nj_ltt, nj_ltf, nj_let, nj_lef, nj_cl, nt_lef, hk, h3, mr2, nj_add, r0, r1]
theorem mc_0_2 {A : tz_Mem} {n h : Nat} {x oo : Int32} (h0 : tz_g A 157 28 = tz_j n) (hn : n + 1 ≤ 60) (hh : h < 8) (hk : tz_g A 161 h = tz_j 2) (h3 : tz_g A 162 h = oo) : f_X12_saysBy (tz_j h) x A = some (some (.int (x + tz_j h)), (mr A n (tz_j 10))) := by
  have r0 := e_mr (A := A) (n := n) (x := tz_j 10) h0 (by omega)
  rw [e_X12_saysBy]
  simp (disch := omega) only [tz_lit, nj_m1, nj_m2, nj_m3, nj_m4, nj_m5, nj_m6, nj_m7, ↓reduceIte, tz_bI_some, tz_bV_some, tz_bL_some, cj10, cj01, cjm0, eq_self, not_true_eq_false, not_false_eq_true, or_false, false_or, or_true, true_or, or_self, and_true, true_and, and_false, false_and, nj_eqf, nj_ltt, nj_ltf, nj_let, nj_lef, nj_cl, nt_lef, hk, h3, mr2, nj_add, r0]
theorem mc_0_3 {A : tz_Mem} {n h : Nat} {x oo : Int32} (h0 : tz_g A 157 28 = tz_j n) (hn : n + 2 ≤ 60) (hh : h < 8) (hk : tz_g A 161 h = tz_j 3) (h3 : tz_g A 162 h = oo) : f_X12_saysBy (tz_j h) x A = some (some (.int ((x + tz_j h) + oo)), (mr (mr A n (tz_j 20)) (n + 1) (tz_j 10))) := by
  have r0 := e_mr (A := A) (n := n) (x := tz_j 20) h0 (by omega)
  have r1 := e_mr (A := (mr A n (tz_j 20))) (n := (n + 1)) (x := tz_j 10) mr0 (by omega)
  rw [e_X12_saysBy]
  simp (disch := omega) only [tz_lit, nj_m1, nj_m2, nj_m3, nj_m4, nj_m5, nj_m6, nj_m7, ↓reduceIte, tz_bI_some, tz_bV_some, tz_bL_some, cj10, cj01, cjm0, eq_self, not_true_eq_false, not_false_eq_true, or_false, false_or, or_true, true_or, or_self, and_true, true_and, and_false, false_and, nj_eqf, nj_ltt, nj_ltf, nj_let, nj_lef, nj_cl, nt_lef, hk, h3, mr2, nj_add, r0, r1]
theorem mc_0_4 {A : tz_Mem} {n h : Nat} {x oo : Int32} (h0 : tz_g A 157 28 = tz_j n) (hn : n + 2 ≤ 60) (hh : h < 8) (hk : tz_g A 161 h = tz_j 4) (h3 : tz_g A 162 h = oo) : f_X12_saysBy (tz_j h) x A = some (some (.int ((x + tz_j h) - tz_j h)), (mr (mr A n (tz_j 51)) (n + 1) (tz_j 10))) := by
  have r0 := e_mr (A := A) (n := n) (x := tz_j 51) h0 (by omega)
  have r1 := e_mr (A := (mr A n (tz_j 51))) (n := (n + 1)) (x := tz_j 10) mr0 (by omega)
  rw [e_X12_saysBy]
  simp (disch := omega) only [tz_lit, nj_m1, nj_m2, nj_m3, nj_m4, nj_m5, nj_m6, nj_m7, ↓reduceIte, tz_bI_some, tz_bV_some, tz_bL_some, cj10, cj01, cjm0, eq_self, not_true_eq_false, not_false_eq_true, or_false, false_or, or_true, true_or, or_self, and_true, true_and, and_false, false_and, nj_eqf, nj_ltt, nj_ltf, nj_let, nj_lef, nj_cl, nt_lef, hk, h3, mr2, nj_add, r0, r1]
theorem mc_0_5 {A : tz_Mem} {n h : Nat} {x oo : Int32} (h0 : tz_g A 157 28 = tz_j n) (hn : n + 1 ≤ 60) (hh : h < 8) (hk : tz_g A 161 h = tz_j 5) (h3 : tz_g A 162 h = oo) : f_X12_saysBy (tz_j h) x A = some (some (.int (x + tz_j h)), (mr A n (tz_j 10))) := by
  have r0 := e_mr (A := A) (n := n) (x := tz_j 10) h0 (by omega)
  rw [e_X12_saysBy]
  simp (disch := omega) only [tz_lit, nj_m1, nj_m2, nj_m3, nj_m4, nj_m5, nj_m6, nj_m7, ↓reduceIte, tz_bI_some, tz_bV_some, tz_bL_some, cj10, cj01, cjm0, eq_self, not_true_eq_false, not_false_eq_true, or_false, false_or, or_true, true_or, or_self, and_true, true_and, and_false, false_and, nj_eqf, nj_ltt, nj_ltf, nj_let, nj_lef, nj_cl, nt_lef, hk, h3, mr2, nj_add, r0]
theorem mc_0_6 {A : tz_Mem} {n h : Nat} {x oo : Int32} (h0 : tz_g A 157 28 = tz_j n) (hn : n + 3 ≤ 60) (hh : h < 8) (hk : tz_g A 161 h = tz_j 6) (h3 : tz_g A 162 h = oo) : f_X12_saysBy (tz_j h) x A = some (some (.int (((x + tz_j h) - tz_j h) * tz_j 2)), (mr (mr (mr A n (tz_j 70)) (n + 1) (tz_j 51)) ((n + 1) + 1) (tz_j 10))) := by
  have r0 := e_mr (A := A) (n := n) (x := tz_j 70) h0 (by omega)
  have r1 := e_mr (A := (mr A n (tz_j 70))) (n := (n + 1)) (x := tz_j 51) mr0 (by omega)
  have r2 := e_mr (A := (mr (mr A n (tz_j 70)) (n + 1) (tz_j 51))) (n := ((n + 1) + 1)) (x := tz_j 10) mr0 (by omega)
  rw [e_X12_saysBy]
  simp (disch := omega) only [tz_lit, nj_m1, nj_m2, nj_m3, nj_m4, nj_m5, nj_m6, nj_m7, ↓reduceIte, tz_bI_some, tz_bV_some, tz_bL_some, cj10, cj01, cjm0, eq_self, not_true_eq_false, not_false_eq_true, or_false, false_or, or_true, true_or, or_self, and_true, true_and, and_false, false_and, nj_eqf, nj_ltt, nj_ltf, nj_let, nj_lef, nj_cl, nt_lef, hk, h3, mr2, nj_add, r0, r1, r2]
theorem mc_1_0 {A : tz_Mem} {n h : Nat} {x oo : Int32} (h0 : tz_g A 157 28 = tz_j n) (hn : n + 2 ≤ 60) (hh : h < 8) (hk : tz_g A 161 h = tz_j 0) (h3 : tz_g A 162 h = oo) : f_X12_rollsBy (tz_j h) x A = some (some (.int ((x + tz_j h) * tz_j 2)), (mr (mr A n (tz_j 11)) (n + 1) (tz_j 10))) := by
  have r0 := e_mr (A := A) (n := n) (x := tz_j 11) h0 (by omega)
  have s0 := mc_0_0 (A := (mr A n (tz_j 11))) (n := (n + 1)) (h := h) (x := x) (oo := oo) mr0 (by omega) hh (by simp (disch := omega) only [mr2, hk]) (by simp (disch := omega) only [mr2, h3])
  rw [e_X12_rollsBy]
  simp (disch := omega) only [tz_lit, nj_m1, nj_m2, nj_m3, nj_m4, nj_m5, nj_m6, nj_m7, ↓reduceIte, tz_bI_some, tz_bV_some, tz_bL_some, cj10, cj01, cjm0, eq_self, not_true_eq_false, not_false_eq_true, or_false, false_or, or_true, true_or, or_self, and_true, true_and, and_false, false_and, nj_eqf, nj_ltt, nj_ltf, nj_let, nj_lef, nj_cl, nt_lef, hk, h3, mr2, nj_add, r0, s0]
theorem mc_1_1 {A : tz_Mem} {n h : Nat} {x oo : Int32} (h0 : tz_g A 157 28 = tz_j n) (hn : n + 3 ≤ 60) (hh : h < 8) (hk : tz_g A 161 h = tz_j 1) (h3 : tz_g A 162 h = oo) : f_X12_rollsBy (tz_j h) x A = some (some (.int (((x + tz_j h) + oo) * tz_j 2)), (mr (mr (mr A n (tz_j 11)) (n + 1) (tz_j 20)) ((n + 1) + 1) (tz_j 10))) := by
  have r0 := e_mr (A := A) (n := n) (x := tz_j 11) h0 (by omega)
  have s0 := mc_0_1 (A := (mr A n (tz_j 11))) (n := (n + 1)) (h := h) (x := x) (oo := oo) mr0 (by omega) hh (by simp (disch := omega) only [mr2, hk]) (by simp (disch := omega) only [mr2, h3])
  rw [e_X12_rollsBy]
  simp (disch := omega) only [tz_lit, nj_m1, nj_m2, nj_m3, nj_m4, nj_m5, nj_m6, nj_m7, ↓reduceIte, tz_bI_some, tz_bV_some, tz_bL_some, cj10, cj01, cjm0, eq_self, not_true_eq_false, not_false_eq_true, or_false, false_or, or_true, true_or, or_self, and_true, true_and, and_false, false_and, nj_eqf, nj_ltt, nj_ltf, nj_let, nj_lef, nj_cl, nt_lef, hk, h3, mr2, nj_add, r0, s0]
theorem mc_1_2 {A : tz_Mem} {n h : Nat} {x oo : Int32} (h0 : tz_g A 157 28 = tz_j n) (hn : n + 3 ≤ 60) (hh : h < 8) (hk : tz_g A 161 h = tz_j 2) (h3 : tz_g A 162 h = oo) : f_X12_rollsBy (tz_j h) x A = some (some (.int (((x + tz_j h) * tz_j 2) * tz_j 3)), (mr (mr (mr A n (tz_j 30)) (n + 1) (tz_j 11)) ((n + 1) + 1) (tz_j 10))) := by
  have r0 := e_mr (A := A) (n := n) (x := tz_j 30) h0 (by omega)
  have r1 := e_mr (A := (mr A n (tz_j 30))) (n := (n + 1)) (x := tz_j 11) mr0 (by omega)
  have s0 := mc_0_2 (A := (mr (mr A n (tz_j 30)) (n + 1) (tz_j 11))) (n := ((n + 1) + 1)) (h := h) (x := x) (oo := oo) mr0 (by omega) hh (by simp (disch := omega) only [mr2, hk]) (by simp (disch := omega) only [mr2, h3])
  rw [e_X12_rollsBy]
  simp (disch := omega) only [tz_lit, nj_m1, nj_m2, nj_m3, nj_m4, nj_m5, nj_m6, nj_m7, ↓reduceIte, tz_bI_some, tz_bV_some, tz_bL_some, cj10, cj01, cjm0, eq_self, not_true_eq_false, not_false_eq_true, or_false, false_or, or_true, true_or, or_self, and_true, true_and, and_false, false_and, nj_eqf, nj_ltt, nj_ltf, nj_let, nj_lef, nj_cl, nt_lef, hk, h3, mr2, nj_add, r0, r1, s0]
theorem mc_1_3 {A : tz_Mem} {n h : Nat} {x oo : Int32} (h0 : tz_g A 157 28 = tz_j n) (hn : n + 4 ≤ 60) (hh : h < 8) (hk : tz_g A 161 h = tz_j 3) (h3 : tz_g A 162 h = oo) : f_X12_rollsBy (tz_j h) x A = some (some (.int ((((x + tz_j 1) + tz_j h) + oo) * tz_j 2)), (mr (mr (mr (mr A n (tz_j 40)) (n + 1) (tz_j 11)) ((n + 1) + 1) (tz_j 20)) (((n + 1) + 1) + 1) (tz_j 10))) := by
  have r0 := e_mr (A := A) (n := n) (x := tz_j 40) h0 (by omega)
  have r1 := e_mr (A := (mr A n (tz_j 40))) (n := (n + 1)) (x := tz_j 11) mr0 (by omega)
  have s0 := mc_0_3 (A := (mr (mr A n (tz_j 40)) (n + 1) (tz_j 11))) (n := ((n + 1) + 1)) (h := h) (x := (x + tz_j 1)) (oo := oo) mr0 (by omega) hh (by simp (disch := omega) only [mr2, hk]) (by simp (disch := omega) only [mr2, h3])
  rw [e_X12_rollsBy]
  simp (disch := omega) only [tz_lit, nj_m1, nj_m2, nj_m3, nj_m4, nj_m5, nj_m6, nj_m7, ↓reduceIte, tz_bI_some, tz_bV_some, tz_bL_some, cj10, cj01, cjm0, eq_self, not_true_eq_false, not_false_eq_true, or_false, false_or, or_true, true_or, or_self, and_true, true_and, and_false, false_and, nj_eqf, nj_ltt, nj_ltf, nj_let, nj_lef, nj_cl, nt_lef, hk, h3, mr2, nj_add, r0, r1, s0]
theorem mc_1_4 {A : tz_Mem} {n h : Nat} {x oo : Int32} (h0 : tz_g A 157 28 = tz_j n) (hn : n + 3 ≤ 60) (hh : h < 8) (hk : tz_g A 161 h = tz_j 4) (h3 : tz_g A 162 h = oo) : f_X12_rollsBy (tz_j h) x A = some (some (.int (((x + tz_j h) - tz_j h) * tz_j 2)), (mr (mr (mr A n (tz_j 11)) (n + 1) (tz_j 51)) ((n + 1) + 1) (tz_j 10))) := by
  have r0 := e_mr (A := A) (n := n) (x := tz_j 11) h0 (by omega)
  have s0 := mc_0_4 (A := (mr A n (tz_j 11))) (n := (n + 1)) (h := h) (x := x) (oo := oo) mr0 (by omega) hh (by simp (disch := omega) only [mr2, hk]) (by simp (disch := omega) only [mr2, h3])
  rw [e_X12_rollsBy]
  simp (disch := omega) only [tz_lit, nj_m1, nj_m2, nj_m3, nj_m4, nj_m5, nj_m6, nj_m7, ↓reduceIte, tz_bI_some, tz_bV_some, tz_bL_some, cj10, cj01, cjm0, eq_self, not_true_eq_false, not_false_eq_true, or_false, false_or, or_true, true_or, or_self, and_true, true_and, and_false, false_and, nj_eqf, nj_ltt, nj_ltf, nj_let, nj_lef, nj_cl, nt_lef, hk, h3, mr2, nj_add, r0, s0]
theorem mc_1_5 {A : tz_Mem} {n h : Nat} {x oo : Int32} (h0 : tz_g A 157 28 = tz_j n) (hn : n + 3 ≤ 60) (hh : h < 8) (hk : tz_g A 161 h = tz_j 5) (h3 : tz_g A 162 h = oo) : f_X12_rollsBy (tz_j h) x A = some (some (.int (((x + tz_j h) * tz_j 2) * tz_j 3)), (mr (mr (mr A n (tz_j 30)) (n + 1) (tz_j 11)) ((n + 1) + 1) (tz_j 10))) := by
  have r0 := e_mr (A := A) (n := n) (x := tz_j 30) h0 (by omega)
  have r1 := e_mr (A := (mr A n (tz_j 30))) (n := (n + 1)) (x := tz_j 11) mr0 (by omega)
  have s0 := mc_0_5 (A := (mr (mr A n (tz_j 30)) (n + 1) (tz_j 11))) (n := ((n + 1) + 1)) (h := h) (x := x) (oo := oo) mr0 (by omega) hh (by simp (disch := omega) only [mr2, hk]) (by simp (disch := omega) only [mr2, h3])
  rw [e_X12_rollsBy]
  simp (disch := omega) only [tz_lit, nj_m1, nj_m2, nj_m3, nj_m4, nj_m5, nj_m6, nj_m7, ↓reduceIte, tz_bI_some, tz_bV_some, tz_bL_some, cj10, cj01, cjm0, eq_self, not_true_eq_false, not_false_eq_true, or_false, false_or, or_true, true_or, or_self, and_true, true_and, and_false, false_and, nj_eqf, nj_ltt, nj_ltf, nj_let, nj_lef, nj_cl, nt_lef, hk, h3, mr2, nj_add, r0, r1, s0]
theorem mc_1_6 {A : tz_Mem} {n h : Nat} {x oo : Int32} (h0 : tz_g A 157 28 = tz_j n) (hn : n + 5 ≤ 60) (hh : h < 8) (hk : tz_g A 161 h = tz_j 6) (h3 : tz_g A 162 h = oo) : f_X12_rollsBy (tz_j h) x A = some (some (.int (((((x - oo) + tz_j h) - tz_j h) * tz_j 2) * tz_j 2)), (mr (mr (mr (mr (mr A n (tz_j 71)) (n + 1) (tz_j 11)) ((n + 1) + 1) (tz_j 70)) (((n + 1) + 1) + 1) (tz_j 51)) ((((n + 1) + 1) + 1) + 1) (tz_j 10))) := by
  have r0 := e_mr (A := A) (n := n) (x := tz_j 71) h0 (by omega)
  have r1 := e_mr (A := (mr A n (tz_j 71))) (n := (n + 1)) (x := tz_j 11) mr0 (by omega)
  have s0 := mc_0_6 (A := (mr (mr A n (tz_j 71)) (n + 1) (tz_j 11))) (n := ((n + 1) + 1)) (h := h) (x := (x - oo)) (oo := oo) mr0 (by omega) hh (by simp (disch := omega) only [mr2, hk]) (by simp (disch := omega) only [mr2, h3])
  rw [e_X12_rollsBy]
  simp (disch := omega) only [tz_lit, nj_m1, nj_m2, nj_m3, nj_m4, nj_m5, nj_m6, nj_m7, ↓reduceIte, tz_bI_some, tz_bV_some, tz_bL_some, cj10, cj01, cjm0, eq_self, not_true_eq_false, not_false_eq_true, or_false, false_or, or_true, true_or, or_self, and_true, true_and, and_false, false_and, nj_eqf, nj_ltt, nj_ltf, nj_let, nj_lef, nj_cl, nt_lef, hk, h3, mr2, nj_add, r0, r1, s0]
theorem mc_2_0 {A : tz_Mem} {n h : Nat} {x oo : Int32} (h0 : tz_g A 157 28 = tz_j n) (hn : n + 4 ≤ 60) (hh : h < 8) (hk : tz_g A 161 h = tz_j 0) (h3 : tz_g A 162 h = oo) : f_X12_fadesBy (tz_j h) x A = some (some (.int (((x + tz_j h) * tz_j 2) ^^^ ((x - oo) + tz_j h))), (mr (mr (mr (mr A n (tz_j 12)) (n + 1) (tz_j 11)) ((n + 1) + 1) (tz_j 10)) (((n + 1) + 1) + 1) (tz_j 10))) := by
  have r0 := e_mr (A := A) (n := n) (x := tz_j 12) h0 (by omega)
  have s0 := mc_1_0 (A := (mr A n (tz_j 12))) (n := (n + 1)) (h := h) (x := x) (oo := oo) mr0 (by omega) hh (by simp (disch := omega) only [mr2, hk]) (by simp (disch := omega) only [mr2, h3])
  have s1 := mc_0_0 (A := (mr (mr (mr A n (tz_j 12)) (n + 1) (tz_j 11)) ((n + 1) + 1) (tz_j 10))) (n := (((n + 1) + 1) + 1)) (h := h) (x := (x - oo)) (oo := oo) mr0 (by omega) hh (by simp (disch := omega) only [mr2, hk]) (by simp (disch := omega) only [mr2, h3])
  rw [e_X12_fadesBy]
  simp (disch := omega) only [tz_lit, nj_m1, nj_m2, nj_m3, nj_m4, nj_m5, nj_m6, nj_m7, ↓reduceIte, tz_bI_some, tz_bV_some, tz_bL_some, cj10, cj01, cjm0, eq_self, not_true_eq_false, not_false_eq_true, or_false, false_or, or_true, true_or, or_self, and_true, true_and, and_false, false_and, nj_eqf, nj_ltt, nj_ltf, nj_let, nj_lef, nj_cl, nt_lef, hk, h3, mr2, nj_add, r0, s0, s1]
theorem mc_2_1 {A : tz_Mem} {n h : Nat} {x oo : Int32} (h0 : tz_g A 157 28 = tz_j n) (hn : n + 6 ≤ 60) (hh : h < 8) (hk : tz_g A 161 h = tz_j 1) (h3 : tz_g A 162 h = oo) : f_X12_fadesBy (tz_j h) x A = some (some (.int ((((x + tz_j h) + oo) * tz_j 2) ^^^ (((x - oo) + tz_j h) + oo))), (mr (mr (mr (mr (mr (mr A n (tz_j 12)) (n + 1) (tz_j 11)) ((n + 1) + 1) (tz_j 20)) (((n + 1) + 1) + 1) (tz_j 10)) ((((n + 1) + 1) + 1) + 1) (tz_j 20)) (((((n + 1) + 1) + 1) + 1) + 1) (tz_j 10))) := by
  have r0 := e_mr (A := A) (n := n) (x := tz_j 12) h0 (by omega)
  have s0 := mc_1_1 (A := (mr A n (tz_j 12))) (n := (n + 1)) (h := h) (x := x) (oo := oo) mr0 (by omega) hh (by simp (disch := omega) only [mr2, hk]) (by simp (disch := omega) only [mr2, h3])
  have s1 := mc_0_1 (A := (mr (mr (mr (mr A n (tz_j 12)) (n + 1) (tz_j 11)) ((n + 1) + 1) (tz_j 20)) (((n + 1) + 1) + 1) (tz_j 10))) (n := ((((n + 1) + 1) + 1) + 1)) (h := h) (x := (x - oo)) (oo := oo) mr0 (by omega) hh (by simp (disch := omega) only [mr2, hk]) (by simp (disch := omega) only [mr2, h3])
  rw [e_X12_fadesBy]
  simp (disch := omega) only [tz_lit, nj_m1, nj_m2, nj_m3, nj_m4, nj_m5, nj_m6, nj_m7, ↓reduceIte, tz_bI_some, tz_bV_some, tz_bL_some, cj10, cj01, cjm0, eq_self, not_true_eq_false, not_false_eq_true, or_false, false_or, or_true, true_or, or_self, and_true, true_and, and_false, false_and, nj_eqf, nj_ltt, nj_ltf, nj_let, nj_lef, nj_cl, nt_lef, hk, h3, mr2, nj_add, r0, s0, s1]
theorem mc_2_2 {A : tz_Mem} {n h : Nat} {x oo : Int32} (h0 : tz_g A 157 28 = tz_j n) (hn : n + 5 ≤ 60) (hh : h < 8) (hk : tz_g A 161 h = tz_j 2) (h3 : tz_g A 162 h = oo) : f_X12_fadesBy (tz_j h) x A = some (some (.int ((((x + tz_j h) * tz_j 2) * tz_j 3) ^^^ ((x - oo) + tz_j h))), (mr (mr (mr (mr (mr A n (tz_j 12)) (n + 1) (tz_j 30)) ((n + 1) + 1) (tz_j 11)) (((n + 1) + 1) + 1) (tz_j 10)) ((((n + 1) + 1) + 1) + 1) (tz_j 10))) := by
  have r0 := e_mr (A := A) (n := n) (x := tz_j 12) h0 (by omega)
  have s0 := mc_1_2 (A := (mr A n (tz_j 12))) (n := (n + 1)) (h := h) (x := x) (oo := oo) mr0 (by omega) hh (by simp (disch := omega) only [mr2, hk]) (by simp (disch := omega) only [mr2, h3])
  have s1 := mc_0_2 (A := (mr (mr (mr (mr A n (tz_j 12)) (n + 1) (tz_j 30)) ((n + 1) + 1) (tz_j 11)) (((n + 1) + 1) + 1) (tz_j 10))) (n := ((((n + 1) + 1) + 1) + 1)) (h := h) (x := (x - oo)) (oo := oo) mr0 (by omega) hh (by simp (disch := omega) only [mr2, hk]) (by simp (disch := omega) only [mr2, h3])
  rw [e_X12_fadesBy]
  simp (disch := omega) only [tz_lit, nj_m1, nj_m2, nj_m3, nj_m4, nj_m5, nj_m6, nj_m7, ↓reduceIte, tz_bI_some, tz_bV_some, tz_bL_some, cj10, cj01, cjm0, eq_self, not_true_eq_false, not_false_eq_true, or_false, false_or, or_true, true_or, or_self, and_true, true_and, and_false, false_and, nj_eqf, nj_ltt, nj_ltf, nj_let, nj_lef, nj_cl, nt_lef, hk, h3, mr2, nj_add, r0, s0, s1]
theorem mc_2_3 {A : tz_Mem} {n h : Nat} {x oo : Int32} (h0 : tz_g A 157 28 = tz_j n) (hn : n + 7 ≤ 60) (hh : h < 8) (hk : tz_g A 161 h = tz_j 3) (h3 : tz_g A 162 h = oo) : f_X12_fadesBy (tz_j h) x A = some (some (.int (((((x + tz_j 1) + tz_j h) + oo) * tz_j 2) ^^^ (((x - oo) + tz_j h) + oo))), (mr (mr (mr (mr (mr (mr (mr A n (tz_j 12)) (n + 1) (tz_j 40)) ((n + 1) + 1) (tz_j 11)) (((n + 1) + 1) + 1) (tz_j 20)) ((((n + 1) + 1) + 1) + 1) (tz_j 10)) (((((n + 1) + 1) + 1) + 1) + 1) (tz_j 20)) ((((((n + 1) + 1) + 1) + 1) + 1) + 1) (tz_j 10))) := by
  have r0 := e_mr (A := A) (n := n) (x := tz_j 12) h0 (by omega)
  have s0 := mc_1_3 (A := (mr A n (tz_j 12))) (n := (n + 1)) (h := h) (x := x) (oo := oo) mr0 (by omega) hh (by simp (disch := omega) only [mr2, hk]) (by simp (disch := omega) only [mr2, h3])
  have s1 := mc_0_3 (A := (mr (mr (mr (mr (mr A n (tz_j 12)) (n + 1) (tz_j 40)) ((n + 1) + 1) (tz_j 11)) (((n + 1) + 1) + 1) (tz_j 20)) ((((n + 1) + 1) + 1) + 1) (tz_j 10))) (n := (((((n + 1) + 1) + 1) + 1) + 1)) (h := h) (x := (x - oo)) (oo := oo) mr0 (by omega) hh (by simp (disch := omega) only [mr2, hk]) (by simp (disch := omega) only [mr2, h3])
  rw [e_X12_fadesBy]
  simp (disch := omega) only [tz_lit, nj_m1, nj_m2, nj_m3, nj_m4, nj_m5, nj_m6, nj_m7, ↓reduceIte, tz_bI_some, tz_bV_some, tz_bL_some, cj10, cj01, cjm0, eq_self, not_true_eq_false, not_false_eq_true, or_false, false_or, or_true, true_or, or_self, and_true, true_and, and_false, false_and, nj_eqf, nj_ltt, nj_ltf, nj_let, nj_lef, nj_cl, nt_lef, hk, h3, mr2, nj_add, r0, s0, s1]
theorem mc_2_4 {A : tz_Mem} {n h : Nat} {x oo : Int32} (h0 : tz_g A 157 28 = tz_j n) (hn : n + 7 ≤ 60) (hh : h < 8) (hk : tz_g A 161 h = tz_j 4) (h3 : tz_g A 162 h = oo) : f_X12_fadesBy (tz_j h) x A = some (some (.int (-((((x + tz_j h) - tz_j h) * tz_j 2) ^^^ (((x - oo) + tz_j h) - tz_j h)))), (mr (mr (mr (mr (mr (mr (mr A n (tz_j 50)) (n + 1) (tz_j 12)) ((n + 1) + 1) (tz_j 11)) (((n + 1) + 1) + 1) (tz_j 51)) ((((n + 1) + 1) + 1) + 1) (tz_j 10)) (((((n + 1) + 1) + 1) + 1) + 1) (tz_j 51)) ((((((n + 1) + 1) + 1) + 1) + 1) + 1) (tz_j 10))) := by
  have r0 := e_mr (A := A) (n := n) (x := tz_j 50) h0 (by omega)
  have r1 := e_mr (A := (mr A n (tz_j 50))) (n := (n + 1)) (x := tz_j 12) mr0 (by omega)
  have s0 := mc_1_4 (A := (mr (mr A n (tz_j 50)) (n + 1) (tz_j 12))) (n := ((n + 1) + 1)) (h := h) (x := x) (oo := oo) mr0 (by omega) hh (by simp (disch := omega) only [mr2, hk]) (by simp (disch := omega) only [mr2, h3])
  have s1 := mc_0_4 (A := (mr (mr (mr (mr (mr A n (tz_j 50)) (n + 1) (tz_j 12)) ((n + 1) + 1) (tz_j 11)) (((n + 1) + 1) + 1) (tz_j 51)) ((((n + 1) + 1) + 1) + 1) (tz_j 10))) (n := (((((n + 1) + 1) + 1) + 1) + 1)) (h := h) (x := (x - oo)) (oo := oo) mr0 (by omega) hh (by simp (disch := omega) only [mr2, hk]) (by simp (disch := omega) only [mr2, h3])
  rw [e_X12_fadesBy]
  simp (disch := omega) only [tz_lit, nj_m1, nj_m2, nj_m3, nj_m4, nj_m5, nj_m6, nj_m7, ↓reduceIte, tz_bI_some, tz_bV_some, tz_bL_some, cj10, cj01, cjm0, eq_self, not_true_eq_false, not_false_eq_true, or_false, false_or, or_true, true_or, or_self, and_true, true_and, and_false, false_and, nj_eqf, nj_ltt, nj_ltf, nj_let, nj_lef, nj_cl, nt_lef, hk, h3, mr2, nj_add, r0, r1, s0, s1]
theorem mc_2_5 {A : tz_Mem} {n h : Nat} {x oo : Int32} (h0 : tz_g A 157 28 = tz_j n) (hn : n + 6 ≤ 60) (hh : h < 8) (hk : tz_g A 161 h = tz_j 5) (h3 : tz_g A 162 h = oo) : f_X12_fadesBy (tz_j h) x A = some (some (.int (((((x + tz_j h) * tz_j 2) * tz_j 3) ^^^ ((x - oo) + tz_j h)) ^^^ tz_j 5)), (mr (mr (mr (mr (mr (mr A n (tz_j 60)) (n + 1) (tz_j 12)) ((n + 1) + 1) (tz_j 30)) (((n + 1) + 1) + 1) (tz_j 11)) ((((n + 1) + 1) + 1) + 1) (tz_j 10)) (((((n + 1) + 1) + 1) + 1) + 1) (tz_j 10))) := by
  have r0 := e_mr (A := A) (n := n) (x := tz_j 60) h0 (by omega)
  have r1 := e_mr (A := (mr A n (tz_j 60))) (n := (n + 1)) (x := tz_j 12) mr0 (by omega)
  have s0 := mc_1_5 (A := (mr (mr A n (tz_j 60)) (n + 1) (tz_j 12))) (n := ((n + 1) + 1)) (h := h) (x := x) (oo := oo) mr0 (by omega) hh (by simp (disch := omega) only [mr2, hk]) (by simp (disch := omega) only [mr2, h3])
  have s1 := mc_0_5 (A := (mr (mr (mr (mr (mr A n (tz_j 60)) (n + 1) (tz_j 12)) ((n + 1) + 1) (tz_j 30)) (((n + 1) + 1) + 1) (tz_j 11)) ((((n + 1) + 1) + 1) + 1) (tz_j 10))) (n := (((((n + 1) + 1) + 1) + 1) + 1)) (h := h) (x := (x - oo)) (oo := oo) mr0 (by omega) hh (by simp (disch := omega) only [mr2, hk]) (by simp (disch := omega) only [mr2, h3])
  rw [e_X12_fadesBy]
  simp (disch := omega) only [tz_lit, nj_m1, nj_m2, nj_m3, nj_m4, nj_m5, nj_m6, nj_m7, ↓reduceIte, tz_bI_some, tz_bV_some, tz_bL_some, cj10, cj01, cjm0, eq_self, not_true_eq_false, not_false_eq_true, or_false, false_or, or_true, true_or, or_self, and_true, true_and, and_false, false_and, nj_eqf, nj_ltt, nj_ltf, nj_let, nj_lef, nj_cl, nt_lef, hk, h3, mr2, nj_add, r0, r1, s0, s1]
theorem mc_2_6 {A : tz_Mem} {n h : Nat} {x oo : Int32} (h0 : tz_g A 157 28 = tz_j n) (hn : n + 10 ≤ 60) (hh : h < 8) (hk : tz_g A 161 h = tz_j 6) (h3 : tz_g A 162 h = oo) : f_X12_fadesBy (tz_j h) x A = some (some (.int (-((((((x - oo) + tz_j h) - tz_j h) * tz_j 2) * tz_j 2) ^^^ ((((x - oo) + tz_j h) - tz_j h) * tz_j 2)))), (mr (mr (mr (mr (mr (mr (mr (mr (mr (mr A n (tz_j 50)) (n + 1) (tz_j 12)) ((n + 1) + 1) (tz_j 71)) (((n + 1) + 1) + 1) (tz_j 11)) ((((n + 1) + 1) + 1) + 1) (tz_j 70)) (((((n + 1) + 1) + 1) + 1) + 1) (tz_j 51)) ((((((n + 1) + 1) + 1) + 1) + 1) + 1) (tz_j 10)) (((((((n + 1) + 1) + 1) + 1) + 1) + 1) + 1) (tz_j 70)) ((((((((n + 1) + 1) + 1) + 1) + 1) + 1) + 1) + 1) (tz_j 51)) (((((((((n + 1) + 1) + 1) + 1) + 1) + 1) + 1) + 1) + 1) (tz_j 10))) := by
  have r0 := e_mr (A := A) (n := n) (x := tz_j 50) h0 (by omega)
  have r1 := e_mr (A := (mr A n (tz_j 50))) (n := (n + 1)) (x := tz_j 12) mr0 (by omega)
  have s0 := mc_1_6 (A := (mr (mr A n (tz_j 50)) (n + 1) (tz_j 12))) (n := ((n + 1) + 1)) (h := h) (x := x) (oo := oo) mr0 (by omega) hh (by simp (disch := omega) only [mr2, hk]) (by simp (disch := omega) only [mr2, h3])
  have s1 := mc_0_6 (A := (mr (mr (mr (mr (mr (mr (mr A n (tz_j 50)) (n + 1) (tz_j 12)) ((n + 1) + 1) (tz_j 71)) (((n + 1) + 1) + 1) (tz_j 11)) ((((n + 1) + 1) + 1) + 1) (tz_j 70)) (((((n + 1) + 1) + 1) + 1) + 1) (tz_j 51)) ((((((n + 1) + 1) + 1) + 1) + 1) + 1) (tz_j 10))) (n := (((((((n + 1) + 1) + 1) + 1) + 1) + 1) + 1)) (h := h) (x := (x - oo)) (oo := oo) mr0 (by omega) hh (by simp (disch := omega) only [mr2, hk]) (by simp (disch := omega) only [mr2, h3])
  rw [e_X12_fadesBy]
  simp (disch := omega) only [tz_lit, nj_m1, nj_m2, nj_m3, nj_m4, nj_m5, nj_m6, nj_m7, ↓reduceIte, tz_bI_some, tz_bV_some, tz_bL_some, cj10, cj01, cjm0, eq_self, not_true_eq_false, not_false_eq_true, or_false, false_or, or_true, true_or, or_self, and_true, true_and, and_false, false_and, nj_eqf, nj_ltt, nj_ltf, nj_let, nj_lef, nj_cl, nt_lef, hk, h3, mr2, nj_add, r0, r1, s0, s1]
theorem CX_nt {S K : tz_S} {U : tz_U} {V : tz_V} {A : tz_Mem} {n : Nat} {x : Int32} (c : CX S K U V A) : CX S K (nU U n x) V (nt A n x) := by
  obtain ⟨r1, k, ⟨u1, u2, u3, u4, u5, u6⟩, hc⟩ := c
  have g : ∀ k i, k ≠ 148 → k ≠ 149 → tz_g (nt A n x) k i = tz_g A k i := fun k i h1 h2 => by
    unfold nt
    split
    · rw [tz_gsk h1]
    · rw [tz_gsk h1, tz_gsk h2]
  have gl : ∀ k i, tz_gl (nt A n x) k i = tz_gl A k i := fun k i => by
    unfold nt
    split <;> rfl
  have gr : ∀ k i, tz_gr (nt A n x) k i = tz_gr A k i := fun k i => by
    unfold nt
    split <;> rfl
  have g1 : (nt A n x).1 = A.1 := by
    unfold nt
    split <;> rfl
  have eu : ∀ k i, k ≠ 4 → k ≠ 5 → nU U n x k i = U k i := fun k i h1 h2 => by
    unfold nU
    split
    · rw [tz_uk h1]
    · rw [tz_uk h1, tz_uk h2]
  refine ⟨rx_mv r1 (fun k i h1 h2 => g k i (by omega) (by omega)) (gr _ _) (Or.inr (fun k i h1 h2 => g k i (by omega) (by omega))), fun q => rx_mv (k (by rw [eu 3 1 (by omega) (by omega)] at q; exact q)) (fun k i h1 h2 => g k i (by omega) (by omega)) (gr _ _) (Or.inr (fun k i h1 h2 => g k i (by omega) (by omega))), ⟨fun s hs => ?_, fun i hi => ?_, ?_, ?_, ?_, fun i hi => ?_⟩, ⟨by rw [g1]; exact hc.1, fun k i a b d => by rw [gr]; exact hc.2 k i a b d⟩⟩
  · obtain ⟨a, b, d⟩ := u1 s hs
    rw [g _ _ (by omega) (by omega), g _ _ (by omega) (by omega), eu _ _ (by omega) (by omega), eu _ _ (by omega) (by omega)]
    refine ⟨a, b, fun i hi => ?_⟩
    rw [gl]
    exact d i hi
  · rw [g _ _ (by omega) (by omega), eu _ _ (by omega) (by omega)]
    exact u2 i hi
  · rw [g _ _ (by omega) (by omega), eu _ _ (by omega) (by omega)]
    exact u3
  · rw [g _ _ (by omega) (by omega), eu _ _ (by omega) (by omega)]
    exact u4
  · rw [nt0]
    unfold nU
    split <;> rw [tz_u1]
  · unfold nt nU
    split
    · rw [tz_gsk (by omega), tz_uk (by omega)]
      exact u6 i hi
    · rw [tz_gsk (by omega), tz_uk (by omega), tz_gS, tz_ua]
      by_cases z : i = n
      · rw [if_pos ⟨rfl, z⟩, if_pos ⟨rfl, z⟩]
      · rw [if_neg (fun q => z q.2), if_neg (fun q => z q.2)]
        exact u6 i hi
theorem MX_mr {D : Nat → Int32} {S K : tz_S} {U : tz_U} {V : tz_V} {A : tz_Mem} {n : Nat} {x : Int32} (c : MX D S K U V A) : MX D S K (nU U n x) V (mr A n x) := by
  obtain ⟨r1, k, ⟨u1, u2, u3, u4, u5, u6⟩, hc⟩ := c
  have g : ∀ k i, ¬ (k = 157 ∧ i = 28) → k ≠ 178 → tz_g (mr A n x) k i = tz_g A k i := fun k i h1 h2 => by
    unfold mr
    split
    · rw [tz_gS, if_neg h1]
    · rw [tz_gS, if_neg h1, tz_gsk h2]
  have gl : ∀ k i, tz_gl (mr A n x) k i = tz_gl A k i := fun k i => by
    unfold mr
    split <;> rfl
  have g1 : (mr A n x).1 = A.1 := by
    unfold mr
    split <;> rfl
  have eu : ∀ k i, k ≠ 4 → k ≠ 5 → nU U n x k i = U k i := fun k i h1 h2 => by
    unfold nU
    split
    · rw [tz_uk h1]
    · rw [tz_uk h1, tz_uk h2]
  refine ⟨rm_A r1 (fun k i h => g k i (by omega) (by omega)), fun q => rmk_mv (k (by rw [eu 3 1 (by omega) (by omega)] at q; exact q)) (fun j _ => g _ _ (by omega) (by omega)), ⟨fun s hs => ?_, fun i hi => ?_, ?_, ?_, ?_, fun i hi => ?_⟩, by rw [g1]; exact hc⟩
  · obtain ⟨a, b, d⟩ := u1 s hs
    rw [g _ _ (by omega) (by omega), g _ _ (by omega) (by omega), eu _ _ (by omega) (by omega), eu _ _ (by omega) (by omega)]
    refine ⟨a, b, fun i hi => ?_⟩
    rw [gl]
    exact d i hi
  · rw [g _ _ (by omega) (by omega), eu _ _ (by omega) (by omega)]
    exact u2 i hi
  · rw [g _ _ (by omega) (by omega), eu _ _ (by omega) (by omega)]
    exact u3
  · rw [g _ _ (by omega) (by omega), eu _ _ (by omega) (by omega)]
    exact u4
  · rw [mr0]
    unfold nU
    split <;> rw [tz_u1]
  · unfold mr nU
    split
    · rw [tz_gsk (by omega), tz_uk (by omega)]
      exact u6 i hi
    · rw [tz_gsk (by omega), tz_uk (by omega), tz_gS, tz_ua]
      by_cases z : i = n
      · rw [if_pos ⟨rfl, z⟩, if_pos ⟨rfl, z⟩]
      · rw [if_neg (fun q => z q.2), if_neg (fun q => z q.2)]
        exact u6 i hi
theorem CX_u4 {S K : tz_S} {U : tz_U} {V : tz_V} {A : tz_Mem} {v : Int32} (c : CX S K U V A) : CX S K (tz_u U 4 0 v) V (tz_s A 148 0 v) := by
  obtain ⟨r1, k, ⟨u1, u2, u3, u4, u5, u6⟩, hc⟩ := c
  exact ⟨rx_mv r1 (fun k i h1 h2 => tz_gsk (by omega)) rfl (Or.inr (fun k i h1 h2 => tz_gsk (by omega))), fun q => rx_mv (k q) (fun k i h1 h2 => tz_gsk (by omega)) rfl (Or.inr (fun k i h1 h2 => tz_gsk (by omega))), ⟨fun s hs => ⟨(tz_gsk (by omega)).trans (u1 s hs).1, (tz_gsk (by omega)).trans (u1 s hs).2.1, (u1 s hs).2.2⟩, fun i hi => (tz_gsk (by omega)).trans (u2 i hi), (tz_gsk (by omega)).trans u3, (tz_gsk (by omega)).trans u4, tz_gs1, fun i hi => (tz_gsk (by omega)).trans (u6 i hi)⟩, hc⟩
theorem CX_148 {S K : tz_S} {U : tz_U} {V : tz_V} {A : tz_Mem} {v : Int32} {j : Nat} (hj : j ≠ 0) (c : CX S K U V A) : CX S K U V (tz_s A 148 j v) := by
  obtain ⟨r1, k, ⟨u1, u2, u3, u4, u5, u6⟩, hc⟩ := c
  exact ⟨rx_mv r1 (fun k i h1 h2 => tz_gsk (by omega)) rfl (Or.inr (fun k i h1 h2 => tz_gsk (by omega))), fun q => rx_mv (k q) (fun k i h1 h2 => tz_gsk (by omega)) rfl (Or.inr (fun k i h1 h2 => tz_gsk (by omega))), ⟨fun s hs => ⟨(tz_gsk (by omega)).trans (u1 s hs).1, (tz_gsk (by omega)).trans (u1 s hs).2.1, (u1 s hs).2.2⟩, fun i hi => (tz_gsk (by omega)).trans (u2 i hi), (tz_gsk (by omega)).trans u3, (tz_gsk (by omega)).trans u4, (tz_gsi (fun q => hj q.symm)).trans u5, fun i hi => (tz_gsk (by omega)).trans (u6 i hi)⟩, hc⟩
theorem MX_u4 {D : Nat → Int32} {S K : tz_S} {U : tz_U} {V : tz_V} {A : tz_Mem} {v : Int32} (c : MX D S K U V A) : MX D S K (tz_u U 4 0 v) V (tz_s A 157 28 v) := by
  obtain ⟨r1, k, ⟨u1, u2, u3, u4, u5, u6⟩, hc⟩ := c
  have g : ∀ k i, ¬ (k = 157 ∧ i = 28) → tz_g (tz_s A 157 28 v) k i = tz_g A k i := fun k i h => if_neg h
  exact ⟨rm_A r1 (fun k i h => g k i (by omega)), fun q => rmk_mv (k q) (fun j _ => g _ _ (by omega)), ⟨fun s hs => ⟨(g _ _ (by omega)).trans (u1 s hs).1, (g _ _ (by omega)).trans (u1 s hs).2.1, (u1 s hs).2.2⟩, fun i hi => (g _ _ (by omega)).trans (u2 i hi), (g _ _ (by omega)).trans u3, (g _ _ (by omega)).trans u4, tz_gs1, fun i hi => (g _ _ (by omega)).trans (u6 i hi)⟩, hc⟩
theorem cf_nt {A B : tz_Mem} {n : Nat} {x : Int32} (f : cf A B) : cf A (nt B n x) := by
  unfold nt
  split
  · exact cf_tr f (cf_s (by omega))
  · exact cf_tr (cf_tr f (cf_s (by omega))) (cf_s (by omega))
theorem mg_mr {A B : tz_Mem} {n : Nat} {x : Int32} (f : mg A B) : mg A (mr B n x) := by
  unfold mr
  split
  · exact mg_tr f (mg_s (by omega))
  · exact mg_tr (mg_tr f (mg_s (by omega))) (mg_s (by omega))
theorem wu_4 {S : tz_S} {U : tz_U} (h : wu S U) {n : Nat} (hn : n ≤ 60) : wu S (tz_u U 4 0 (tz_j n)) := ⟨h.1, h.2.1, n, hn, tz_u1⟩
theorem wu_nU {S : tz_S} {U : tz_U} (h : wu S U) {n : Nat} {x : Int32} (hn : n < 60) : wu S (nU U n x) := by
  unfold nU
  split
  · exact wu_4 h (by omega)
  · have h2 : wu S (tz_u U 5 n x) := h
    exact wu_4 h2 (by omega)
theorem mg_rfl {A : tz_Mem} : mg A A := ⟨rfl, fun _ _ _ => ⟨rfl, rfl⟩, fun _ _ => rfl⟩
/-- an act of none -/
theorem out_no {N : Nat} {S K : tz_S} {U : tz_U} {V : tz_V} {F G : tz_Mem → tz_X} {A : tz_Mem} (c : CX S K U V A) (ww : WX N S K U) (hF : F A = some (some (.int (tz_j 0)), tz_s A 148 0 (tz_j 0))) (hG : ∀ A D, MX D S K U V A → G A = some (some (.int (tz_j 0)), tz_s A 157 28 (tz_j 0))) : two_R N S K U V F G A :=
  ⟨tz_j 0, S, K, tz_u U 4 0 (tz_j 0), V, ⟨_, hF, CX_u4 c, cf_s (by omega)⟩, ⟨(WX_mo (M := N + 2000) ww (by omega)).1, ww.2.1, (WX_mo (M := N + 2000) ww (by omega)).2.2.1, ww.2.2.2.1, wu_4 ww.2.2.2.2 (by omega)⟩, fun A D m => ⟨_, D, hG A D m, MX_u4 m, mf_s (by omega)⟩⟩

theorem p_act (x1 x2 x3 : Int32) : tz_twoI tz_J (f_X11_act x1 x2 x3) (f_X12_act x1 x2 x3) := by
  refine two_of (fun N S K U V A hN c ww => ?_)
  have W := ww.1.1
  have W2 := ww.1.2.1
  have h8 := W.1
  have h4 := W.2.1
  have h12 := W.2.2.1
  have cc := c.1.1
  have ef : f_X0_forget A = some (none, tz_s A 148 0 (tz_j 0)) := by
    rw [e_X0_forget]
    rfl
  rcases nj_three x1 (S 1 0) (by omega) with ⟨h, hh, rfl⟩ | h
  · have e1 := x_hash1 h30 cc hh (by omega)
    have e2 := fun {D} {A} (m : MX D S K U V A) => m_hash1 (A := tz_s A 157 28 (tz_j 0)) (MX_u4 (v := tz_j 0) m).1.1 hh (by omega)
    rcases nj_three x2 3 (by omega) with ⟨a, ha, rfl⟩ | h2
    · have n1 : (tz_j a < tz_j 0) = False := nj_ltf (by omega) (by omega)
      have n2 : (tz_j a ≤ tz_j 2) = True := nj_let (by omega) (by omega)
      have w2 := fun A => w_in (A := A) (u := a) (n := 2) (by omega) (by omega)
      have hcl : (tz_j h).toNatClampNeg = h := nj_cl (by omega)
      have n3 : (tz_j h < tz_j 0 ∨ 8 ≤ h) = False := by
        have := nj_ix (l := h) (n := 8) (by omega) (by omega)
        rw [nj_cl (by omega)] at this
        exact this
      have hk := (W.2.2.2.1 h hh).1
      have q2 : tz_g A (30 + 2) h = tz_j (S 2 h) := cx_2 cc (by omega)
      have q3 : tz_g A (30 + 3) h = tz_j (S 3 h) := cx_3 cc (by omega)
      have ep : ∀ v B, f_X0_run_0 (tz_j a) (tz_j (S 2 h)) x3 (tz_j 0) (tz_s (tz_s (tz_s (tz_s A 148 0 (tz_j 0)) 148 2 (tz_j h)) 148 3 (tz_j (S 3 h))) 148 4 (tz_j (S 2 h))) = some (some (.int v), B) → f_X11_act (tz_j h) (tz_j a) x3 A = some (some (.int v), B) := fun v B hv => by
        have hv2 : f_X0_perform 30 (tz_j h) (tz_j a) x3 A = some (some (.int v), B) := by
          rw [e_X0_perform _ _ _ _ h30]
          simp (disch := omega) only [tz_lit, nj_m1, nj_m2, nj_m3, nj_m4, nj_m5, nj_m6, nj_m7, ↓reduceIte, tz_bI_some, tz_bV_some, tz_bL_some, cj10, cj01, cjm0, eq_self, not_true_eq_false, not_false_eq_true, or_false, false_or, or_true, true_or, or_self, and_true, true_and, and_false, false_and, ef, hcl, n3, tz_gsk, tz_gs1, q2, q3, hv]
        rw [e_X11_act]
        simp only [tz_lit, nj_m1, nj_m2, nj_m3, nj_m4, nj_m5, nj_m6, nj_m7, ↓reduceIte, tz_bI_some, tz_bV_some, tz_bL_some, cj10, cj01, cjm0, eq_self, not_true_eq_false, not_false_eq_true, or_false, false_or, or_true, true_or, or_self, and_true, true_and, and_false, false_and, e1, n1, n2, hv2]
      have c2 : CX S K (tz_u U 4 0 (tz_j 0)) V (tz_s (tz_s (tz_s (tz_s A 148 0 (tz_j 0)) 148 2 (tz_j h)) 148 3 (tz_j (S 3 h))) 148 4 (tz_j (S 2 h))) := CX_148 (by omega) (CX_148 (by omega) (CX_148 (by omega) (CX_u4 c)))
      have f2 : cf A (tz_s (tz_s (tz_s (tz_s A 148 0 (tz_j 0)) 148 2 (tz_j h)) 148 3 (tz_j (S 3 h))) 148 4 (tz_j (S 2 h))) := cf_tr (cf_tr (cf_tr (cf_s (by omega)) (cf_s (by omega))) (cf_s (by omega))) (cf_s (by omega))
      have z0 : tz_g (tz_s (tz_s (tz_s (tz_s A 148 0 (tz_j 0)) 148 2 (tz_j h)) 148 3 (tz_j (S 3 h))) 148 4 (tz_j (S 2 h))) 148 0 = tz_j 0 := by
        rw [tz_gsi (by omega), tz_gsi (by omega), tz_gsi (by omega), tz_gs1]
      have z2 : tz_g (tz_s (tz_s (tz_s (tz_s A 148 0 (tz_j 0)) 148 2 (tz_j h)) 148 3 (tz_j (S 3 h))) 148 4 (tz_j (S 2 h))) 148 2 = tz_j h := by
        rw [tz_gsi (by omega), tz_gsi (by omega), tz_gs1]
      have z3 : tz_g (tz_s (tz_s (tz_s (tz_s A 148 0 (tz_j 0)) 148 2 (tz_j h)) 148 3 (tz_j (S 3 h))) 148 4 (tz_j (S 2 h))) 148 3 = tz_j (S 3 h) := by
        rw [tz_gsi (by omega), tz_gs1]
      have z4 : tz_g (tz_s (tz_s (tz_s (tz_s A 148 0 (tz_j 0)) 148 2 (tz_j h)) 148 3 (tz_j (S 3 h))) 148 4 (tz_j (S 2 h))) 148 4 = tz_j (S 2 h) := tz_gs1
      generalize tz_s (tz_s (tz_s (tz_s A 148 0 (tz_j 0)) 148 2 (tz_j h)) 148 3 (tz_j (S 3 h))) 148 4 (tz_j (S 2 h)) = A0 at *
      have wx : ∀ U', wu S U' → WX (N + 2000) S K U' := fun U' hu => ⟨(WX_mo (M := N + 2000) ww (by omega)).1, ww.2.1, (WX_mo (M := N + 2000) ww (by omega)).2.2.1, ww.2.2.2.1, hu⟩
      have w0 : wu S (tz_u U 4 0 (tz_j 0)) := wu_4 ww.2.2.2.2 (by omega)
      rcases (show a = 0 ∨ a = 1 ∨ a = 2 by omega) with rfl | rfl | rfl
      · rcases (show S 2 h = 0 ∨ S 2 h = 1 ∨ S 2 h = 2 ∨ S 2 h = 3 ∨ S 2 h = 4 ∨ S 2 h = 5 ∨ S 2 h = 6 by omega) with z | z | z | z | z | z | z
        · refine ⟨(x3 + tz_j h), S, K, (nU (tz_u U 4 0 (tz_j 0)) 0 (tz_j 10)), V, ⟨(nt A0 0 (tz_j 10)), ep _ _ ?_, CX_nt c2, cf_nt f2⟩, wx _ (wu_nU w0 (by omega)), fun A D m => ⟨(mr (tz_s A 157 28 (tz_j 0)) 0 (tz_j 10)), D, ?_, MX_mr (MX_u4 m), mf_mg (mg_mr (mg_s (A := A) (i := 28) (v := tz_j 0) (show 157 ≤ 157 by omega)))⟩⟩
          · rw [z]
            exact cr_0_0_0_x z0 (by omega) z2 z3
          · have mm := MX_u4 (v := tz_j 0) m
            have e3 := mc_0_0 (A := tz_s A 157 28 (tz_j 0)) (n := 0) (h := h) (x := x3) (oo := tz_j (S 3 h)) tz_gs1 (by omega) (by omega) (by rw [← z]; exact cm_161 mm.1.1 hh) (cm_162 mm.1.1 hh)
            rw [e_X12_act]
            simp (disch := omega) only [tz_lit, nj_m1, nj_m2, nj_m3, nj_m4, nj_m5, nj_m6, nj_m7, ↓reduceIte, tz_bI_some, tz_bV_some, tz_bL_some, cj10, cj01, cjm0, eq_self, not_true_eq_false, not_false_eq_true, or_false, false_or, or_true, true_or, or_self, and_true, true_and, and_false, false_and, nj_eqf, nj_ltt, nj_ltf, nj_let, nj_lef, nj_cl, nt_lef, e2 m, w2, e3]
        · refine ⟨((x3 + tz_j h) + tz_j (S 3 h)), S, K, (nU (nU (tz_u U 4 0 (tz_j 0)) 0 (tz_j 20)) (0 + 1) (tz_j 10)), V, ⟨(nt (nt A0 0 (tz_j 20)) (0 + 1) (tz_j 10)), ep _ _ ?_, CX_nt (CX_nt c2), cf_nt (cf_nt f2)⟩, wx _ (wu_nU (wu_nU w0 (by omega)) (by omega)), fun A D m => ⟨(mr (mr (tz_s A 157 28 (tz_j 0)) 0 (tz_j 20)) (0 + 1) (tz_j 10)), D, ?_, MX_mr (MX_mr (MX_u4 m)), mf_mg (mg_mr (mg_mr (mg_s (A := A) (i := 28) (v := tz_j 0) (show 157 ≤ 157 by omega))))⟩⟩
          · rw [z]
            exact cr_0_0_1_x z0 (by omega) z2 z3
          · have mm := MX_u4 (v := tz_j 0) m
            have e3 := mc_0_1 (A := tz_s A 157 28 (tz_j 0)) (n := 0) (h := h) (x := x3) (oo := tz_j (S 3 h)) tz_gs1 (by omega) (by omega) (by rw [← z]; exact cm_161 mm.1.1 hh) (cm_162 mm.1.1 hh)
            rw [e_X12_act]
            simp (disch := omega) only [tz_lit, nj_m1, nj_m2, nj_m3, nj_m4, nj_m5, nj_m6, nj_m7, ↓reduceIte, tz_bI_some, tz_bV_some, tz_bL_some, cj10, cj01, cjm0, eq_self, not_true_eq_false, not_false_eq_true, or_false, false_or, or_true, true_or, or_self, and_true, true_and, and_false, false_and, nj_eqf, nj_ltt, nj_ltf, nj_let, nj_lef, nj_cl, nt_lef, e2 m, w2, e3]
        · refine ⟨(x3 + tz_j h), S, K, (nU (tz_u U 4 0 (tz_j 0)) 0 (tz_j 10)), V, ⟨(nt A0 0 (tz_j 10)), ep _ _ ?_, CX_nt c2, cf_nt f2⟩, wx _ (wu_nU w0 (by omega)), fun A D m => ⟨(mr (tz_s A 157 28 (tz_j 0)) 0 (tz_j 10)), D, ?_, MX_mr (MX_u4 m), mf_mg (mg_mr (mg_s (A := A) (i := 28) (v := tz_j 0) (show 157 ≤ 157 by omega)))⟩⟩
          · rw [z]
            exact cr_0_0_2_x z0 (by omega) z2 z3
          · have mm := MX_u4 (v := tz_j 0) m
            have e3 := mc_0_2 (A := tz_s A 157 28 (tz_j 0)) (n := 0) (h := h) (x := x3) (oo := tz_j (S 3 h)) tz_gs1 (by omega) (by omega) (by rw [← z]; exact cm_161 mm.1.1 hh) (cm_162 mm.1.1 hh)
            rw [e_X12_act]
            simp (disch := omega) only [tz_lit, nj_m1, nj_m2, nj_m3, nj_m4, nj_m5, nj_m6, nj_m7, ↓reduceIte, tz_bI_some, tz_bV_some, tz_bL_some, cj10, cj01, cjm0, eq_self, not_true_eq_false, not_false_eq_true, or_false, false_or, or_true, true_or, or_self, and_true, true_and, and_false, false_and, nj_eqf, nj_ltt, nj_ltf, nj_let, nj_lef, nj_cl, nt_lef, e2 m, w2, e3]
        · refine ⟨((x3 + tz_j h) + tz_j (S 3 h)), S, K, (nU (nU (tz_u U 4 0 (tz_j 0)) 0 (tz_j 20)) (0 + 1) (tz_j 10)), V, ⟨(nt (nt A0 0 (tz_j 20)) (0 + 1) (tz_j 10)), ep _ _ ?_, CX_nt (CX_nt c2), cf_nt (cf_nt f2)⟩, wx _ (wu_nU (wu_nU w0 (by omega)) (by omega)), fun A D m => ⟨(mr (mr (tz_s A 157 28 (tz_j 0)) 0 (tz_j 20)) (0 + 1) (tz_j 10)), D, ?_, MX_mr (MX_mr (MX_u4 m)), mf_mg (mg_mr (mg_mr (mg_s (A := A) (i := 28) (v := tz_j 0) (show 157 ≤ 157 by omega))))⟩⟩
          · rw [z]
            exact cr_0_0_3_x z0 (by omega) z2 z3
          · have mm := MX_u4 (v := tz_j 0) m
            have e3 := mc_0_3 (A := tz_s A 157 28 (tz_j 0)) (n := 0) (h := h) (x := x3) (oo := tz_j (S 3 h)) tz_gs1 (by omega) (by omega) (by rw [← z]; exact cm_161 mm.1.1 hh) (cm_162 mm.1.1 hh)
            rw [e_X12_act]
            simp (disch := omega) only [tz_lit, nj_m1, nj_m2, nj_m3, nj_m4, nj_m5, nj_m6, nj_m7, ↓reduceIte, tz_bI_some, tz_bV_some, tz_bL_some, cj10, cj01, cjm0, eq_self, not_true_eq_false, not_false_eq_true, or_false, false_or, or_true, true_or, or_self, and_true, true_and, and_false, false_and, nj_eqf, nj_ltt, nj_ltf, nj_let, nj_lef, nj_cl, nt_lef, e2 m, w2, e3]
        · refine ⟨((x3 + tz_j h) - tz_j h), S, K, (nU (nU (tz_u U 4 0 (tz_j 0)) 0 (tz_j 51)) (0 + 1) (tz_j 10)), V, ⟨(nt (nt A0 0 (tz_j 51)) (0 + 1) (tz_j 10)), ep _ _ ?_, CX_nt (CX_nt c2), cf_nt (cf_nt f2)⟩, wx _ (wu_nU (wu_nU w0 (by omega)) (by omega)), fun A D m => ⟨(mr (mr (tz_s A 157 28 (tz_j 0)) 0 (tz_j 51)) (0 + 1) (tz_j 10)), D, ?_, MX_mr (MX_mr (MX_u4 m)), mf_mg (mg_mr (mg_mr (mg_s (A := A) (i := 28) (v := tz_j 0) (show 157 ≤ 157 by omega))))⟩⟩
          · rw [z]
            exact cr_0_0_4_x z0 (by omega) z2 z3
          · have mm := MX_u4 (v := tz_j 0) m
            have e3 := mc_0_4 (A := tz_s A 157 28 (tz_j 0)) (n := 0) (h := h) (x := x3) (oo := tz_j (S 3 h)) tz_gs1 (by omega) (by omega) (by rw [← z]; exact cm_161 mm.1.1 hh) (cm_162 mm.1.1 hh)
            rw [e_X12_act]
            simp (disch := omega) only [tz_lit, nj_m1, nj_m2, nj_m3, nj_m4, nj_m5, nj_m6, nj_m7, ↓reduceIte, tz_bI_some, tz_bV_some, tz_bL_some, cj10, cj01, cjm0, eq_self, not_true_eq_false, not_false_eq_true, or_false, false_or, or_true, true_or, or_self, and_true, true_and, and_false, false_and, nj_eqf, nj_ltt, nj_ltf, nj_let, nj_lef, nj_cl, nt_lef, e2 m, w2, e3]
        · refine ⟨(x3 + tz_j h), S, K, (nU (tz_u U 4 0 (tz_j 0)) 0 (tz_j 10)), V, ⟨(nt A0 0 (tz_j 10)), ep _ _ ?_, CX_nt c2, cf_nt f2⟩, wx _ (wu_nU w0 (by omega)), fun A D m => ⟨(mr (tz_s A 157 28 (tz_j 0)) 0 (tz_j 10)), D, ?_, MX_mr (MX_u4 m), mf_mg (mg_mr (mg_s (A := A) (i := 28) (v := tz_j 0) (show 157 ≤ 157 by omega)))⟩⟩
          · rw [z]
            exact cr_0_0_5_x z0 (by omega) z2 z3
          · have mm := MX_u4 (v := tz_j 0) m
            have e3 := mc_0_5 (A := tz_s A 157 28 (tz_j 0)) (n := 0) (h := h) (x := x3) (oo := tz_j (S 3 h)) tz_gs1 (by omega) (by omega) (by rw [← z]; exact cm_161 mm.1.1 hh) (cm_162 mm.1.1 hh)
            rw [e_X12_act]
            simp (disch := omega) only [tz_lit, nj_m1, nj_m2, nj_m3, nj_m4, nj_m5, nj_m6, nj_m7, ↓reduceIte, tz_bI_some, tz_bV_some, tz_bL_some, cj10, cj01, cjm0, eq_self, not_true_eq_false, not_false_eq_true, or_false, false_or, or_true, true_or, or_self, and_true, true_and, and_false, false_and, nj_eqf, nj_ltt, nj_ltf, nj_let, nj_lef, nj_cl, nt_lef, e2 m, w2, e3]
        · refine ⟨(((x3 + tz_j h) - tz_j h) * tz_j 2), S, K, (nU (nU (nU (tz_u U 4 0 (tz_j 0)) 0 (tz_j 70)) (0 + 1) (tz_j 51)) ((0 + 1) + 1) (tz_j 10)), V, ⟨(nt (nt (nt A0 0 (tz_j 70)) (0 + 1) (tz_j 51)) ((0 + 1) + 1) (tz_j 10)), ep _ _ ?_, CX_nt (CX_nt (CX_nt c2)), cf_nt (cf_nt (cf_nt f2))⟩, wx _ (wu_nU (wu_nU (wu_nU w0 (by omega)) (by omega)) (by omega)), fun A D m => ⟨(mr (mr (mr (tz_s A 157 28 (tz_j 0)) 0 (tz_j 70)) (0 + 1) (tz_j 51)) ((0 + 1) + 1) (tz_j 10)), D, ?_, MX_mr (MX_mr (MX_mr (MX_u4 m))), mf_mg (mg_mr (mg_mr (mg_mr (mg_s (A := A) (i := 28) (v := tz_j 0) (show 157 ≤ 157 by omega)))))⟩⟩
          · rw [z]
            exact cr_0_0_6_x z0 (by omega) z2 z3
          · have mm := MX_u4 (v := tz_j 0) m
            have e3 := mc_0_6 (A := tz_s A 157 28 (tz_j 0)) (n := 0) (h := h) (x := x3) (oo := tz_j (S 3 h)) tz_gs1 (by omega) (by omega) (by rw [← z]; exact cm_161 mm.1.1 hh) (cm_162 mm.1.1 hh)
            rw [e_X12_act]
            simp (disch := omega) only [tz_lit, nj_m1, nj_m2, nj_m3, nj_m4, nj_m5, nj_m6, nj_m7, ↓reduceIte, tz_bI_some, tz_bV_some, tz_bL_some, cj10, cj01, cjm0, eq_self, not_true_eq_false, not_false_eq_true, or_false, false_or, or_true, true_or, or_self, and_true, true_and, and_false, false_and, nj_eqf, nj_ltt, nj_ltf, nj_let, nj_lef, nj_cl, nt_lef, e2 m, w2, e3]
      · rcases (show S 2 h = 0 ∨ S 2 h = 1 ∨ S 2 h = 2 ∨ S 2 h = 3 ∨ S 2 h = 4 ∨ S 2 h = 5 ∨ S 2 h = 6 by omega) with z | z | z | z | z | z | z
        · refine ⟨((x3 + tz_j h) * tz_j 2), S, K, (nU (nU (tz_u U 4 0 (tz_j 0)) 0 (tz_j 11)) (0 + 1) (tz_j 10)), V, ⟨(nt (nt A0 0 (tz_j 11)) (0 + 1) (tz_j 10)), ep _ _ ?_, CX_nt (CX_nt c2), cf_nt (cf_nt f2)⟩, wx _ (wu_nU (wu_nU w0 (by omega)) (by omega)), fun A D m => ⟨(mr (mr (tz_s A 157 28 (tz_j 0)) 0 (tz_j 11)) (0 + 1) (tz_j 10)), D, ?_, MX_mr (MX_mr (MX_u4 m)), mf_mg (mg_mr (mg_mr (mg_s (A := A) (i := 28) (v := tz_j 0) (show 157 ≤ 157 by omega))))⟩⟩
          · rw [z]
            exact cr_0_1_0_0 z0 (by omega) z2 z3 (z4.trans (congrArg tz_j z))
          · have mm := MX_u4 (v := tz_j 0) m
            have e3 := mc_1_0 (A := tz_s A 157 28 (tz_j 0)) (n := 0) (h := h) (x := x3) (oo := tz_j (S 3 h)) tz_gs1 (by omega) (by omega) (by rw [← z]; exact cm_161 mm.1.1 hh) (cm_162 mm.1.1 hh)
            rw [e_X12_act]
            simp (disch := omega) only [tz_lit, nj_m1, nj_m2, nj_m3, nj_m4, nj_m5, nj_m6, nj_m7, ↓reduceIte, tz_bI_some, tz_bV_some, tz_bL_some, cj10, cj01, cjm0, eq_self, not_true_eq_false, not_false_eq_true, or_false, false_or, or_true, true_or, or_self, and_true, true_and, and_false, false_and, nj_eqf, nj_ltt, nj_ltf, nj_let, nj_lef, nj_cl, nt_lef, e2 m, w2, e3]
        · refine ⟨(((x3 + tz_j h) + tz_j (S 3 h)) * tz_j 2), S, K, (nU (nU (nU (tz_u U 4 0 (tz_j 0)) 0 (tz_j 11)) (0 + 1) (tz_j 20)) ((0 + 1) + 1) (tz_j 10)), V, ⟨(nt (nt (nt A0 0 (tz_j 11)) (0 + 1) (tz_j 20)) ((0 + 1) + 1) (tz_j 10)), ep _ _ ?_, CX_nt (CX_nt (CX_nt c2)), cf_nt (cf_nt (cf_nt f2))⟩, wx _ (wu_nU (wu_nU (wu_nU w0 (by omega)) (by omega)) (by omega)), fun A D m => ⟨(mr (mr (mr (tz_s A 157 28 (tz_j 0)) 0 (tz_j 11)) (0 + 1) (tz_j 20)) ((0 + 1) + 1) (tz_j 10)), D, ?_, MX_mr (MX_mr (MX_mr (MX_u4 m))), mf_mg (mg_mr (mg_mr (mg_mr (mg_s (A := A) (i := 28) (v := tz_j 0) (show 157 ≤ 157 by omega)))))⟩⟩
          · rw [z]
            exact cr_0_1_1_1 z0 (by omega) z2 z3 (z4.trans (congrArg tz_j z))
          · have mm := MX_u4 (v := tz_j 0) m
            have e3 := mc_1_1 (A := tz_s A 157 28 (tz_j 0)) (n := 0) (h := h) (x := x3) (oo := tz_j (S 3 h)) tz_gs1 (by omega) (by omega) (by rw [← z]; exact cm_161 mm.1.1 hh) (cm_162 mm.1.1 hh)
            rw [e_X12_act]
            simp (disch := omega) only [tz_lit, nj_m1, nj_m2, nj_m3, nj_m4, nj_m5, nj_m6, nj_m7, ↓reduceIte, tz_bI_some, tz_bV_some, tz_bL_some, cj10, cj01, cjm0, eq_self, not_true_eq_false, not_false_eq_true, or_false, false_or, or_true, true_or, or_self, and_true, true_and, and_false, false_and, nj_eqf, nj_ltt, nj_ltf, nj_let, nj_lef, nj_cl, nt_lef, e2 m, w2, e3]
        · refine ⟨(((x3 + tz_j h) * tz_j 2) * tz_j 3), S, K, (nU (nU (nU (tz_u U 4 0 (tz_j 0)) 0 (tz_j 30)) (0 + 1) (tz_j 11)) ((0 + 1) + 1) (tz_j 10)), V, ⟨(nt (nt (nt A0 0 (tz_j 30)) (0 + 1) (tz_j 11)) ((0 + 1) + 1) (tz_j 10)), ep _ _ ?_, CX_nt (CX_nt (CX_nt c2)), cf_nt (cf_nt (cf_nt f2))⟩, wx _ (wu_nU (wu_nU (wu_nU w0 (by omega)) (by omega)) (by omega)), fun A D m => ⟨(mr (mr (mr (tz_s A 157 28 (tz_j 0)) 0 (tz_j 30)) (0 + 1) (tz_j 11)) ((0 + 1) + 1) (tz_j 10)), D, ?_, MX_mr (MX_mr (MX_mr (MX_u4 m))), mf_mg (mg_mr (mg_mr (mg_mr (mg_s (A := A) (i := 28) (v := tz_j 0) (show 157 ≤ 157 by omega)))))⟩⟩
          · rw [z]
            exact cr_0_1_2_2 z0 (by omega) z2 z3 (z4.trans (congrArg tz_j z))
          · have mm := MX_u4 (v := tz_j 0) m
            have e3 := mc_1_2 (A := tz_s A 157 28 (tz_j 0)) (n := 0) (h := h) (x := x3) (oo := tz_j (S 3 h)) tz_gs1 (by omega) (by omega) (by rw [← z]; exact cm_161 mm.1.1 hh) (cm_162 mm.1.1 hh)
            rw [e_X12_act]
            simp (disch := omega) only [tz_lit, nj_m1, nj_m2, nj_m3, nj_m4, nj_m5, nj_m6, nj_m7, ↓reduceIte, tz_bI_some, tz_bV_some, tz_bL_some, cj10, cj01, cjm0, eq_self, not_true_eq_false, not_false_eq_true, or_false, false_or, or_true, true_or, or_self, and_true, true_and, and_false, false_and, nj_eqf, nj_ltt, nj_ltf, nj_let, nj_lef, nj_cl, nt_lef, e2 m, w2, e3]
        · refine ⟨((((x3 + tz_j 1) + tz_j h) + tz_j (S 3 h)) * tz_j 2), S, K, (nU (nU (nU (nU (tz_u U 4 0 (tz_j 0)) 0 (tz_j 40)) (0 + 1) (tz_j 11)) ((0 + 1) + 1) (tz_j 20)) (((0 + 1) + 1) + 1) (tz_j 10)), V, ⟨(nt (nt (nt (nt A0 0 (tz_j 40)) (0 + 1) (tz_j 11)) ((0 + 1) + 1) (tz_j 20)) (((0 + 1) + 1) + 1) (tz_j 10)), ep _ _ ?_, CX_nt (CX_nt (CX_nt (CX_nt c2))), cf_nt (cf_nt (cf_nt (cf_nt f2)))⟩, wx _ (wu_nU (wu_nU (wu_nU (wu_nU w0 (by omega)) (by omega)) (by omega)) (by omega)), fun A D m => ⟨(mr (mr (mr (mr (tz_s A 157 28 (tz_j 0)) 0 (tz_j 40)) (0 + 1) (tz_j 11)) ((0 + 1) + 1) (tz_j 20)) (((0 + 1) + 1) + 1) (tz_j 10)), D, ?_, MX_mr (MX_mr (MX_mr (MX_mr (MX_u4 m)))), mf_mg (mg_mr (mg_mr (mg_mr (mg_mr (mg_s (A := A) (i := 28) (v := tz_j 0) (show 157 ≤ 157 by omega))))))⟩⟩
          · rw [z]
            exact cr_0_1_3_3 z0 (by omega) z2 z3 (z4.trans (congrArg tz_j z))
          · have mm := MX_u4 (v := tz_j 0) m
            have e3 := mc_1_3 (A := tz_s A 157 28 (tz_j 0)) (n := 0) (h := h) (x := x3) (oo := tz_j (S 3 h)) tz_gs1 (by omega) (by omega) (by rw [← z]; exact cm_161 mm.1.1 hh) (cm_162 mm.1.1 hh)
            rw [e_X12_act]
            simp (disch := omega) only [tz_lit, nj_m1, nj_m2, nj_m3, nj_m4, nj_m5, nj_m6, nj_m7, ↓reduceIte, tz_bI_some, tz_bV_some, tz_bL_some, cj10, cj01, cjm0, eq_self, not_true_eq_false, not_false_eq_true, or_false, false_or, or_true, true_or, or_self, and_true, true_and, and_false, false_and, nj_eqf, nj_ltt, nj_ltf, nj_let, nj_lef, nj_cl, nt_lef, e2 m, w2, e3]
        · refine ⟨(((x3 + tz_j h) - tz_j h) * tz_j 2), S, K, (nU (nU (nU (tz_u U 4 0 (tz_j 0)) 0 (tz_j 11)) (0 + 1) (tz_j 51)) ((0 + 1) + 1) (tz_j 10)), V, ⟨(nt (nt (nt A0 0 (tz_j 11)) (0 + 1) (tz_j 51)) ((0 + 1) + 1) (tz_j 10)), ep _ _ ?_, CX_nt (CX_nt (CX_nt c2)), cf_nt (cf_nt (cf_nt f2))⟩, wx _ (wu_nU (wu_nU (wu_nU w0 (by omega)) (by omega)) (by omega)), fun A D m => ⟨(mr (mr (mr (tz_s A 157 28 (tz_j 0)) 0 (tz_j 11)) (0 + 1) (tz_j 51)) ((0 + 1) + 1) (tz_j 10)), D, ?_, MX_mr (MX_mr (MX_mr (MX_u4 m))), mf_mg (mg_mr (mg_mr (mg_mr (mg_s (A := A) (i := 28) (v := tz_j 0) (show 157 ≤ 157 by omega)))))⟩⟩
          · rw [z]
            exact cr_0_1_4_4 z0 (by omega) z2 z3 (z4.trans (congrArg tz_j z))
          · have mm := MX_u4 (v := tz_j 0) m
            have e3 := mc_1_4 (A := tz_s A 157 28 (tz_j 0)) (n := 0) (h := h) (x := x3) (oo := tz_j (S 3 h)) tz_gs1 (by omega) (by omega) (by rw [← z]; exact cm_161 mm.1.1 hh) (cm_162 mm.1.1 hh)
            rw [e_X12_act]
            simp (disch := omega) only [tz_lit, nj_m1, nj_m2, nj_m3, nj_m4, nj_m5, nj_m6, nj_m7, ↓reduceIte, tz_bI_some, tz_bV_some, tz_bL_some, cj10, cj01, cjm0, eq_self, not_true_eq_false, not_false_eq_true, or_false, false_or, or_true, true_or, or_self, and_true, true_and, and_false, false_and, nj_eqf, nj_ltt, nj_ltf, nj_let, nj_lef, nj_cl, nt_lef, e2 m, w2, e3]
        · refine ⟨(((x3 + tz_j h) * tz_j 2) * tz_j 3), S, K, (nU (nU (nU (tz_u U 4 0 (tz_j 0)) 0 (tz_j 30)) (0 + 1) (tz_j 11)) ((0 + 1) + 1) (tz_j 10)), V, ⟨(nt (nt (nt A0 0 (tz_j 30)) (0 + 1) (tz_j 11)) ((0 + 1) + 1) (tz_j 10)), ep _ _ ?_, CX_nt (CX_nt (CX_nt c2)), cf_nt (cf_nt (cf_nt f2))⟩, wx _ (wu_nU (wu_nU (wu_nU w0 (by omega)) (by omega)) (by omega)), fun A D m => ⟨(mr (mr (mr (tz_s A 157 28 (tz_j 0)) 0 (tz_j 30)) (0 + 1) (tz_j 11)) ((0 + 1) + 1) (tz_j 10)), D, ?_, MX_mr (MX_mr (MX_mr (MX_u4 m))), mf_mg (mg_mr (mg_mr (mg_mr (mg_s (A := A) (i := 28) (v := tz_j 0) (show 157 ≤ 157 by omega)))))⟩⟩
          · rw [z]
            exact cr_0_1_5_5 z0 (by omega) z2 z3 (z4.trans (congrArg tz_j z))
          · have mm := MX_u4 (v := tz_j 0) m
            have e3 := mc_1_5 (A := tz_s A 157 28 (tz_j 0)) (n := 0) (h := h) (x := x3) (oo := tz_j (S 3 h)) tz_gs1 (by omega) (by omega) (by rw [← z]; exact cm_161 mm.1.1 hh) (cm_162 mm.1.1 hh)
            rw [e_X12_act]
            simp (disch := omega) only [tz_lit, nj_m1, nj_m2, nj_m3, nj_m4, nj_m5, nj_m6, nj_m7, ↓reduceIte, tz_bI_some, tz_bV_some, tz_bL_some, cj10, cj01, cjm0, eq_self, not_true_eq_false, not_false_eq_true, or_false, false_or, or_true, true_or, or_self, and_true, true_and, and_false, false_and, nj_eqf, nj_ltt, nj_ltf, nj_let, nj_lef, nj_cl, nt_lef, e2 m, w2, e3]
        · refine ⟨(((((x3 - tz_j (S 3 h)) + tz_j h) - tz_j h) * tz_j 2) * tz_j 2), S, K, (nU (nU (nU (nU (nU (tz_u U 4 0 (tz_j 0)) 0 (tz_j 71)) (0 + 1) (tz_j 11)) ((0 + 1) + 1) (tz_j 70)) (((0 + 1) + 1) + 1) (tz_j 51)) ((((0 + 1) + 1) + 1) + 1) (tz_j 10)), V, ⟨(nt (nt (nt (nt (nt A0 0 (tz_j 71)) (0 + 1) (tz_j 11)) ((0 + 1) + 1) (tz_j 70)) (((0 + 1) + 1) + 1) (tz_j 51)) ((((0 + 1) + 1) + 1) + 1) (tz_j 10)), ep _ _ ?_, CX_nt (CX_nt (CX_nt (CX_nt (CX_nt c2)))), cf_nt (cf_nt (cf_nt (cf_nt (cf_nt f2))))⟩, wx _ (wu_nU (wu_nU (wu_nU (wu_nU (wu_nU w0 (by omega)) (by omega)) (by omega)) (by omega)) (by omega)), fun A D m => ⟨(mr (mr (mr (mr (mr (tz_s A 157 28 (tz_j 0)) 0 (tz_j 71)) (0 + 1) (tz_j 11)) ((0 + 1) + 1) (tz_j 70)) (((0 + 1) + 1) + 1) (tz_j 51)) ((((0 + 1) + 1) + 1) + 1) (tz_j 10)), D, ?_, MX_mr (MX_mr (MX_mr (MX_mr (MX_mr (MX_u4 m))))), mf_mg (mg_mr (mg_mr (mg_mr (mg_mr (mg_mr (mg_s (A := A) (i := 28) (v := tz_j 0) (show 157 ≤ 157 by omega)))))))⟩⟩
          · rw [z]
            exact cr_0_1_6_6 z0 (by omega) z2 z3 (z4.trans (congrArg tz_j z))
          · have mm := MX_u4 (v := tz_j 0) m
            have e3 := mc_1_6 (A := tz_s A 157 28 (tz_j 0)) (n := 0) (h := h) (x := x3) (oo := tz_j (S 3 h)) tz_gs1 (by omega) (by omega) (by rw [← z]; exact cm_161 mm.1.1 hh) (cm_162 mm.1.1 hh)
            rw [e_X12_act]
            simp (disch := omega) only [tz_lit, nj_m1, nj_m2, nj_m3, nj_m4, nj_m5, nj_m6, nj_m7, ↓reduceIte, tz_bI_some, tz_bV_some, tz_bL_some, cj10, cj01, cjm0, eq_self, not_true_eq_false, not_false_eq_true, or_false, false_or, or_true, true_or, or_self, and_true, true_and, and_false, false_and, nj_eqf, nj_ltt, nj_ltf, nj_let, nj_lef, nj_cl, nt_lef, e2 m, w2, e3]
      · rcases (show S 2 h = 0 ∨ S 2 h = 1 ∨ S 2 h = 2 ∨ S 2 h = 3 ∨ S 2 h = 4 ∨ S 2 h = 5 ∨ S 2 h = 6 by omega) with z | z | z | z | z | z | z
        · refine ⟨(((x3 + tz_j h) * tz_j 2) ^^^ ((x3 - tz_j (S 3 h)) + tz_j h)), S, K, (nU (nU (nU (nU (tz_u U 4 0 (tz_j 0)) 0 (tz_j 12)) (0 + 1) (tz_j 11)) ((0 + 1) + 1) (tz_j 10)) (((0 + 1) + 1) + 1) (tz_j 10)), V, ⟨(nt (nt (nt (nt A0 0 (tz_j 12)) (0 + 1) (tz_j 11)) ((0 + 1) + 1) (tz_j 10)) (((0 + 1) + 1) + 1) (tz_j 10)), ep _ _ ?_, CX_nt (CX_nt (CX_nt (CX_nt c2))), cf_nt (cf_nt (cf_nt (cf_nt f2)))⟩, wx _ (wu_nU (wu_nU (wu_nU (wu_nU w0 (by omega)) (by omega)) (by omega)) (by omega)), fun A D m => ⟨(mr (mr (mr (mr (tz_s A 157 28 (tz_j 0)) 0 (tz_j 12)) (0 + 1) (tz_j 11)) ((0 + 1) + 1) (tz_j 10)) (((0 + 1) + 1) + 1) (tz_j 10)), D, ?_, MX_mr (MX_mr (MX_mr (MX_mr (MX_u4 m)))), mf_mg (mg_mr (mg_mr (mg_mr (mg_mr (mg_s (A := A) (i := 28) (v := tz_j 0) (show 157 ≤ 157 by omega))))))⟩⟩
          · rw [z]
            exact cr_0_2_0_0 z0 (by omega) z2 z3 (z4.trans (congrArg tz_j z))
          · have mm := MX_u4 (v := tz_j 0) m
            have e3 := mc_2_0 (A := tz_s A 157 28 (tz_j 0)) (n := 0) (h := h) (x := x3) (oo := tz_j (S 3 h)) tz_gs1 (by omega) (by omega) (by rw [← z]; exact cm_161 mm.1.1 hh) (cm_162 mm.1.1 hh)
            rw [e_X12_act]
            simp (disch := omega) only [tz_lit, nj_m1, nj_m2, nj_m3, nj_m4, nj_m5, nj_m6, nj_m7, ↓reduceIte, tz_bI_some, tz_bV_some, tz_bL_some, cj10, cj01, cjm0, eq_self, not_true_eq_false, not_false_eq_true, or_false, false_or, or_true, true_or, or_self, and_true, true_and, and_false, false_and, nj_eqf, nj_ltt, nj_ltf, nj_let, nj_lef, nj_cl, nt_lef, e2 m, w2, e3]
        · refine ⟨((((x3 + tz_j h) + tz_j (S 3 h)) * tz_j 2) ^^^ (((x3 - tz_j (S 3 h)) + tz_j h) + tz_j (S 3 h))), S, K, (nU (nU (nU (nU (nU (nU (tz_u U 4 0 (tz_j 0)) 0 (tz_j 12)) (0 + 1) (tz_j 11)) ((0 + 1) + 1) (tz_j 20)) (((0 + 1) + 1) + 1) (tz_j 10)) ((((0 + 1) + 1) + 1) + 1) (tz_j 20)) (((((0 + 1) + 1) + 1) + 1) + 1) (tz_j 10)), V, ⟨(nt (nt (nt (nt (nt (nt A0 0 (tz_j 12)) (0 + 1) (tz_j 11)) ((0 + 1) + 1) (tz_j 20)) (((0 + 1) + 1) + 1) (tz_j 10)) ((((0 + 1) + 1) + 1) + 1) (tz_j 20)) (((((0 + 1) + 1) + 1) + 1) + 1) (tz_j 10)), ep _ _ ?_, CX_nt (CX_nt (CX_nt (CX_nt (CX_nt (CX_nt c2))))), cf_nt (cf_nt (cf_nt (cf_nt (cf_nt (cf_nt f2)))))⟩, wx _ (wu_nU (wu_nU (wu_nU (wu_nU (wu_nU (wu_nU w0 (by omega)) (by omega)) (by omega)) (by omega)) (by omega)) (by omega)), fun A D m => ⟨(mr (mr (mr (mr (mr (mr (tz_s A 157 28 (tz_j 0)) 0 (tz_j 12)) (0 + 1) (tz_j 11)) ((0 + 1) + 1) (tz_j 20)) (((0 + 1) + 1) + 1) (tz_j 10)) ((((0 + 1) + 1) + 1) + 1) (tz_j 20)) (((((0 + 1) + 1) + 1) + 1) + 1) (tz_j 10)), D, ?_, MX_mr (MX_mr (MX_mr (MX_mr (MX_mr (MX_mr (MX_u4 m)))))), mf_mg (mg_mr (mg_mr (mg_mr (mg_mr (mg_mr (mg_mr (mg_s (A := A) (i := 28) (v := tz_j 0) (show 157 ≤ 157 by omega))))))))⟩⟩
          · rw [z]
            exact cr_0_2_1_1 z0 (by omega) z2 z3 (z4.trans (congrArg tz_j z))
          · have mm := MX_u4 (v := tz_j 0) m
            have e3 := mc_2_1 (A := tz_s A 157 28 (tz_j 0)) (n := 0) (h := h) (x := x3) (oo := tz_j (S 3 h)) tz_gs1 (by omega) (by omega) (by rw [← z]; exact cm_161 mm.1.1 hh) (cm_162 mm.1.1 hh)
            rw [e_X12_act]
            simp (disch := omega) only [tz_lit, nj_m1, nj_m2, nj_m3, nj_m4, nj_m5, nj_m6, nj_m7, ↓reduceIte, tz_bI_some, tz_bV_some, tz_bL_some, cj10, cj01, cjm0, eq_self, not_true_eq_false, not_false_eq_true, or_false, false_or, or_true, true_or, or_self, and_true, true_and, and_false, false_and, nj_eqf, nj_ltt, nj_ltf, nj_let, nj_lef, nj_cl, nt_lef, e2 m, w2, e3]
        · refine ⟨((((x3 + tz_j h) * tz_j 2) * tz_j 3) ^^^ ((x3 - tz_j (S 3 h)) + tz_j h)), S, K, (nU (nU (nU (nU (nU (tz_u U 4 0 (tz_j 0)) 0 (tz_j 12)) (0 + 1) (tz_j 30)) ((0 + 1) + 1) (tz_j 11)) (((0 + 1) + 1) + 1) (tz_j 10)) ((((0 + 1) + 1) + 1) + 1) (tz_j 10)), V, ⟨(nt (nt (nt (nt (nt A0 0 (tz_j 12)) (0 + 1) (tz_j 30)) ((0 + 1) + 1) (tz_j 11)) (((0 + 1) + 1) + 1) (tz_j 10)) ((((0 + 1) + 1) + 1) + 1) (tz_j 10)), ep _ _ ?_, CX_nt (CX_nt (CX_nt (CX_nt (CX_nt c2)))), cf_nt (cf_nt (cf_nt (cf_nt (cf_nt f2))))⟩, wx _ (wu_nU (wu_nU (wu_nU (wu_nU (wu_nU w0 (by omega)) (by omega)) (by omega)) (by omega)) (by omega)), fun A D m => ⟨(mr (mr (mr (mr (mr (tz_s A 157 28 (tz_j 0)) 0 (tz_j 12)) (0 + 1) (tz_j 30)) ((0 + 1) + 1) (tz_j 11)) (((0 + 1) + 1) + 1) (tz_j 10)) ((((0 + 1) + 1) + 1) + 1) (tz_j 10)), D, ?_, MX_mr (MX_mr (MX_mr (MX_mr (MX_mr (MX_u4 m))))), mf_mg (mg_mr (mg_mr (mg_mr (mg_mr (mg_mr (mg_s (A := A) (i := 28) (v := tz_j 0) (show 157 ≤ 157 by omega)))))))⟩⟩
          · rw [z]
            exact cr_0_2_2_2 z0 (by omega) z2 z3 (z4.trans (congrArg tz_j z))
          · have mm := MX_u4 (v := tz_j 0) m
            have e3 := mc_2_2 (A := tz_s A 157 28 (tz_j 0)) (n := 0) (h := h) (x := x3) (oo := tz_j (S 3 h)) tz_gs1 (by omega) (by omega) (by rw [← z]; exact cm_161 mm.1.1 hh) (cm_162 mm.1.1 hh)
            rw [e_X12_act]
            simp (disch := omega) only [tz_lit, nj_m1, nj_m2, nj_m3, nj_m4, nj_m5, nj_m6, nj_m7, ↓reduceIte, tz_bI_some, tz_bV_some, tz_bL_some, cj10, cj01, cjm0, eq_self, not_true_eq_false, not_false_eq_true, or_false, false_or, or_true, true_or, or_self, and_true, true_and, and_false, false_and, nj_eqf, nj_ltt, nj_ltf, nj_let, nj_lef, nj_cl, nt_lef, e2 m, w2, e3]
        · refine ⟨(((((x3 + tz_j 1) + tz_j h) + tz_j (S 3 h)) * tz_j 2) ^^^ (((x3 - tz_j (S 3 h)) + tz_j h) + tz_j (S 3 h))), S, K, (nU (nU (nU (nU (nU (nU (nU (tz_u U 4 0 (tz_j 0)) 0 (tz_j 12)) (0 + 1) (tz_j 40)) ((0 + 1) + 1) (tz_j 11)) (((0 + 1) + 1) + 1) (tz_j 20)) ((((0 + 1) + 1) + 1) + 1) (tz_j 10)) (((((0 + 1) + 1) + 1) + 1) + 1) (tz_j 20)) ((((((0 + 1) + 1) + 1) + 1) + 1) + 1) (tz_j 10)), V, ⟨(nt (nt (nt (nt (nt (nt (nt A0 0 (tz_j 12)) (0 + 1) (tz_j 40)) ((0 + 1) + 1) (tz_j 11)) (((0 + 1) + 1) + 1) (tz_j 20)) ((((0 + 1) + 1) + 1) + 1) (tz_j 10)) (((((0 + 1) + 1) + 1) + 1) + 1) (tz_j 20)) ((((((0 + 1) + 1) + 1) + 1) + 1) + 1) (tz_j 10)), ep _ _ ?_, CX_nt (CX_nt (CX_nt (CX_nt (CX_nt (CX_nt (CX_nt c2)))))), cf_nt (cf_nt (cf_nt (cf_nt (cf_nt (cf_nt (cf_nt f2))))))⟩, wx _ (wu_nU (wu_nU (wu_nU (wu_nU (wu_nU (wu_nU (wu_nU w0 (by omega)) (by omega)) (by omega)) (by omega)) (by omega)) (by omega)) (by omega)), fun A D m => ⟨(mr (mr (mr (mr (mr (mr (mr (tz_s A 157 28 (tz_j 0)) 0 (tz_j 12)) (0 + 1) (tz_j 40)) ((0 + 1) + 1) (tz_j 11)) (((0 + 1) + 1) + 1) (tz_j 20)) ((((0 + 1) + 1) + 1) + 1) (tz_j 10)) (((((0 + 1) + 1) + 1) + 1) + 1) (tz_j 20)) ((((((0 + 1) + 1) + 1) + 1) + 1) + 1) (tz_j 10)), D, ?_, MX_mr (MX_mr (MX_mr (MX_mr (MX_mr (MX_mr (MX_mr (MX_u4 m))))))), mf_mg (mg_mr (mg_mr (mg_mr (mg_mr (mg_mr (mg_mr (mg_mr (mg_s (A := A) (i := 28) (v := tz_j 0) (show 157 ≤ 157 by omega)))))))))⟩⟩
          · rw [z]
            exact cr_0_2_3_3 z0 (by omega) z2 z3 (z4.trans (congrArg tz_j z))
          · have mm := MX_u4 (v := tz_j 0) m
            have e3 := mc_2_3 (A := tz_s A 157 28 (tz_j 0)) (n := 0) (h := h) (x := x3) (oo := tz_j (S 3 h)) tz_gs1 (by omega) (by omega) (by rw [← z]; exact cm_161 mm.1.1 hh) (cm_162 mm.1.1 hh)
            rw [e_X12_act]
            simp (disch := omega) only [tz_lit, nj_m1, nj_m2, nj_m3, nj_m4, nj_m5, nj_m6, nj_m7, ↓reduceIte, tz_bI_some, tz_bV_some, tz_bL_some, cj10, cj01, cjm0, eq_self, not_true_eq_false, not_false_eq_true, or_false, false_or, or_true, true_or, or_self, and_true, true_and, and_false, false_and, nj_eqf, nj_ltt, nj_ltf, nj_let, nj_lef, nj_cl, nt_lef, e2 m, w2, e3]
        · refine ⟨(-((((x3 + tz_j h) - tz_j h) * tz_j 2) ^^^ (((x3 - tz_j (S 3 h)) + tz_j h) - tz_j h))), S, K, (nU (nU (nU (nU (nU (nU (nU (tz_u U 4 0 (tz_j 0)) 0 (tz_j 50)) (0 + 1) (tz_j 12)) ((0 + 1) + 1) (tz_j 11)) (((0 + 1) + 1) + 1) (tz_j 51)) ((((0 + 1) + 1) + 1) + 1) (tz_j 10)) (((((0 + 1) + 1) + 1) + 1) + 1) (tz_j 51)) ((((((0 + 1) + 1) + 1) + 1) + 1) + 1) (tz_j 10)), V, ⟨(nt (nt (nt (nt (nt (nt (nt A0 0 (tz_j 50)) (0 + 1) (tz_j 12)) ((0 + 1) + 1) (tz_j 11)) (((0 + 1) + 1) + 1) (tz_j 51)) ((((0 + 1) + 1) + 1) + 1) (tz_j 10)) (((((0 + 1) + 1) + 1) + 1) + 1) (tz_j 51)) ((((((0 + 1) + 1) + 1) + 1) + 1) + 1) (tz_j 10)), ep _ _ ?_, CX_nt (CX_nt (CX_nt (CX_nt (CX_nt (CX_nt (CX_nt c2)))))), cf_nt (cf_nt (cf_nt (cf_nt (cf_nt (cf_nt (cf_nt f2))))))⟩, wx _ (wu_nU (wu_nU (wu_nU (wu_nU (wu_nU (wu_nU (wu_nU w0 (by omega)) (by omega)) (by omega)) (by omega)) (by omega)) (by omega)) (by omega)), fun A D m => ⟨(mr (mr (mr (mr (mr (mr (mr (tz_s A 157 28 (tz_j 0)) 0 (tz_j 50)) (0 + 1) (tz_j 12)) ((0 + 1) + 1) (tz_j 11)) (((0 + 1) + 1) + 1) (tz_j 51)) ((((0 + 1) + 1) + 1) + 1) (tz_j 10)) (((((0 + 1) + 1) + 1) + 1) + 1) (tz_j 51)) ((((((0 + 1) + 1) + 1) + 1) + 1) + 1) (tz_j 10)), D, ?_, MX_mr (MX_mr (MX_mr (MX_mr (MX_mr (MX_mr (MX_mr (MX_u4 m))))))), mf_mg (mg_mr (mg_mr (mg_mr (mg_mr (mg_mr (mg_mr (mg_mr (mg_s (A := A) (i := 28) (v := tz_j 0) (show 157 ≤ 157 by omega)))))))))⟩⟩
          · rw [z]
            exact cr_0_2_4_4 z0 (by omega) z2 z3 (z4.trans (congrArg tz_j z))
          · have mm := MX_u4 (v := tz_j 0) m
            have e3 := mc_2_4 (A := tz_s A 157 28 (tz_j 0)) (n := 0) (h := h) (x := x3) (oo := tz_j (S 3 h)) tz_gs1 (by omega) (by omega) (by rw [← z]; exact cm_161 mm.1.1 hh) (cm_162 mm.1.1 hh)
            rw [e_X12_act]
            simp (disch := omega) only [tz_lit, nj_m1, nj_m2, nj_m3, nj_m4, nj_m5, nj_m6, nj_m7, ↓reduceIte, tz_bI_some, tz_bV_some, tz_bL_some, cj10, cj01, cjm0, eq_self, not_true_eq_false, not_false_eq_true, or_false, false_or, or_true, true_or, or_self, and_true, true_and, and_false, false_and, nj_eqf, nj_ltt, nj_ltf, nj_let, nj_lef, nj_cl, nt_lef, e2 m, w2, e3]
        · refine ⟨(((((x3 + tz_j h) * tz_j 2) * tz_j 3) ^^^ ((x3 - tz_j (S 3 h)) + tz_j h)) ^^^ tz_j 5), S, K, (nU (nU (nU (nU (nU (nU (tz_u U 4 0 (tz_j 0)) 0 (tz_j 60)) (0 + 1) (tz_j 12)) ((0 + 1) + 1) (tz_j 30)) (((0 + 1) + 1) + 1) (tz_j 11)) ((((0 + 1) + 1) + 1) + 1) (tz_j 10)) (((((0 + 1) + 1) + 1) + 1) + 1) (tz_j 10)), V, ⟨(nt (nt (nt (nt (nt (nt A0 0 (tz_j 60)) (0 + 1) (tz_j 12)) ((0 + 1) + 1) (tz_j 30)) (((0 + 1) + 1) + 1) (tz_j 11)) ((((0 + 1) + 1) + 1) + 1) (tz_j 10)) (((((0 + 1) + 1) + 1) + 1) + 1) (tz_j 10)), ep _ _ ?_, CX_nt (CX_nt (CX_nt (CX_nt (CX_nt (CX_nt c2))))), cf_nt (cf_nt (cf_nt (cf_nt (cf_nt (cf_nt f2)))))⟩, wx _ (wu_nU (wu_nU (wu_nU (wu_nU (wu_nU (wu_nU w0 (by omega)) (by omega)) (by omega)) (by omega)) (by omega)) (by omega)), fun A D m => ⟨(mr (mr (mr (mr (mr (mr (tz_s A 157 28 (tz_j 0)) 0 (tz_j 60)) (0 + 1) (tz_j 12)) ((0 + 1) + 1) (tz_j 30)) (((0 + 1) + 1) + 1) (tz_j 11)) ((((0 + 1) + 1) + 1) + 1) (tz_j 10)) (((((0 + 1) + 1) + 1) + 1) + 1) (tz_j 10)), D, ?_, MX_mr (MX_mr (MX_mr (MX_mr (MX_mr (MX_mr (MX_u4 m)))))), mf_mg (mg_mr (mg_mr (mg_mr (mg_mr (mg_mr (mg_mr (mg_s (A := A) (i := 28) (v := tz_j 0) (show 157 ≤ 157 by omega))))))))⟩⟩
          · rw [z]
            exact cr_0_2_5_5 z0 (by omega) z2 z3 (z4.trans (congrArg tz_j z))
          · have mm := MX_u4 (v := tz_j 0) m
            have e3 := mc_2_5 (A := tz_s A 157 28 (tz_j 0)) (n := 0) (h := h) (x := x3) (oo := tz_j (S 3 h)) tz_gs1 (by omega) (by omega) (by rw [← z]; exact cm_161 mm.1.1 hh) (cm_162 mm.1.1 hh)
            rw [e_X12_act]
            simp (disch := omega) only [tz_lit, nj_m1, nj_m2, nj_m3, nj_m4, nj_m5, nj_m6, nj_m7, ↓reduceIte, tz_bI_some, tz_bV_some, tz_bL_some, cj10, cj01, cjm0, eq_self, not_true_eq_false, not_false_eq_true, or_false, false_or, or_true, true_or, or_self, and_true, true_and, and_false, false_and, nj_eqf, nj_ltt, nj_ltf, nj_let, nj_lef, nj_cl, nt_lef, e2 m, w2, e3]
        · refine ⟨(-((((((x3 - tz_j (S 3 h)) + tz_j h) - tz_j h) * tz_j 2) * tz_j 2) ^^^ ((((x3 - tz_j (S 3 h)) + tz_j h) - tz_j h) * tz_j 2))), S, K, (nU (nU (nU (nU (nU (nU (nU (nU (nU (nU (tz_u U 4 0 (tz_j 0)) 0 (tz_j 50)) (0 + 1) (tz_j 12)) ((0 + 1) + 1) (tz_j 71)) (((0 + 1) + 1) + 1) (tz_j 11)) ((((0 + 1) + 1) + 1) + 1) (tz_j 70)) (((((0 + 1) + 1) + 1) + 1) + 1) (tz_j 51)) ((((((0 + 1) + 1) + 1) + 1) + 1) + 1) (tz_j 10)) (((((((0 + 1) + 1) + 1) + 1) + 1) + 1) + 1) (tz_j 70)) ((((((((0 + 1) + 1) + 1) + 1) + 1) + 1) + 1) + 1) (tz_j 51)) (((((((((0 + 1) + 1) + 1) + 1) + 1) + 1) + 1) + 1) + 1) (tz_j 10)), V, ⟨(nt (nt (nt (nt (nt (nt (nt (nt (nt (nt A0 0 (tz_j 50)) (0 + 1) (tz_j 12)) ((0 + 1) + 1) (tz_j 71)) (((0 + 1) + 1) + 1) (tz_j 11)) ((((0 + 1) + 1) + 1) + 1) (tz_j 70)) (((((0 + 1) + 1) + 1) + 1) + 1) (tz_j 51)) ((((((0 + 1) + 1) + 1) + 1) + 1) + 1) (tz_j 10)) (((((((0 + 1) + 1) + 1) + 1) + 1) + 1) + 1) (tz_j 70)) ((((((((0 + 1) + 1) + 1) + 1) + 1) + 1) + 1) + 1) (tz_j 51)) (((((((((0 + 1) + 1) + 1) + 1) + 1) + 1) + 1) + 1) + 1) (tz_j 10)), ep _ _ ?_, CX_nt (CX_nt (CX_nt (CX_nt (CX_nt (CX_nt (CX_nt (CX_nt (CX_nt (CX_nt c2))))))))), cf_nt (cf_nt (cf_nt (cf_nt (cf_nt (cf_nt (cf_nt (cf_nt (cf_nt (cf_nt f2)))))))))⟩, wx _ (wu_nU (wu_nU (wu_nU (wu_nU (wu_nU (wu_nU (wu_nU (wu_nU (wu_nU (wu_nU w0 (by omega)) (by omega)) (by omega)) (by omega)) (by omega)) (by omega)) (by omega)) (by omega)) (by omega)) (by omega)), fun A D m => ⟨(mr (mr (mr (mr (mr (mr (mr (mr (mr (mr (tz_s A 157 28 (tz_j 0)) 0 (tz_j 50)) (0 + 1) (tz_j 12)) ((0 + 1) + 1) (tz_j 71)) (((0 + 1) + 1) + 1) (tz_j 11)) ((((0 + 1) + 1) + 1) + 1) (tz_j 70)) (((((0 + 1) + 1) + 1) + 1) + 1) (tz_j 51)) ((((((0 + 1) + 1) + 1) + 1) + 1) + 1) (tz_j 10)) (((((((0 + 1) + 1) + 1) + 1) + 1) + 1) + 1) (tz_j 70)) ((((((((0 + 1) + 1) + 1) + 1) + 1) + 1) + 1) + 1) (tz_j 51)) (((((((((0 + 1) + 1) + 1) + 1) + 1) + 1) + 1) + 1) + 1) (tz_j 10)), D, ?_, MX_mr (MX_mr (MX_mr (MX_mr (MX_mr (MX_mr (MX_mr (MX_mr (MX_mr (MX_mr (MX_u4 m)))))))))), mf_mg (mg_mr (mg_mr (mg_mr (mg_mr (mg_mr (mg_mr (mg_mr (mg_mr (mg_mr (mg_mr (mg_s (A := A) (i := 28) (v := tz_j 0) (show 157 ≤ 157 by omega))))))))))))⟩⟩
          · rw [z]
            exact cr_0_2_6_6 z0 (by omega) z2 z3 (z4.trans (congrArg tz_j z))
          · have mm := MX_u4 (v := tz_j 0) m
            have e3 := mc_2_6 (A := tz_s A 157 28 (tz_j 0)) (n := 0) (h := h) (x := x3) (oo := tz_j (S 3 h)) tz_gs1 (by omega) (by omega) (by rw [← z]; exact cm_161 mm.1.1 hh) (cm_162 mm.1.1 hh)
            rw [e_X12_act]
            simp (disch := omega) only [tz_lit, nj_m1, nj_m2, nj_m3, nj_m4, nj_m5, nj_m6, nj_m7, ↓reduceIte, tz_bI_some, tz_bV_some, tz_bL_some, cj10, cj01, cjm0, eq_self, not_true_eq_false, not_false_eq_true, or_false, false_or, or_true, true_or, or_self, and_true, true_and, and_false, false_and, nj_eqf, nj_ltt, nj_ltf, nj_let, nj_lef, nj_cl, nt_lef, e2 m, w2, e3]
    · refine out_no c ww ?_ (fun A D m => ?_)
      · rw [e_X11_act]
        rcases h2 with h2 | h2
        · simp only [tz_lit, nj_m1, nj_m2, nj_m3, nj_m4, nj_m5, nj_m6, nj_m7, ↓reduceIte, tz_bI_some, tz_bV_some, tz_bL_some, cj10, cj01, cjm0, eq_self, not_true_eq_false, not_false_eq_true, or_false, false_or, or_true, true_or, or_self, and_true, true_and, and_false, false_and, e1, ef, (ob_l h2).1]
        · have n1 : (x2 < tz_j 0) = False := ((ob_h (show 3 < 2147483648 by omega) h2).1 0 (by omega)).1
          have n2 : (x2 ≤ tz_j 2) = False := ((ob_h (show 3 < 2147483648 by omega) h2).2 2 (by omega)).1
          simp only [tz_lit, nj_m1, nj_m2, nj_m3, nj_m4, nj_m5, nj_m6, nj_m7, ↓reduceIte, tz_bI_some, tz_bV_some, tz_bL_some, cj10, cj01, cjm0, eq_self, not_true_eq_false, not_false_eq_true, or_false, false_or, or_true, true_or, or_self, and_true, true_and, and_false, false_and, e1, ef, n1, n2]
      · have w2 := fun A => w_out (A := A) (n := 2) (by omega) h2
        rw [e_X12_act]
        simp only [tz_lit, nj_m1, nj_m2, nj_m3, nj_m4, nj_m5, nj_m6, nj_m7, ↓reduceIte, tz_bI_some, tz_bV_some, tz_bL_some, cj10, cj01, cjm0, eq_self, not_true_eq_false, not_false_eq_true, or_false, false_or, or_true, true_or, or_self, and_true, true_and, and_false, false_and, e2 m, w2]
  · have e1 := x_hash0 h30 cc h (by omega)
    refine out_no c ww ?_ (fun A D m => ?_)
    · rw [e_X11_act]
      simp only [tz_lit, nj_m1, nj_m2, nj_m3, nj_m4, nj_m5, nj_m6, nj_m7, ↓reduceIte, tz_bI_some, tz_bV_some, tz_bL_some, cj10, cj01, cjm0, eq_self, not_true_eq_false, not_false_eq_true, or_false, false_or, or_true, true_or, or_self, and_true, true_and, and_false, false_and, e1, ef]
    · have e2 := m_hash0 (A := tz_s A 157 28 (tz_j 0)) (MX_u4 (v := tz_j 0) m).1.1 h (by omega)
      rw [e_X12_act]
      simp only [tz_lit, nj_m1, nj_m2, nj_m3, nj_m4, nj_m5, nj_m6, nj_m7, ↓reduceIte, tz_bI_some, tz_bV_some, tz_bL_some, cj10, cj01, cjm0, eq_self, not_true_eq_false, not_false_eq_true, or_false, false_or, or_true, true_or, or_self, and_true, true_and, and_false, false_and, e2]

