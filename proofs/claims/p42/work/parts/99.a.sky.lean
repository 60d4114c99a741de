/-! a text of one sign, another of none: what the class says of them -/
theorem c_sky3 {N : Nat} {S K : tz_S} {U : tz_U} {V : tz_V} {A : tz_Mem} (c : CX S K U V A) (ww : WX N S K U) (z : U 0 5 = tz_j 4294967295) : CO S K (ur U 3) V (tz_j 4294967293) (f_X11_sky (tz_j 5) A) A := by
  have e := (x_ror c (s := 5) (by omega)).1 z
  have n0 : (tz_j 4294967293 = tz_j 0) = False := eq_false (by decide)
  refine co_ref 3 (by omega) c ?_
  rw [e_X11_sky]
  simp only [tz_lit, nj_m1, nj_m2, nj_m3, nj_m4, nj_m5, nj_m6, nj_m7, ↓reduceIte, tz_bI_some, tz_bV_some, tz_bL_some, cj10, cj01, cjm0, eq_self, not_true_eq_false, not_false_eq_true, or_false, false_or, or_true, true_or, or_self, and_true, true_and, and_false, false_and, e, n0, x_ref1, x_ref2, x_ref3, x_ref4, x_ref5, x_ref6, x_ref7, e_X11_refuseLower]
theorem c_fault {S K : tz_S} {U : tz_U} {V : tz_V} {A : tz_Mem} (c : CX S K U V A) : CO S K U V (U 3 0) (f_X11_fault A) A := by
  refine co_pure c ?_
  rw [e_X11_fault, c.2.2.1.2.2.1]
theorem b_ln5 (A : tz_Mem) : f_J0_length_s5 A = some (some (.int (tz_j 4)), A) := by
  rw [e_J0_length_s5, e_J0_coder_s5]
  rfl
theorem b_ln6 (A : tz_Mem) : f_J0_length_s6 A = some (some (.int (tz_j 5)), A) := by
  rw [e_J0_length_s6, e_J0_coder_s6]
  rfl
theorem b_ln7 (A : tz_Mem) : f_J0_length_s7 A = some (some (.int (tz_j 6)), A) := by
  rw [e_J0_length_s7, e_J0_coder_s7]
  rfl
theorem b_ln8 (A : tz_Mem) : f_J0_length_s8 A = some (some (.int (tz_j 4)), A) := by
  rw [e_J0_length_s8, e_J0_coder_s8]
  rfl
theorem b_ln9 (A : tz_Mem) : f_J0_length_s9 A = some (some (.int (tz_j 4)), A) := by
  rw [e_J0_length_s9, e_J0_coder_s9]
  rfl
theorem b_ch5 (A : tz_Mem) : f_J0_charAt_s5 (tz_j 0) A = some (some (.int (tz_j 104)), A) := by
  rw [e_J0_charAt_s5, e_J0_isLatin1_s5]
  simp only [tz_bI_some, tz_bV_some, tz_lit, cj10, ↓reduceIte]
  rw [e_J1_charAt_s11, e_J0_checkIndex, e_J3_checkIndex]
  rfl
theorem b_ch6 (A : tz_Mem) : f_J0_charAt_s6 (tz_j 0) A = some (some (.int (tz_j 115)), A) := by
  rw [e_J0_charAt_s6, e_J0_isLatin1_s6]
  simp only [tz_bI_some, tz_bV_some, tz_lit, cj10, ↓reduceIte]
  rw [e_J1_charAt_s12, e_J0_checkIndex, e_J3_checkIndex]
  rfl
theorem b_ch7 (A : tz_Mem) : f_J0_charAt_s7 (tz_j 0) A = some (some (.int (tz_j 108)), A) := by
  rw [e_J0_charAt_s7, e_J0_isLatin1_s7]
  simp only [tz_bI_some, tz_bV_some, tz_lit, cj10, ↓reduceIte]
  rw [e_J1_charAt_s13, e_J0_checkIndex, e_J3_checkIndex]
  rfl
theorem b_ch8 (A : tz_Mem) : f_J0_charAt_s8 (tz_j 0) A = some (some (.int (tz_j 104)), A) := by
  rw [e_J0_charAt_s8, e_J0_isLatin1_s8]
  simp only [tz_bI_some, tz_bV_some, tz_lit, cj10, ↓reduceIte]
  rw [e_J1_charAt_s14, e_J0_checkIndex, e_J3_checkIndex]
  rfl
theorem b_ch9 (A : tz_Mem) : f_J0_charAt_s9 (tz_j 0) A = some (some (.int (tz_j 98)), A) ∧ f_J0_charAt_s9 (tz_j 1) A = some (some (.int (tz_j 117)), A) := by
  refine ⟨?_, ?_⟩
  · rw [e_J0_charAt_s9, e_J0_isLatin1_s9]
    simp only [tz_bI_some, tz_bV_some, tz_lit, cj10, ↓reduceIte]
    rw [e_J1_charAt_s15, e_J0_checkIndex, e_J3_checkIndex]
    rfl
  · rw [e_J0_charAt_s9, e_J0_isLatin1_s9]
    simp only [tz_bI_some, tz_bV_some, tz_lit, cj10, ↓reduceIte]
    rw [e_J1_charAt_s15, e_J0_checkIndex, e_J3_checkIndex]
    rfl
/-- the reader, at a text of three signs: a b, then none -/
def rd_b (A : tz_Mem) : Prop := tz_g A 122 0 = tz_j 4294967295 ∧ tz_g A 122 4 = tz_j 3 ∧ tz_g A 122 5 = tz_j 0 ∧ tz_g A 123 0 = tz_j 98 ∧ tz_g A 123 1 = tz_j 0
theorem b_item {A : tz_Mem} (r : rd_b A) : f_X7_readItem A = some (none, tz_s A 122 0 (tz_j 1)) := by
  obtain ⟨r0, r4, r5, t0, t1⟩ := r
  have k5 : f_X7_countSame_s5 A = some (some (.int (tz_j 0)), A) := by
    rw [e_X7_countSame_s5, e_X7_countSame_s5_2, b_ln5]
    simp (disch := omega) only [tz_lit, nj_m1, ↓reduceIte, nj_cl, nj_ltt, nj_ltf, nj_let, nj_lef, nj_eqf, nj_lt, nj_le, nj_eq, nj_add, nj_mul, nj_modx, nj_and7, nj_div, tz_bI_some, tz_bV_some, or_false, false_or, or_self, and_false, false_and, and_true, true_and, not_true_eq_false, not_false_eq_true, nt_lef, nt_let, nt_ltf, nt_ltt, nt_eqf, nj_m2, nj_m3, nj_m4, nj_m5, nj_m6, nj_m7, tz_bL_some, nj_sub, ng_ltt, ng_let, ng_gtf, ng_gef, r4, r5, t0, b_ch5 A]
  have k6 : f_X7_countSame_s6 A = some (some (.int (tz_j 0)), A) := by
    rw [e_X7_countSame_s6, e_X7_countSame_s6_2, b_ln6]
    simp (disch := omega) only [tz_lit, nj_m1, ↓reduceIte, nj_cl, nj_ltt, nj_ltf, nj_let, nj_lef, nj_eqf, nj_lt, nj_le, nj_eq, nj_add, nj_mul, nj_modx, nj_and7, nj_div, tz_bI_some, tz_bV_some, or_false, false_or, or_self, and_false, false_and, and_true, true_and, not_true_eq_false, not_false_eq_true, nt_lef, nt_let, nt_ltf, nt_ltt, nt_eqf, nj_m2, nj_m3, nj_m4, nj_m5, nj_m6, nj_m7, tz_bL_some, nj_sub, ng_ltt, ng_let, ng_gtf, ng_gef, r4, r5, t0, b_ch6 A]
  have k7 : f_X7_countSame_s7 A = some (some (.int (tz_j 0)), A) := by
    rw [e_X7_countSame_s7, e_X7_countSame_s7_2, b_ln7]
    simp (disch := omega) only [tz_lit, nj_m1, ↓reduceIte, nj_cl, nj_ltt, nj_ltf, nj_let, nj_lef, nj_eqf, nj_lt, nj_le, nj_eq, nj_add, nj_mul, nj_modx, nj_and7, nj_div, tz_bI_some, tz_bV_some, or_false, false_or, or_self, and_false, false_and, and_true, true_and, not_true_eq_false, not_false_eq_true, nt_lef, nt_let, nt_ltf, nt_ltt, nt_eqf, nj_m2, nj_m3, nj_m4, nj_m5, nj_m6, nj_m7, tz_bL_some, nj_sub, ng_ltt, ng_let, ng_gtf, ng_gef, r4, r5, t0, b_ch7 A]
  have k8 : f_X7_countSame_s8 A = some (some (.int (tz_j 0)), A) := by
    rw [e_X7_countSame_s8, e_X7_countSame_s8_2, b_ln8]
    simp (disch := omega) only [tz_lit, nj_m1, ↓reduceIte, nj_cl, nj_ltt, nj_ltf, nj_let, nj_lef, nj_eqf, nj_lt, nj_le, nj_eq, nj_add, nj_mul, nj_modx, nj_and7, nj_div, tz_bI_some, tz_bV_some, or_false, false_or, or_self, and_false, false_and, and_true, true_and, not_true_eq_false, not_false_eq_true, nt_lef, nt_let, nt_ltf, nt_ltt, nt_eqf, nj_m2, nj_m3, nj_m4, nj_m5, nj_m6, nj_m7, tz_bL_some, nj_sub, ng_ltt, ng_let, ng_gtf, ng_gef, r4, r5, t0, b_ch8 A]
  have k9b : q_X7_countSame_s9_2 (tz_j 1) A = some (some (.int (tz_j 1)), A) := by
    rw [e_X7_countSame_s9_2, b_ln9]
    simp (disch := omega) only [tz_lit, nj_m1, ↓reduceIte, nj_cl, nj_ltt, nj_ltf, nj_let, nj_lef, nj_eqf, nj_lt, nj_le, nj_eq, nj_add, nj_mul, nj_modx, nj_and7, nj_div, tz_bI_some, tz_bV_some, or_false, false_or, or_self, and_false, false_and, and_true, true_and, not_true_eq_false, not_false_eq_true, nt_lef, nt_let, nt_ltf, nt_ltt, nt_eqf, nj_m2, nj_m3, nj_m4, nj_m5, nj_m6, nj_m7, tz_bL_some, nj_sub, ng_ltt, ng_let, ng_gtf, ng_gef, r4, r5, t1, (b_ch9 A).2]
  have k9 : f_X7_countSame_s9 A = some (some (.int (tz_j 1)), A) := by
    rw [e_X7_countSame_s9, e_X7_countSame_s9_2, b_ln9]
    simp (disch := omega) only [tz_lit, nj_m1, ↓reduceIte, nj_cl, nj_ltt, nj_ltf, nj_let, nj_lef, nj_eqf, nj_lt, nj_le, nj_eq, nj_add, nj_mul, nj_modx, nj_and7, nj_div, tz_bI_some, tz_bV_some, or_false, false_or, or_self, and_false, false_and, and_true, true_and, not_true_eq_false, not_false_eq_true, nt_lef, nt_let, nt_ltf, nt_ltt, nt_eqf, nj_m2, nj_m3, nj_m4, nj_m5, nj_m6, nj_m7, tz_bL_some, nj_sub, ng_ltt, ng_let, ng_gtf, ng_gef, r4, r5, t0, (b_ch9 A).1]
    exact k9b
  have s5 : q_X7_readWord_4 (tz_j 1) (tz_j 5) A = some (some (.int (tz_j 4294967295)), tz_s A 122 0 (tz_j 1)) := by
    rw [e_X7_readWord_4]
    simp (disch := omega) only [tz_lit, nj_m1, ↓reduceIte, nj_cl, nj_ltt, nj_ltf, nj_let, nj_lef, nj_eqf, nj_lt, nj_le, nj_eq, nj_add, nj_mul, nj_modx, nj_and7, nj_div, tz_bI_some, tz_bV_some, or_false, false_or, or_self, and_false, false_and, and_true, true_and, not_true_eq_false, not_false_eq_true, nt_lef, nt_let, nt_ltf, nt_ltt, nt_eqf, nj_m2, nj_m3, nj_m4, nj_m5, nj_m6, nj_m7, tz_bL_some, nj_sub, ng_ltt, ng_let, ng_gtf, ng_gef, r5]
  have s4 : q_X7_readWord_4 (tz_j 0) (tz_j 4) A = some (some (.int (tz_j 4294967295)), tz_s A 122 0 (tz_j 1)) := by
    rw [e_X7_readWord_4]
    simp (disch := omega) only [tz_lit, nj_m1, ↓reduceIte, nj_cl, nj_ltt, nj_ltf, nj_let, nj_lef, nj_eqf, nj_lt, nj_le, nj_eq, nj_add, nj_mul, nj_modx, nj_and7, nj_div, tz_bI_some, tz_bV_some, or_false, false_or, or_self, and_false, false_and, and_true, true_and, not_true_eq_false, not_false_eq_true, nt_lef, nt_let, nt_ltf, nt_ltt, nt_eqf, nj_m2, nj_m3, nj_m4, nj_m5, nj_m6, nj_m7, tz_bL_some, nj_sub, ng_ltt, ng_let, ng_gtf, ng_gef, k9, b_ln9]
    exact s5
  have s3 : q_X7_readWord_4 (tz_j 0) (tz_j 3) A = some (some (.int (tz_j 4294967295)), tz_s A 122 0 (tz_j 1)) := by
    rw [e_X7_readWord_4]
    simp (disch := omega) only [tz_lit, nj_m1, ↓reduceIte, nj_cl, nj_ltt, nj_ltf, nj_let, nj_lef, nj_eqf, nj_lt, nj_le, nj_eq, nj_add, nj_mul, nj_modx, nj_and7, nj_div, tz_bI_some, tz_bV_some, or_false, false_or, or_self, and_false, false_and, and_true, true_and, not_true_eq_false, not_false_eq_true, nt_lef, nt_let, nt_ltf, nt_ltt, nt_eqf, nj_m2, nj_m3, nj_m4, nj_m5, nj_m6, nj_m7, tz_bL_some, nj_sub, ng_ltt, ng_let, ng_gtf, ng_gef, k8, b_ln8]
    exact s4
  have s2 : q_X7_readWord_4 (tz_j 0) (tz_j 2) A = some (some (.int (tz_j 4294967295)), tz_s A 122 0 (tz_j 1)) := by
    rw [e_X7_readWord_4]
    simp (disch := omega) only [tz_lit, nj_m1, ↓reduceIte, nj_cl, nj_ltt, nj_ltf, nj_let, nj_lef, nj_eqf, nj_lt, nj_le, nj_eq, nj_add, nj_mul, nj_modx, nj_and7, nj_div, tz_bI_some, tz_bV_some, or_false, false_or, or_self, and_false, false_and, and_true, true_and, not_true_eq_false, not_false_eq_true, nt_lef, nt_let, nt_ltf, nt_ltt, nt_eqf, nj_m2, nj_m3, nj_m4, nj_m5, nj_m6, nj_m7, tz_bL_some, nj_sub, ng_ltt, ng_let, ng_gtf, ng_gef, k7, b_ln7]
    exact s3
  have s1 : q_X7_readWord_4 (tz_j 0) (tz_j 1) A = some (some (.int (tz_j 4294967295)), tz_s A 122 0 (tz_j 1)) := by
    rw [e_X7_readWord_4]
    simp (disch := omega) only [tz_lit, nj_m1, ↓reduceIte, nj_cl, nj_ltt, nj_ltf, nj_let, nj_lef, nj_eqf, nj_lt, nj_le, nj_eq, nj_add, nj_mul, nj_modx, nj_and7, nj_div, tz_bI_some, tz_bV_some, or_false, false_or, or_self, and_false, false_and, and_true, true_and, not_true_eq_false, not_false_eq_true, nt_lef, nt_let, nt_ltf, nt_ltt, nt_eqf, nj_m2, nj_m3, nj_m4, nj_m5, nj_m6, nj_m7, tz_bL_some, nj_sub, ng_ltt, ng_let, ng_gtf, ng_gef, k6, b_ln6]
    exact s2
  have s0 : f_X7_readWord A = some (some (.int (tz_j 4294967295)), tz_s A 122 0 (tz_j 1)) := by
    rw [e_X7_readWord]
    show q_X7_readWord_4 (tz_j 0) (tz_j 0) A = _
    rw [e_X7_readWord_4]
    simp (disch := omega) only [tz_lit, nj_m1, ↓reduceIte, nj_cl, nj_ltt, nj_ltf, nj_let, nj_lef, nj_eqf, nj_lt, nj_le, nj_eq, nj_add, nj_mul, nj_modx, nj_and7, nj_div, tz_bI_some, tz_bV_some, or_false, false_or, or_self, and_false, false_and, and_true, true_and, not_true_eq_false, not_false_eq_true, nt_lef, nt_let, nt_ltf, nt_ltt, nt_eqf, nj_m2, nj_m3, nj_m4, nj_m5, nj_m6, nj_m7, tz_bL_some, nj_sub, ng_ltt, ng_let, ng_gtf, ng_gef, k5, b_ln5]
    exact s1
  have n1 : ¬ tz_j 1 = -1 := by decide
  rw [e_X7_readItem, s0, tz_bI_some, tz_gs1, if_neg n1]
theorem b_copy {A : tz_Mem} {x0 x1 x2 : Int32} (e0 : Int64.toInt32 (tz_gl A 27 0) = x0) (e1 : Int64.toInt32 (tz_gl A 27 1) = x1) (e2 : Int64.toInt32 (tz_gl A 27 2) = x2) : f_X8_copyNumbers_s123 (tz_j 5) (tz_j 3) A = some (none, tz_s (tz_s (tz_s A 123 0 x0) 123 1 x1) 123 2 x2) := by
  have num : ∀ (B : tz_Mem) (i : Nat) (x : Int32), i < 3 → (∀ i, tz_gl B 27 i = tz_gl A 27 i) → Int64.toInt32 (tz_gl A 27 i) = x → f_X8_number (tz_j 5) (tz_j i) B = some (some (.int x), B) := fun B i x hi h e => x_num (s := 5) (by omega) (by omega) (by rw [show 22 + 5 = 27 from rfl, h]; exact e)
  have a3 : ∀ B, q_X8_copyNumbers_s123_3 (tz_j 5) (tz_j 3) (tz_j 3) B = some (none, B) := fun B => by
    rw [e_X8_copyNumbers_s123_3]
    simp (disch := omega) only [tz_lit, nj_m1, ↓reduceIte, nj_cl, nj_ltt, nj_ltf, nj_let, nj_lef, nj_eqf, nj_lt, nj_le, nj_eq, nj_add, nj_mul, nj_modx, nj_and7, nj_div, tz_bI_some, tz_bV_some, or_false, false_or, or_self, and_false, false_and, and_true, true_and, not_true_eq_false, not_false_eq_true, nt_lef, nt_let, nt_ltf, nt_ltt, nt_eqf, nj_m2, nj_m3, nj_m4, nj_m5, nj_m6, nj_m7, tz_bL_some, nj_sub, ng_ltt, ng_let, ng_gtf, ng_gef]
  have a2 : ∀ B, (∀ i, tz_gl B 27 i = tz_gl A 27 i) → q_X8_copyNumbers_s123_3 (tz_j 5) (tz_j 3) (tz_j 2) B = some (none, tz_s B 123 2 x2) := fun B h => by
    rw [e_X8_copyNumbers_s123_3]
    simp (disch := omega) only [tz_lit, nj_m1, ↓reduceIte, nj_cl, nj_ltt, nj_ltf, nj_let, nj_lef, nj_eqf, nj_lt, nj_le, nj_eq, nj_add, nj_mul, nj_modx, nj_and7, nj_div, tz_bI_some, tz_bV_some, or_false, false_or, or_self, and_false, false_and, and_true, true_and, not_true_eq_false, not_false_eq_true, nt_lef, nt_let, nt_ltf, nt_ltt, nt_eqf, nj_m2, nj_m3, nj_m4, nj_m5, nj_m6, nj_m7, tz_bL_some, nj_sub, ng_ltt, ng_let, ng_gtf, ng_gef, num B 2 x2 (by omega) h e2]
    exact a3 _
  have a1 : ∀ B, (∀ i, tz_gl B 27 i = tz_gl A 27 i) → q_X8_copyNumbers_s123_3 (tz_j 5) (tz_j 3) (tz_j 1) B = some (none, tz_s (tz_s B 123 1 x1) 123 2 x2) := fun B h => by
    rw [e_X8_copyNumbers_s123_3]
    simp (disch := omega) only [tz_lit, nj_m1, ↓reduceIte, nj_cl, nj_ltt, nj_ltf, nj_let, nj_lef, nj_eqf, nj_lt, nj_le, nj_eq, nj_add, nj_mul, nj_modx, nj_and7, nj_div, tz_bI_some, tz_bV_some, or_false, false_or, or_self, and_false, false_and, and_true, true_and, not_true_eq_false, not_false_eq_true, nt_lef, nt_let, nt_ltf, nt_ltt, nt_eqf, nj_m2, nj_m3, nj_m4, nj_m5, nj_m6, nj_m7, tz_bL_some, nj_sub, ng_ltt, ng_let, ng_gtf, ng_gef, num B 1 x1 (by omega) h e1]
    exact a2 _ h
  rw [e_X8_copyNumbers_s123]
  show q_X8_copyNumbers_s123_3 (tz_j 5) (tz_j 3) (tz_j 0) A = _
  rw [e_X8_copyNumbers_s123_3]
  simp (disch := omega) only [tz_lit, nj_m1, ↓reduceIte, nj_cl, nj_ltt, nj_ltf, nj_let, nj_lef, nj_eqf, nj_lt, nj_le, nj_eq, nj_add, nj_mul, nj_modx, nj_and7, nj_div, tz_bI_some, tz_bV_some, or_false, false_or, or_self, and_false, false_and, and_true, true_and, not_true_eq_false, not_false_eq_true, nt_lef, nt_let, nt_ltf, nt_ltt, nt_eqf, nj_m2, nj_m3, nj_m4, nj_m5, nj_m6, nj_m7, tz_bL_some, nj_sub, ng_ltt, ng_let, ng_gtf, ng_gef, num A 0 x0 (by omega) (fun _ => rfl) e0]
  exact a1 _ (fun _ => rfl)
theorem c_sky6 {N : Nat} {S K : tz_S} {U : tz_U} {V : tz_V} {A : tz_Mem} (c : CX S K U V A) (ww : WX N S K U) (z : U 0 5 = tz_j 100) (z1 : U 1 5 = tz_j 3) (v0 : Int64.toInt32 (V 5 0) = tz_j 98) (v1 : Int64.toInt32 (V 5 1) = tz_j 0) (v2 : Int64.toInt32 (V 5 2) = tz_j 0) : CO S K (tz_u (ur U 6) 3 0 (tz_j 1)) V (tz_j 4294967290) (f_X11_sky (tz_j 5) A) A ∧ WX N S K (tz_u (ur U 6) 3 0 (tz_j 1)) := by
  have W := ww.1.1
  obtain ⟨q, q1, q2⟩ := c.2.2.1.1 5 (by omega)
  have e := (x_ror c (s := 5) (by omega)).2.2 0 (by omega) z
  have g20 : tz_g A 20 5 = tz_j 3 := by rw [q1, z1]
  have k1 := b_copy (A := A) (x0 := tz_j 98) (x1 := tz_j 0) (x2 := tz_j 0) (by rw [show 27 = 22 + 5 from rfl, q2 0 (by omega)]; exact v0) (by rw [show 27 = 22 + 5 from rfl, q2 1 (by omega)]; exact v1) (by rw [show 27 = 22 + 5 from rfl, q2 2 (by omega)]; exact v2)
  obtain ⟨B, hB⟩ : ∃ B, B = tz_s (tz_s (tz_s A 123 0 (tz_j 98)) 123 1 (tz_j 0)) 123 2 (tz_j 0) := ⟨_, rfl⟩
  have fB : tz_fx (fun k _ => 122 ≤ k ∧ k < 148) A B := by
    rw [hB]
    exact fx_s (fx_s (fx_s fx_rfl (by omega)) (by omega)) (by omega)
  rw [← hB] at k1
  have rB : rx 30 99 S (tz_s (tz_s (tz_s B 122 4 (tz_j 3)) 122 5 (tz_j 0)) 122 0 (tz_j 4294967295)) := by
    rw [hB]
    refine rx_mv c.1 (fun k i a b => ?_) rfl (Or.inl ww.2.1.2)
    rw [tz_gsk (by omega), tz_gsk (by omega), tz_gsk (by omega), tz_gsk (by omega), tz_gsk (by omega), tz_gsk (by omega)]
  obtain ⟨C, k2, _, f2⟩ := x_bec2 (b := 124) (b2 := 30) (by unfold tz_sky; omega) h30 (by omega) W ww.2.1 rB
  have fC : tz_fx (fun k _ => 122 ≤ k ∧ k < 148) A C := fx_tr (fx_s (fx_s (fx_s fB (by omega)) (by omega)) (by omega)) (fx_mo f2 (fun k i h => by unfold bc_p at h; omega))
  have gC : ∀ k i, k < 124 → tz_g C k i = tz_g (tz_s (tz_s (tz_s B 122 4 (tz_j 3)) 122 5 (tz_j 0)) 122 0 (tz_j 4294967295)) k i := fun k i h => f2.2.2.1 k i (by unfold bc_p; omega)
  have rd : rd_b C := by
    refine ⟨?_, ?_, ?_, ?_, ?_⟩
    · rw [gC _ _ (by omega), tz_gs1]
    · rw [gC _ _ (by omega), tz_gsi (by omega), tz_gsi (by omega), tz_gs1]
    · rw [gC _ _ (by omega), tz_gsi (by omega), tz_gs1]
    · rw [gC _ _ (by omega), tz_gsk (by omega), tz_gsk (by omega), tz_gsk (by omega), hB, tz_gsi (by omega), tz_gsi (by omega), tz_gs1]
    · rw [gC _ _ (by omega), tz_gsk (by omega), tz_gsk (by omega), tz_gsk (by omega), hB, tz_gsi (by omega), tz_gs1]
  have k3 := b_item rd
  have k4 : f_X7_goesOn (tz_s C 122 0 (tz_j 1)) = some (some (.int (tz_j 0)), tz_s C 122 0 (tz_j 1)) := by
    have n1 : ¬ tz_g (tz_s C 122 0 (tz_j 1)) 122 0 = -1 := by
      rw [tz_gs1]
      decide
    rw [e_X7_goesOn, if_pos n1]
    rfl
  have k5 : f_X7_open (tz_j 3) 30 B = some (none, C) := by
    rw [e_X7_open _ _ h30]
    show tz_bV (f_X9_become 124 30 (tz_s (tz_s (tz_s B 122 4 (tz_j 3)) 122 5 (tz_j 0)) 122 0 (tz_j 4294967295))) _ = _
    rw [k2, tz_bV_some]
  have g20B : tz_g B 20 5 = tz_j 3 := by rw [fB.2.2.1 _ _ (by omega)]; exact g20
  have fD : tz_fx (fun k i => (122 ≤ k ∧ k < 148) ∨ (k = 17 ∧ i = 13)) A (tz_s (tz_s C 122 0 (tz_j 1)) 17 13 (tz_j 1)) := fx_s (fx_s (fx_mo fC (fun k i h => Or.inl h)) (by omega)) (by omega)
  have hres : f_X11_sky (tz_j 5) A = some (some (.int (tz_j 4294967290)), tz_s (tz_s (tz_s C 122 0 (tz_j 1)) 17 13 (tz_j 1)) 156 6 (tz_g (tz_s (tz_s C 122 0 (tz_j 1)) 17 13 (tz_j 1)) 156 6 + tz_j 1)) := by
    have n2 : ¬ (tz_j 5 < 0 ∨ 8 ≤ Int32.toNatClampNeg (tz_j 5)) := by decide
    have c5 : Int32.toNatClampNeg (tz_j 5) = 5 := nj_cl (by omega)
    have n3 : ¬ 160 < (0 : Int32) + 1 := by decide
    have n4 : ¬ tz_g (tz_s (tz_s C 122 0 (tz_j 1)) 17 13 (tz_j 1)) 17 13 = -1 := by
      rw [tz_gs1]
      decide
    have g1 : tz_g (tz_s C 122 0 (tz_j 1)) 122 0 = tz_j 1 := tz_gs1
    have n2b : ¬ (tz_j 5 < 0 ∨ 8 ≤ 5) := by decide
    rw [e_X11_sky, e, tz_bI_some, if_pos (show tz_j 0 = 0 from rfl), if_neg n2, c5, g20, k1, tz_bV_some, if_neg n2b, g20B, k5, tz_bV_some, e_X11_sky_65, k3, tz_bV_some, if_neg n3, k4, tz_bI_some, if_neg (show ¬ ¬ tz_j 0 = 0 from fun y => y rfl), g1, if_neg n4]
    show tz_bI (f_X11_refuse (tz_j 4294967290) _) _ = _
    rw [x_ref6, tz_bI_some]
  refine ⟨?_, ⟨ww.1, ww.2.1, ww.2.2.1, ww.2.2.2.1, wu_mv ww.2.2.2.2 (Nat.le_refl _) (fun k i a _ d => ?_)⟩⟩
  · obtain ⟨D, hD⟩ : ∃ D, D = tz_s (tz_s C 122 0 (tz_j 1)) 17 13 (tz_j 1) := ⟨_, rfl⟩
    have g13 : tz_g D 17 13 = tz_j 1 := by rw [hD, tz_gs1]
    rw [← hD] at fD hres
    have gD : ∀ k i, k < 122 ∨ 148 ≤ k → k ≠ 17 ∨ i ≠ 13 → tz_g D k i = tz_g A k i := fun k i h1 h2 => fD.2.2.1 k i (by omega)
    have glD : ∀ k i, tz_gl D k i = tz_gl A k i := fun k i => by show D.2.2.1 k i = A.2.2.1 k i; rw [fD.2.1]
    refine ⟨_, hres, ?_, ?_⟩
    · have cD : CX S K (tz_u U 3 0 (tz_j 1)) V D := by
        refine ⟨rx_mv c.1 (fun k i a b => gD k i (by omega) (by omega)) (fD.2.2.2 _ _ (by omega)) (Or.inl ww.2.1.2), fun y => rx_mv (c.2.1 (by rw [tz_ui (by omega)] at y; exact y)) (fun k i a b => gD k i (by omega) (by omega)) (fD.2.2.2 _ _ (by omega)) (Or.inl ww.2.2.2.1.2), ⟨fun s hs => ?_, fun i hi => ?_, ?_, ?_, ?_, fun i hi => ?_⟩, fx_con fD c.2.2.2⟩
        · obtain ⟨a, b, d⟩ := c.2.2.1.1 s hs
          rw [gD _ _ (by omega) (by omega), gD _ _ (by omega) (by omega), tz_uk (by omega), tz_uk (by omega)]
          refine ⟨a, b, fun i hi => ?_⟩
          rw [glD]
          exact d i hi
        · rw [gD _ _ (by omega) (by omega), tz_uk (by omega)]
          exact c.2.2.1.2.1 i hi
        · rw [g13, tz_u1]
        · rw [gD _ _ (by omega) (by omega), tz_ui (by omega)]
          exact c.2.2.1.2.2.2.1
        · rw [gD _ _ (by omega) (by omega), tz_uk (by omega)]
          exact c.2.2.1.2.2.2.2.1
        · rw [gD _ _ (by omega) (by omega), tz_uk (by omega)]
          exact c.2.2.1.2.2.2.2.2 i hi
      have cE := CX_ref (r := 6) (by omega) cD
      have eu : ur (tz_u U 3 0 (tz_j 1)) 6 = tz_u (ur U 6) 3 0 (tz_j 1) := by
        funext k i
        unfold ur
        rw [tz_ua, tz_ua, tz_ua, tz_ua, tz_ua]
        by_cases y : k = 2 ∧ i = 6
        · rw [if_pos y, if_neg (by omega), if_neg (by omega), if_pos y]
        · rw [if_neg y]
          by_cases x : k = 3 ∧ i = 0
          · rw [if_pos x, if_pos x]
          · rw [if_neg x, if_neg x, if_neg y]
      rw [← eu]
      exact cE
    · exact cf_tr (cf_fx fD (fun k i h => by omega)) (cf_s (by omega))
  · unfold ur
    rw [tz_ua, if_neg (by omega), tz_uk a]
