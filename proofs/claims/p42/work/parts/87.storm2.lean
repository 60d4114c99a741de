/-! storm -/
theorem x_sn1 {p fo ro : Nat} {A : tz_Mem} (h1 : 1 ≤ p ∧ p ≤ 9) (h2 : 1 ≤ fo ∧ fo ≤ 99) (h3 : 1 ≤ ro ∧ ro ≤ 9) : f_X11_areStormNumbers (tz_j p) (tz_j fo) (tz_j ro) A = some (some (.int (tz_j 1)), A) := by
  rw [e_X11_areStormNumbers]
  simp (disch := omega) only [tz_lit, nj_m1, ↓reduceIte, nj_cl, nj_ltt, nj_ltf, nj_let, nj_lef, nj_eqf, nj_lt, nj_le, nj_eq, nj_add, nj_mul, nj_modx, nj_and7, nj_div, tz_bI_some, tz_bV_some, or_false, false_or, or_self, and_false, false_and, and_true, true_and, not_true_eq_false, not_false_eq_true, nt_lef, nt_let, nt_ltf, nt_ltt, nt_eqf, nj_m2, nj_m3, nj_m4, nj_m5, nj_m6, nj_m7, tz_bL_some, nj_sub, ng_ltt, ng_let, ng_gtf, ng_gef]
theorem x_sn0 {x y z : Int32} {A : tz_Mem} (h : (x < tz_j 1 ∨ tz_j 9 < x) ∨ (y < tz_j 1 ∨ tz_j 99 < y) ∨ (z < tz_j 1 ∨ tz_j 9 < z)) : f_X11_areStormNumbers x y z A = some (some (.int (tz_j 0)), A) := by
  rw [e_X11_areStormNumbers]
  rcases pr_tf (x < tz_j 1) with c0 | c0
  · simp only [tz_lit, nj_m1, nj_m2, nj_m3, nj_m4, nj_m5, nj_m6, nj_m7, ↓reduceIte, tz_bI_some, tz_bV_some, tz_bL_some, cj10, cj01, cjm0, eq_self, not_true_eq_false, not_false_eq_true, or_false, false_or, or_true, true_or, or_self, and_true, true_and, and_false, false_and, c0]
  · skip
    rcases pr_tf (tz_j 9 < x) with c1 | c1
    · simp only [tz_lit, nj_m1, nj_m2, nj_m3, nj_m4, nj_m5, nj_m6, nj_m7, ↓reduceIte, tz_bI_some, tz_bV_some, tz_bL_some, cj10, cj01, cjm0, eq_self, not_true_eq_false, not_false_eq_true, or_false, false_or, or_true, true_or, or_self, and_true, true_and, and_false, false_and, c0, c1]
    · skip
      rcases pr_tf (y < tz_j 1) with c2 | c2
      · simp only [tz_lit, nj_m1, nj_m2, nj_m3, nj_m4, nj_m5, nj_m6, nj_m7, ↓reduceIte, tz_bI_some, tz_bV_some, tz_bL_some, cj10, cj01, cjm0, eq_self, not_true_eq_false, not_false_eq_true, or_false, false_or, or_true, true_or, or_self, and_true, true_and, and_false, false_and, c0, c1, c2]
      · skip
        rcases pr_tf (tz_j 99 < y) with c3 | c3
        · simp only [tz_lit, nj_m1, nj_m2, nj_m3, nj_m4, nj_m5, nj_m6, nj_m7, ↓reduceIte, tz_bI_some, tz_bV_some, tz_bL_some, cj10, cj01, cjm0, eq_self, not_true_eq_false, not_false_eq_true, or_false, false_or, or_true, true_or, or_self, and_true, true_and, and_false, false_and, c0, c1, c2, c3]
        · skip
          rcases pr_tf (z < tz_j 1) with c4 | c4
          · simp only [tz_lit, nj_m1, nj_m2, nj_m3, nj_m4, nj_m5, nj_m6, nj_m7, ↓reduceIte, tz_bI_some, tz_bV_some, tz_bL_some, cj10, cj01, cjm0, eq_self, not_true_eq_false, not_false_eq_true, or_false, false_or, or_true, true_or, or_self, and_true, true_and, and_false, false_and, c0, c1, c2, c3, c4]
          · skip
            rcases pr_tf (tz_j 9 < z) with c5 | c5
            · simp only [tz_lit, nj_m1, nj_m2, nj_m3, nj_m4, nj_m5, nj_m6, nj_m7, ↓reduceIte, tz_bI_some, tz_bV_some, tz_bL_some, cj10, cj01, cjm0, eq_self, not_true_eq_false, not_false_eq_true, or_false, false_or, or_true, true_or, or_self, and_true, true_and, and_false, false_and, c0, c1, c2, c3, c4, c5]
            · simp only [c0, c1, c2, c3, c4, c5, or_self] at h
