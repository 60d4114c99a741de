/-! a row's element put, rows copied -/
def sh_w : Nat → Int64 → Int64
  | 0, x => Int32.toInt64 ((Int32.toInt8 (Int64.toInt32 x)).toInt32)
  | 1, x => Int32.toInt64 ((Int32.toInt16 (Int64.toInt32 x)).toInt32)
  | 2, x => Int32.toInt64 (Int64.toInt32 x)
  | _, x => x
theorem x_he1 {s i l t : Nat} {A : tz_Mem} (hs : s < 8) (hi : i < l) (hl : l ≤ 160) (ht : t < 4) (q : tz_g A 19 s = tz_j (100 + t)) (q1 : tz_g A 20 s = tz_j l) : f_X8_hasElement (tz_j s) (tz_j i) A = some (some (.int (tz_j 1)), A) := by
  rw [e_X8_hasElement]
  simp (disch := omega) only [tz_lit, nj_m1, ↓reduceIte, nj_cl, nj_ltt, nj_ltf, nj_let, nj_lef, nj_eqf, nj_lt, nj_le, nj_eq, nj_add, nj_mul, nj_modx, nj_and7, nj_div, tz_bI_some, tz_bV_some, or_false, false_or, or_self, and_false, false_and, and_true, true_and, not_true_eq_false, not_false_eq_true, nt_lef, nt_let, nt_ltf, nt_ltt, nt_eqf, nj_m2, nj_m3, nj_m4, nj_m5, nj_m6, nj_m7, tz_bL_some, nj_sub, ng_ltt, ng_let, ng_gtf, ng_gef, e_X8_has, e_X8_holdsRow, q, q1]
theorem x_he0 {s l t : Nat} {x : Int32} {A : tz_Mem} (hs : s < 8) (hl : l ≤ 160) (ht : t < 4) (q : tz_g A 19 s = tz_j (100 + t)) (q1 : tz_g A 20 s = tz_j l) (h : x < tz_j 0 ∨ tz_j l ≤ x) : f_X8_hasElement (tz_j s) x A = some (some (.int (tz_j 0)), A) := by
  rw [e_X8_hasElement]
  rcases h with h | h
  · simp (disch := omega) only [tz_lit, nj_m1, ↓reduceIte, nj_cl, nj_ltt, nj_ltf, nj_let, nj_lef, nj_eqf, nj_lt, nj_le, nj_eq, nj_add, nj_mul, nj_modx, nj_and7, nj_div, tz_bI_some, tz_bV_some, or_false, false_or, or_self, and_false, false_and, and_true, true_and, not_true_eq_false, not_false_eq_true, nt_lef, nt_let, nt_ltf, nt_ltt, nt_eqf, nj_m2, nj_m3, nj_m4, nj_m5, nj_m6, nj_m7, tz_bL_some, nj_sub, ng_ltt, ng_let, ng_gtf, ng_gef, e_X8_has, e_X8_holdsRow, q, q1, ob_l h]
  · simp (disch := omega) only [tz_lit, nj_m1, ↓reduceIte, nj_cl, nj_ltt, nj_ltf, nj_let, nj_lef, nj_eqf, nj_lt, nj_le, nj_eq, nj_add, nj_mul, nj_modx, nj_and7, nj_div, tz_bI_some, tz_bV_some, or_false, false_or, or_self, and_false, false_and, and_true, true_and, not_true_eq_false, not_false_eq_true, nt_lef, nt_let, nt_ltf, nt_ltt, nt_eqf, nj_m2, nj_m3, nj_m4, nj_m5, nj_m6, nj_m7, tz_bL_some, nj_sub, ng_ltt, ng_let, ng_gtf, ng_gef, e_X8_has, e_X8_holdsRow, q, q1, ob_h (show l < 2147483648 by omega) h, eq_true h]
theorem x_put {s i t : Nat} {x : Int64} {A : tz_Mem} (hs : s < 8) (hi : i < 160) (ht : t < 4) (q : tz_g A 19 s - tz_j 100 = tz_j t) : f_X8_put (tz_j s) (tz_j i) x A = some (none, tz_sl A (22 + s) i (sh_w t x)) := by
  rw [e_X8_put]
  match t, ht with
  | 0, _ => simp (disch := omega) only [tz_lit, nj_m1, ↓reduceIte, nj_cl, nj_ltt, nj_ltf, nj_let, nj_lef, nj_eqf, nj_lt, nj_le, nj_eq, nj_add, nj_mul, nj_modx, nj_and7, nj_div, tz_bI_some, tz_bV_some, or_false, false_or, or_self, and_false, false_and, and_true, true_and, not_true_eq_false, not_false_eq_true, nt_lef, nt_let, nt_ltf, nt_ltt, nt_eqf, nj_m2, nj_m3, nj_m4, nj_m5, nj_m6, nj_m7, tz_bL_some, ng_ltt, ng_let, ng_gtf, ng_gef, q, sh_w]
  | 1, _ => simp (disch := omega) only [tz_lit, nj_m1, ↓reduceIte, nj_cl, nj_ltt, nj_ltf, nj_let, nj_lef, nj_eqf, nj_lt, nj_le, nj_eq, nj_add, nj_mul, nj_modx, nj_and7, nj_div, tz_bI_some, tz_bV_some, or_false, false_or, or_self, and_false, false_and, and_true, true_and, not_true_eq_false, not_false_eq_true, nt_lef, nt_let, nt_ltf, nt_ltt, nt_eqf, nj_m2, nj_m3, nj_m4, nj_m5, nj_m6, nj_m7, tz_bL_some, ng_ltt, ng_let, ng_gtf, ng_gef, q, sh_w]
  | 2, _ => simp (disch := omega) only [tz_lit, nj_m1, ↓reduceIte, nj_cl, nj_ltt, nj_ltf, nj_let, nj_lef, nj_eqf, nj_lt, nj_le, nj_eq, nj_add, nj_mul, nj_modx, nj_and7, nj_div, tz_bI_some, tz_bV_some, or_false, false_or, or_self, and_false, false_and, and_true, true_and, not_true_eq_false, not_false_eq_true, nt_lef, nt_let, nt_ltf, nt_ltt, nt_eqf, nj_m2, nj_m3, nj_m4, nj_m5, nj_m6, nj_m7, tz_bL_some, ng_ltt, ng_let, ng_gtf, ng_gef, q, sh_w]
  | 3, _ => simp (disch := omega) only [tz_lit, nj_m1, ↓reduceIte, nj_cl, nj_ltt, nj_ltf, nj_let, nj_lef, nj_eqf, nj_lt, nj_le, nj_eq, nj_add, nj_mul, nj_modx, nj_and7, nj_div, tz_bI_some, tz_bV_some, or_false, false_or, or_self, and_false, false_and, and_true, true_and, not_true_eq_false, not_false_eq_true, nt_lef, nt_let, nt_ltf, nt_ltt, nt_eqf, nj_m2, nj_m3, nj_m4, nj_m5, nj_m6, nj_m7, tz_bL_some, ng_ltt, ng_let, ng_gtf, ng_gef, q, sh_w]
theorem hu_s : ∀ t, t < 4 → tz_j (100 + t) - tz_j 100 = tz_j t := by decide +kernel
theorem nj_p1 (x : Int32) : x - tz_j 1 = x + tz_j 4294967295 := by
  rw [Int32.sub_eq_add_neg]
  rfl
theorem bI_pre {o : Option tz_RR} {x : Int32} {A : tz_Mem} (h : o = some (some (.int x), A)) (f : Int32 → tz_Mem → Option tz_RR) : tz_bI o f = f x A := by
  rw [h]
  rfl
theorem bV_pre {o : Option tz_RR} {A : tz_Mem} (h : o = some (none, A)) (f : tz_Mem → Option tz_RR) : tz_bV o f = f A := by
  rw [h]
  rfl
theorem nj_ix8 {s n : Nat} (hs : s < n) (hn : n ≤ 2000000) : (tz_j s < tz_j 0 ∨ n ≤ s) = False := by
  have := nj_ix (l := s) (n := n) hs (by omega)
  rw [nj_cl (by omega)] at this
  exact this
theorem nj_sg (x : Int32) : ((x < tz_j 0) = True ∧ (tz_j 0 ≤ x) = False) ∨ ((x < tz_j 0) = False ∧ (tz_j 0 ≤ x) = True) := by
  by_cases h : x < tz_j 0
  · exact Or.inl ⟨eq_true h, eq_false (by rw [i32_le]; exact fun q => q h)⟩
  · exact Or.inr ⟨eq_false h, eq_true (by rw [i32_le]; exact h)⟩
theorem pr_tf (p : Prop) : p = True ∨ p = False := by
  by_cases h : p
  · exact Or.inl (eq_true h)
  · exact Or.inr (eq_false h)
