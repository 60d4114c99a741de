/-! shelves: row, set, element, show, holds -/
theorem tz_glsl {A : tz_Mem} {k i k' i' : Nat} {v : Int64} : tz_gl (tz_sl A k i v) k' i' = if k' = k ∧ i' = i then v else tz_gl A k' i' := rfl
theorem tz_gsl {A : tz_Mem} {k i k' i' : Nat} {v : Int64} : tz_g (tz_sl A k i v) k' i' = tz_g A k' i' := rfl
/-- only longs of one row change -/
def fl (p lo hi : Nat) (A A' : tz_Mem) : Prop := A'.1 = A.1 ∧ A'.2.1 = A.2.1 ∧ A'.2.2.2 = A.2.2.2 ∧ ∀ k i, ¬ (k = p ∧ lo ≤ i ∧ i < hi) → tz_gl A' k i = tz_gl A k i
theorem fl_g {p lo hi : Nat} {A A' : tz_Mem} (f : fl p lo hi A A') {k i : Nat} : tz_g A' k i = tz_g A k i := by
  show A'.2.1 k i = A.2.1 k i
  rw [f.2.1]
theorem fl_gr {p lo hi : Nat} {A A' : tz_Mem} (f : fl p lo hi A A') {k i : Nat} : tz_gr A' k i = tz_gr A k i := by
  show A'.2.2.2 k i = A.2.2.2 k i
  rw [f.2.2.1]
theorem CX_sh {S K : tz_S} {U U' : tz_U} {V V' : tz_V} {A A' : tz_Mem} (c : CX S K U V A) (e1 : A'.1 = A.1) (eg : ∀ k i, k ≠ 19 → k ≠ 20 → tz_g A' k i = tz_g A k i) (er : ∀ k i, tz_gr A' k i = tz_gr A k i) (eU : ∀ k i, k ≠ 0 → k ≠ 1 → U' k i = U k i) (h : ∀ s, s < 8 → tz_g A' 19 s = U' 0 s ∧ tz_g A' 20 s = U' 1 s ∧ ∀ i, i < 160 → tz_gl A' (22 + s) i = V' s i) : CX S K U' V' A' := by
  obtain ⟨r1, k, ⟨u1, u2, u3, u4, u5, u6⟩, hc⟩ := c
  refine ⟨rx_mv r1 (fun k i h1 h2 => eg k i (by omega) (by omega)) (er _ _) (Or.inr (fun k i h1 h2 => eg k i (by omega) (by omega))), fun q => rx_mv (k (by rw [eU 3 1 (by omega) (by omega)] at q; exact q)) (fun k i h1 h2 => eg k i (by omega) (by omega)) (er _ _) (Or.inr (fun k i h1 h2 => eg k i (by omega) (by omega))), ⟨h, fun i hi => ?_, ?_, ?_, ?_, fun i hi => ?_⟩, ⟨by rw [e1]; exact hc.1, fun k i a b d => by rw [er]; exact hc.2 k i a b d⟩⟩
  · rw [eg _ _ (by omega) (by omega), eU _ _ (by omega) (by omega)]
    exact u2 i hi
  · rw [eg _ _ (by omega) (by omega), eU _ _ (by omega) (by omega)]
    exact u3
  · rw [eg _ _ (by omega) (by omega), eU _ _ (by omega) (by omega)]
    exact u4
  · rw [eg _ _ (by omega) (by omega), eU _ _ (by omega) (by omega)]
    exact u5
  · rw [eg _ _ (by omega) (by omega), eU _ _ (by omega) (by omega)]
    exact u6 i hi
theorem x_fillL {k : Nat} (hk : tz_rw k) : ∀ n i A, i + n = 160 → ∃ A', q_J7_fill_d0a16_6 k 0 (tz_j i) (tz_j 160) A = some (none, A') ∧ (∀ j, i ≤ j → j < 160 → tz_gl A' k j = 0) ∧ fl k i 160 A A' := by
  intro n
  induction n with
  | zero =>
    intro i A hi
    refine ⟨A, ?_, fun j a b => by omega, rfl, rfl, rfl, fun _ _ _ => rfl⟩
    rw [e_J7_fill_d0a16_6 _ _ _ _ hk]
    simp (disch := omega) only [tz_lit, nj_m1, ↓reduceIte, nj_cl, nj_ltt, nj_ltf, nj_let, nj_lef, nj_eqf, nj_lt, nj_le, nj_eq, nj_add, nj_mul, nj_modx, nj_and7, nj_div, tz_bI_some, tz_bV_some, or_false, false_or, or_self, and_false, false_and, and_true, true_and, not_true_eq_false, not_false_eq_true, nt_lef, nt_let, nt_ltf, nt_ltt, nt_eqf, nj_m2, nj_m3, nj_m4, nj_m5, nj_m6, nj_m7, tz_bL_some, nj_sub, ng_ltt, ng_let, ng_gtf, ng_gef]
  | succ n ih =>
    intro i A hi
    obtain ⟨A', e, g, f1, f2, f3, f4⟩ := ih (i + 1) (tz_sl A k i 0) (by omega)
    refine ⟨A', ?_, fun j a b => ?_, f1, f2, f3, fun k' i' h => ?_⟩
    · rw [e_J7_fill_d0a16_6 _ _ _ _ hk]
      simp (disch := omega) only [tz_lit, nj_m1, ↓reduceIte, nj_cl, nj_ltt, nj_ltf, nj_let, nj_lef, nj_eqf, nj_lt, nj_le, nj_eq, nj_add, nj_mul, nj_modx, nj_and7, nj_div, tz_bI_some, tz_bV_some, or_false, false_or, or_self, and_false, false_and, and_true, true_and, not_true_eq_false, not_false_eq_true, nt_lef, nt_let, nt_ltf, nt_ltt, nt_eqf, nj_m2, nj_m3, nj_m4, nj_m5, nj_m6, nj_m7, tz_bL_some, nj_sub, ng_ltt, ng_let, ng_gtf, ng_gef]
      exact e
    · by_cases z : j = i
      · rw [f4 k j (by omega), tz_glsl, if_pos ⟨rfl, z⟩]
      · exact g j (by omega) b
    · rw [f4 k' i' (by omega), tz_glsl, if_neg (by omega)]
/-- a shelf's row, or why there is none -/
theorem x_ror {s : Nat} {S K : tz_S} {U : tz_U} {V : tz_V} {A : tz_Mem} (c : CX S K U V A) (hs : s < 8) : (U 0 s = tz_j 4294967295 → f_X8_refusalOfRow (tz_j s) A = some (some (.int (tz_j 4294967293)), A)) ∧ (∀ h, h < 8 → U 0 s = tz_j h → f_X8_refusalOfRow (tz_j s) A = some (some (.int (tz_j 4294967294)), A)) ∧ (∀ t, t < 4 → U 0 s = tz_j (100 + t) → f_X8_refusalOfRow (tz_j s) A = some (some (.int (tz_j 0)), A)) := by
  have q := (c.2.2.1.1 s hs).1
  rw [e_X8_refusalOfRow]
  refine ⟨fun z => ?_, fun h hh z => ?_, fun t ht z => ?_⟩
  · rw [z] at q
    simp (disch := omega) only [tz_lit, nj_m1, ↓reduceIte, nj_cl, nj_ltt, nj_ltf, nj_let, nj_lef, nj_eqf, nj_lt, nj_le, nj_eq, nj_add, nj_mul, nj_modx, nj_and7, nj_div, tz_bI_some, tz_bV_some, or_false, false_or, or_self, and_false, false_and, and_true, true_and, not_true_eq_false, not_false_eq_true, nt_lef, nt_let, nt_ltf, nt_ltt, nt_eqf, nj_m2, nj_m3, nj_m4, nj_m5, nj_m6, nj_m7, tz_bL_some, nj_sub, ng_ltt, ng_let, ng_gtf, ng_gef, e_X8_has, e_X8_holdsRow, q]
  · rw [z] at q
    simp (disch := omega) only [tz_lit, nj_m1, ↓reduceIte, nj_cl, nj_ltt, nj_ltf, nj_let, nj_lef, nj_eqf, nj_lt, nj_le, nj_eq, nj_add, nj_mul, nj_modx, nj_and7, nj_div, tz_bI_some, tz_bV_some, or_false, false_or, or_self, and_false, false_and, and_true, true_and, not_true_eq_false, not_false_eq_true, nt_lef, nt_let, nt_ltf, nt_ltt, nt_eqf, nj_m2, nj_m3, nj_m4, nj_m5, nj_m6, nj_m7, tz_bL_some, nj_sub, ng_ltt, ng_let, ng_gtf, ng_gef, e_X8_has, e_X8_holdsRow, q]
  · rw [z] at q
    simp (disch := omega) only [tz_lit, nj_m1, ↓reduceIte, nj_cl, nj_ltt, nj_ltf, nj_let, nj_lef, nj_eqf, nj_lt, nj_le, nj_eq, nj_add, nj_mul, nj_modx, nj_and7, nj_div, tz_bI_some, tz_bV_some, or_false, false_or, or_self, and_false, false_and, and_true, true_and, not_true_eq_false, not_false_eq_true, nt_lef, nt_let, nt_ltf, nt_ltt, nt_eqf, nj_m2, nj_m3, nj_m4, nj_m5, nj_m6, nj_m7, tz_bL_some, nj_sub, ng_ltt, ng_let, ng_gtf, ng_gef, e_X8_has, e_X8_holdsRow, q]
theorem x_roro {x : Int32} {A : tz_Mem} (h : x < tz_j 0 ∨ tz_j 8 ≤ x) : f_X8_refusalOfRow x A = some (some (.int (tz_j 4294967295)), A) := by
  rw [e_X8_refusalOfRow]
  rcases h with h | h
  · simp (disch := omega) only [tz_lit, nj_m1, ↓reduceIte, nj_cl, nj_ltt, nj_ltf, nj_let, nj_lef, nj_eqf, nj_lt, nj_le, nj_eq, nj_add, nj_mul, nj_modx, nj_and7, nj_div, tz_bI_some, tz_bV_some, or_false, false_or, or_self, and_false, false_and, and_true, true_and, not_true_eq_false, not_false_eq_true, nt_lef, nt_let, nt_ltf, nt_ltt, nt_eqf, nj_m2, nj_m3, nj_m4, nj_m5, nj_m6, nj_m7, tz_bL_some, nj_sub, ng_ltt, ng_let, ng_gtf, ng_gef, e_X8_has, ob_l h]
  · simp (disch := omega) only [tz_lit, nj_m1, ↓reduceIte, nj_cl, nj_ltt, nj_ltf, nj_let, nj_lef, nj_eqf, nj_lt, nj_le, nj_eq, nj_add, nj_mul, nj_modx, nj_and7, nj_div, tz_bI_some, tz_bV_some, or_false, false_or, or_self, and_false, false_and, and_true, true_and, not_true_eq_false, not_false_eq_true, nt_lef, nt_let, nt_ltf, nt_ltt, nt_eqf, nj_m2, nj_m3, nj_m4, nj_m5, nj_m6, nj_m7, tz_bL_some, nj_sub, ng_ltt, ng_let, ng_gtf, ng_gef, e_X8_has, ob_h (show 8 < 2147483648 by omega) h]
theorem lg_rw {U : tz_U} {S : tz_S} {s : Nat} (h : wu S U) (hs : s < 8) : (U 0 s = tz_j 4294967295 ∨ (∃ h, h < S 1 0 ∧ U 0 s = tz_j h) ∨ (∃ t, t < 4 ∧ U 0 s = tz_j (100 + t))) ∧ ∃ l, l ≤ 160 ∧ U 1 s = tz_j l := h.1 s hs
