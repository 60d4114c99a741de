/-! shelves: row, set, element, show, holds -/
theorem tz_glsl {A : tz_Mem} {k i k' i' : Nat} {v : Int64} : tz_gl (tz_sl A k i v) k' i' = if k' = k ∧ i' = i then v else tz_gl A k' i' := rfl
theorem tz_gsl {A : tz_Mem} {k i k' i' : Nat} {v : Int64} : tz_g (tz_sl A k i v) k' i' = tz_g A k' i' := rfl
/-- only longs of one row change -/
def fl (p lo hi : Nat) (A A' : tz_Mem) : Prop := A'.1 = A.1 ∧ A'.2.1 = A.2.1 ∧ A'.2.2.2 = A.2.2.2 ∧ ∀ k i, ¬ (k = p ∧ lo ≤ i ∧ i < hi) → tz_gl A' k i = tz_gl A k i
theorem fl_g {p lo hi : Nat} {A A' : tz_Mem} (f : fl p lo hi A A') {k i : Nat} : tz_g A' k i = tz_g A k i := by
  show A'.2.1 k i = A.2.1 k i
  rw [f.2.1]
theorem fl_gr {p lo hi : Nat} {A A' : tz_Mem} (f : fl p lo hi A A') {k i : Nat} : tz_gr A' k i = tz_gr A k i := by
  show A'.2.2.2 k i = A.2.2.2 k i
  rw [f.2.2.1]
theorem CX_sh {S K : tz_S} {U U' : tz_U} {V V' : tz_V} {A A' : tz_Mem} (c : CX S K U V A) (e1 : A'.1 = A.1) (eg : ∀ k i, k ≠ 19 → k ≠ 20 → tz_g A' k i = tz_g A k i) (er : ∀ k i, tz_gr A' k i = tz_gr A k i) (eU : ∀ k i, k ≠ 0 → k ≠ 1 → U' k i = U k i) (h : ∀ s, s < 8 → tz_g A' 19 s = U' 0 s ∧ tz_g A' 20 s = U' 1 s ∧ ∀ i, i < 160 → tz_gl A' (22 + s) i = V' s i) : CX S K U' V' A' := by
  obtain ⟨r1, k, ⟨u1, u2, u3, u4, u5, u6⟩, hc⟩ := c
  refine ⟨rx_mv r1 (fun k i h1 h2 => eg k i (by omega) (by omega)) (er _ _) (Or.inr (fun k i h1 h2 => eg k i (by omega) (by omega))), fun q => rx_mv (k (by rw [eU 3 1 (by omega) (by omega)] at q; exact q)) (fun k i h1 h2 => eg k i (by omega) (by omega)) (er _ _) (Or.inr (fun k i h1 h2 => eg k i (by omega) (by omega))), ⟨h, fun i hi => ?_, ?_, ?_, ?_, fun i hi => ?_⟩, ⟨by rw [e1]; exact hc.1, fun k i a b d => by rw [er]; exact hc.2 k i a b d⟩⟩
  · rw [eg _ _ (by omega) (by omega), eU _ _ (by omega) (by omega)]
    exact u2 i hi
  · rw [eg _ _ (by omega) (by omega), eU _ _ (by omega) (by omega)]
    exact u3
  · rw [eg _ _ (by omega) (by omega), eU _ _ (by omega) (by omega)]
    exact u4
  · rw [eg _ _ (by omega) (by omega), eU _ _ (by omega) (by omega)]
    exact u5
  · rw [eg _ _ (by omega) (by omega), eU _ _ (by omega) (by omega)]
    exact u6 i hi
theorem MX_sh {D : Nat → Int32} {S K : tz_S} {U U' : tz_U} {V V' : tz_V} {A A' : tz_Mem} (c : MX D S K U V A) (e1 : A'.1 = A.1) (eg : ∀ k i, k ≠ 158 → k ≠ 159 → tz_g A' k i = tz_g A k i) (eU : ∀ k i, k ≠ 0 → k ≠ 1 → U' k i = U k i) (h : ∀ s, s < 8 → tz_g A' 158 s = U' 0 s ∧ tz_g A' 159 s = U' 1 s ∧ ∀ i, i < 160 → tz_gl A' 160 (160 * s + i) = V' s i) : MX D S K U' V' A' := by
  obtain ⟨r1, k, ⟨u1, u2, u3, u4, u5, u6⟩, hc⟩ := c
  refine ⟨rm_A r1 (fun k i h => eg k i (by omega) (by omega)), fun q => rmk_mv (k (by rw [eU 3 1 (by omega) (by omega)] at q; exact q)) (fun j _ => eg _ _ (by omega) (by omega)), ⟨h, fun i hi => ?_, ?_, ?_, ?_, fun i hi => ?_⟩, by rw [e1]; exact hc⟩
  · rw [eg _ _ (by omega) (by omega), eU _ _ (by omega) (by omega)]
    exact u2 i hi
  · rw [eg _ _ (by omega) (by omega), eU _ _ (by omega) (by omega)]
    exact u3
  · rw [eg _ _ (by omega) (by omega), eU _ _ (by omega) (by omega)]
    exact u4
  · rw [eg _ _ (by omega) (by omega), eU _ _ (by omega) (by omega)]
    exact u5
  · rw [eg _ _ (by omega) (by omega), eU _ _ (by omega) (by omega)]
    exact u6 i hi


theorem x_fillL {k : Nat} (hk : tz_rw k) : ∀ n i A, i + n = 160 → ∃ A', q_J7_fill_d0a16_6 k 0 (tz_j i) (tz_j 160) A = some (none, A') ∧ (∀ j, i ≤ j → j < 160 → tz_gl A' k j = 0) ∧ fl k i 160 A A' := by
  intro n
  induction n with
  | zero =>
    intro i A hi
    refine ⟨A, ?_, fun j a b => by omega, rfl, rfl, rfl, fun _ _ _ => rfl⟩
    rw [e_J7_fill_d0a16_6 _ _ _ _ hk]
    simp (disch := omega) only [tz_lit, nj_m1, ↓reduceIte, nj_cl, nj_ltt, nj_ltf, nj_let, nj_lef, nj_eqf, nj_lt, nj_le, nj_eq, nj_add, nj_mul, nj_modx, nj_and7, nj_div, tz_bI_some, tz_bV_some, or_false, false_or, or_self, and_false, false_and, and_true, true_and, not_true_eq_false, not_false_eq_true, nt_lef, nt_let, nt_ltf, nt_ltt, nt_eqf, nj_m2, nj_m3, nj_m4, nj_m5, nj_m6, nj_m7, tz_bL_some, nj_sub, ng_ltt, ng_let, ng_gtf, ng_gef]
  | succ n ih =>
    intro i A hi
    obtain ⟨A', e, g, f1, f2, f3, f4⟩ := ih (i + 1) (tz_sl A k i 0) (by omega)
    refine ⟨A', ?_, fun j a b => ?_, f1, f2, f3, fun k' i' h => ?_⟩
    · rw [e_J7_fill_d0a16_6 _ _ _ _ hk]
      simp (disch := omega) only [tz_lit, nj_m1, ↓reduceIte, nj_cl, nj_ltt, nj_ltf, nj_let, nj_lef, nj_eqf, nj_lt, nj_le, nj_eq, nj_add, nj_mul, nj_modx, nj_and7, nj_div, tz_bI_some, tz_bV_some, or_false, false_or, or_self, and_false, false_and, and_true, true_and, not_true_eq_false, not_false_eq_true, nt_lef, nt_let, nt_ltf, nt_ltt, nt_eqf, nj_m2, nj_m3, nj_m4, nj_m5, nj_m6, nj_m7, tz_bL_some, nj_sub, ng_ltt, ng_let, ng_gtf, ng_gef]
      exact e
    · by_cases z : j = i
      · rw [f4 k j (by omega), tz_glsl, if_pos ⟨rfl, z⟩]
      · exact g j (by omega) b
    · rw [f4 k' i' (by omega), tz_glsl, if_neg (by omega)]
theorem m_fillL {s : Nat} (hs : s < 8) : ∀ n i A, i + n = 160 → ∃ A', q_X12_row_77 (tz_j s) (tz_j i) A = some (some (.int (tz_j 1)), A') ∧ (∀ j, i ≤ j → j < 160 → tz_gl A' 160 (160 * s + j) = 0) ∧ fl 160 (160 * s + i) (160 * s + 160) A A' := by
  intro n
  induction n with
  | zero =>
    intro i A hi
    refine ⟨A, ?_, fun j a b => by omega, rfl, rfl, rfl, fun _ _ _ => rfl⟩
    rw [e_X12_row_77]
    simp (disch := omega) only [tz_lit, nj_m1, ↓reduceIte, nj_cl, nj_ltt, nj_ltf, nj_let, nj_lef, nj_eqf, nj_lt, nj_le, nj_eq, nj_add, nj_mul, nj_modx, nj_and7, nj_div, tz_bI_some, tz_bV_some, or_false, false_or, or_self, and_false, false_and, and_true, true_and, not_true_eq_false, not_false_eq_true, nt_lef, nt_let, nt_ltf, nt_ltt, nt_eqf, nj_m2, nj_m3, nj_m4, nj_m5, nj_m6, nj_m7, tz_bL_some, nj_sub, ng_ltt, ng_let, ng_gtf, ng_gef]
  | succ n ih =>
    intro i A hi
    obtain ⟨A', e, g, f1, f2, f3, f4⟩ := ih (i + 1) (tz_sl A 160 (160 * s + i) 0) (by omega)
    refine ⟨A', ?_, fun j a b => ?_, f1, f2, f3, fun k' i' h => ?_⟩
    · rw [e_X12_row_77]
      simp (disch := omega) only [tz_lit, nj_m1, ↓reduceIte, nj_cl, nj_ltt, nj_ltf, nj_let, nj_lef, nj_eqf, nj_lt, nj_le, nj_eq, nj_add, nj_mul, nj_modx, nj_and7, nj_div, tz_bI_some, tz_bV_some, or_false, false_or, or_self, and_false, false_and, and_true, true_and, not_true_eq_false, not_false_eq_true, nt_lef, nt_let, nt_ltf, nt_ltt, nt_eqf, nj_m2, nj_m3, nj_m4, nj_m5, nj_m6, nj_m7, tz_bL_some, nj_sub, ng_ltt, ng_let, ng_gtf, ng_gef]
      exact e
    · by_cases z : j = i
      · rw [f4 _ _ (by omega), tz_glsl, if_pos ⟨rfl, by omega⟩]
      · exact g j (by omega) b
    · rw [f4 k' i' (by omega), tz_glsl, if_neg (by omega)]
/-- a shelf's row, or why there is none -/
theorem x_ror {s : Nat} {S K : tz_S} {U : tz_U} {V : tz_V} {A : tz_Mem} (c : CX S K U V A) (hs : s < 8) : (U 0 s = tz_j 4294967295 → f_X8_refusalOfRow (tz_j s) A = some (some (.int (tz_j 4294967293)), A)) ∧ (∀ h, h < 8 → U 0 s = tz_j h → f_X8_refusalOfRow (tz_j s) A = some (some (.int (tz_j 4294967294)), A)) ∧ (∀ t, t < 4 → U 0 s = tz_j (100 + t) → f_X8_refusalOfRow (tz_j s) A = some (some (.int (tz_j 0)), A)) := by
  have q := (c.2.2.1.1 s hs).1
  rw [e_X8_refusalOfRow]
  refine ⟨fun z => ?_, fun h hh z => ?_, fun t ht z => ?_⟩
  · rw [z] at q
    simp (disch := omega) only [tz_lit, nj_m1, ↓reduceIte, nj_cl, nj_ltt, nj_ltf, nj_let, nj_lef, nj_eqf, nj_lt, nj_le, nj_eq, nj_add, nj_mul, nj_modx, nj_and7, nj_div, tz_bI_some, tz_bV_some, or_false, false_or, or_self, and_false, false_and, and_true, true_and, not_true_eq_false, not_false_eq_true, nt_lef, nt_let, nt_ltf, nt_ltt, nt_eqf, nj_m2, nj_m3, nj_m4, nj_m5, nj_m6, nj_m7, tz_bL_some, nj_sub, ng_ltt, ng_let, ng_gtf, ng_gef, e_X8_has, e_X8_holdsRow, q]
  · rw [z] at q
    simp (disch := omega) only [tz_lit, nj_m1, ↓reduceIte, nj_cl, nj_ltt, nj_ltf, nj_let, nj_lef, nj_eqf, nj_lt, nj_le, nj_eq, nj_add, nj_mul, nj_modx, nj_and7, nj_div, tz_bI_some, tz_bV_some, or_false, false_or, or_self, and_false, false_and, and_true, true_and, not_true_eq_false, not_false_eq_true, nt_lef, nt_let, nt_ltf, nt_ltt, nt_eqf, nj_m2, nj_m3, nj_m4, nj_m5, nj_m6, nj_m7, tz_bL_some, nj_sub, ng_ltt, ng_let, ng_gtf, ng_gef, e_X8_has, e_X8_holdsRow, q]
  · rw [z] at q
    simp (disch := omega) only [tz_lit, nj_m1, ↓reduceIte, nj_cl, nj_ltt, nj_ltf, nj_let, nj_lef, nj_eqf, nj_lt, nj_le, nj_eq, nj_add, nj_mul, nj_modx, nj_and7, nj_div, tz_bI_some, tz_bV_some, or_false, false_or, or_self, and_false, false_and, and_true, true_and, not_true_eq_false, not_false_eq_true, nt_lef, nt_let, nt_ltf, nt_ltt, nt_eqf, nj_m2, nj_m3, nj_m4, nj_m5, nj_m6, nj_m7, tz_bL_some, nj_sub, ng_ltt, ng_let, ng_gtf, ng_gef, e_X8_has, e_X8_holdsRow, q]
theorem x_roro {x : Int32} {A : tz_Mem} (h : x < tz_j 0 ∨ tz_j 8 ≤ x) : f_X8_refusalOfRow x A = some (some (.int (tz_j 4294967295)), A) := by
  rw [e_X8_refusalOfRow]
  rcases h with h | h
  · simp (disch := omega) only [tz_lit, nj_m1, ↓reduceIte, nj_cl, nj_ltt, nj_ltf, nj_let, nj_lef, nj_eqf, nj_lt, nj_le, nj_eq, nj_add, nj_mul, nj_modx, nj_and7, nj_div, tz_bI_some, tz_bV_some, or_false, false_or, or_self, and_false, false_and, and_true, true_and, not_true_eq_false, not_false_eq_true, nt_lef, nt_let, nt_ltf, nt_ltt, nt_eqf, nj_m2, nj_m3, nj_m4, nj_m5, nj_m6, nj_m7, tz_bL_some, nj_sub, ng_ltt, ng_let, ng_gtf, ng_gef, e_X8_has, ob_l h]
  · simp (disch := omega) only [tz_lit, nj_m1, ↓reduceIte, nj_cl, nj_ltt, nj_ltf, nj_let, nj_lef, nj_eqf, nj_lt, nj_le, nj_eq, nj_add, nj_mul, nj_modx, nj_and7, nj_div, tz_bI_some, tz_bV_some, or_false, false_or, or_self, and_false, false_and, and_true, true_and, not_true_eq_false, not_false_eq_true, nt_lef, nt_let, nt_ltf, nt_ltt, nt_eqf, nj_m2, nj_m3, nj_m4, nj_m5, nj_m6, nj_m7, tz_bL_some, nj_sub, ng_ltt, ng_let, ng_gtf, ng_gef, e_X8_has, ob_h (show 8 < 2147483648 by omega) h]
theorem m_ror {D : Nat → Int32} {s : Nat} {S K : tz_S} {U : tz_U} {V : tz_V} {A : tz_Mem} (c : MX D S K U V A) (hs : s < 8) : (U 0 s = tz_j 4294967295 → f_X12_noRow (tz_j s) A = some (some (.int (tz_j 4294967293)), A)) ∧ (∀ h, h < 8 → U 0 s = tz_j h → f_X12_noRow (tz_j s) A = some (some (.int (tz_j 4294967294)), A)) ∧ (∀ t, t < 4 → U 0 s = tz_j (100 + t) → f_X12_noRow (tz_j s) A = some (some (.int (tz_j 0)), A)) := by
  have q := (c.2.2.1.1 s hs).1
  rw [e_X12_noRow]
  refine ⟨fun z => ?_, fun h hh z => ?_, fun t ht z => ?_⟩
  · rw [z] at q
    simp (disch := omega) only [tz_lit, nj_m1, ↓reduceIte, nj_cl, nj_ltt, nj_ltf, nj_let, nj_lef, nj_eqf, nj_lt, nj_le, nj_eq, nj_add, nj_mul, nj_modx, nj_and7, nj_div, tz_bI_some, tz_bV_some, or_false, false_or, or_self, and_false, false_and, and_true, true_and, not_true_eq_false, not_false_eq_true, nt_lef, nt_let, nt_ltf, nt_ltt, nt_eqf, nj_m2, nj_m3, nj_m4, nj_m5, nj_m6, nj_m7, tz_bL_some, nj_sub, ng_ltt, ng_let, ng_gtf, ng_gef, e_X12_within, e_X12_isRow, q]
  · rw [z] at q
    simp (disch := omega) only [tz_lit, nj_m1, ↓reduceIte, nj_cl, nj_ltt, nj_ltf, nj_let, nj_lef, nj_eqf, nj_lt, nj_le, nj_eq, nj_add, nj_mul, nj_modx, nj_and7, nj_div, tz_bI_some, tz_bV_some, or_false, false_or, or_self, and_false, false_and, and_true, true_and, not_true_eq_false, not_false_eq_true, nt_lef, nt_let, nt_ltf, nt_ltt, nt_eqf, nj_m2, nj_m3, nj_m4, nj_m5, nj_m6, nj_m7, tz_bL_some, nj_sub, ng_ltt, ng_let, ng_gtf, ng_gef, e_X12_within, e_X12_isRow, q]
  · rw [z] at q
    simp (disch := omega) only [tz_lit, nj_m1, ↓reduceIte, nj_cl, nj_ltt, nj_ltf, nj_let, nj_lef, nj_eqf, nj_lt, nj_le, nj_eq, nj_add, nj_mul, nj_modx, nj_and7, nj_div, tz_bI_some, tz_bV_some, or_false, false_or, or_self, and_false, false_and, and_true, true_and, not_true_eq_false, not_false_eq_true, nt_lef, nt_let, nt_ltf, nt_ltt, nt_eqf, nj_m2, nj_m3, nj_m4, nj_m5, nj_m6, nj_m7, tz_bL_some, nj_sub, ng_ltt, ng_let, ng_gtf, ng_gef, e_X12_within, e_X12_isRow, q]
theorem m_roro {x : Int32} {A : tz_Mem} (h : x < tz_j 0 ∨ tz_j 8 ≤ x) : f_X12_noRow x A = some (some (.int (tz_j 4294967295)), A) := by
  rw [e_X12_noRow]
  rcases h with h | h
  · simp (disch := omega) only [tz_lit, nj_m1, ↓reduceIte, nj_cl, nj_ltt, nj_ltf, nj_let, nj_lef, nj_eqf, nj_lt, nj_le, nj_eq, nj_add, nj_mul, nj_modx, nj_and7, nj_div, tz_bI_some, tz_bV_some, or_false, false_or, or_self, and_false, false_and, and_true, true_and, not_true_eq_false, not_false_eq_true, nt_lef, nt_let, nt_ltf, nt_ltt, nt_eqf, nj_m2, nj_m3, nj_m4, nj_m5, nj_m6, nj_m7, tz_bL_some, nj_sub, ng_ltt, ng_let, ng_gtf, ng_gef, e_X12_within, ob_l h]
  · simp (disch := omega) only [tz_lit, nj_m1, ↓reduceIte, nj_cl, nj_ltt, nj_ltf, nj_let, nj_lef, nj_eqf, nj_lt, nj_le, nj_eq, nj_add, nj_mul, nj_modx, nj_and7, nj_div, tz_bI_some, tz_bV_some, or_false, false_or, or_self, and_false, false_and, and_true, true_and, not_true_eq_false, not_false_eq_true, nt_lef, nt_let, nt_ltf, nt_ltt, nt_eqf, nj_m2, nj_m3, nj_m4, nj_m5, nj_m6, nj_m7, tz_bL_some, nj_sub, ng_ltt, ng_let, ng_gtf, ng_gef, e_X12_within, ob_h (show 8 < 2147483648 by omega) h]

theorem p_row (x1 x2 x3 : Int32) : tz_twoI tz_J (f_X11_row x1 x2 x3) (f_X12_row x1 x2 x3) := by
  refine two_of (fun N S K U V A hN c ww => ?_)
  rcases nj_three x1 8 (by omega) with ⟨s, hs, rfl⟩ | h | h
  · rcases nj_three x3 161 (by omega) with ⟨n, hn, rfl⟩ | h3 | h3
    · rcases nj_three x2 4 (by omega) with ⟨t, ht, rfl⟩ | h2 | h2
      · have hk : tz_rw (22 + s) := by unfold tz_rw; omega
        obtain ⟨A1, e1, g1, f1⟩ := x_fillL hk 160 0 (tz_s (tz_s A 19 s (tz_j (100 + t))) 20 s (tz_j n)) (by omega)
        refine ⟨tz_j 1, S, K, tz_u (tz_u U 0 s (tz_j (100 + t))) 1 s (tz_j n), fun s' i => if s' = s then 0 else V s' i, ⟨A1, ?_, CX_sh c f1.1 (fun k i a b => by rw [fl_g f1, tz_gsk b, tz_gsk a]) (fun k i => fl_gr f1) (fun k i a b => by rw [tz_uk b, tz_uk a]) (fun s' hs' => ⟨?_, ?_, fun i hi => ?_⟩), f1.1, fun k i hk2 => ⟨?_, ?_⟩, fl_gr f1⟩, ⟨(WX_mo (M := N + 2000) ww (by omega)).1, ww.2.1, (WX_mo (M := N + 2000) ww (by omega)).2.2.1, ww.2.2.2.1, ?_⟩, fun A D m => ?_⟩
        · rw [e_X11_row]
          simp (disch := omega) only [tz_lit, nj_m1, ↓reduceIte, nj_cl, nj_ltt, nj_ltf, nj_let, nj_lef, nj_eqf, nj_lt, nj_le, nj_eq, nj_add, nj_mul, nj_modx, nj_and7, nj_div, tz_bI_some, tz_bV_some, or_false, false_or, or_self, and_false, false_and, and_true, true_and, not_true_eq_false, not_false_eq_true, nt_lef, nt_let, nt_ltf, nt_ltt, nt_eqf, nj_m2, nj_m3, nj_m4, nj_m5, nj_m6, nj_m7, tz_bL_some, nj_sub, ng_ltt, ng_let, ng_gtf, ng_gef, e_X8_has, e_X8_putRow, e_J7_fill_d0a16 _ _ hk]
          rw [show q_J7_fill_d0a16_6 (22 + s) 0 (tz_j 0) (tz_j 160) (tz_s (tz_s A 19 s (tz_j (100 + t))) 20 s (tz_j n)) = _ from e1]
          rfl
        · rw [fl_g f1, tz_gsk (by omega), tz_gS, tz_uk (by omega), tz_ua]
          by_cases z : s' = s
          · rw [if_pos ⟨rfl, z⟩, if_pos ⟨rfl, z⟩]
          · rw [if_neg (fun q => z q.2), if_neg (fun q => z q.2)]
            exact (c.2.2.1.1 s' hs').1
        · rw [fl_g f1, tz_gS, tz_ua]
          by_cases z : s' = s
          · rw [if_pos ⟨rfl, z⟩, if_pos ⟨rfl, z⟩]
          · rw [if_neg (fun q => z q.2), if_neg (fun q => z q.2), tz_gsk (by omega), tz_uk (by omega)]
            exact (c.2.2.1.1 s' hs').2.1
        · by_cases z : s' = s
          · rw [z, if_pos rfl]
            exact g1 i (by omega) hi
          · rw [if_neg z, f1.2.2.2 _ _ (by omega)]
            exact (c.2.2.1.1 s' hs').2.2 i hi
        · rw [fl_g f1, tz_gsk (by omega), tz_gsk (by omega)]
        · rw [f1.2.2.2 _ _ (by omega)]
          rfl
        · obtain ⟨a, b, d⟩ := ww.2.2.2.2
          refine ⟨fun s' hs' => ⟨?_, ?_⟩, by rw [tz_uk (by omega), tz_uk (by omega)]; exact b, by rw [tz_uk (by omega), tz_uk (by omega)]; exact d⟩
          · rw [tz_uk (by omega), tz_ua]
            by_cases z : s' = s
            · rw [if_pos ⟨rfl, z⟩]
              exact Or.inr (Or.inr ⟨t, ht, rfl⟩)
            · rw [if_neg (fun q => z q.2)]
              exact (a s' hs').1
          · rw [tz_ua]
            by_cases z : s' = s
            · rw [if_pos ⟨rfl, z⟩]
              exact ⟨n, by omega, rfl⟩
            · rw [if_neg (fun q => z q.2), tz_uk (by omega)]
              exact (a s' hs').2
        · obtain ⟨A2, e2, g2, f2⟩ := m_fillL hs 160 0 (tz_s (tz_s A 158 s (tz_j (100 + t))) 159 s (tz_j n)) (by omega)
          refine ⟨A2, D, ?_, MX_sh m f2.1 (fun k i a b => by rw [fl_g f2, tz_gsk b, tz_gsk a]) (fun k i a b => by rw [tz_uk b, tz_uk a]) (fun s' hs' => ⟨?_, ?_, fun i hi => ?_⟩), mf_mg ⟨f2.1, fun k i hk2 => ⟨?_, ?_⟩, fun k i => fl_gr f2⟩⟩
          · rw [e_X12_row]
            simp (disch := omega) only [tz_lit, nj_m1, ↓reduceIte, nj_cl, nj_ltt, nj_ltf, nj_let, nj_lef, nj_eqf, nj_lt, nj_le, nj_eq, nj_add, nj_mul, nj_modx, nj_and7, nj_div, tz_bI_some, tz_bV_some, or_false, false_or, or_self, and_false, false_and, and_true, true_and, not_true_eq_false, not_false_eq_true, nt_lef, nt_let, nt_ltf, nt_ltt, nt_eqf, nj_m2, nj_m3, nj_m4, nj_m5, nj_m6, nj_m7, tz_bL_some, nj_sub, ng_ltt, ng_let, ng_gtf, ng_gef, e_X12_within]
            exact e2
          · rw [fl_g f2, tz_gsk (by omega), tz_gS, tz_uk (by omega), tz_ua]
            by_cases z : s' = s
            · rw [if_pos ⟨rfl, z⟩, if_pos ⟨rfl, z⟩]
            · rw [if_neg (fun q => z q.2), if_neg (fun q => z q.2)]
              exact (m.2.2.1.1 s' hs').1
          · rw [fl_g f2, tz_gS, tz_ua]
            by_cases z : s' = s
            · rw [if_pos ⟨rfl, z⟩, if_pos ⟨rfl, z⟩]
            · rw [if_neg (fun q => z q.2), if_neg (fun q => z q.2), tz_gsk (by omega), tz_uk (by omega)]
              exact (m.2.2.1.1 s' hs').2.1
          · by_cases z : s' = s
            · rw [z, if_pos rfl]
              exact g2 i (by omega) hi
            · rw [if_neg z, f2.2.2.2 _ _ (by omega)]
              exact (m.2.2.1.1 s' hs').2.2 i hi
          · rw [fl_g f2, tz_gsk (by omega), tz_gsk (by omega)]
          · rw [f2.2.2.2 _ _ (by omega)]
            rfl
      · skip
        refine out_ref (v := tz_j 4294967290) 6 (by omega) c ww ?_ (fun A D m => ?_)
        · rw [e_X11_row]
          simp (disch := omega) only [tz_lit, nj_m1, ↓reduceIte, nj_cl, nj_ltt, nj_ltf, nj_let, nj_lef, nj_eqf, nj_lt, nj_le, nj_eq, nj_add, nj_mul, nj_modx, nj_and7, nj_div, tz_bI_some, tz_bV_some, or_false, false_or, or_self, and_false, false_and, and_true, true_and, not_true_eq_false, not_false_eq_true, nt_lef, nt_let, nt_ltf, nt_ltt, nt_eqf, nj_m2, nj_m3, nj_m4, nj_m5, nj_m6, nj_m7, tz_bL_some, nj_sub, ng_ltt, ng_let, ng_gtf, ng_gef, e_X8_has, e_X8_holdsRow, e_X11_isKind, e_X11_isOneOfTwo, e_X11_isWord, x_ref1, x_ref2, x_ref3, x_ref4, x_ref5, x_ref6, x_ref7, e_X11_refuseLower, ob_l h2]
        · rw [e_X12_row]
          simp (disch := omega) only [tz_lit, nj_m1, ↓reduceIte, nj_cl, nj_ltt, nj_ltf, nj_let, nj_lef, nj_eqf, nj_lt, nj_le, nj_eq, nj_add, nj_mul, nj_modx, nj_and7, nj_div, tz_bI_some, tz_bV_some, or_false, false_or, or_self, and_false, false_and, and_true, true_and, not_true_eq_false, not_false_eq_true, nt_lef, nt_let, nt_ltf, nt_ltt, nt_eqf, nj_m2, nj_m3, nj_m4, nj_m5, nj_m6, nj_m7, tz_bL_some, nj_sub, ng_ltt, ng_let, ng_gtf, ng_gef, e_X12_within, e_X12_isRow, m_no1, m_no2, m_no3, m_no4, m_no5, m_no6, m_no7, e_X12_no10, ob_l h2]

      · skip
        refine out_ref (v := tz_j 4294967290) 6 (by omega) c ww ?_ (fun A D m => ?_)
        · rw [e_X11_row]
          simp (disch := omega) only [tz_lit, nj_m1, ↓reduceIte, nj_cl, nj_ltt, nj_ltf, nj_let, nj_lef, nj_eqf, nj_lt, nj_le, nj_eq, nj_add, nj_mul, nj_modx, nj_and7, nj_div, tz_bI_some, tz_bV_some, or_false, false_or, or_self, and_false, false_and, and_true, true_and, not_true_eq_false, not_false_eq_true, nt_lef, nt_let, nt_ltf, nt_ltt, nt_eqf, nj_m2, nj_m3, nj_m4, nj_m5, nj_m6, nj_m7, tz_bL_some, nj_sub, ng_ltt, ng_let, ng_gtf, ng_gef, e_X8_has, e_X8_holdsRow, e_X11_isKind, e_X11_isOneOfTwo, e_X11_isWord, x_ref1, x_ref2, x_ref3, x_ref4, x_ref5, x_ref6, x_ref7, e_X11_refuseLower, ob_h (show 4 < 2147483648 by omega) h2]
        · rw [e_X12_row]
          simp (disch := omega) only [tz_lit, nj_m1, ↓reduceIte, nj_cl, nj_ltt, nj_ltf, nj_let, nj_lef, nj_eqf, nj_lt, nj_le, nj_eq, nj_add, nj_mul, nj_modx, nj_and7, nj_div, tz_bI_some, tz_bV_some, or_false, false_or, or_self, and_false, false_and, and_true, true_and, not_true_eq_false, not_false_eq_true, nt_lef, nt_let, nt_ltf, nt_ltt, nt_eqf, nj_m2, nj_m3, nj_m4, nj_m5, nj_m6, nj_m7, tz_bL_some, nj_sub, ng_ltt, ng_let, ng_gtf, ng_gef, e_X12_within, e_X12_isRow, m_no1, m_no2, m_no3, m_no4, m_no5, m_no6, m_no7, e_X12_no10, ob_h (show 4 < 2147483648 by omega) h2]

    · skip
      refine out_ref (v := tz_j 4294967292) 4 (by omega) c ww ?_ (fun A D m => ?_)
      · rw [e_X11_row]
        simp (disch := omega) only [tz_lit, nj_m1, ↓reduceIte, nj_cl, nj_ltt, nj_ltf, nj_let, nj_lef, nj_eqf, nj_lt, nj_le, nj_eq, nj_add, nj_mul, nj_modx, nj_and7, nj_div, tz_bI_some, tz_bV_some, or_false, false_or, or_self, and_false, false_and, and_true, true_and, not_true_eq_false, not_false_eq_true, nt_lef, nt_let, nt_ltf, nt_ltt, nt_eqf, nj_m2, nj_m3, nj_m4, nj_m5, nj_m6, nj_m7, tz_bL_some, nj_sub, ng_ltt, ng_let, ng_gtf, ng_gef, e_X8_has, e_X8_holdsRow, e_X11_isKind, e_X11_isOneOfTwo, e_X11_isWord, x_ref1, x_ref2, x_ref3, x_ref4, x_ref5, x_ref6, x_ref7, e_X11_refuseLower, ob_l h3]
      · rw [e_X12_row]
        simp (disch := omega) only [tz_lit, nj_m1, ↓reduceIte, nj_cl, nj_ltt, nj_ltf, nj_let, nj_lef, nj_eqf, nj_lt, nj_le, nj_eq, nj_add, nj_mul, nj_modx, nj_and7, nj_div, tz_bI_some, tz_bV_some, or_false, false_or, or_self, and_false, false_and, and_true, true_and, not_true_eq_false, not_false_eq_true, nt_lef, nt_let, nt_ltf, nt_ltt, nt_eqf, nj_m2, nj_m3, nj_m4, nj_m5, nj_m6, nj_m7, tz_bL_some, nj_sub, ng_ltt, ng_let, ng_gtf, ng_gef, e_X12_within, e_X12_isRow, m_no1, m_no2, m_no3, m_no4, m_no5, m_no6, m_no7, e_X12_no10, ob_l h3]

    · rcases nj_three x2 4 (by omega) with ⟨t, ht, rfl⟩ | h2 | h2
      · skip
        refine out_ref (v := tz_j 4294967289) 7 (by omega) c ww ?_ (fun A D m => ?_)
        · rw [e_X11_row]
          simp (disch := omega) only [tz_lit, nj_m1, ↓reduceIte, nj_cl, nj_ltt, nj_ltf, nj_let, nj_lef, nj_eqf, nj_lt, nj_le, nj_eq, nj_add, nj_mul, nj_modx, nj_and7, nj_div, tz_bI_some, tz_bV_some, or_false, false_or, or_self, and_false, false_and, and_true, true_and, not_true_eq_false, not_false_eq_true, nt_lef, nt_let, nt_ltf, nt_ltt, nt_eqf, nj_m2, nj_m3, nj_m4, nj_m5, nj_m6, nj_m7, tz_bL_some, nj_sub, ng_ltt, ng_let, ng_gtf, ng_gef, e_X8_has, e_X8_holdsRow, e_X11_isKind, e_X11_isOneOfTwo, e_X11_isWord, x_ref1, x_ref2, x_ref3, x_ref4, x_ref5, x_ref6, x_ref7, e_X11_refuseLower, ob_h (show 161 < 2147483648 by omega) h3]
        · rw [e_X12_row]
          simp (disch := omega) only [tz_lit, nj_m1, ↓reduceIte, nj_cl, nj_ltt, nj_ltf, nj_let, nj_lef, nj_eqf, nj_lt, nj_le, nj_eq, nj_add, nj_mul, nj_modx, nj_and7, nj_div, tz_bI_some, tz_bV_some, or_false, false_or, or_self, and_false, false_and, and_true, true_and, not_true_eq_false, not_false_eq_true, nt_lef, nt_let, nt_ltf, nt_ltt, nt_eqf, nj_m2, nj_m3, nj_m4, nj_m5, nj_m6, nj_m7, tz_bL_some, nj_sub, ng_ltt, ng_let, ng_gtf, ng_gef, e_X12_within, e_X12_isRow, m_no1, m_no2, m_no3, m_no4, m_no5, m_no6, m_no7, e_X12_no10, ob_h (show 161 < 2147483648 by omega) h3]

      · skip
        refine out_ref (v := tz_j 4294967290) 6 (by omega) c ww ?_ (fun A D m => ?_)
        · rw [e_X11_row]
          simp (disch := omega) only [tz_lit, nj_m1, ↓reduceIte, nj_cl, nj_ltt, nj_ltf, nj_let, nj_lef, nj_eqf, nj_lt, nj_le, nj_eq, nj_add, nj_mul, nj_modx, nj_and7, nj_div, tz_bI_some, tz_bV_some, or_false, false_or, or_self, and_false, false_and, and_true, true_and, not_true_eq_false, not_false_eq_true, nt_lef, nt_let, nt_ltf, nt_ltt, nt_eqf, nj_m2, nj_m3, nj_m4, nj_m5, nj_m6, nj_m7, tz_bL_some, nj_sub, ng_ltt, ng_let, ng_gtf, ng_gef, e_X8_has, e_X8_holdsRow, e_X11_isKind, e_X11_isOneOfTwo, e_X11_isWord, x_ref1, x_ref2, x_ref3, x_ref4, x_ref5, x_ref6, x_ref7, e_X11_refuseLower, ob_l h2, ob_h (show 161 < 2147483648 by omega) h3]
        · rw [e_X12_row]
          simp (disch := omega) only [tz_lit, nj_m1, ↓reduceIte, nj_cl, nj_ltt, nj_ltf, nj_let, nj_lef, nj_eqf, nj_lt, nj_le, nj_eq, nj_add, nj_mul, nj_modx, nj_and7, nj_div, tz_bI_some, tz_bV_some, or_false, false_or, or_self, and_false, false_and, and_true, true_and, not_true_eq_false, not_false_eq_true, nt_lef, nt_let, nt_ltf, nt_ltt, nt_eqf, nj_m2, nj_m3, nj_m4, nj_m5, nj_m6, nj_m7, tz_bL_some, nj_sub, ng_ltt, ng_let, ng_gtf, ng_gef, e_X12_within, e_X12_isRow, m_no1, m_no2, m_no3, m_no4, m_no5, m_no6, m_no7, e_X12_no10, ob_l h2, ob_h (show 161 < 2147483648 by omega) h3]

      · skip
        refine out_ref (v := tz_j 4294967290) 6 (by omega) c ww ?_ (fun A D m => ?_)
        · rw [e_X11_row]
          simp (disch := omega) only [tz_lit, nj_m1, ↓reduceIte, nj_cl, nj_ltt, nj_ltf, nj_let, nj_lef, nj_eqf, nj_lt, nj_le, nj_eq, nj_add, nj_mul, nj_modx, nj_and7, nj_div, tz_bI_some, tz_bV_some, or_false, false_or, or_self, and_false, false_and, and_true, true_and, not_true_eq_false, not_false_eq_true, nt_lef, nt_let, nt_ltf, nt_ltt, nt_eqf, nj_m2, nj_m3, nj_m4, nj_m5, nj_m6, nj_m7, tz_bL_some, nj_sub, ng_ltt, ng_let, ng_gtf, ng_gef, e_X8_has, e_X8_holdsRow, e_X11_isKind, e_X11_isOneOfTwo, e_X11_isWord, x_ref1, x_ref2, x_ref3, x_ref4, x_ref5, x_ref6, x_ref7, e_X11_refuseLower, ob_h (show 4 < 2147483648 by omega) h2, ob_h (show 161 < 2147483648 by omega) h3]
        · rw [e_X12_row]
          simp (disch := omega) only [tz_lit, nj_m1, ↓reduceIte, nj_cl, nj_ltt, nj_ltf, nj_let, nj_lef, nj_eqf, nj_lt, nj_le, nj_eq, nj_add, nj_mul, nj_modx, nj_and7, nj_div, tz_bI_some, tz_bV_some, or_false, false_or, or_self, and_false, false_and, and_true, true_and, not_true_eq_false, not_false_eq_true, nt_lef, nt_let, nt_ltf, nt_ltt, nt_eqf, nj_m2, nj_m3, nj_m4, nj_m5, nj_m6, nj_m7, tz_bL_some, nj_sub, ng_ltt, ng_let, ng_gtf, ng_gef, e_X12_within, e_X12_isRow, m_no1, m_no2, m_no3, m_no4, m_no5, m_no6, m_no7, e_X12_no10, ob_h (show 4 < 2147483648 by omega) h2, ob_h (show 161 < 2147483648 by omega) h3]

  · skip
    refine out_ref (v := tz_j 4294967295) 1 (by omega) c ww ?_ (fun A D m => ?_)
    · rw [e_X11_row]
      simp (disch := omega) only [tz_lit, nj_m1, ↓reduceIte, nj_cl, nj_ltt, nj_ltf, nj_let, nj_lef, nj_eqf, nj_lt, nj_le, nj_eq, nj_add, nj_mul, nj_modx, nj_and7, nj_div, tz_bI_some, tz_bV_some, or_false, false_or, or_self, and_false, false_and, and_true, true_and, not_true_eq_false, not_false_eq_true, nt_lef, nt_let, nt_ltf, nt_ltt, nt_eqf, nj_m2, nj_m3, nj_m4, nj_m5, nj_m6, nj_m7, tz_bL_some, nj_sub, ng_ltt, ng_let, ng_gtf, ng_gef, e_X8_has, e_X8_holdsRow, e_X11_isKind, e_X11_isOneOfTwo, e_X11_isWord, x_ref1, x_ref2, x_ref3, x_ref4, x_ref5, x_ref6, x_ref7, e_X11_refuseLower, ob_l h]
    · rw [e_X12_row]
      simp (disch := omega) only [tz_lit, nj_m1, ↓reduceIte, nj_cl, nj_ltt, nj_ltf, nj_let, nj_lef, nj_eqf, nj_lt, nj_le, nj_eq, nj_add, nj_mul, nj_modx, nj_and7, nj_div, tz_bI_some, tz_bV_some, or_false, false_or, or_self, and_false, false_and, and_true, true_and, not_true_eq_false, not_false_eq_true, nt_lef, nt_let, nt_ltf, nt_ltt, nt_eqf, nj_m2, nj_m3, nj_m4, nj_m5, nj_m6, nj_m7, tz_bL_some, nj_sub, ng_ltt, ng_let, ng_gtf, ng_gef, e_X12_within, e_X12_isRow, m_no1, m_no2, m_no3, m_no4, m_no5, m_no6, m_no7, e_X12_no10, ob_l h]

  · skip
    refine out_ref (v := tz_j 4294967295) 1 (by omega) c ww ?_ (fun A D m => ?_)
    · rw [e_X11_row]
      simp (disch := omega) only [tz_lit, nj_m1, ↓reduceIte, nj_cl, nj_ltt, nj_ltf, nj_let, nj_lef, nj_eqf, nj_lt, nj_le, nj_eq, nj_add, nj_mul, nj_modx, nj_and7, nj_div, tz_bI_some, tz_bV_some, or_false, false_or, or_self, and_false, false_and, and_true, true_and, not_true_eq_false, not_false_eq_true, nt_lef, nt_let, nt_ltf, nt_ltt, nt_eqf, nj_m2, nj_m3, nj_m4, nj_m5, nj_m6, nj_m7, tz_bL_some, nj_sub, ng_ltt, ng_let, ng_gtf, ng_gef, e_X8_has, e_X8_holdsRow, e_X11_isKind, e_X11_isOneOfTwo, e_X11_isWord, x_ref1, x_ref2, x_ref3, x_ref4, x_ref5, x_ref6, x_ref7, e_X11_refuseLower, ob_h (show 8 < 2147483648 by omega) h]
    · rw [e_X12_row]
      simp (disch := omega) only [tz_lit, nj_m1, ↓reduceIte, nj_cl, nj_ltt, nj_ltf, nj_let, nj_lef, nj_eqf, nj_lt, nj_le, nj_eq, nj_add, nj_mul, nj_modx, nj_and7, nj_div, tz_bI_some, tz_bV_some, or_false, false_or, or_self, and_false, false_and, and_true, true_and, not_true_eq_false, not_false_eq_true, nt_lef, nt_let, nt_ltf, nt_ltt, nt_eqf, nj_m2, nj_m3, nj_m4, nj_m5, nj_m6, nj_m7, tz_bL_some, nj_sub, ng_ltt, ng_let, ng_gtf, ng_gef, e_X12_within, e_X12_isRow, m_no1, m_no2, m_no3, m_no4, m_no5, m_no6, m_no7, e_X12_no10, ob_h (show 8 < 2147483648 by omega) h]

theorem p_holds (x1 : Int32) : tz_twoI tz_J (f_X11_holds x1) (f_X12_holds x1) := by
  refine two_of (fun N S K U V A hN c ww => ?_)
  rcases nj_three x1 8 (by omega) with ⟨s, hs, rfl⟩ | h | h
  · have q := (c.2.2.1.1 s hs).1
    refine out_pure (v := U 0 s) c ww ?_ (fun A D m => ?_)
    · rw [e_X11_holds]
      simp (disch := omega) only [tz_lit, nj_m1, ↓reduceIte, nj_cl, nj_ltt, nj_ltf, nj_let, nj_lef, nj_eqf, nj_lt, nj_le, nj_eq, nj_add, nj_mul, nj_modx, nj_and7, nj_div, tz_bI_some, tz_bV_some, or_false, false_or, or_self, and_false, false_and, and_true, true_and, not_true_eq_false, not_false_eq_true, nt_lef, nt_let, nt_ltf, nt_ltt, nt_eqf, nj_m2, nj_m3, nj_m4, nj_m5, nj_m6, nj_m7, tz_bL_some, nj_sub, ng_ltt, ng_let, ng_gtf, ng_gef, e_X8_has, q]
    · have p := (m.2.2.1.1 s hs).1
      rw [e_X12_holds]
      simp (disch := omega) only [tz_lit, nj_m1, ↓reduceIte, nj_cl, nj_ltt, nj_ltf, nj_let, nj_lef, nj_eqf, nj_lt, nj_le, nj_eq, nj_add, nj_mul, nj_modx, nj_and7, nj_div, tz_bI_some, tz_bV_some, or_false, false_or, or_self, and_false, false_and, and_true, true_and, not_true_eq_false, not_false_eq_true, nt_lef, nt_let, nt_ltf, nt_ltt, nt_eqf, nj_m2, nj_m3, nj_m4, nj_m5, nj_m6, nj_m7, tz_bL_some, nj_sub, ng_ltt, ng_let, ng_gtf, ng_gef, e_X12_within, p]
  · skip
    refine out_pure (v := tz_j 4294967295) c ww ?_ (fun A D m => ?_)
    · rw [e_X11_holds]
      simp (disch := omega) only [tz_lit, nj_m1, ↓reduceIte, nj_cl, nj_ltt, nj_ltf, nj_let, nj_lef, nj_eqf, nj_lt, nj_le, nj_eq, nj_add, nj_mul, nj_modx, nj_and7, nj_div, tz_bI_some, tz_bV_some, or_false, false_or, or_self, and_false, false_and, and_true, true_and, not_true_eq_false, not_false_eq_true, nt_lef, nt_let, nt_ltf, nt_ltt, nt_eqf, nj_m2, nj_m3, nj_m4, nj_m5, nj_m6, nj_m7, tz_bL_some, nj_sub, ng_ltt, ng_let, ng_gtf, ng_gef, e_X8_has, e_X8_holdsRow, e_X11_isKind, e_X11_isOneOfTwo, e_X11_isWord, x_ref1, x_ref2, x_ref3, x_ref4, x_ref5, x_ref6, x_ref7, e_X11_refuseLower, ob_l h]
    · rw [e_X12_holds]
      simp (disch := omega) only [tz_lit, nj_m1, ↓reduceIte, nj_cl, nj_ltt, nj_ltf, nj_let, nj_lef, nj_eqf, nj_lt, nj_le, nj_eq, nj_add, nj_mul, nj_modx, nj_and7, nj_div, tz_bI_some, tz_bV_some, or_false, false_or, or_self, and_false, false_and, and_true, true_and, not_true_eq_false, not_false_eq_true, nt_lef, nt_let, nt_ltf, nt_ltt, nt_eqf, nj_m2, nj_m3, nj_m4, nj_m5, nj_m6, nj_m7, tz_bL_some, nj_sub, ng_ltt, ng_let, ng_gtf, ng_gef, e_X12_within, e_X12_isRow, m_no1, m_no2, m_no3, m_no4, m_no5, m_no6, m_no7, e_X12_no10, ob_l h]

  · skip
    refine out_pure (v := tz_j 4294967295) c ww ?_ (fun A D m => ?_)
    · rw [e_X11_holds]
      simp (disch := omega) only [tz_lit, nj_m1, ↓reduceIte, nj_cl, nj_ltt, nj_ltf, nj_let, nj_lef, nj_eqf, nj_lt, nj_le, nj_eq, nj_add, nj_mul, nj_modx, nj_and7, nj_div, tz_bI_some, tz_bV_some, or_false, false_or, or_self, and_false, false_and, and_true, true_and, not_true_eq_false, not_false_eq_true, nt_lef, nt_let, nt_ltf, nt_ltt, nt_eqf, nj_m2, nj_m3, nj_m4, nj_m5, nj_m6, nj_m7, tz_bL_some, nj_sub, ng_ltt, ng_let, ng_gtf, ng_gef, e_X8_has, e_X8_holdsRow, e_X11_isKind, e_X11_isOneOfTwo, e_X11_isWord, x_ref1, x_ref2, x_ref3, x_ref4, x_ref5, x_ref6, x_ref7, e_X11_refuseLower, ob_h (show 8 < 2147483648 by omega) h]
    · rw [e_X12_holds]
      simp (disch := omega) only [tz_lit, nj_m1, ↓reduceIte, nj_cl, nj_ltt, nj_ltf, nj_let, nj_lef, nj_eqf, nj_lt, nj_le, nj_eq, nj_add, nj_mul, nj_modx, nj_and7, nj_div, tz_bI_some, tz_bV_some, or_false, false_or, or_self, and_false, false_and, and_true, true_and, not_true_eq_false, not_false_eq_true, nt_lef, nt_let, nt_ltf, nt_ltt, nt_eqf, nj_m2, nj_m3, nj_m4, nj_m5, nj_m6, nj_m7, tz_bL_some, nj_sub, ng_ltt, ng_let, ng_gtf, ng_gef, e_X12_within, e_X12_isRow, m_no1, m_no2, m_no3, m_no4, m_no5, m_no6, m_no7, e_X12_no10, ob_h (show 8 < 2147483648 by omega) h]

theorem lg_rw {U : tz_U} {S : tz_S} {s : Nat} (h : wu S U) (hs : s < 8) : (U 0 s = tz_j 4294967295 ∨ (∃ h, h < S 1 0 ∧ U 0 s = tz_j h) ∨ (∃ t, t < 4 ∧ U 0 s = tz_j (100 + t))) ∧ ∃ l, l ≤ 160 ∧ U 1 s = tz_j l := h.1 s hs
theorem two_ofL {F G : tz_Mem → tz_X} (h : ∀ N S K U V A, N ≤ 1100000 → CX S K U V A → WX N S K U → ∃ v, F A = some (some (.long v), A) ∧ ∀ A D, MX D S K U V A → G A = some (some (.long v), A)) : tz_twoL tz_J F G := by
  intro n A hn hJ
  obtain ⟨hA, S, K, U, V, D, c, m, ww⟩ := hJ
  obtain ⟨v, e1, hM⟩ := h (2000 * n) S K U V A (by omega) c ww
  refine ⟨v, A, A, e1, c.2.2.2, ⟨rfl, fun i => rfl⟩, hM A D m, ⟨rfl, fun i => rfl⟩, ?_, S, K, U, V, D, c, m, WX_mo ww (by omega)⟩
  omega
theorem p_element (x1 x2 : Int32) : tz_twoL tz_J (f_X11_element x1 x2) (f_X12_element x1 x2) := by
  refine two_ofL (fun N S K U V A hN c ww => ?_)
  have h8 := ww.1.1.1
  rcases nj_three x1 8 (by omega) with ⟨s, hs, rfl⟩ | h | h
  · obtain ⟨hu, l, hl, hl1⟩ := lg_rw ww.2.2.2.2 hs
    obtain ⟨q, q1, q2⟩ := c.2.2.1.1 s hs
    rw [hl1] at q1
    rcases hu with z | ⟨h, hh, z⟩ | ⟨t, ht, z⟩
    · rw [z] at q
      refine ⟨0, ?_, fun A D m => ?_⟩
      · rw [e_X11_element]
        simp (disch := omega) only [tz_lit, nj_m1, ↓reduceIte, nj_cl, nj_ltt, nj_ltf, nj_let, nj_lef, nj_eqf, nj_lt, nj_le, nj_eq, nj_add, nj_mul, nj_modx, nj_and7, nj_div, tz_bI_some, tz_bV_some, or_false, false_or, or_self, and_false, false_and, and_true, true_and, not_true_eq_false, not_false_eq_true, nt_lef, nt_let, nt_ltf, nt_ltt, nt_eqf, nj_m2, nj_m3, nj_m4, nj_m5, nj_m6, nj_m7, tz_bL_some, nj_sub, ng_ltt, ng_let, ng_gtf, ng_gef, e_X8_hasElement, e_X8_has, e_X8_holdsRow, q]
      · have p := (m.2.2.1.1 s hs).1
        rw [z] at p
        rw [e_X12_element]
        simp (disch := omega) only [tz_lit, nj_m1, ↓reduceIte, nj_cl, nj_ltt, nj_ltf, nj_let, nj_lef, nj_eqf, nj_lt, nj_le, nj_eq, nj_add, nj_mul, nj_modx, nj_and7, nj_div, tz_bI_some, tz_bV_some, or_false, false_or, or_self, and_false, false_and, and_true, true_and, not_true_eq_false, not_false_eq_true, nt_lef, nt_let, nt_ltf, nt_ltt, nt_eqf, nj_m2, nj_m3, nj_m4, nj_m5, nj_m6, nj_m7, tz_bL_some, nj_sub, ng_ltt, ng_let, ng_gtf, ng_gef, e_X12_within, e_X12_isRow, p]
    · rw [z] at q
      refine ⟨0, ?_, fun A D m => ?_⟩
      · rw [e_X11_element]
        simp (disch := omega) only [tz_lit, nj_m1, ↓reduceIte, nj_cl, nj_ltt, nj_ltf, nj_let, nj_lef, nj_eqf, nj_lt, nj_le, nj_eq, nj_add, nj_mul, nj_modx, nj_and7, nj_div, tz_bI_some, tz_bV_some, or_false, false_or, or_self, and_false, false_and, and_true, true_and, not_true_eq_false, not_false_eq_true, nt_lef, nt_let, nt_ltf, nt_ltt, nt_eqf, nj_m2, nj_m3, nj_m4, nj_m5, nj_m6, nj_m7, tz_bL_some, nj_sub, ng_ltt, ng_let, ng_gtf, ng_gef, e_X8_hasElement, e_X8_has, e_X8_holdsRow, q]
      · have p := (m.2.2.1.1 s hs).1
        rw [z] at p
        rw [e_X12_element]
        simp (disch := omega) only [tz_lit, nj_m1, ↓reduceIte, nj_cl, nj_ltt, nj_ltf, nj_let, nj_lef, nj_eqf, nj_lt, nj_le, nj_eq, nj_add, nj_mul, nj_modx, nj_and7, nj_div, tz_bI_some, tz_bV_some, or_false, false_or, or_self, and_false, false_and, and_true, true_and, not_true_eq_false, not_false_eq_true, nt_lef, nt_let, nt_ltf, nt_ltt, nt_eqf, nj_m2, nj_m3, nj_m4, nj_m5, nj_m6, nj_m7, tz_bL_some, nj_sub, ng_ltt, ng_let, ng_gtf, ng_gef, e_X12_within, e_X12_isRow, p]
    · rw [z] at q
      rcases nj_three x2 l (by omega) with ⟨i, hi, rfl⟩ | h2
      · refine ⟨V s i, ?_, fun A D m => ?_⟩
        · have q3 := q2 i (by omega)
          rw [e_X11_element]
          simp (disch := omega) only [tz_lit, nj_m1, ↓reduceIte, nj_cl, nj_ltt, nj_ltf, nj_let, nj_lef, nj_eqf, nj_lt, nj_le, nj_eq, nj_add, nj_mul, nj_modx, nj_and7, nj_div, tz_bI_some, tz_bV_some, or_false, false_or, or_self, and_false, false_and, and_true, true_and, not_true_eq_false, not_false_eq_true, nt_lef, nt_let, nt_ltf, nt_ltt, nt_eqf, nj_m2, nj_m3, nj_m4, nj_m5, nj_m6, nj_m7, tz_bL_some, nj_sub, ng_ltt, ng_let, ng_gtf, ng_gef, e_X8_hasElement, e_X8_has, e_X8_holdsRow, q, q1, q3]
        · obtain ⟨p, p1, p2⟩ := m.2.2.1.1 s hs
          rw [z] at p
          rw [hl1] at p1
          have p3 := p2 i (by omega)
          have e3 := wi_i (A := A) (show l ≤ 1000 by omega) hi
          have e4 : f_X12_within (tz_j s) (tz_j 0) (tz_j 7) A = some (some (.int (tz_j 1)), A) := by
            rw [e_X12_within]
            simp (disch := omega) only [tz_lit, nj_m1, ↓reduceIte, nj_cl, nj_ltt, nj_ltf, nj_let, nj_lef, nj_eqf, nj_lt, nj_le, nj_eq, nj_add, nj_mul, nj_modx, nj_and7, nj_div, tz_bI_some, tz_bV_some, or_false, false_or, or_self, and_false, false_and, and_true, true_and, not_true_eq_false, not_false_eq_true, nt_lef, nt_let, nt_ltf, nt_ltt, nt_eqf, nj_m2, nj_m3, nj_m4, nj_m5, nj_m6, nj_m7, tz_bL_some, nj_sub, ng_ltt, ng_let, ng_gtf, ng_gef]
          rw [e_X12_element]
          simp only [tz_lit, e4, tz_bI_some, e_X12_isRow]
          simp (disch := omega) only [tz_lit, nj_m1, ↓reduceIte, nj_cl, nj_ltt, nj_ltf, nj_let, nj_lef, nj_eqf, nj_lt, nj_le, nj_eq, nj_add, nj_mul, nj_modx, nj_and7, nj_div, tz_bI_some, tz_bV_some, or_false, false_or, or_self, and_false, false_and, and_true, true_and, not_true_eq_false, not_false_eq_true, nt_lef, nt_let, nt_ltf, nt_ltt, nt_eqf, nj_m2, nj_m3, nj_m4, nj_m5, nj_m6, nj_m7, tz_bL_some, ng_ltt, ng_let, ng_gtf, ng_gef, p, p1, p3, e3]
      · refine ⟨0, ?_, fun A D m => ?_⟩
        · rw [e_X11_element]
          rcases h2 with h2 | h2
          · simp (disch := omega) only [tz_lit, nj_m1, ↓reduceIte, nj_cl, nj_ltt, nj_ltf, nj_let, nj_lef, nj_eqf, nj_lt, nj_le, nj_eq, nj_add, nj_mul, nj_modx, nj_and7, nj_div, tz_bI_some, tz_bV_some, or_false, false_or, or_self, and_false, false_and, and_true, true_and, not_true_eq_false, not_false_eq_true, nt_lef, nt_let, nt_ltf, nt_ltt, nt_eqf, nj_m2, nj_m3, nj_m4, nj_m5, nj_m6, nj_m7, tz_bL_some, nj_sub, ng_ltt, ng_let, ng_gtf, ng_gef, e_X8_hasElement, e_X8_has, e_X8_holdsRow, q, q1, ob_l h2]
          · simp (disch := omega) only [tz_lit, nj_m1, ↓reduceIte, nj_cl, nj_ltt, nj_ltf, nj_let, nj_lef, nj_eqf, nj_lt, nj_le, nj_eq, nj_add, nj_mul, nj_modx, nj_and7, nj_div, tz_bI_some, tz_bV_some, or_false, false_or, or_self, and_false, false_and, and_true, true_and, not_true_eq_false, not_false_eq_true, nt_lef, nt_let, nt_ltf, nt_ltt, nt_eqf, nj_m2, nj_m3, nj_m4, nj_m5, nj_m6, nj_m7, tz_bL_some, nj_sub, ng_ltt, ng_let, ng_gtf, ng_gef, e_X8_hasElement, e_X8_has, e_X8_holdsRow, q, q1, ob_h (show l < 2147483648 by omega) h2]
        · obtain ⟨p, p1, p2⟩ := m.2.2.1.1 s hs
          rw [z] at p
          rw [hl1] at p1
          have e3 := wi_o (A := A) (show l ≤ 1000 by omega) h2
          have e4 : f_X12_within (tz_j s) (tz_j 0) (tz_j 7) A = some (some (.int (tz_j 1)), A) := by
            rw [e_X12_within]
            simp (disch := omega) only [tz_lit, nj_m1, ↓reduceIte, nj_cl, nj_ltt, nj_ltf, nj_let, nj_lef, nj_eqf, nj_lt, nj_le, nj_eq, nj_add, nj_mul, nj_modx, nj_and7, nj_div, tz_bI_some, tz_bV_some, or_false, false_or, or_self, and_false, false_and, and_true, true_and, not_true_eq_false, not_false_eq_true, nt_lef, nt_let, nt_ltf, nt_ltt, nt_eqf, nj_m2, nj_m3, nj_m4, nj_m5, nj_m6, nj_m7, tz_bL_some, nj_sub, ng_ltt, ng_let, ng_gtf, ng_gef]
          rw [e_X12_element]
          simp only [tz_lit, e4, tz_bI_some, e_X12_isRow]
          simp (disch := omega) only [tz_lit, nj_m1, ↓reduceIte, nj_cl, nj_ltt, nj_ltf, nj_let, nj_lef, nj_eqf, nj_lt, nj_le, nj_eq, nj_add, nj_mul, nj_modx, nj_and7, nj_div, tz_bI_some, tz_bV_some, or_false, false_or, or_self, and_false, false_and, and_true, true_and, not_true_eq_false, not_false_eq_true, nt_lef, nt_let, nt_ltf, nt_ltt, nt_eqf, nj_m2, nj_m3, nj_m4, nj_m5, nj_m6, nj_m7, tz_bL_some, ng_ltt, ng_let, ng_gtf, ng_gef, p, p1, e3]
  · refine ⟨0, ?_, fun A D m => ?_⟩
    · rw [e_X11_element]
      simp (disch := omega) only [tz_lit, nj_m1, ↓reduceIte, nj_cl, nj_ltt, nj_ltf, nj_let, nj_lef, nj_eqf, nj_lt, nj_le, nj_eq, nj_add, nj_mul, nj_modx, nj_and7, nj_div, tz_bI_some, tz_bV_some, or_false, false_or, or_self, and_false, false_and, and_true, true_and, not_true_eq_false, not_false_eq_true, nt_lef, nt_let, nt_ltf, nt_ltt, nt_eqf, nj_m2, nj_m3, nj_m4, nj_m5, nj_m6, nj_m7, tz_bL_some, nj_sub, ng_ltt, ng_let, ng_gtf, ng_gef, e_X8_hasElement, e_X8_has, ob_l h]
    · rw [e_X12_element]
      simp (disch := omega) only [tz_lit, nj_m1, ↓reduceIte, nj_cl, nj_ltt, nj_ltf, nj_let, nj_lef, nj_eqf, nj_lt, nj_le, nj_eq, nj_add, nj_mul, nj_modx, nj_and7, nj_div, tz_bI_some, tz_bV_some, or_false, false_or, or_self, and_false, false_and, and_true, true_and, not_true_eq_false, not_false_eq_true, nt_lef, nt_let, nt_ltf, nt_ltt, nt_eqf, nj_m2, nj_m3, nj_m4, nj_m5, nj_m6, nj_m7, tz_bL_some, nj_sub, ng_ltt, ng_let, ng_gtf, ng_gef, e_X12_within, ob_l h]
  · refine ⟨0, ?_, fun A D m => ?_⟩
    · rw [e_X11_element]
      simp (disch := omega) only [tz_lit, nj_m1, ↓reduceIte, nj_cl, nj_ltt, nj_ltf, nj_let, nj_lef, nj_eqf, nj_lt, nj_le, nj_eq, nj_add, nj_mul, nj_modx, nj_and7, nj_div, tz_bI_some, tz_bV_some, or_false, false_or, or_self, and_false, false_and, and_true, true_and, not_true_eq_false, not_false_eq_true, nt_lef, nt_let, nt_ltf, nt_ltt, nt_eqf, nj_m2, nj_m3, nj_m4, nj_m5, nj_m6, nj_m7, tz_bL_some, nj_sub, ng_ltt, ng_let, ng_gtf, ng_gef, e_X8_hasElement, e_X8_has, ob_h (show 8 < 2147483648 by omega) h]
    · rw [e_X12_element]
      simp (disch := omega) only [tz_lit, nj_m1, ↓reduceIte, nj_cl, nj_ltt, nj_ltf, nj_let, nj_lef, nj_eqf, nj_lt, nj_le, nj_eq, nj_add, nj_mul, nj_modx, nj_and7, nj_div, tz_bI_some, tz_bV_some, or_false, false_or, or_self, and_false, false_and, and_true, true_and, not_true_eq_false, not_false_eq_true, nt_lef, nt_let, nt_ltf, nt_ltt, nt_eqf, nj_m2, nj_m3, nj_m4, nj_m5, nj_m6, nj_m7, tz_bL_some, nj_sub, ng_ltt, ng_let, ng_gtf, ng_gef, e_X12_within, ob_h (show 8 < 2147483648 by omega) h]
theorem out_show {N : Nat} {S K : tz_S} {U : tz_U} {V : tz_V} {F G : tz_Mem → tz_X} {A : tz_Mem} {v x : Int32} {s : Nat} (hs : s < 8) (hx : x = tz_j 4294967295 ∨ ∃ h, h < S 1 0 ∧ x = tz_j h) (c : CX S K U V A) (ww : WX N S K U) (hF : F A = some (some (.int v), tz_s A 19 s x)) (hG : ∀ A D, MX D S K U V A → G A = some (some (.int v), tz_s A 158 s x)) : two_R N S K U V F G A := by
  refine ⟨v, S, K, tz_u U 0 s x, V, ⟨_, hF, CX_sh c rfl (fun k i a b => tz_gsk a) (fun k i => rfl) (fun k i a b => tz_uk a) (fun s' hs' => ⟨?_, ?_, ?_⟩), cf_s (by omega)⟩, ⟨(WX_mo (M := N + 2000) ww (by omega)).1, ww.2.1, (WX_mo (M := N + 2000) ww (by omega)).2.2.1, ww.2.2.2.1, ?_⟩, fun A D m => ⟨_, D, hG A D m, MX_sh m rfl (fun k i a b => tz_gsk a) (fun k i a b => tz_uk a) (fun s' hs' => ⟨?_, ?_, ?_⟩), mf_s (by omega)⟩⟩
  · rw [tz_gS, tz_ua]
    by_cases z : s' = s
    · rw [if_pos ⟨rfl, z⟩, if_pos ⟨rfl, z⟩]
    · rw [if_neg (fun q => z q.2), if_neg (fun q => z q.2)]
      exact (c.2.2.1.1 s' hs').1
  · rw [tz_gsk (by omega), tz_uk (by omega)]
    exact (c.2.2.1.1 s' hs').2.1
  · exact (c.2.2.1.1 s' hs').2.2
  · obtain ⟨a, b, d⟩ := ww.2.2.2.2
    refine ⟨fun s' hs' => ⟨?_, ?_⟩, by rw [tz_uk (by omega)]; exact b, by rw [tz_uk (by omega)]; exact d⟩
    · rw [tz_ua]
      by_cases z : s' = s
      · rw [if_pos ⟨rfl, z⟩]
        rcases hx with hx | hx
        · exact Or.inl hx
        · exact Or.inr (Or.inl hx)
      · rw [if_neg (fun q => z q.2)]
        exact (a s' hs').1
    · rw [tz_uk (by omega)]
      exact (a s' hs').2
  · rw [tz_gS, tz_ua]
    by_cases z : s' = s
    · rw [if_pos ⟨rfl, z⟩, if_pos ⟨rfl, z⟩]
    · rw [if_neg (fun q => z q.2), if_neg (fun q => z q.2)]
      exact (m.2.2.1.1 s' hs').1
  · rw [tz_gsk (by omega), tz_uk (by omega)]
    exact (m.2.2.1.1 s' hs').2.1
  · exact (m.2.2.1.1 s' hs').2.2
theorem p_show (x1 x2 : Int32) : tz_twoI tz_J (f_X11_show x1 x2) (f_X12_show x1 x2) := by
  refine two_of (fun N S K U V A hN c ww => ?_)
  have h8 := ww.1.1.1
  rcases nj_three x1 8 (by omega) with ⟨s, hs, rfl⟩ | h | h
  · by_cases z : x2 = tz_j 4294967295
    · subst z
      refine out_show (v := tz_j 0) hs (Or.inl rfl) c ww ?_ (fun A D m => ?_)
      · rw [e_X11_show]
        simp (disch := omega) only [tz_lit, nj_m1, ↓reduceIte, nj_cl, nj_ltt, nj_ltf, nj_let, nj_lef, nj_eqf, nj_lt, nj_le, nj_eq, nj_add, nj_mul, nj_modx, nj_and7, nj_div, tz_bI_some, tz_bV_some, or_false, false_or, or_self, and_false, false_and, and_true, true_and, not_true_eq_false, not_false_eq_true, nt_lef, nt_let, nt_ltf, nt_ltt, nt_eqf, nj_m2, nj_m3, nj_m4, nj_m5, nj_m6, nj_m7, tz_bL_some, nj_sub, ng_ltt, ng_let, ng_gtf, ng_gef, e_X8_has]
      · rw [e_X12_show]
        simp (disch := omega) only [tz_lit, nj_m1, ↓reduceIte, nj_cl, nj_ltt, nj_ltf, nj_let, nj_lef, nj_eqf, nj_lt, nj_le, nj_eq, nj_add, nj_mul, nj_modx, nj_and7, nj_div, tz_bI_some, tz_bV_some, or_false, false_or, or_self, and_false, false_and, and_true, true_and, not_true_eq_false, not_false_eq_true, nt_lef, nt_let, nt_ltf, nt_ltt, nt_eqf, nj_m2, nj_m3, nj_m4, nj_m5, nj_m6, nj_m7, tz_bL_some, nj_sub, ng_ltt, ng_let, ng_gtf, ng_gef, e_X12_within]
    · rcases nj_three x2 (S 1 0) (by omega) with ⟨h, hh, rfl⟩ | h
      · have e1 := x_hash1 (Or.inl rfl) c.1.1 hh (by omega)
        refine out_show (v := tz_j 1) hs (Or.inr ⟨h, hh, rfl⟩) c ww ?_ (fun A D m => ?_)
        · rw [e_X11_show]
          simp (disch := omega) only [tz_lit, nj_m1, ↓reduceIte, nj_cl, nj_ltt, nj_ltf, nj_let, nj_lef, nj_eqf, nj_lt, nj_le, nj_eq, nj_add, nj_mul, nj_modx, nj_and7, nj_div, tz_bI_some, tz_bV_some, or_false, false_or, or_self, and_false, false_and, and_true, true_and, not_true_eq_false, not_false_eq_true, nt_lef, nt_let, nt_ltf, nt_ltt, nt_eqf, nj_m2, nj_m3, nj_m4, nj_m5, nj_m6, nj_m7, tz_bL_some, nj_sub, ng_ltt, ng_let, ng_gtf, ng_gef, e_X8_has, e1]
        · have e2 := m_hash1 m.1.1 hh (by omega)
          rw [e_X12_show]
          simp (disch := omega) only [tz_lit, nj_m1, ↓reduceIte, nj_cl, nj_ltt, nj_ltf, nj_let, nj_lef, nj_eqf, nj_lt, nj_le, nj_eq, nj_add, nj_mul, nj_modx, nj_and7, nj_div, tz_bI_some, tz_bV_some, or_false, false_or, or_self, and_false, false_and, and_true, true_and, not_true_eq_false, not_false_eq_true, nt_lef, nt_let, nt_ltf, nt_ltt, nt_eqf, nj_m2, nj_m3, nj_m4, nj_m5, nj_m6, nj_m7, tz_bL_some, nj_sub, ng_ltt, ng_let, ng_gtf, ng_gef, e_X12_within, e2]
      · have e1 := x_hash0 (Or.inl rfl) c.1.1 h (by omega)
        refine out_ref (v := tz_j 4294967295) 1 (by omega) c ww ?_ (fun A D m => ?_)
        · rw [e_X11_show]
          simp (disch := omega) only [tz_lit, nj_m1, ↓reduceIte, nj_cl, nj_ltt, nj_ltf, nj_let, nj_lef, nj_eqf, nj_lt, nj_le, nj_eq, nj_add, nj_mul, nj_modx, nj_and7, nj_div, tz_bI_some, tz_bV_some, or_false, false_or, or_self, and_false, false_and, and_true, true_and, not_true_eq_false, not_false_eq_true, nt_lef, nt_let, nt_ltf, nt_ltt, nt_eqf, nj_m2, nj_m3, nj_m4, nj_m5, nj_m6, nj_m7, tz_bL_some, nj_sub, ng_ltt, ng_let, ng_gtf, ng_gef, e_X8_has, e1, if_neg z, x_ref1, x_ref2, x_ref3, x_ref4, x_ref5, x_ref6, x_ref7, e_X11_refuseLower]
        · have e2 := m_hash0 m.1.1 h (by omega)
          rw [e_X12_show]
          simp (disch := omega) only [tz_lit, nj_m1, ↓reduceIte, nj_cl, nj_ltt, nj_ltf, nj_let, nj_lef, nj_eqf, nj_lt, nj_le, nj_eq, nj_add, nj_mul, nj_modx, nj_and7, nj_div, tz_bI_some, tz_bV_some, or_false, false_or, or_self, and_false, false_and, and_true, true_and, not_true_eq_false, not_false_eq_true, nt_lef, nt_let, nt_ltf, nt_ltt, nt_eqf, nj_m2, nj_m3, nj_m4, nj_m5, nj_m6, nj_m7, tz_bL_some, nj_sub, ng_ltt, ng_let, ng_gtf, ng_gef, e_X12_within, e2, if_neg z, m_no1, m_no2, m_no3, m_no4, m_no5, m_no6, m_no7, e_X12_no10]
  · skip
    refine out_ref (v := tz_j 4294967295) 1 (by omega) c ww ?_ (fun A D m => ?_)
    · rw [e_X11_show]
      simp (disch := omega) only [tz_lit, nj_m1, ↓reduceIte, nj_cl, nj_ltt, nj_ltf, nj_let, nj_lef, nj_eqf, nj_lt, nj_le, nj_eq, nj_add, nj_mul, nj_modx, nj_and7, nj_div, tz_bI_some, tz_bV_some, or_false, false_or, or_self, and_false, false_and, and_true, true_and, not_true_eq_false, not_false_eq_true, nt_lef, nt_let, nt_ltf, nt_ltt, nt_eqf, nj_m2, nj_m3, nj_m4, nj_m5, nj_m6, nj_m7, tz_bL_some, nj_sub, ng_ltt, ng_let, ng_gtf, ng_gef, e_X8_has, e_X8_holdsRow, e_X11_isKind, e_X11_isOneOfTwo, e_X11_isWord, x_ref1, x_ref2, x_ref3, x_ref4, x_ref5, x_ref6, x_ref7, e_X11_refuseLower, ob_l h]
    · rw [e_X12_show]
      simp (disch := omega) only [tz_lit, nj_m1, ↓reduceIte, nj_cl, nj_ltt, nj_ltf, nj_let, nj_lef, nj_eqf, nj_lt, nj_le, nj_eq, nj_add, nj_mul, nj_modx, nj_and7, nj_div, tz_bI_some, tz_bV_some, or_false, false_or, or_self, and_false, false_and, and_true, true_and, not_true_eq_false, not_false_eq_true, nt_lef, nt_let, nt_ltf, nt_ltt, nt_eqf, nj_m2, nj_m3, nj_m4, nj_m5, nj_m6, nj_m7, tz_bL_some, nj_sub, ng_ltt, ng_let, ng_gtf, ng_gef, e_X12_within, e_X12_isRow, m_no1, m_no2, m_no3, m_no4, m_no5, m_no6, m_no7, e_X12_no10, ob_l h]

  · skip
    refine out_ref (v := tz_j 4294967295) 1 (by omega) c ww ?_ (fun A D m => ?_)
    · rw [e_X11_show]
      simp (disch := omega) only [tz_lit, nj_m1, ↓reduceIte, nj_cl, nj_ltt, nj_ltf, nj_let, nj_lef, nj_eqf, nj_lt, nj_le, nj_eq, nj_add, nj_mul, nj_modx, nj_and7, nj_div, tz_bI_some, tz_bV_some, or_false, false_or, or_self, and_false, false_and, and_true, true_and, not_true_eq_false, not_false_eq_true, nt_lef, nt_let, nt_ltf, nt_ltt, nt_eqf, nj_m2, nj_m3, nj_m4, nj_m5, nj_m6, nj_m7, tz_bL_some, nj_sub, ng_ltt, ng_let, ng_gtf, ng_gef, e_X8_has, e_X8_holdsRow, e_X11_isKind, e_X11_isOneOfTwo, e_X11_isWord, x_ref1, x_ref2, x_ref3, x_ref4, x_ref5, x_ref6, x_ref7, e_X11_refuseLower, ob_h (show 8 < 2147483648 by omega) h]
    · rw [e_X12_show]
      simp (disch := omega) only [tz_lit, nj_m1, ↓reduceIte, nj_cl, nj_ltt, nj_ltf, nj_let, nj_lef, nj_eqf, nj_lt, nj_le, nj_eq, nj_add, nj_mul, nj_modx, nj_and7, nj_div, tz_bI_some, tz_bV_some, or_false, false_or, or_self, and_false, false_and, and_true, true_and, not_true_eq_false, not_false_eq_true, nt_lef, nt_let, nt_ltf, nt_ltt, nt_eqf, nj_m2, nj_m3, nj_m4, nj_m5, nj_m6, nj_m7, tz_bL_some, nj_sub, ng_ltt, ng_let, ng_gtf, ng_gef, e_X12_within, e_X12_isRow, m_no1, m_no2, m_no3, m_no4, m_no5, m_no6, m_no7, e_X12_no10, ob_h (show 8 < 2147483648 by omega) h]

