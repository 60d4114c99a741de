/-! thought: hours behind, arrivals, what is needed, postage -/
theorem h30 : tz_sky 30 := Or.inl rfl
theorem h76 : tz_sky 76 := Or.inr (Or.inr (Or.inl rfl))
theorem h99 : tz_sky 99 := Or.inr (Or.inr (Or.inr (Or.inl rfl)))
theorem th_b {k i : Nat} (h : bc_p 76 k i) : th_p k i := by
  unfold bc_p at h
  unfold th_p
  omega
theorem th_r {k i : Nat} (h : rx_p 76 k i) : th_p k i := by
  unfold rx_p at h
  unfold th_p
  omega
/-- a letter's hours till it is there -/
def sp_ar (l : Nat) : Nat → tz_S → tz_S
  | 0, S => S
  | k + 1, S => if S 20 l < 200 then sp_ar l k (sp_tk S) else S
theorem ar_G {l : Nat} : ∀ k N S, sp_H N S → sp_H (N + k) (sp_ar l k S) ∧ ∀ k' i, sp_kp k' i → k' ≠ 0 ∨ i ≠ 3 → sp_ar l k S k' i = S k' i := by
  intro k
  induction k with
  | zero => exact fun N S H => ⟨H, fun _ _ _ _ => rfl⟩
  | succ k ih =>
    intro N S H
    show sp_H _ (if S 20 l < 200 then sp_ar l k (sp_tk S) else S) ∧ ∀ k' i, sp_kp k' i → k' ≠ 0 ∨ i ≠ 3 → (if S 20 l < 200 then sp_ar l k (sp_tk S) else S) k' i = S k' i
    split
    · obtain ⟨g1, g2, g3⟩ := tk_G H
      obtain ⟨i1, i2⟩ := ih (N + 1) _ g1
      exact ⟨by rw [show N + (k + 1) = N + 1 + k by omega]; exact i1, fun k' i a b => (i2 k' i a b).trans (g3 k' i a b)⟩
    · exact ⟨sp_H_mo H (by omega), fun _ _ _ _ => rfl⟩
theorem x_arL {b l : Nat} (hb : tz_sky b) : ∀ k i N S A, i + k = 500 → N + k ≤ 2000000 → rx b 99 S A → sp_H N S → l < S 15 0 → ∃ A', q_X9_arrival_2 b (tz_j l) (tz_j 2147483647) (tz_j i) A = some (some (.int (tz_j (sp_ar l k S 21 l))), A') ∧ rx b 99 (sp_ar l k S) A' ∧ tz_fr (rx_p b) A A' := by
  intro k
  induction k with
  | zero =>
    intro i N S A hi hN r H hl
    have h12 := H.1.2.2.1
    have c := r.1
    obtain rfl : i = 500 := by omega
    refine ⟨A, ?_, r, fr_rfl⟩
    rw [e_X9_arrival_2 _ _ _ _ hb]
    simp (disch := omega) only [tz_lit, nj_m1, ↓reduceIte, nj_cl, nj_ltt, nj_ltf, nj_let, nj_lef, nj_eqf, nj_lt, nj_le, nj_eq, nj_add, nj_mul, nj_modx, nj_and7, nj_div, tz_bI_some, tz_bV_some, or_false, false_or, or_self, and_false, false_and, and_true, true_and, not_true_eq_false, not_false_eq_true, nt_lef, nt_let, nt_ltf, nt_ltt, nt_eqf, nj_m2, nj_m3, nj_m4, nj_m5, nj_m6, nj_m7, tz_bL_some, nj_sub, ng_ltt, ng_let, ng_gtf, ng_gef, cx_21 c]
    rfl
  | succ k ih =>
    intro i N S A hi hN r H hl
    have h12 := H.1.2.2.1
    have h8 := H.1.1
    have h4 := H.1.2.1
    have h3 := H.2.2.2.1
    have c := r.1
    have hwl := (H.2.1.2.1 l hl).2.1
    unfold sp_wh at hwl
    rw [e_X9_arrival_2 _ _ _ _ hb]
    show ∃ A', _ = some (some (Value.int (tz_j ((if S 20 l < 200 then sp_ar l k (sp_tk S) else S) 21 l))), A') ∧ rx b 99 (if S 20 l < 200 then sp_ar l k (sp_tk S) else S) A' ∧ _
    have eu : f_X4_isUnderWay b (tz_j l) A = some (some (.int (if S 20 l < 200 then tz_j 1 else tz_j 0)), A) := by
      rw [e_X4_isUnderWay _ _ hb]
      by_cases z : S 20 l < 200
      · simp (disch := omega) only [tz_lit, nj_m1, ↓reduceIte, nj_cl, nj_ltt, nj_ltf, nj_let, nj_lef, nj_eqf, nj_lt, nj_le, nj_eq, nj_add, nj_mul, nj_modx, nj_and7, nj_div, tz_bI_some, tz_bV_some, or_false, false_or, or_self, and_false, false_and, and_true, true_and, not_true_eq_false, not_false_eq_true, nt_lef, nt_let, nt_ltf, nt_ltt, nt_eqf, nj_m2, nj_m3, nj_m4, nj_m5, nj_m6, nj_m7, tz_bL_some, nj_sub, ng_ltt, ng_let, ng_gtf, ng_gef, cx_20 c, if_pos z]
      · simp (disch := omega) only [tz_lit, nj_m1, ↓reduceIte, nj_cl, nj_ltt, nj_ltf, nj_let, nj_lef, nj_eqf, nj_lt, nj_le, nj_eq, nj_add, nj_mul, nj_modx, nj_and7, nj_div, tz_bI_some, tz_bV_some, or_false, false_or, or_self, and_false, false_and, and_true, true_and, not_true_eq_false, not_false_eq_true, nt_lef, nt_let, nt_ltf, nt_ltt, nt_eqf, nj_m2, nj_m3, nj_m4, nj_m5, nj_m6, nj_m7, tz_bL_some, nj_sub, ng_ltt, ng_let, ng_gtf, ng_gef, cx_20 c, if_neg z]
    have n1 : (tz_j 500 ≤ tz_j i) = False := nj_lef (by omega) (by omega)
    have n2 : (tz_j 2147483647 ≤ tz_j (S 0 3)) = False := nj_lef (by omega) (by omega)
    have n3 : (tz_j l < tz_j 0 ∨ 12 ≤ l) = False := by
      have := nj_ix (l := l) (n := 12) (by omega) (by omega)
      rw [nj_cl (by omega)] at this
      exact this
    have hcl : (tz_j l).toNatClampNeg = l := nj_cl (by omega)
    have q3 : tz_g A b 3 = tz_j (S 0 3) := cx_0_3 c
    have q21 : tz_g A (b + 21) l = tz_j (S 21 l) := cx_21 c (by omega)
    by_cases z : S 20 l < 200
    · rw [if_pos z] at eu ⊢
      obtain ⟨A1, e1, r1, f1⟩ := x_tk hb (by omega) r H
      obtain ⟨g1, g2, g3⟩ := tk_G H
      obtain ⟨A', e, r', f'⟩ := ih (i + 1) (N + 1) _ A1 (by omega) (by omega) r1 g1 (by rw [g3 15 0 (by unfold sp_kp; omega) (by omega)]; exact hl)
      refine ⟨A', ?_, r', fr_tr f1 f'⟩
      simp only [tz_lit, nj_m1, nj_m2, nj_m3, nj_m4, nj_m5, nj_m6, nj_m7, ↓reduceIte, tz_bI_some, tz_bV_some, tz_bL_some, cj10, cj01, cjm0, eq_self, not_true_eq_false, not_false_eq_true, or_false, false_or, or_true, true_or, or_self, and_true, true_and, and_false, false_and, n1, n2, n3, hcl, q3, eu, e1, nj_add]
      exact e
    · rw [if_neg z] at eu ⊢
      refine ⟨A, ?_, r, fr_rfl⟩
      simp only [tz_lit, nj_m1, nj_m2, nj_m3, nj_m4, nj_m5, nj_m6, nj_m7, ↓reduceIte, tz_bI_some, tz_bV_some, tz_bL_some, cj10, cj01, cjm0, eq_self, not_true_eq_false, not_false_eq_true, or_false, false_or, or_true, true_or, or_self, and_true, true_and, and_false, false_and, n1, n2, n3, hcl, q3, q21, eu]
theorem x_ar {b l N : Nat} {S : tz_S} {A : tz_Mem} (hb : tz_sky b) (hN : N + 500 ≤ 2000000) (r : rx b 99 S A) (H : sp_H N S) (hl : l < S 15 0) : ∃ A', f_X9_arrival b (tz_j l) (tz_j 2147483647) A = some (some (.int (tz_j (sp_ar l 500 S 21 l))), A') ∧ rx b 99 (sp_ar l 500 S) A' ∧ tz_fr (rx_p b) A A' := by
  rw [e_X9_arrival _ _ _ hb]
  exact x_arL hb 500 0 N S A (Nat.zero_add _) hN r H hl
/-- by a storm thought away, or by none -/
theorem H_06 {N v : Nat} {S : tz_S} (H : sp_H N S) (hv : v < 4294967296) : sp_H N (tz_t S 0 6 v) := by
  obtain ⟨W, W2, WE, h3, hT⟩ := H
  have g : ∀ k j, k ≠ 0 → tz_t S 0 6 v k j = S k j := fun k j hk => tz_tk hk
  have g0 : ∀ j, j ≠ 6 → tz_t S 0 6 v 0 j = S 0 j := fun j hj => tz_ti hj
  have g1 : tz_t S 0 6 v 0 6 = v := tz_t1
  refine ⟨?_, ?_, we_mv WE (fun k j h1 h2 => g k j (by omega)), by rw [g0 3 (by omega)]; exact h3, by rw [g0 3 (by omega), g0 0 (by omega)]; exact hT⟩
  · unfold sp_W1 sp_lt at W ⊢
    simp only [g 1 _ (by omega), g 2 _ (by omega), g 3 _ (by omega), g 7 _ (by omega), g 8 _ (by omega), g 9 _ (by omega), g 10 _ (by omega), g 11 _ (by omega), g 12 _ (by omega), g 15 _ (by omega), g 17 _ (by omega), g 18 _ (by omega), g 19 _ (by omega), g 22 _ (by omega)]
    exact W
  · obtain ⟨a, b, c, d, e1, e2, e3⟩ := W2
    refine ⟨a, b, c, (sum_mv (S := S) (S' := tz_t S 0 6 v) (S 1 0) (fun _ _ => rfl)).trans d, e1, e2, ?_⟩
    rw [g1]
    exact hv
theorem t06 {S : tz_S} (hst : sp_st S) : tz_t S 0 6 4294967295 = S := by
  funext k i
  rw [tz_ta]
  split
  · rename_i h
    rw [h.1, h.2, hst.1]
  · rfl
theorem x_wo {S K : tz_S} {U : tz_U} {V : tz_V} {A : tz_Mem} {N l v : Nat} (hN : N ≤ 1100000) (c : rx 30 99 S A) (H : sp_H N S) (hst : sp_st S) (hl : l < S 15 0) (hv : v < 4294967296) : ∃ A', f_X11_arrivalWithout (tz_j l) (tz_j v) A = some (some (.int (tz_j (sp_ar l 500 (tz_t S 0 6 v) 21 l))), A') ∧ tz_fx th_p A A' := by
  obtain ⟨A1, f1, r1, g1⟩ := x_bec2 h76 h30 (by omega) H.1 hst c
  have r2 : rx 76 99 (tz_t S 0 6 v) (tz_s A1 (76 + 0) 6 (tz_j v)) := rx_s h76 (by omega) (by omega) (by omega) (by omega) (by omega) (by omega) (by omega) (by omega) (by omega) r1
  obtain ⟨A2, f2, r3, g2⟩ := x_ar h76 (show N + 500 ≤ 2000000 by omega) r2 (H_06 H hv) hl
  refine ⟨A2, ?_, fx_tr (fx_s (fx_mo g1 (fun k i => th_b)) (by unfold th_p; omega)) (fx_mo (fx_fr g2) (fun k i => th_r))⟩
  have f3 : f_X9_arrival 76 (tz_j l) (tz_j 2147483647) (tz_s A1 76 6 (tz_j v)) = some (some (.int (tz_j (sp_ar l 500 (tz_t S 0 6 v) 21 l))), A2) := f2
  rw [e_X11_arrivalWithout]
  simp only [tz_lit, nj_m1, nj_m2, nj_m3, nj_m4, nj_m5, nj_m6, nj_m7, ↓reduceIte, tz_bI_some, tz_bV_some, tz_bL_some, cj10, cj01, cjm0, eq_self, not_true_eq_false, not_false_eq_true, or_false, false_or, or_true, true_or, or_self, and_true, true_and, and_false, false_and, f1, f3]
