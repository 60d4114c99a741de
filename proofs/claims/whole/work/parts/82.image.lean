/-! the image, burning -/
theorem h53 : tz_sky 53 := by unfold tz_sky; omega
def im_p (k i : Nat) : Prop := bc_p 53 k i ∨ (k = 17 ∧ i = 12)
def bi_p (k i : Nat) : Prop := bc_p 30 k i ∨ k = 19
theorem p_image : tz_twoI tz_J f_X11_image f_X12_image := by
  refine two_of (fun N S K U V A hN c ww => ?_)
  have W := ww.1.1
  have h8 := W.1
  obtain ⟨A1, f1, r1, g1⟩ := x_bec2 h53 h30 (by omega) W ww.2.1 c.1
  have ff : tz_fx im_p A (tz_s A1 17 12 (tz_j 1)) := fx_s (fx_mo g1 (fun k i h => Or.inl h)) (Or.inr ⟨rfl, rfl⟩)
  have e : ∀ k i, ¬ (53 ≤ k ∧ k < 76) → (k ≠ 17 ∨ i ≠ 12) → tz_g (tz_s A1 17 12 (tz_j 1)) k i = tz_g A k i := fun k i h1 h2 => ff.2.2.1 k i (by unfold im_p bc_p; omega)
  have gl : ∀ k i, tz_gl (tz_s A1 17 12 (tz_j 1)) k i = tz_gl A k i := fun k i => by
    show A1.2.2.1 k i = A.2.2.1 k i
    rw [g1.2.1]
  have q31 : tz_g (tz_s A1 17 12 (tz_j 1)) 31 0 = tz_j (S 1 0) := (e 31 0 (by omega) (by omega)).trans (cz_1 c.1.1)
  have u0 : ∀ s, tz_u U 3 1 (tz_j 1) 0 s = U 0 s := fun s => tz_uk (by omega)
  have u1 : ∀ s, tz_u U 3 1 (tz_j 1) 1 s = U 1 s := fun s => tz_uk (by omega)
  have u2 : ∀ s, tz_u U 3 1 (tz_j 1) 2 s = U 2 s := fun s => tz_uk (by omega)
  have u3 : tz_u U 3 1 (tz_j 1) 3 0 = U 3 0 := tz_ui (by omega)
  have u4 : tz_u U 3 1 (tz_j 1) 4 0 = U 4 0 := tz_uk (by omega)
  have u5 : ∀ s, tz_u U 3 1 (tz_j 1) 5 s = U 5 s := fun s => tz_uk (by omega)
  refine ⟨tz_j (S 1 0), S, S, tz_u U 3 1 (tz_j 1), V, ⟨tz_s A1 17 12 (tz_j 1), ?_, ⟨rx_mv c.1 (fun k i h1 h2 => e k i (by omega) (by omega)) (ff.2.2.2 30 7 (fun q => by have := q.1; unfold im_p bc_p at this; omega)) (Or.inl ww.2.1.2), fun _ => rx_mv r1 (fun k i h1 h2 => tz_gsk (by omega)) rfl (Or.inl ww.2.1.2), ⟨fun s hs => ?_, fun i hi => ?_, ?_, ?_, ?_, fun i hi => ?_⟩, fx_con ff c.2.2.2⟩, cf_fx ff (fun k i h => by unfold im_p bc_p at h; omega)⟩, ⟨sp_H_mo ww.1 (by omega), ww.2.1, sp_H_mo ww.1 (by omega), ww.2.1, fun s hs => ?_, Or.inr tz_u1, ?_⟩, fun A D m => ?_⟩
  · rw [e_X11_image]
    simp only [tz_lit, nj_m1, nj_m2, nj_m3, nj_m4, nj_m5, nj_m6, nj_m7, ↓reduceIte, tz_bI_some, tz_bV_some, tz_bL_some, cj10, cj01, cjm0, eq_self, not_true_eq_false, not_false_eq_true, or_false, false_or, or_true, true_or, or_self, and_true, true_and, and_false, false_and, f1, q31]
  · obtain ⟨a, b, d⟩ := c.2.2.1.1 s hs
    rw [e _ _ (by omega) (by omega), e _ _ (by omega) (by omega), u0, u1]
    refine ⟨a, b, fun i hi => ?_⟩
    rw [gl]
    exact d i hi
  · rw [e _ _ (by omega) (by omega), u2]
    exact c.2.2.1.2.1 i hi
  · rw [e _ _ (by omega) (by omega), u3]
    exact c.2.2.1.2.2.1
  · rw [tz_gs1, tz_u1]
  · rw [e _ _ (by omega) (by omega), u4]
    exact c.2.2.1.2.2.2.2.1
  · rw [e _ _ (by omega) (by omega), u5]
    exact c.2.2.1.2.2.2.2.2 i hi
  · rw [u0, u1]
    exact ww.2.2.2.2.1 s hs
  · rw [u4]
    exact ww.2.2.2.2.2.2
  · obtain ⟨A2, e2, k2, n1, n2, n3⟩ := m_keep_179 (tz_s A 157 30 (tz_j 1))
    have e' : ∀ k i, k ≠ 179 → (k ≠ 157 ∨ i ≠ 30) → tz_g A2 k i = tz_g A k i := fun k i h1 h2 => (n3 k i (by omega)).trans (by rw [tz_gS, if_neg (by omega)])
    have gl' : ∀ k i, tz_gl A2 k i = tz_gl A k i := fun k i => by
      show A2.2.2.1 k i = A.2.2.1 k i
      rw [n2]
      rfl
    have gr' : ∀ k i, tz_gr A2 k i = tz_gr A k i := fun k i => by
      show A2.2.2.2 k i = A.2.2.2 k i
      rw [n2]
      rfl
    have kd : ∀ k i, kp_d k i → tz_g A2 k i = tz_g A k i := fun k i h => e' k i (by unfold kp_d at h; omega) (by unfold kp_d at h; omega)
    have kd0 : ∀ k i, kp_d k i → tz_g (tz_s A 157 30 (tz_j 1)) k i = tz_g A k i := fun k i h => by
      rw [tz_gS, if_neg (by unfold kp_d at h; omega)]
    obtain ⟨D', rm'⟩ := rm_kp W m.1 kd (e' _ _ (by omega) (by omega)) (e' _ _ (by omega) (by omega)) (Or.inl (by rw [ww.2.1.2]; omega))
    have q3 : tz_g A2 157 3 = tz_j (S 1 0) := cm_3 rm'.1
    refine ⟨A2, D', ?_, ⟨rm', fun _ => ⟨_, rm_c_kp W m.1.1 kd0, rm_w_kp W m.1.2.1 kd0, k2⟩, ⟨fun s hs => ?_, fun i hi => ?_, ?_, ?_, ?_, fun i hi => ?_⟩, by rw [n1]; exact m.2.2.2⟩, mf_mg ⟨n1, fun k i hk => ⟨e' k i (by omega) (by omega), gl' k i⟩, gr'⟩⟩
    · rw [e_X12_image]
      simp only [tz_lit, nj_m1, nj_m2, nj_m3, nj_m4, nj_m5, nj_m6, nj_m7, ↓reduceIte, tz_bI_some, tz_bV_some, tz_bL_some, cj10, cj01, cjm0, eq_self, not_true_eq_false, not_false_eq_true, or_false, false_or, or_true, true_or, or_self, and_true, true_and, and_false, false_and, e2, q3]
    · obtain ⟨a, b, d⟩ := m.2.2.1.1 s hs
      rw [e' _ _ (by omega) (by omega), e' _ _ (by omega) (by omega), u0, u1]
      refine ⟨a, b, fun i hi => ?_⟩
      rw [gl']
      exact d i hi
    · rw [e' _ _ (by omega) (by omega), u2]
      exact m.2.2.1.2.1 i hi
    · rw [e' _ _ (by omega) (by omega), u3]
      exact m.2.2.1.2.2.1
    · rw [n3 _ _ (by omega), tz_gs1, tz_u1]
    · rw [e' _ _ (by omega) (by omega), u4]
      exact m.2.2.1.2.2.2.2.1
    · rw [e' _ _ (by omega) (by omega), u5]
      exact m.2.2.1.2.2.2.2.2 i hi
def sh_d (n : Nat) (x : Int32) : Int32 := if x < tz_j 100 then (if x < tz_j n then x else tz_j 4294967295) else x
def dr_u (n : Nat) (U : tz_U) : tz_U := fun k i => if k = 0 then sh_d n (U 0 i) else U k i
theorem x_drop {n : Nat} : ∀ k i A, i + k = 8 → ∃ A', q_X8_dropHillsFrom_2 (tz_j n) (tz_j i) A = some (none, A') ∧ (∀ s, i ≤ s → s < 8 → tz_g A' 19 s = sh_d n (tz_g A 19 s)) ∧ A'.1 = A.1 ∧ A'.2.2 = A.2.2 ∧ ∀ k' i', ¬ (k' = 19 ∧ i ≤ i' ∧ i' < 8) → tz_g A' k' i' = tz_g A k' i' := by
  intro k
  induction k with
  | zero =>
    intro i A hi
    refine ⟨A, ?_, fun s h1 h2 => by omega, rfl, rfl, fun _ _ _ => rfl⟩
    rw [e_X8_dropHillsFrom_2]
    simp (disch := omega) only [tz_lit, nj_m1, ↓reduceIte, nj_cl, nj_ltt, nj_ltf, nj_let, nj_lef, nj_eqf, nj_lt, nj_le, nj_eq, nj_add, nj_mul, nj_modx, nj_and7, nj_div, tz_bI_some, tz_bV_some, or_false, false_or, or_self, and_false, false_and, and_true, true_and, not_true_eq_false, not_false_eq_true, nt_lef, nt_let, nt_ltf, nt_ltt, nt_eqf, nj_m2, nj_m3, nj_m4, nj_m5, nj_m6, nj_m7, tz_bL_some, nj_sub, ng_ltt, ng_let, ng_gtf, ng_gef]
  | succ k ih =>
    intro i A hi
    have n1 : (tz_j 8 ≤ tz_j i) = False := nj_lef (by omega) (by omega)
    have n2 := nj_ix8 (s := i) (n := 8) (by omega) (by omega)
    have n3 : (tz_j i).toNatClampNeg = i := nj_cl (by omega)
    have n4 : tz_j i + tz_j 1 = tz_j (i + 1) := nj_add
    rcases pr_tf (tz_g A 19 i < tz_j 100) with y | y
    · have a1 : f_X8_holdsRow (tz_j i) A = some (some (.int (tz_j 0)), A) := by
        rw [e_X8_holdsRow]
        simp only [tz_lit, nj_m1, nj_m2, nj_m3, nj_m4, nj_m5, nj_m6, nj_m7, ↓reduceIte, tz_bI_some, tz_bV_some, tz_bL_some, cj10, cj01, cjm0, eq_self, not_true_eq_false, not_false_eq_true, or_false, false_or, or_true, true_or, or_self, and_true, true_and, and_false, false_and, n2, n3, y]
      rcases pr_tf (tz_g A 19 i < tz_j n) with x | x
      · obtain ⟨A', f, g, e1, e2, e3⟩ := ih (i + 1) A (by omega)
        refine ⟨A', ?_, fun s h1 h2 => ?_, e1, e2, fun k' i' h => e3 k' i' (by omega)⟩
        · rw [e_X8_dropHillsFrom_2]
          simp only [tz_lit, nj_m1, nj_m2, nj_m3, nj_m4, nj_m5, nj_m6, nj_m7, ↓reduceIte, tz_bI_some, tz_bV_some, tz_bL_some, cj10, cj01, cjm0, eq_self, not_true_eq_false, not_false_eq_true, or_false, false_or, or_true, true_or, or_self, and_true, true_and, and_false, false_and, n1, n2, n3, n4, a1, x, f]
        · by_cases z : s = i
          · subst z
            rw [e3 _ _ (by omega)]
            unfold sh_d
            simp only [tz_lit, nj_m1, nj_m2, nj_m3, nj_m4, nj_m5, nj_m6, nj_m7, ↓reduceIte, tz_bI_some, tz_bV_some, tz_bL_some, cj10, cj01, cjm0, eq_self, not_true_eq_false, not_false_eq_true, or_false, false_or, or_true, true_or, or_self, and_true, true_and, and_false, false_and, x, y]
          · exact g s (by omega) h2
      · obtain ⟨A', f, g, e1, e2, e3⟩ := ih (i + 1) (tz_s A 19 i (tz_j 4294967295)) (by omega)
        refine ⟨A', ?_, fun s h1 h2 => ?_, e1, e2, fun k' i' h => (e3 k' i' (by omega)).trans (by rw [tz_gS, if_neg (by omega)])⟩
        · rw [e_X8_dropHillsFrom_2]
          simp only [tz_lit, nj_m1, nj_m2, nj_m3, nj_m4, nj_m5, nj_m6, nj_m7, ↓reduceIte, tz_bI_some, tz_bV_some, tz_bL_some, cj10, cj01, cjm0, eq_self, not_true_eq_false, not_false_eq_true, or_false, false_or, or_true, true_or, or_self, and_true, true_and, and_false, false_and, n1, n2, n3, n4, a1, x, f]
        · by_cases z : s = i
          · subst z
            rw [e3 _ _ (by omega), tz_gs1]
            unfold sh_d
            simp only [tz_lit, nj_m1, nj_m2, nj_m3, nj_m4, nj_m5, nj_m6, nj_m7, ↓reduceIte, tz_bI_some, tz_bV_some, tz_bL_some, cj10, cj01, cjm0, eq_self, not_true_eq_false, not_false_eq_true, or_false, false_or, or_true, true_or, or_self, and_true, true_and, and_false, false_and, x, y]
          · rw [g s (by omega) h2, tz_gsi z]
    · have a1 : f_X8_holdsRow (tz_j i) A = some (some (.int (tz_j 1)), A) := by
        rw [e_X8_holdsRow]
        simp only [tz_lit, nj_m1, nj_m2, nj_m3, nj_m4, nj_m5, nj_m6, nj_m7, ↓reduceIte, tz_bI_some, tz_bV_some, tz_bL_some, cj10, cj01, cjm0, eq_self, not_true_eq_false, not_false_eq_true, or_false, false_or, or_true, true_or, or_self, and_true, true_and, and_false, false_and, n2, n3, y]
      obtain ⟨A', f, g, e1, e2, e3⟩ := ih (i + 1) A (by omega)
      refine ⟨A', ?_, fun s h1 h2 => ?_, e1, e2, fun k' i' h => e3 k' i' (by omega)⟩
      · rw [e_X8_dropHillsFrom_2]
        simp only [tz_lit, nj_m1, nj_m2, nj_m3, nj_m4, nj_m5, nj_m6, nj_m7, ↓reduceIte, tz_bI_some, tz_bV_some, tz_bL_some, cj10, cj01, cjm0, eq_self, not_true_eq_false, not_false_eq_true, or_false, false_or, or_true, true_or, or_self, and_true, true_and, and_false, false_and, n1, n2, n3, n4, a1, cj10, f]
      · by_cases z : s = i
        · subst z
          rw [e3 _ _ (by omega)]
          unfold sh_d
          simp only [tz_lit, nj_m1, nj_m2, nj_m3, nj_m4, nj_m5, nj_m6, nj_m7, ↓reduceIte, tz_bI_some, tz_bV_some, tz_bL_some, cj10, cj01, cjm0, eq_self, not_true_eq_false, not_false_eq_true, or_false, false_or, or_true, true_or, or_self, and_true, true_and, and_false, false_and, y]
        · exact g s (by omega) h2
theorem m_drop {n : Nat} : ∀ k i A, i + k = 8 → tz_g A 157 3 = tz_j n → ∃ A', q_X12_restore_24 (tz_j i) A = some (some (.int (tz_j n)), A') ∧ (∀ s, i ≤ s → s < 8 → tz_g A' 158 s = sh_d n (tz_g A 158 s)) ∧ A'.1 = A.1 ∧ A'.2.2 = A.2.2 ∧ ∀ k' i', ¬ (k' = 158 ∧ i ≤ i' ∧ i' < 8) → tz_g A' k' i' = tz_g A k' i' := by
  intro k
  induction k with
  | zero =>
    intro i A hi q
    refine ⟨A, ?_, fun s h1 h2 => by omega, rfl, rfl, fun _ _ _ => rfl⟩
    rw [e_X12_restore_24]
    simp (disch := omega) only [tz_lit, nj_m1, ↓reduceIte, nj_cl, nj_ltt, nj_ltf, nj_let, nj_lef, nj_eqf, nj_lt, nj_le, nj_eq, nj_add, nj_mul, nj_modx, nj_and7, nj_div, tz_bI_some, tz_bV_some, or_false, false_or, or_self, and_false, false_and, and_true, true_and, not_true_eq_false, not_false_eq_true, nt_lef, nt_let, nt_ltf, nt_ltt, nt_eqf, nj_m2, nj_m3, nj_m4, nj_m5, nj_m6, nj_m7, tz_bL_some, nj_sub, ng_ltt, ng_let, ng_gtf, ng_gef, q]
  | succ k ih =>
    intro i A hi q
    have n1 : (tz_j 8 ≤ tz_j i) = False := nj_lef (by omega) (by omega)
    have n2 := nj_ix8 (s := i) (n := 8) (by omega) (by omega)
    have n3 : (tz_j i).toNatClampNeg = i := nj_cl (by omega)
    have n4 : tz_j i + tz_j 1 = tz_j (i + 1) := nj_add
    rcases pr_tf (tz_g A 158 i < tz_j 100) with y | y
    · have a1 : f_X12_isRow (tz_j i) A = some (some (.int (tz_j 0)), A) := by
        rw [e_X12_isRow]
        simp only [tz_lit, nj_m1, nj_m2, nj_m3, nj_m4, nj_m5, nj_m6, nj_m7, ↓reduceIte, tz_bI_some, tz_bV_some, tz_bL_some, cj10, cj01, cjm0, eq_self, not_true_eq_false, not_false_eq_true, or_false, false_or, or_true, true_or, or_self, and_true, true_and, and_false, false_and, n2, n3, y]
      rcases pr_tf (tz_g A 158 i < tz_j n) with x | x
      · obtain ⟨A', f, g, e1, e2, e3⟩ := ih (i + 1) A (by omega) q
        refine ⟨A', ?_, fun s h1 h2 => ?_, e1, e2, fun k' i' h => e3 k' i' (by omega)⟩
        · rw [e_X12_restore_24]
          simp only [tz_lit, nj_m1, nj_m2, nj_m3, nj_m4, nj_m5, nj_m6, nj_m7, ↓reduceIte, tz_bI_some, tz_bV_some, tz_bL_some, cj10, cj01, cjm0, eq_self, not_true_eq_false, not_false_eq_true, or_false, false_or, or_true, true_or, or_self, and_true, true_and, and_false, false_and, n1, n2, n3, n4, a1, q, x, f]
        · by_cases z : s = i
          · subst z
            rw [e3 _ _ (by omega)]
            unfold sh_d
            simp only [tz_lit, nj_m1, nj_m2, nj_m3, nj_m4, nj_m5, nj_m6, nj_m7, ↓reduceIte, tz_bI_some, tz_bV_some, tz_bL_some, cj10, cj01, cjm0, eq_self, not_true_eq_false, not_false_eq_true, or_false, false_or, or_true, true_or, or_self, and_true, true_and, and_false, false_and, x, y]
          · exact g s (by omega) h2
      · obtain ⟨A', f, g, e1, e2, e3⟩ := ih (i + 1) (tz_s A 158 i (tz_j 4294967295)) (by omega) ((tz_gsk (by omega)).trans q)
        refine ⟨A', ?_, fun s h1 h2 => ?_, e1, e2, fun k' i' h => (e3 k' i' (by omega)).trans (by rw [tz_gS, if_neg (by omega)])⟩
        · rw [e_X12_restore_24]
          simp only [tz_lit, nj_m1, nj_m2, nj_m3, nj_m4, nj_m5, nj_m6, nj_m7, ↓reduceIte, tz_bI_some, tz_bV_some, tz_bL_some, cj10, cj01, cjm0, eq_self, not_true_eq_false, not_false_eq_true, or_false, false_or, or_true, true_or, or_self, and_true, true_and, and_false, false_and, n1, n2, n3, n4, a1, q, x, f]
        · by_cases z : s = i
          · subst z
            rw [e3 _ _ (by omega), tz_gs1]
            unfold sh_d
            simp only [tz_lit, nj_m1, nj_m2, nj_m3, nj_m4, nj_m5, nj_m6, nj_m7, ↓reduceIte, tz_bI_some, tz_bV_some, tz_bL_some, cj10, cj01, cjm0, eq_self, not_true_eq_false, not_false_eq_true, or_false, false_or, or_true, true_or, or_self, and_true, true_and, and_false, false_and, x, y]
          · rw [g s (by omega) h2, tz_gsi z]
    · have a1 : f_X12_isRow (tz_j i) A = some (some (.int (tz_j 1)), A) := by
        rw [e_X12_isRow]
        simp only [tz_lit, nj_m1, nj_m2, nj_m3, nj_m4, nj_m5, nj_m6, nj_m7, ↓reduceIte, tz_bI_some, tz_bV_some, tz_bL_some, cj10, cj01, cjm0, eq_self, not_true_eq_false, not_false_eq_true, or_false, false_or, or_true, true_or, or_self, and_true, true_and, and_false, false_and, n2, n3, y]
      obtain ⟨A', f, g, e1, e2, e3⟩ := ih (i + 1) A (by omega) q
      refine ⟨A', ?_, fun s h1 h2 => ?_, e1, e2, fun k' i' h => e3 k' i' (by omega)⟩
      · rw [e_X12_restore_24]
        simp only [tz_lit, nj_m1, nj_m2, nj_m3, nj_m4, nj_m5, nj_m6, nj_m7, ↓reduceIte, tz_bI_some, tz_bV_some, tz_bL_some, cj10, cj01, cjm0, eq_self, not_true_eq_false, not_false_eq_true, or_false, false_or, or_true, true_or, or_self, and_true, true_and, and_false, false_and, n1, n2, n3, n4, a1, cj10, f]
      · by_cases z : s = i
        · subst z
          rw [e3 _ _ (by omega)]
          unfold sh_d
          simp only [tz_lit, nj_m1, nj_m2, nj_m3, nj_m4, nj_m5, nj_m6, nj_m7, ↓reduceIte, tz_bI_some, tz_bV_some, tz_bL_some, cj10, cj01, cjm0, eq_self, not_true_eq_false, not_false_eq_true, or_false, false_or, or_true, true_or, or_self, and_true, true_and, and_false, false_and, y]
        · exact g s (by omega) h2
theorem sh_d_wu {S K : tz_S} {x : Int32} (h8 : S 1 0 ≤ 8) (k8 : K 1 0 ≤ 8) (h : x = tz_j 4294967295 ∨ (∃ h, h < S 1 0 ∧ x = tz_j h) ∨ (∃ t, t < 4 ∧ x = tz_j (100 + t))) : sh_d (K 1 0) x = tz_j 4294967295 ∨ (∃ h, h < K 1 0 ∧ sh_d (K 1 0) x = tz_j h) ∨ (∃ t, t < 4 ∧ sh_d (K 1 0) x = tz_j (100 + t)) := by
  unfold sh_d
  rcases h with rfl | ⟨h, hh, rfl⟩ | ⟨t, ht, rfl⟩
  · refine Or.inl ?_
    simp (disch := omega) only [tz_lit, nj_m1, nj_m2, nj_m3, nj_m4, nj_m5, nj_m6, nj_m7, ↓reduceIte, tz_bI_some, tz_bV_some, tz_bL_some, cj10, cj01, cjm0, eq_self, not_true_eq_false, not_false_eq_true, or_false, false_or, or_true, true_or, or_self, and_true, true_and, and_false, false_and, nj_eqf, nj_ltt, nj_ltf, nj_let, nj_lef, nj_cl, nt_lef, ng_ltt, ng_let, ng_gtf, ng_gef]
  · by_cases y : h < K 1 0
    · refine Or.inr (Or.inl ⟨h, y, ?_⟩)
      simp (disch := omega) only [tz_lit, nj_m1, nj_m2, nj_m3, nj_m4, nj_m5, nj_m6, nj_m7, ↓reduceIte, tz_bI_some, tz_bV_some, tz_bL_some, cj10, cj01, cjm0, eq_self, not_true_eq_false, not_false_eq_true, or_false, false_or, or_true, true_or, or_self, and_true, true_and, and_false, false_and, nj_eqf, nj_ltt, nj_ltf, nj_let, nj_lef, nj_cl, nt_lef, ng_ltt, ng_let, ng_gtf, ng_gef]
    · refine Or.inl ?_
      simp (disch := omega) only [tz_lit, nj_m1, nj_m2, nj_m3, nj_m4, nj_m5, nj_m6, nj_m7, ↓reduceIte, tz_bI_some, tz_bV_some, tz_bL_some, cj10, cj01, cjm0, eq_self, not_true_eq_false, not_false_eq_true, or_false, false_or, or_true, true_or, or_self, and_true, true_and, and_false, false_and, nj_eqf, nj_ltt, nj_ltf, nj_let, nj_lef, nj_cl, nt_lef, ng_ltt, ng_let, ng_gtf, ng_gef]
  · refine Or.inr (Or.inr ⟨t, ht, ?_⟩)
    simp (disch := omega) only [tz_lit, nj_m1, nj_m2, nj_m3, nj_m4, nj_m5, nj_m6, nj_m7, ↓reduceIte, tz_bI_some, tz_bV_some, tz_bL_some, cj10, cj01, cjm0, eq_self, not_true_eq_false, not_false_eq_true, or_false, false_or, or_true, true_or, or_self, and_true, true_and, and_false, false_and, nj_eqf, nj_ltt, nj_ltf, nj_let, nj_lef, nj_cl, nt_lef, ng_ltt, ng_let, ng_gtf, ng_gef]
theorem p_restore : tz_twoI tz_J f_X11_restore f_X12_restore := by
  refine two_of (fun N S K U V A hN c ww => ?_)
  have W := ww.1.1
  have h8 := W.1
  have k8 := ww.2.2.1.1.1
  have WK := ww.2.2.1.1
  have kst := ww.2.2.2.1
  rcases ww.2.2.2.2.2.1 with z | z
  · have q : tz_g A 17 12 = tz_j 0 := c.2.2.1.2.2.2.1.trans z
    have q' : ∀ A D, MX D S K U V A → tz_g A 157 30 = tz_j 0 := fun A D m => m.2.2.1.2.2.2.1.trans z
    refine out_ref (v := tz_j 4294967290) 6 (by omega) c ww ?_ (fun A D m => ?_)
    · rw [e_X11_restore]
      simp only [tz_lit, nj_m1, nj_m2, nj_m3, nj_m4, nj_m5, nj_m6, nj_m7, ↓reduceIte, tz_bI_some, tz_bV_some, tz_bL_some, cj10, cj01, cjm0, eq_self, not_true_eq_false, not_false_eq_true, or_false, false_or, or_true, true_or, or_self, and_true, true_and, and_false, false_and, q, x_ref1, x_ref2, x_ref3, x_ref4, x_ref5, x_ref6, x_ref7, e_X11_refuseLower]
    · rw [e_X12_restore]
      simp only [tz_lit, nj_m1, nj_m2, nj_m3, nj_m4, nj_m5, nj_m6, nj_m7, ↓reduceIte, tz_bI_some, tz_bV_some, tz_bL_some, cj10, cj01, cjm0, eq_self, not_true_eq_false, not_false_eq_true, or_false, false_or, or_true, true_or, or_self, and_true, true_and, and_false, false_and, q' A D m, m_no1, m_no2, m_no3, m_no4, m_no5, m_no6, m_no7, e_X12_no10]
  · have q : tz_g A 17 12 = tz_j 1 := c.2.2.1.2.2.2.1.trans z
    obtain ⟨A1, f1, r1, g1⟩ := x_bec2 h30 h53 (by omega) WK kst (c.2.1 z)
    have q31 : tz_g A1 31 0 = tz_j (K 1 0) := cz_1 r1.1
    obtain ⟨A2, f2, l2, d1, d2, d3⟩ := x_drop (n := K 1 0) 8 0 A1 (by omega)
    have q32 : tz_g A2 31 0 = tz_j (K 1 0) := (d3 _ _ (by omega)).trans q31
    have f3 : f_X8_dropHillsFrom (tz_j (K 1 0)) A1 = some (none, A2) := by
      rw [e_X8_dropHillsFrom]
      exact f2
    have e : ∀ k i, ¬ (30 ≤ k ∧ k < 53) → k ≠ 19 → tz_g A2 k i = tz_g A k i := fun k i h1 h2 => (d3 k i (by omega)).trans (g1.2.2.1 k i (by unfold bc_p; omega))
    have gl : ∀ k i, tz_gl A2 k i = tz_gl A k i := fun k i => by
      show A2.2.2.1 k i = A.2.2.1 k i
      rw [d2, g1.2.1]
    have gr : ∀ k i, tz_gr A2 k i = tz_gr A1 k i := fun k i => by
      show A2.2.2.2 k i = A1.2.2.2 k i
      rw [d2]
    have ff : tz_fx bi_p A A2 := ⟨d1.trans g1.1, by rw [d2]; exact g1.2.1, fun k i h => e k i (by unfold bi_p bc_p at h; omega) (by unfold bi_p bc_p at h; omega), fun k i h => (gr k i).trans (g1.2.2.2 k i (fun y => h ⟨Or.inl y.1, y.2⟩))⟩
    refine ⟨tz_j (K 1 0), K, K, dr_u (K 1 0) U, V, ⟨A2, ?_, ⟨rx_mv r1 (fun k i h1 h2 => d3 k i (by omega)) (gr _ _) (Or.inl kst.2), fun _ => rx_mv (c.2.1 z) (fun k i h1 h2 => e k i (by omega) (by omega)) ((gr _ _).trans (g1.2.2.2 53 7 (fun y => by have := y.1; unfold bc_p at this; omega))) (Or.inl kst.2), ⟨fun s hs => ?_, fun i hi => ?_, ?_, ?_, ?_, fun i hi => ?_⟩, fx_con ff c.2.2.2⟩, cf_fx ff (fun k i h => by unfold bi_p bc_p at h; omega)⟩, ⟨sp_H_mo ww.2.2.1 (by omega), kst, sp_H_mo ww.2.2.1 (by omega), kst, fun s hs => ?_, ww.2.2.2.2.2.1, ww.2.2.2.2.2.2⟩, fun A D m => ?_⟩
    · rw [e_X11_restore]
      simp only [tz_lit, nj_m1, nj_m2, nj_m3, nj_m4, nj_m5, nj_m6, nj_m7, ↓reduceIte, tz_bI_some, tz_bV_some, tz_bL_some, cj10, cj01, cjm0, eq_self, not_true_eq_false, not_false_eq_true, or_false, false_or, or_true, true_or, or_self, and_true, true_and, and_false, false_and, q, f1, q31, f3, q32]
    · obtain ⟨a, b, d⟩ := c.2.2.1.1 s hs
      refine ⟨?_, ?_, fun i hi => ?_⟩
      · rw [l2 s (by omega) hs, g1.2.2.1 _ _ (by unfold bc_p; omega), a]
        rfl
      · rw [e _ _ (by omega) (by omega)]
        exact b
      · rw [gl]
        exact d i hi
    · rw [e _ _ (by omega) (by omega)]
      exact c.2.2.1.2.1 i hi
    · rw [e _ _ (by omega) (by omega)]
      exact c.2.2.1.2.2.1
    · rw [e _ _ (by omega) (by omega)]
      exact c.2.2.1.2.2.2.1
    · rw [e _ _ (by omega) (by omega)]
      exact c.2.2.1.2.2.2.2.1
    · rw [e _ _ (by omega) (by omega)]
      exact c.2.2.1.2.2.2.2.2 i hi
    · exact ⟨sh_d_wu h8 k8 (ww.2.2.2.2.1 s hs).1, (ww.2.2.2.2.1 s hs).2⟩
    · have q' : tz_g A 157 30 = tz_j 1 := m.2.2.1.2.2.2.1.trans z
      obtain ⟨A1, f1, k1, n1, n2, n3⟩ := m_again_179 A
      obtain ⟨B, cB, wB, kB⟩ := m.2.1 z
      have kd : ∀ k i, kp_d k i → tz_g A1 k i = tz_g B k i := fun k i h => by
        obtain ⟨j, hj⟩ := kp_of h
        rw [k1 k i j hj]
        exact kB k i j hj
      have rc := rm_c_kp WK cB kd
      have rw' := rm_w_kp WK wB kd
      have q3 : tz_g A1 157 3 = tz_j (K 1 0) := cm_3 rc
      have r1 : rm (fun h => tz_g A1 182 h - tz_j (K 5 h)) K A1 := by
        refine ⟨rc, rw', fun h hh => ?_, fun t ht => ?_, fun y => ?_, fun _ => ?_⟩
        · exact (Int32.sub_add_cancel _ _).symm
        · rw [n3 157 34 kd_34, m.1.2.2.2.1 t ht, ww.2.1.1, kst.1]
        · rw [kst.2] at y
          omega
        · rw [n3 157 36 kd_36]
          exact m.1.2.2.2.2.2 (by rw [ww.2.1.2]; omega)
      obtain ⟨A2, f2, l2, d1, d2, d3⟩ := m_drop (n := K 1 0) 8 0 A1 (by omega) q3
      have kd2 : ∀ k i, kp_d k i → tz_g A2 k i = tz_g A1 k i := fun k i h => d3 k i (by unfold kp_d at h; omega)
      obtain ⟨D', r2⟩ := rm_kp WK r1 kd2 (d3 _ _ (by omega)) (d3 _ _ (by omega)) (Or.inl (by rw [kst.2]; omega))
      have e' : ∀ k i, ¬ kp_d k i → k ≠ 158 → tz_g A2 k i = tz_g A k i := fun k i h1 h2 => (d3 k i (by omega)).trans (n3 k i h1)
      have gl' : ∀ k i, tz_gl A2 k i = tz_gl A k i := fun k i => by
        show A2.2.2.1 k i = A.2.2.1 k i
        rw [d2, n2]
      have gr' : ∀ k i, tz_gr A2 k i = tz_gr A k i := fun k i => by
        show A2.2.2.2 k i = A.2.2.2 k i
        rw [d2, n2]
      have kn : ∀ k i, (k < 157 ∨ k = 158 ∨ k = 159 ∨ 177 ≤ k ∨ (k = 157 ∧ 26 ≤ i)) → ¬ kp_d k i := fun k i h1 h2 => by
        unfold kp_d at h2
        omega
      refine ⟨A2, D', ?_, ⟨r2, fun _ => ⟨B, cB, wB, fun q i j h => ?_⟩, ⟨fun s hs => ?_, fun i hi => ?_, ?_, ?_, ?_, fun i hi => ?_⟩, by rw [d1, n1]; exact m.2.2.2⟩, mf_mg ⟨d1.trans n1, fun k i hk => ⟨e' k i (kn k i (by omega)) (by omega), gl' k i⟩, gr'⟩⟩
      · rw [e_X12_restore]
        simp only [tz_lit, nj_m1, nj_m2, nj_m3, nj_m4, nj_m5, nj_m6, nj_m7, ↓reduceIte, tz_bI_some, tz_bV_some, tz_bL_some, cj10, cj01, cjm0, eq_self, not_true_eq_false, not_false_eq_true, or_false, false_or, or_true, true_or, or_self, and_true, true_and, and_false, false_and, q', f1, f2]
      · rw [e' _ _ (kn _ _ (by omega)) (by omega)]
        exact kB q i j h
      · obtain ⟨a, b, d⟩ := m.2.2.1.1 s hs
        refine ⟨?_, ?_, fun i hi => ?_⟩
        · rw [l2 s (by omega) hs, n3 _ _ (kn _ _ (by omega)), a]
          rfl
        · rw [e' _ _ (kn _ _ (by omega)) (by omega)]
          exact b
        · rw [gl']
          exact d i hi
      · rw [e' _ _ (kn _ _ (by omega)) (by omega)]
        exact m.2.2.1.2.1 i hi
      · rw [e' _ _ (kn _ _ (by omega)) (by omega)]
        exact m.2.2.1.2.2.1
      · rw [e' _ _ (kn _ _ (by omega)) (by omega)]
        exact m.2.2.1.2.2.2.1
      · rw [e' _ _ (kn _ _ (by omega)) (by omega)]
        exact m.2.2.1.2.2.2.2.1
      · rw [e' _ _ (kn _ _ (by omega)) (by omega)]
        exact m.2.2.1.2.2.2.2.2 i hi
theorem x_burn0 {b l : Nat} {S : tz_S} {A : tz_Mem} (hb : tz_sky b) (r : rx b 99 S A) (W : sp_W1 S) (W2 : sp_W2 S) (hl : l < S 15 0) (hw : 200 ≤ S 20 l) : f_X9_burnLetter b (tz_j l) A = some (some (.int (tz_j 0)), A) := by
  have h12 := W.2.2.1
  have h8 := W.1
  have h4 := W.2.1
  have hv := (W2.2.1 l hl).2.1
  unfold sp_wh at hv
  have ho : tz_g A (b + 20) l = tz_j (S 20 l) := cx_20 r.1 (by omega)
  rw [e_X9_burnLetter _ _ hb]
  simp (disch := omega) only [tz_lit, nj_m1, ↓reduceIte, nj_cl, nj_ltt, nj_ltf, nj_let, nj_lef, nj_eqf, nj_lt, nj_le, nj_eq, nj_add, nj_mul, nj_modx, nj_and7, nj_div, tz_bI_some, tz_bV_some, or_false, false_or, or_self, and_false, false_and, and_true, true_and, not_true_eq_false, not_false_eq_true, nt_lef, nt_let, nt_ltf, nt_ltt, nt_eqf, nj_m2, nj_m3, nj_m4, nj_m5, nj_m6, nj_m7, tz_bL_some, nj_sub, ng_ltt, ng_let, ng_gtf, ng_gef, ho]
theorem x_burn1 {b l : Nat} {S : tz_S} {A : tz_Mem} (hb : tz_sky b) (r : rx b 99 S A) (W : sp_W1 S) (W2 : sp_W2 S) (hl : l < S 15 0) (hw : S 20 l < 200) : ∃ A', f_X9_burnLetter b (tz_j l) A = some (some (.int (tz_j 1)), A') ∧ rx b 99 (tz_t S 20 l 300) A' ∧ tz_fr (rx_p b) A A' := by
  have hs := sky_lo hb
  have h12 := W.2.2.1
  have h8 := W.1
  have h4 := W.2.1
  have hv := (W2.2.1 l hl).2.1
  unfold sp_wh at hv
  have ho : tz_g A (b + 20) l = tz_j (S 20 l) := cx_20 r.1 (by omega)
  by_cases c1 : S 20 l < 100
  · have r2 : rx b 99 (tz_t S 20 l 300) (tz_s (tz_s A (b + 4) (S 20 l) (tz_g A (b + 4) (S 20 l) &&& ((tz_j 1 <<< (tz_j l &&& tz_j 31)) ^^^ tz_j 4294967295))) (b + 20) l (tz_j 300)) := by
      refine rx_move hb r h8 (fun g hg => ?_) (fun u hu hx => ?_) (fun k i a1 a2 a3 => ?_) ?_ rfl
      · rw [tz_gsk (by omega)]
        by_cases q : g = S 20 l
        · rw [q, tz_gs1]
          refine bt_congr (bj_clr (by omega) (r.2.1 _ (by omega))) (fun m _ => ?_)
          by_cases z : m = l
          · have z1 : ¬ 300 = S 20 l := by omega
            simp [z, z1]
          · have z2 : ¬ l = m := fun y => z y.symm
            simp [z, z2]
        · rw [tz_gsi q]
          refine bt_congr (r.2.1 g hg) (fun m _ => ?_)
          by_cases z : m = l
          · subst z
            have z1 : ¬ 300 = g := by omega
            have z2 : ¬ S 20 m = g := by omega
            simp [z1, z2]
          · simp [z]
      · rw [tz_gsk (by omega), tz_gsk (by omega)]
        refine bt_congr (r.2.2.1 u hu hx) (fun m _ => ?_)
        by_cases z : m = l
        · subst z
          have z1 : ¬ S 20 m = 100 + u := by omega
          have z2 : ¬ 300 = 100 + u := by omega
          simp [z1, z2]
        · simp [z]
      · rw [tz_gS, if_neg (by omega), tz_gsk a1]
      · rw [tz_gs1]
    have f : tz_fr (rx_p b) A (tz_s (tz_s A (b + 4) (S 20 l) (tz_g A (b + 4) (S 20 l) &&& ((tz_j 1 <<< (tz_j l &&& tz_j 31)) ^^^ tz_j 4294967295))) (b + 20) l (tz_j 300)) := fr_s (fr_s fr_rfl (Or.inl (by omega))) (Or.inl (by omega))
    refine ⟨_, ?_, r2, f⟩
    rw [e_X9_burnLetter _ _ hb]
    simp (disch := omega) only [tz_lit, nj_m1, ↓reduceIte, nj_cl, nj_ltt, nj_ltf, nj_let, nj_lef, nj_eqf, nj_lt, nj_le, nj_eq, nj_add, nj_mul, nj_modx, nj_and7, nj_div, tz_bI_some, tz_bV_some, or_false, false_or, or_self, and_false, false_and, and_true, true_and, not_true_eq_false, not_false_eq_true, nt_lef, nt_let, nt_ltf, nt_ltt, nt_eqf, nj_m2, nj_m3, nj_m4, nj_m5, nj_m6, nj_m7, tz_bL_some, nj_sub, ng_ltt, ng_let, ng_gtf, ng_gef, ho]
  · obtain ⟨t, ht, e⟩ : ∃ t, t < S 7 0 ∧ S 20 l = 100 + t := ⟨S 20 l - 100, by omega, by omega⟩
    rw [e] at ho
    have r2 : rx b 99 (tz_t S 20 l 300) (tz_s (tz_s A (b + 14) t (tz_g A (b + 14) t &&& ((tz_j 1 <<< (tz_j l &&& tz_j 31)) ^^^ tz_j 4294967295))) (b + 20) l (tz_j 300)) := by
      refine rx_move hb r h8 (fun g hg => ?_) (fun u hu hx => ?_) (fun k i a1 a2 a3 => ?_) ?_ rfl
      · rw [tz_gsk (by omega), tz_gsk (by omega)]
        refine bt_congr (r.2.1 g hg) (fun m _ => ?_)
        by_cases z : m = l
        · subst z
          have z1 : ¬ 300 = g := by omega
          have z2 : ¬ S 20 m = g := by omega
          simp [z1, z2]
        · simp [z]
      · rw [tz_gsk (by omega)]
        by_cases q : u = t
        · rw [q, tz_gs1]
          refine bt_congr (bj_clr (by omega) (r.2.2.1 t ht (by omega))) (fun m _ => ?_)
          by_cases z : m = l
          · have z1 : ¬ 300 = 100 + t := by omega
            simp [z, z1]
          · have z2 : ¬ l = m := fun y => z y.symm
            simp [z, z2]
        · rw [tz_gsi q]
          refine bt_congr (r.2.2.1 u hu hx) (fun m _ => ?_)
          by_cases z : m = l
          · subst z
            have z1 : ¬ S 20 m = 100 + u := by omega
            have z2 : ¬ 300 = 100 + u := by omega
            simp [z1, z2]
          · simp [z]
      · rw [tz_gS, if_neg (by omega), tz_gsk a2]
      · rw [tz_gs1]
    have f : tz_fr (rx_p b) A (tz_s (tz_s A (b + 14) t (tz_g A (b + 14) t &&& ((tz_j 1 <<< (tz_j l &&& tz_j 31)) ^^^ tz_j 4294967295))) (b + 20) l (tz_j 300)) := fr_s (fr_s fr_rfl (Or.inl (by omega))) (Or.inl (by omega))
    have e4 : tz_j (100 + t) - tz_j 100 = tz_j t := hu_s t (by omega)
    refine ⟨_, ?_, r2, f⟩
    rw [e_X9_burnLetter _ _ hb]
    simp (disch := omega) only [tz_lit, nj_m1, ↓reduceIte, nj_cl, nj_ltt, nj_ltf, nj_let, nj_lef, nj_eqf, nj_lt, nj_le, nj_eq, nj_add, nj_mul, nj_modx, nj_and7, nj_div, tz_bI_some, tz_bV_some, or_false, false_or, or_self, and_false, false_and, and_true, true_and, not_true_eq_false, not_false_eq_true, nt_lef, nt_let, nt_ltf, nt_ltt, nt_eqf, nj_m2, nj_m3, nj_m4, nj_m5, nj_m6, nj_m7, tz_bL_some, ng_ltt, ng_let, ng_gtf, ng_gef, ho, e4]
theorem H_20 {N l v : Nat} {S : tz_S} (H : sp_H N S) (hv : sp_wh S v) (hv2 : v ≠ 200) (hw : S 20 l ≠ 200) : sp_H N (tz_t S 20 l v) := by
  obtain ⟨W, W2, WE, h3, hT⟩ := H
  have f : sp_f S (tz_t S 20 l v) := sf_t (by unfold sp_kp; omega)
  exact ⟨sf_W1 f W, W2_20 W2 hv hv2 hw, we_mv WE (fun k i _ _ => tz_tk (by omega)), h3, hT⟩
theorem p_burn (x1 : Int32) : tz_twoI tz_J (f_X11_burn x1) (f_X12_burn x1) := by
  refine two_of (fun N S K U V A hN c ww => ?_)
  have W := ww.1.1
  have h8 := W.1
  have h12 := W.2.2.1
  have h4 := W.2.1
  have hT := ww.1.2.2.2.2
  rcases nj_three x1 (S 15 0) (by omega) with ⟨l, hl, rfl⟩ | h
  · have a1 := x_hasl1 h30 c.1.1 hl h12
    have hv := (ww.1.2.1.2.1 l hl).2.1
    unfold sp_wh at hv
    by_cases y : S 20 l < 200
    · obtain ⟨A1, f1, r1, g1⟩ := x_burn1 h30 c.1 W ww.1.2.1 hl y
      refine out_sky (v := tz_j 1) (S' := tz_t S 20 l 300) c ww (sp_H_mo (H_20 ww.1 (by unfold sp_wh; omega) (by omega) (by omega)) (by omega)) ww.2.1 (Nat.le_refl _) ⟨A1, ?_, r1, fx_mo (fx_fr g1) (fun k i h => by unfold rx_p at h; unfold th_p; omega)⟩ (fun A D m => ⟨tz_s A 175 l (tz_j 300), D, ?_, rm_st m.1 (Or.inr (Or.inr (Or.inr (Or.inr (Or.inr ⟨rfl, hl, rfl, by omega, by omega⟩))))) (by omega) (by omega), fr_s fr_rfl (Or.inl (by unfold mo_p; omega))⟩)
      · rw [e_X11_burn]
        simp only [tz_lit, nj_m1, nj_m2, nj_m3, nj_m4, nj_m5, nj_m6, nj_m7, ↓reduceIte, tz_bI_some, tz_bV_some, tz_bL_some, cj10, cj01, cjm0, eq_self, not_true_eq_false, not_false_eq_true, or_false, false_or, or_true, true_or, or_self, and_true, true_and, and_false, false_and, a1, f1]
      · have b1 := m_hasl1 m.1.1 hl h12
        have q := cm_175 m.1.1 hl
        rw [e_X12_burn]
        simp (disch := omega) only [tz_lit, nj_m1, ↓reduceIte, nj_cl, nj_ltt, nj_ltf, nj_let, nj_lef, nj_eqf, nj_lt, nj_le, nj_eq, nj_add, nj_mul, nj_modx, nj_and7, nj_div, tz_bI_some, tz_bV_some, or_false, false_or, or_self, and_false, false_and, and_true, true_and, not_true_eq_false, not_false_eq_true, nt_lef, nt_let, nt_ltf, nt_ltt, nt_eqf, nj_m2, nj_m3, nj_m4, nj_m5, nj_m6, nj_m7, tz_bL_some, nj_sub, ng_ltt, ng_let, ng_gtf, ng_gef, b1, e_X12_burns, q]
    · have a2 := x_burn0 h30 c.1 W ww.1.2.1 hl (by omega)
      refine out_pure (v := tz_j 0) c ww ?_ (fun A D m => ?_)
      · rw [e_X11_burn]
        simp only [tz_lit, nj_m1, nj_m2, nj_m3, nj_m4, nj_m5, nj_m6, nj_m7, ↓reduceIte, tz_bI_some, tz_bV_some, tz_bL_some, cj10, cj01, cjm0, eq_self, not_true_eq_false, not_false_eq_true, or_false, false_or, or_true, true_or, or_self, and_true, true_and, and_false, false_and, a1, a2]
      · have b1 := m_hasl1 m.1.1 hl h12
        have q := cm_175 m.1.1 hl
        rw [e_X12_burn]
        simp (disch := omega) only [tz_lit, nj_m1, ↓reduceIte, nj_cl, nj_ltt, nj_ltf, nj_let, nj_lef, nj_eqf, nj_lt, nj_le, nj_eq, nj_add, nj_mul, nj_modx, nj_and7, nj_div, tz_bI_some, tz_bV_some, or_false, false_or, or_self, and_false, false_and, and_true, true_and, not_true_eq_false, not_false_eq_true, nt_lef, nt_let, nt_ltf, nt_ltt, nt_eqf, nj_m2, nj_m3, nj_m4, nj_m5, nj_m6, nj_m7, tz_bL_some, nj_sub, ng_ltt, ng_let, ng_gtf, ng_gef, b1, e_X12_burns, q]
  · refine out_ref (v := tz_j 4294967291) 5 (by omega) c ww ?_ (fun A D m => ?_)
    · have a1 := x_hasl0 h30 c.1.1 h h12
      rw [e_X11_burn]
      simp only [tz_lit, nj_m1, nj_m2, nj_m3, nj_m4, nj_m5, nj_m6, nj_m7, ↓reduceIte, tz_bI_some, tz_bV_some, tz_bL_some, cj10, cj01, cjm0, eq_self, not_true_eq_false, not_false_eq_true, or_false, false_or, or_true, true_or, or_self, and_true, true_and, and_false, false_and, a1, x_ref1, x_ref2, x_ref3, x_ref4, x_ref5, x_ref6, x_ref7, e_X11_refuseLower]
    · have b1 := m_hasl0 m.1.1 h h12
      rw [e_X12_burn]
      simp only [tz_lit, nj_m1, nj_m2, nj_m3, nj_m4, nj_m5, nj_m6, nj_m7, ↓reduceIte, tz_bI_some, tz_bV_some, tz_bL_some, cj10, cj01, cjm0, eq_self, not_true_eq_false, not_false_eq_true, or_false, false_or, or_true, true_or, or_self, and_true, true_and, and_false, false_and, b1, m_no1, m_no2, m_no3, m_no4, m_no5, m_no6, m_no7, e_X12_no10]
