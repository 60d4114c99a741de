/-! thought: hours behind, arrivals, what is needed, postage -/
theorem h30 : tz_sky 30 := Or.inl rfl
theorem h76 : tz_sky 76 := Or.inr (Or.inr (Or.inl rfl))
theorem h99 : tz_sky 99 := Or.inr (Or.inr (Or.inr (Or.inl rfl)))
theorem kp_mt {k i : Nat} (h : kp_d k i) : mt_p k i := by
  unfold kp_d at h
  rcases h with h | h | h | h | h | h | h | h | h | h | h | h | h | h | h | h | h <;> exact Or.inl (by unfold mo_p; omega)
theorem kd_34 : ¬ kp_d 157 34 := by
  unfold kp_d
  omega
theorem kd_36 : ¬ kp_d 157 36 := by
  unfold kp_d
  omega
theorem kd_181 {i : Nat} : ¬ kp_d 181 i := by
  unfold kp_d
  omega
theorem mo_181 {i : Nat} : ¬ mo_p 181 i := by
  unfold mo_p
  omega
theorem mo_34 : ¬ mo_p 157 34 := by
  unfold mo_p
  omega
theorem mo_mt {k i : Nat} (h : mo_p k i) : mt_p k i := Or.inl h
theorem th_b {k i : Nat} (h : bc_p 76 k i) : th_p k i := by
  unfold bc_p at h
  unfold th_p
  omega
theorem th_r {k i : Nat} (h : rx_p 76 k i) : th_p k i := by
  unfold rx_p at h
  unfold th_p
  omega
/-- the model keeps all, thinks, has all again -/
theorem m_th2 (A : tz_Mem) : ∃ A1, f_X12_keep_s181 A = some (none, A1) ∧ (∀ k i, k ≠ 181 → tz_g A1 k i = tz_g A k i) ∧ tz_fr mt_p A A1 ∧ ∀ B, tz_fr mt_p A1 B → (∀ j, tz_g B 181 j = tz_g A1 181 j) → ∃ C, f_X12_again_s181 B = some (none, C) ∧ tz_fr mt_p A C ∧ (∀ k i, kp_d k i → tz_g C k i = tz_g A k i) ∧ (∀ k i, ¬ kp_d k i → tz_g C k i = tz_g B k i) := by
  obtain ⟨A1, e1, g1, a1, b1, f1⟩ := m_keep_181 A
  have fA1 : tz_fr mt_p A A1 := ⟨a1, b1, fun k i h => f1 k i (fun q => h (Or.inr (Or.inr (Or.inr (Or.inl q.1)))))⟩
  refine ⟨A1, e1, fun k i h => f1 k i (fun q => h q.1), fA1, fun B fB h181 => ?_⟩
  obtain ⟨C, e2, g2, a2, b2, f2⟩ := m_again_181 B
  refine ⟨C, e2, fr_tr fA1 (fr_tr fB ⟨a2, b2, fun k i h => f2 k i (fun q => h (kp_mt q))⟩), fun k i h => ?_, f2⟩
  obtain ⟨j, hj⟩ := kp_of h
  rw [g2 k i j hj, h181, g1 k i j hj]
theorem m_think {D : Nat → Int32} {S K : tz_S} {U : tz_U} {V : tz_V} {A : tz_Mem} (W : sp_W1 S) (hst : sp_st S) (m : MX D S K U V A) : ∃ A1, f_X12_keep_s181 A = some (none, A1) ∧ rm D S A1 ∧ tz_g A1 157 34 = tz_g A 157 34 ∧ ∀ B, tz_fr mt_p A1 B → (∀ j, tz_g B 181 j = tz_g A1 181 j) → tz_g B 157 34 = tz_g A 157 34 → tz_g B 157 36 = tz_j 4294967295 → ∃ C D', f_X12_again_s181 B = some (none, C) ∧ MX D' S K U V C ∧ mf A C ∧ ∀ k i, ¬ kp_d k i → tz_g C k i = tz_g B k i := by
  obtain ⟨A1, e1, f1, fA1, h⟩ := m_th2 A
  refine ⟨A1, e1, rm_A m.1 (fun k i h => f1 k i (by omega)), f1 157 34 (by omega), fun B fB h181 h34 h36 => ?_⟩
  obtain ⟨C, e2, fC, g, f2⟩ := h B fB h181
  obtain ⟨D', m', gg⟩ := MX_back W hst m fC g (by rw [f2 157 34 kd_34]; exact h34) (by rw [f2 157 36 kd_36, h36]; exact (m.1.2.2.2.2.2 (by rw [hst.2]; omega)).symm)
  exact ⟨C, D', e2, m', mf_mg gg, f2⟩
/-- the model's hours, whatever loop they stand in -/
theorem m_n {D : Nat → Int32} {q : Int32 → tz_Mem → tz_X} {n : Nat} (hq : ∀ i A, i < n → q (tz_j i) A = tz_bV (f_X12_goOn A) (fun A1 => q (tz_j (i + 1)) A1)) : ∀ k i N S A, i + k = n → N + k ≤ 2000000 → rm D S A → sp_H N S → S 200 0 ≠ 2 → ∃ B, q (tz_j i) A = q (tz_j n) B ∧ rm D (sp_n k S) B ∧ tz_fr mo_p A B := by
  intro k
  induction k with
  | zero =>
    intro i N S A hi hN r H h2
    rw [show i = n by omega]
    exact ⟨A, rfl, r, fr_rfl⟩
  | succ k ih =>
    intro i N S A hi hN r H h2
    obtain ⟨A1, e1, r1, f1⟩ := m_tk (by omega) r H h2
    obtain ⟨g1, g2, g3⟩ := tk_G H
    obtain ⟨B, e, r', f'⟩ := ih (i + 1) (N + 1) _ A1 (by omega) (by omega) r1 g1 (by rw [g3 200 0 (by unfold sp_kp; omega) (by omega)]; exact h2)
    refine ⟨B, ?_, r', fr_tr f1 f'⟩
    rw [hq i A (by omega), e1, tz_bV_some]
    exact e
theorem m_hours500 {n : Nat} {A : tz_Mem} (hn : n < 501) : f_X12_isHours (tz_j n) A = some (some (.int (tz_j 1)), A) := by
  rw [e_X12_isHours, e_X12_within]
  simp (disch := omega) only [tz_lit, nj_m1, ↓reduceIte, nj_cl, nj_ltt, nj_ltf, nj_let, nj_lef, nj_eqf, nj_lt, nj_le, nj_eq, nj_add, nj_mul, nj_modx, nj_and7, nj_div, tz_bI_some, tz_bV_some, or_false, false_or, or_self, and_false, false_and, and_true, true_and, not_true_eq_false, not_false_eq_true, nt_lef, nt_let, nt_ltf, nt_ltt, nt_eqf, nj_m2, nj_m3, nj_m4, nj_m5, nj_m6, nj_m7, tz_bL_some, nj_sub, ng_ltt, ng_let, ng_gtf, ng_gef, or_true]
theorem m_hours0 {x : Int32} {A : tz_Mem} (h : x < tz_j 0 ∨ tz_j 501 ≤ x) : f_X12_isHours x A = some (some (.int (tz_j 0)), A) := by
  rw [e_X12_isHours, e_X12_within]
  rcases h with h | h
  · simp (disch := omega) only [tz_lit, nj_m1, ↓reduceIte, nj_cl, nj_ltt, nj_ltf, nj_let, nj_lef, nj_eqf, nj_lt, nj_le, nj_eq, nj_add, nj_mul, nj_modx, nj_and7, nj_div, tz_bI_some, tz_bV_some, or_false, false_or, or_self, and_false, false_and, and_true, true_and, not_true_eq_false, not_false_eq_true, nt_lef, nt_let, nt_ltf, nt_ltt, nt_eqf, nj_m2, nj_m3, nj_m4, nj_m5, nj_m6, nj_m7, tz_bL_some, nj_sub, ng_ltt, ng_let, ng_gtf, ng_gef, or_true, true_or, ob_l h]
  · simp (disch := omega) only [tz_lit, nj_m1, ↓reduceIte, nj_cl, nj_ltt, nj_ltf, nj_let, nj_lef, nj_eqf, nj_lt, nj_le, nj_eq, nj_add, nj_mul, nj_modx, nj_and7, nj_div, tz_bI_some, tz_bV_some, or_false, false_or, or_self, and_false, false_and, and_true, true_and, not_true_eq_false, not_false_eq_true, nt_lef, nt_let, nt_ltf, nt_ltt, nt_eqf, nj_m2, nj_m3, nj_m4, nj_m5, nj_m6, nj_m7, tz_bL_some, nj_sub, ng_ltt, ng_let, ng_gtf, ng_gef, or_true, true_or, ob_h (show 501 < 2147483648 by omega) h]

theorem p_behind (x1 x2 x3 : Int32) : tz_twoI tz_J (f_X11_behind x1 x2 x3) (f_X12_behind x1 x2 x3) := by
  refine two_of (fun N S K U V A hN c ww => ?_)
  have W := ww.1.1
  have W2 := ww.1.2.1
  have h8 := W.1
  have h4 := W.2.1
  have h12 := W.2.2.1
  have cc := c.1.1
  rcases nj_three x1 (S 15 0) (by omega) with ⟨l, hl, rfl⟩ | h
  · have e1 := x_hasl1 h30 cc hl (by omega)
    have e2 := fun {D} {A} (m : MX D S K U V A) => m_hasl1 m.1.1 hl (by omega)
    rcases nj_three x3 2 (by omega) with ⟨u, hu, rfl⟩ | h3
    · have k3 : f_X11_isOneOfTwo (tz_j u) A = some (some (.int (tz_j 1)), A) := by
        rw [e_X11_isOneOfTwo]
        rcases (show u = 0 ∨ u = 1 by omega) with rfl | rfl
        · simp (disch := omega) only [tz_lit, nj_m1, ↓reduceIte, nj_cl, nj_ltt, nj_ltf, nj_let, nj_lef, nj_eqf, nj_lt, nj_le, nj_eq, nj_add, nj_mul, nj_modx, nj_and7, nj_div, tz_bI_some, tz_bV_some, or_false, false_or, or_self, and_false, false_and, and_true, true_and, not_true_eq_false, not_false_eq_true, nt_lef, nt_let, nt_ltf, nt_ltt, nt_eqf, nj_m2, nj_m3, nj_m4, nj_m5, nj_m6, nj_m7, tz_bL_some, nj_sub, ng_ltt, ng_let, ng_gtf, ng_gef]
        · simp (disch := omega) only [tz_lit, nj_m1, ↓reduceIte, nj_cl, nj_ltt, nj_ltf, nj_let, nj_lef, nj_eqf, nj_lt, nj_le, nj_eq, nj_add, nj_mul, nj_modx, nj_and7, nj_div, tz_bI_some, tz_bV_some, or_false, false_or, or_self, and_false, false_and, and_true, true_and, not_true_eq_false, not_false_eq_true, nt_lef, nt_let, nt_ltf, nt_ltt, nt_eqf, nj_m2, nj_m3, nj_m4, nj_m5, nj_m6, nj_m7, tz_bL_some, nj_sub, ng_ltt, ng_let, ng_gtf, ng_gef]
      have w3 : ∀ A, f_X12_within (tz_j u) (tz_j 0) (tz_j 1) A = some (some (.int (tz_j 1)), A) := fun A => by
        rw [e_X12_within]
        simp (disch := omega) only [tz_lit, nj_m1, ↓reduceIte, nj_cl, nj_ltt, nj_ltf, nj_let, nj_lef, nj_eqf, nj_lt, nj_le, nj_eq, nj_add, nj_mul, nj_modx, nj_and7, nj_div, tz_bI_some, tz_bV_some, or_false, false_or, or_self, and_false, false_and, and_true, true_and, not_true_eq_false, not_false_eq_true, nt_lef, nt_let, nt_ltf, nt_ltt, nt_eqf, nj_m2, nj_m3, nj_m4, nj_m5, nj_m6, nj_m7, tz_bL_some, nj_sub, ng_ltt, ng_let, ng_gtf, ng_gef]
      rcases nj_three x2 501 (by omega) with ⟨n, hn, rfl⟩ | h2
      · obtain ⟨A1, f1, r1, g1⟩ := x_bec2 h76 h30 (by omega) W ww.2.1 c.1
        obtain ⟨A2, f2, r2, g2⟩ := x_pass (n := n) h76 (show N + n ≤ 2000000 by omega) r1 ww.1
        obtain ⟨Hn, Hn3, Hnk⟩ := n_G n S ww.1
        have hl2 : l < sp_n n S 15 0 := by rw [Hnk 15 0 (by unfold sp_kp; omega) (by omega)]; exact hl
        refine out_th (v := if u = 0 then tz_j (sp_n n S 20 l) else tz_j (sp_n n S 16 l)) c ww ⟨A2, ?_, fx_tr (fx_mo g1 (fun k i => th_b)) (fx_mo (fx_fr g2) (fun k i => th_r))⟩ (fun A D m => ?_)
        · rw [e_X11_behind]
          simp only [tz_lit, nj_m1, nj_m2, nj_m3, nj_m4, nj_m5, nj_m6, nj_m7, ↓reduceIte, tz_bI_some, tz_bV_some, tz_bL_some, cj10, cj01, cjm0, eq_self, not_true_eq_false, not_false_eq_true, or_false, false_or, or_true, true_or, or_self, and_true, true_and, and_false, false_and, e1, k3, f1, f2]
          rcases (show u = 0 ∨ u = 1 by omega) with rfl | rfl
          · simp (disch := omega) only [tz_lit, nj_m1, ↓reduceIte, nj_cl, nj_ltt, nj_ltf, nj_let, nj_lef, nj_eqf, nj_lt, nj_le, nj_eq, nj_add, nj_mul, nj_modx, nj_and7, nj_div, tz_bI_some, tz_bV_some, or_false, false_or, or_self, and_false, false_and, and_true, true_and, not_true_eq_false, not_false_eq_true, nt_lef, nt_let, nt_ltf, nt_ltt, nt_eqf, nj_m2, nj_m3, nj_m4, nj_m5, nj_m6, nj_m7, tz_bL_some, nj_sub, ng_ltt, ng_let, ng_gtf, ng_gef, f1, f2, cg_20 r2.1]
          · simp (disch := omega) only [tz_lit, nj_m1, ↓reduceIte, nj_cl, nj_ltt, nj_ltf, nj_let, nj_lef, nj_eqf, nj_lt, nj_le, nj_eq, nj_add, nj_mul, nj_modx, nj_and7, nj_div, tz_bI_some, tz_bV_some, or_false, false_or, or_self, and_false, false_and, and_true, true_and, not_true_eq_false, not_false_eq_true, nt_lef, nt_let, nt_ltf, nt_ltt, nt_eqf, nj_m2, nj_m3, nj_m4, nj_m5, nj_m6, nj_m7, tz_bL_some, nj_sub, ng_ltt, ng_let, ng_gtf, ng_gef, f1, f2, cg_16 r2.1]
        · obtain ⟨M1, k1, rk, hk34, hback⟩ := m_think W ww.2.1 m
          obtain ⟨B, eB, rB, fB⟩ := m_n (D := D) (q := fun i A => q_X12_behind_49 (tz_j l) (tz_j n) (tz_j u) i A) (n := n) (fun i A hi => by
            show q_X12_behind_49 (tz_j l) (tz_j n) (tz_j u) (tz_j i) A = _
            rw [e_X12_behind_49]
            simp (disch := omega) only [tz_lit, nj_m1, ↓reduceIte, nj_cl, nj_ltt, nj_ltf, nj_let, nj_lef, nj_eqf, nj_lt, nj_le, nj_eq, nj_add, nj_mul, nj_modx, nj_and7, nj_div, tz_bI_some, tz_bV_some, or_false, false_or, or_self, and_false, false_and, and_true, true_and, not_true_eq_false, not_false_eq_true, nt_lef, nt_let, nt_ltf, nt_ltt, nt_eqf, nj_m2, nj_m3, nj_m4, nj_m5, nj_m6, nj_m7, tz_bL_some, nj_sub, ng_ltt, ng_let, ng_gtf, ng_gef]) n 0 N S M1 (by omega) (by omega) rk ww.1 (by rw [ww.2.1.2]; omega)
          obtain ⟨C, D', eC, mC, fC, _⟩ := hback B (fr_mo fB (fun k i => mo_mt)) (fun j => fB.2.2 181 j mo_181) ((fB.2.2 157 34 mo_34).trans hk34) (rB.2.2.2.2.2 (by rw [Hnk 200 0 (by unfold sp_kp; omega) (by omega), ww.2.1.2]; omega))
          refine ⟨C, D', ?_, mC, fC⟩
          have eB2 : q_X12_behind_49 (tz_j l) (tz_j n) (tz_j u) (tz_j 0) M1 = q_X12_behind_49 (tz_j l) (tz_j n) (tz_j u) (tz_j n) B := eB
          have hr := m_hours500 (A := A) hn
          rw [e_X12_behind]
          simp only [tz_lit, nj_m1, nj_m2, nj_m3, nj_m4, nj_m5, nj_m6, nj_m7, ↓reduceIte, tz_bI_some, tz_bV_some, tz_bL_some, cj10, cj01, cjm0, eq_self, not_true_eq_false, not_false_eq_true, or_false, false_or, or_true, true_or, or_self, and_true, true_and, and_false, false_and, e2 m, w3, hr, k1, eB2]
          rw [e_X12_behind_49]
          rcases (show u = 0 ∨ u = 1 by omega) with rfl | rfl
          · simp (disch := omega) only [tz_lit, nj_m1, ↓reduceIte, nj_cl, nj_ltt, nj_ltf, nj_let, nj_lef, nj_eqf, nj_lt, nj_le, nj_eq, nj_add, nj_mul, nj_modx, nj_and7, nj_div, tz_bI_some, tz_bV_some, or_false, false_or, or_self, and_false, false_and, and_true, true_and, not_true_eq_false, not_false_eq_true, nt_lef, nt_let, nt_ltf, nt_ltt, nt_eqf, nj_m2, nj_m3, nj_m4, nj_m5, nj_m6, nj_m7, tz_bL_some, nj_sub, ng_ltt, ng_let, ng_gtf, ng_gef, eC, cm_175 rB.1]
          · simp (disch := omega) only [tz_lit, nj_m1, ↓reduceIte, nj_cl, nj_ltt, nj_ltf, nj_let, nj_lef, nj_eqf, nj_lt, nj_le, nj_eq, nj_add, nj_mul, nj_modx, nj_and7, nj_div, tz_bI_some, tz_bV_some, or_false, false_or, or_self, and_false, false_and, and_true, true_and, not_true_eq_false, not_false_eq_true, nt_lef, nt_let, nt_ltf, nt_ltt, nt_eqf, nj_m2, nj_m3, nj_m4, nj_m5, nj_m6, nj_m7, tz_bL_some, nj_sub, ng_ltt, ng_let, ng_gtf, ng_gef, eC, cm_171 rB.1]
      · refine out_ref (v := tz_j 4294967290) 6 (by omega) c ww ?_ (fun A D m => ?_)
        · rw [e_X11_behind]
          rcases h2 with h2 | h2
          · simp only [tz_lit, nj_m1, nj_m2, nj_m3, nj_m4, nj_m5, nj_m6, nj_m7, ↓reduceIte, tz_bI_some, tz_bV_some, tz_bL_some, cj10, cj01, cjm0, eq_self, not_true_eq_false, not_false_eq_true, or_false, false_or, or_true, true_or, or_self, and_true, true_and, and_false, false_and, e1, k3, ob_l h2, x_ref1, x_ref2, x_ref3, x_ref4, x_ref5, x_ref6, x_ref7, e_X11_refuseLower]
          · have n1 : (x2 < tz_j 0) = False := ((ob_h (show 501 < 2147483648 by omega) h2).1 0 (by omega)).1
            have n2 : (x2 ≤ tz_j 500) = False := ((ob_h (show 501 < 2147483648 by omega) h2).2 500 (by omega)).1
            simp only [tz_lit, nj_m1, nj_m2, nj_m3, nj_m4, nj_m5, nj_m6, nj_m7, ↓reduceIte, tz_bI_some, tz_bV_some, tz_bL_some, cj10, cj01, cjm0, eq_self, not_true_eq_false, not_false_eq_true, or_false, false_or, or_true, true_or, or_self, and_true, true_and, and_false, false_and, e1, k3, n1, n2, x_ref1, x_ref2, x_ref3, x_ref4, x_ref5, x_ref6, x_ref7, e_X11_refuseLower]
        · have hr := m_hours0 (A := A) h2
          rw [e_X12_behind]
          simp only [tz_lit, nj_m1, nj_m2, nj_m3, nj_m4, nj_m5, nj_m6, nj_m7, ↓reduceIte, tz_bI_some, tz_bV_some, tz_bL_some, cj10, cj01, cjm0, eq_self, not_true_eq_false, not_false_eq_true, or_false, false_or, or_true, true_or, or_self, and_true, true_and, and_false, false_and, e2 m, w3, hr, m_no1, m_no2, m_no3, m_no4, m_no5, m_no6, m_no7, e_X12_no10]
    · have k3 : f_X11_isOneOfTwo x3 A = some (some (.int (tz_j 0)), A) := by
        rw [e_X11_isOneOfTwo]
        rcases h3 with h3 | h3
        · simp (disch := omega) only [tz_lit, nj_m1, ↓reduceIte, nj_cl, nj_ltt, nj_ltf, nj_let, nj_lef, nj_eqf, nj_lt, nj_le, nj_eq, nj_add, nj_mul, nj_modx, nj_and7, nj_div, tz_bI_some, tz_bV_some, or_false, false_or, or_self, and_false, false_and, and_true, true_and, not_true_eq_false, not_false_eq_true, nt_lef, nt_let, nt_ltf, nt_ltt, nt_eqf, nj_m2, nj_m3, nj_m4, nj_m5, nj_m6, nj_m7, tz_bL_some, nj_sub, ng_ltt, ng_let, ng_gtf, ng_gef, ob_l h3]
        · simp (disch := omega) only [tz_lit, nj_m1, ↓reduceIte, nj_cl, nj_ltt, nj_ltf, nj_let, nj_lef, nj_eqf, nj_lt, nj_le, nj_eq, nj_add, nj_mul, nj_modx, nj_and7, nj_div, tz_bI_some, tz_bV_some, or_false, false_or, or_self, and_false, false_and, and_true, true_and, not_true_eq_false, not_false_eq_true, nt_lef, nt_let, nt_ltf, nt_ltt, nt_eqf, nj_m2, nj_m3, nj_m4, nj_m5, nj_m6, nj_m7, tz_bL_some, nj_sub, ng_ltt, ng_let, ng_gtf, ng_gef, ob_h (show 2 < 2147483648 by omega) h3]
      have w3 : ∀ A, f_X12_within x3 (tz_j 0) (tz_j 1) A = some (some (.int (tz_j 0)), A) := fun A => by
        rw [e_X12_within]
        rcases h3 with h3 | h3
        · simp (disch := omega) only [tz_lit, nj_m1, ↓reduceIte, nj_cl, nj_ltt, nj_ltf, nj_let, nj_lef, nj_eqf, nj_lt, nj_le, nj_eq, nj_add, nj_mul, nj_modx, nj_and7, nj_div, tz_bI_some, tz_bV_some, or_false, false_or, or_self, and_false, false_and, and_true, true_and, not_true_eq_false, not_false_eq_true, nt_lef, nt_let, nt_ltf, nt_ltt, nt_eqf, nj_m2, nj_m3, nj_m4, nj_m5, nj_m6, nj_m7, tz_bL_some, nj_sub, ng_ltt, ng_let, ng_gtf, ng_gef, ob_l h3]
        · simp (disch := omega) only [tz_lit, nj_m1, ↓reduceIte, nj_cl, nj_ltt, nj_ltf, nj_let, nj_lef, nj_eqf, nj_lt, nj_le, nj_eq, nj_add, nj_mul, nj_modx, nj_and7, nj_div, tz_bI_some, tz_bV_some, or_false, false_or, or_self, and_false, false_and, and_true, true_and, not_true_eq_false, not_false_eq_true, nt_lef, nt_let, nt_ltf, nt_ltt, nt_eqf, nj_m2, nj_m3, nj_m4, nj_m5, nj_m6, nj_m7, tz_bL_some, nj_sub, ng_ltt, ng_let, ng_gtf, ng_gef, ob_h (show 2 < 2147483648 by omega) h3]
      refine out_ref (v := tz_j 4294967291) 5 (by omega) c ww ?_ (fun A D m => ?_)
      · rw [e_X11_behind]
        simp only [tz_lit, nj_m1, nj_m2, nj_m3, nj_m4, nj_m5, nj_m6, nj_m7, ↓reduceIte, tz_bI_some, tz_bV_some, tz_bL_some, cj10, cj01, cjm0, eq_self, not_true_eq_false, not_false_eq_true, or_false, false_or, or_true, true_or, or_self, and_true, true_and, and_false, false_and, e1, k3, x_ref1, x_ref2, x_ref3, x_ref4, x_ref5, x_ref6, x_ref7, e_X11_refuseLower]
      · rw [e_X12_behind]
        simp only [tz_lit, nj_m1, nj_m2, nj_m3, nj_m4, nj_m5, nj_m6, nj_m7, ↓reduceIte, tz_bI_some, tz_bV_some, tz_bL_some, cj10, cj01, cjm0, eq_self, not_true_eq_false, not_false_eq_true, or_false, false_or, or_true, true_or, or_self, and_true, true_and, and_false, false_and, e2 m, w3, m_no1, m_no2, m_no3, m_no4, m_no5, m_no6, m_no7, e_X12_no10]
  · have e1 := x_hasl0 h30 cc h (by omega)
    have e2 := fun {D} {A} (m : MX D S K U V A) => m_hasl0 m.1.1 h (by omega)
    refine out_ref (v := tz_j 4294967291) 5 (by omega) c ww ?_ (fun A D m => ?_)
    · rw [e_X11_behind]
      simp only [tz_lit, nj_m1, nj_m2, nj_m3, nj_m4, nj_m5, nj_m6, nj_m7, ↓reduceIte, tz_bI_some, tz_bV_some, tz_bL_some, cj10, cj01, cjm0, eq_self, not_true_eq_false, not_false_eq_true, or_false, false_or, or_true, true_or, or_self, and_true, true_and, and_false, false_and, e1, x_ref1, x_ref2, x_ref3, x_ref4, x_ref5, x_ref6, x_ref7, e_X11_refuseLower]
    · rw [e_X12_behind]
      simp only [tz_lit, nj_m1, nj_m2, nj_m3, nj_m4, nj_m5, nj_m6, nj_m7, ↓reduceIte, tz_bI_some, tz_bV_some, tz_bL_some, cj10, cj01, cjm0, eq_self, not_true_eq_false, not_false_eq_true, or_false, false_or, or_true, true_or, or_self, and_true, true_and, and_false, false_and, e2 m, m_no1, m_no2, m_no3, m_no4, m_no5, m_no6, m_no7, e_X12_no10]

/-- a letter's hours till it is there -/
def sp_ar (l : Nat) : Nat → tz_S → tz_S
  | 0, S => S
  | k + 1, S => if S 20 l < 200 then sp_ar l k (sp_tk S) else S
theorem ar_G {l : Nat} : ∀ k N S, sp_H N S → sp_H (N + k) (sp_ar l k S) ∧ ∀ k' i, sp_kp k' i → k' ≠ 0 ∨ i ≠ 3 → sp_ar l k S k' i = S k' i := by
  intro k
  induction k with
  | zero => exact fun N S H => ⟨H, fun _ _ _ _ => rfl⟩
  | succ k ih =>
    intro N S H
    show sp_H _ (if S 20 l < 200 then sp_ar l k (sp_tk S) else S) ∧ ∀ k' i, sp_kp k' i → k' ≠ 0 ∨ i ≠ 3 → (if S 20 l < 200 then sp_ar l k (sp_tk S) else S) k' i = S k' i
    split
    · obtain ⟨g1, g2, g3⟩ := tk_G H
      obtain ⟨i1, i2⟩ := ih (N + 1) _ g1
      exact ⟨by rw [show N + (k + 1) = N + 1 + k by omega]; exact i1, fun k' i a b => (i2 k' i a b).trans (g3 k' i a b)⟩
    · exact ⟨sp_H_mo H (by omega), fun _ _ _ _ => rfl⟩
theorem x_arL {b l : Nat} (hb : tz_sky b) : ∀ k i N S A, i + k = 500 → N + k ≤ 2000000 → rx b 99 S A → sp_H N S → l < S 15 0 → ∃ A', q_X9_arrival_2 b (tz_j l) (tz_j 2147483647) (tz_j i) A = some (some (.int (tz_j (sp_ar l k S 21 l))), A') ∧ rx b 99 (sp_ar l k S) A' ∧ tz_fr (rx_p b) A A' := by
  intro k
  induction k with
  | zero =>
    intro i N S A hi hN r H hl
    have h12 := H.1.2.2.1
    have c := r.1
    obtain rfl : i = 500 := by omega
    refine ⟨A, ?_, r, fr_rfl⟩
    rw [e_X9_arrival_2 _ _ _ _ hb]
    simp (disch := omega) only [tz_lit, nj_m1, ↓reduceIte, nj_cl, nj_ltt, nj_ltf, nj_let, nj_lef, nj_eqf, nj_lt, nj_le, nj_eq, nj_add, nj_mul, nj_modx, nj_and7, nj_div, tz_bI_some, tz_bV_some, or_false, false_or, or_self, and_false, false_and, and_true, true_and, not_true_eq_false, not_false_eq_true, nt_lef, nt_let, nt_ltf, nt_ltt, nt_eqf, nj_m2, nj_m3, nj_m4, nj_m5, nj_m6, nj_m7, tz_bL_some, nj_sub, ng_ltt, ng_let, ng_gtf, ng_gef, cx_21 c]
    rfl
  | succ k ih =>
    intro i N S A hi hN r H hl
    have h12 := H.1.2.2.1
    have h8 := H.1.1
    have h4 := H.1.2.1
    have h3 := H.2.2.2.1
    have c := r.1
    have hwl := (H.2.1.2.1 l hl).2.1
    unfold sp_wh at hwl
    rw [e_X9_arrival_2 _ _ _ _ hb]
    show ∃ A', _ = some (some (Value.int (tz_j ((if S 20 l < 200 then sp_ar l k (sp_tk S) else S) 21 l))), A') ∧ rx b 99 (if S 20 l < 200 then sp_ar l k (sp_tk S) else S) A' ∧ _
    have eu : f_X4_isUnderWay b (tz_j l) A = some (some (.int (if S 20 l < 200 then tz_j 1 else tz_j 0)), A) := by
      rw [e_X4_isUnderWay _ _ hb]
      by_cases z : S 20 l < 200
      · simp (disch := omega) only [tz_lit, nj_m1, ↓reduceIte, nj_cl, nj_ltt, nj_ltf, nj_let, nj_lef, nj_eqf, nj_lt, nj_le, nj_eq, nj_add, nj_mul, nj_modx, nj_and7, nj_div, tz_bI_some, tz_bV_some, or_false, false_or, or_self, and_false, false_and, and_true, true_and, not_true_eq_false, not_false_eq_true, nt_lef, nt_let, nt_ltf, nt_ltt, nt_eqf, nj_m2, nj_m3, nj_m4, nj_m5, nj_m6, nj_m7, tz_bL_some, nj_sub, ng_ltt, ng_let, ng_gtf, ng_gef, cx_20 c, if_pos z]
      · simp (disch := omega) only [tz_lit, nj_m1, ↓reduceIte, nj_cl, nj_ltt, nj_ltf, nj_let, nj_lef, nj_eqf, nj_lt, nj_le, nj_eq, nj_add, nj_mul, nj_modx, nj_and7, nj_div, tz_bI_some, tz_bV_some, or_false, false_or, or_self, and_false, false_and, and_true, true_and, not_true_eq_false, not_false_eq_true, nt_lef, nt_let, nt_ltf, nt_ltt, nt_eqf, nj_m2, nj_m3, nj_m4, nj_m5, nj_m6, nj_m7, tz_bL_some, nj_sub, ng_ltt, ng_let, ng_gtf, ng_gef, cx_20 c, if_neg z]
    have n1 : (tz_j 500 ≤ tz_j i) = False := nj_lef (by omega) (by omega)
    have n2 : (tz_j 2147483647 ≤ tz_j (S 0 3)) = False := nj_lef (by omega) (by omega)
    have n3 : (tz_j l < tz_j 0 ∨ 12 ≤ l) = False := by
      have := nj_ix (l := l) (n := 12) (by omega) (by omega)
      rw [nj_cl (by omega)] at this
      exact this
    have hcl : (tz_j l).toNatClampNeg = l := nj_cl (by omega)
    have q3 : tz_g A b 3 = tz_j (S 0 3) := cx_0_3 c
    have q21 : tz_g A (b + 21) l = tz_j (S 21 l) := cx_21 c (by omega)
    by_cases z : S 20 l < 200
    · rw [if_pos z] at eu ⊢
      obtain ⟨A1, e1, r1, f1⟩ := x_tk hb (by omega) r H
      obtain ⟨g1, g2, g3⟩ := tk_G H
      obtain ⟨A', e, r', f'⟩ := ih (i + 1) (N + 1) _ A1 (by omega) (by omega) r1 g1 (by rw [g3 15 0 (by unfold sp_kp; omega) (by omega)]; exact hl)
      refine ⟨A', ?_, r', fr_tr f1 f'⟩
      simp only [tz_lit, nj_m1, nj_m2, nj_m3, nj_m4, nj_m5, nj_m6, nj_m7, ↓reduceIte, tz_bI_some, tz_bV_some, tz_bL_some, cj10, cj01, cjm0, eq_self, not_true_eq_false, not_false_eq_true, or_false, false_or, or_true, true_or, or_self, and_true, true_and, and_false, false_and, n1, n2, n3, hcl, q3, eu, e1, nj_add]
      exact e
    · rw [if_neg z] at eu ⊢
      refine ⟨A, ?_, r, fr_rfl⟩
      simp only [tz_lit, nj_m1, nj_m2, nj_m3, nj_m4, nj_m5, nj_m6, nj_m7, ↓reduceIte, tz_bI_some, tz_bV_some, tz_bL_some, cj10, cj01, cjm0, eq_self, not_true_eq_false, not_false_eq_true, or_false, false_or, or_true, true_or, or_self, and_true, true_and, and_false, false_and, n1, n2, n3, hcl, q3, q21, eu]
theorem x_ar {b l N : Nat} {S : tz_S} {A : tz_Mem} (hb : tz_sky b) (hN : N + 500 ≤ 2000000) (r : rx b 99 S A) (H : sp_H N S) (hl : l < S 15 0) : ∃ A', f_X9_arrival b (tz_j l) (tz_j 2147483647) A = some (some (.int (tz_j (sp_ar l 500 S 21 l))), A') ∧ rx b 99 (sp_ar l 500 S) A' ∧ tz_fr (rx_p b) A A' := by
  rw [e_X9_arrival _ _ _ hb]
  exact x_arL hb 500 0 N S A (Nat.zero_add _) hN r H hl
theorem m_arL {D : Nat → Int32} {l : Nat} : ∀ k i N S A, i + k = 500 → N + k ≤ 2000000 → rm D S A → sp_H N S → S 200 0 ≠ 2 → l < S 15 0 → ∃ A', q_X12_arrival_2 (tz_j l) (tz_j 500) (tz_j i) A = some (some (.int (tz_j (sp_ar l k S 21 l))), A') ∧ rm D (sp_ar l k S) A' ∧ tz_fr mo_p A A' := by
  have fin : ∀ (N : Nat) (S : tz_S) (A : tz_Mem), rm D S A → sp_H N S → l < S 15 0 → (if ¬ tz_g A 175 l = tz_j 200 then some (some (.int (tz_j 4294967295)), A) else some (some (.int (tz_g A 176 l)), A) : tz_X) = some (some (.int (tz_j (S 21 l))), A) := by
    intro N S A r H hl
    have c := r.1
    have h8 := H.1.1
    have h4 := H.1.2.1
    have hw := H.2.1.2.1 l hl
    have hwl := hw.2.1
    unfold sp_wh at hwl
    by_cases z : S 20 l = 200
    · simp (disch := omega) only [tz_lit, nj_m1, ↓reduceIte, nj_cl, nj_ltt, nj_ltf, nj_let, nj_lef, nj_eqf, nj_lt, nj_le, nj_eq, nj_add, nj_mul, nj_modx, nj_and7, nj_div, tz_bI_some, tz_bV_some, or_false, false_or, or_self, and_false, false_and, and_true, true_and, not_true_eq_false, not_false_eq_true, nt_lef, nt_let, nt_ltf, nt_ltt, nt_eqf, nj_m2, nj_m3, nj_m4, nj_m5, nj_m6, nj_m7, tz_bL_some, nj_sub, ng_ltt, ng_let, ng_gtf, ng_gef, cm_175 c, cm_176 c, z]
    · simp (disch := omega) only [tz_lit, nj_m1, ↓reduceIte, nj_cl, nj_ltt, nj_ltf, nj_let, nj_lef, nj_eqf, nj_lt, nj_le, nj_eq, nj_add, nj_mul, nj_modx, nj_and7, nj_div, tz_bI_some, tz_bV_some, or_false, false_or, or_self, and_false, false_and, and_true, true_and, not_true_eq_false, not_false_eq_true, nt_lef, nt_let, nt_ltf, nt_ltt, nt_eqf, nj_m2, nj_m3, nj_m4, nj_m5, nj_m6, nj_m7, tz_bL_some, nj_sub, ng_ltt, ng_let, ng_gtf, ng_gef, cm_175 c, cm_176 c, hw.2.2.2 z, z]
  intro k
  induction k with
  | zero =>
    intro i N S A hi hN r H h2 hl
    have h12 := H.1.2.2.1
    obtain rfl : i = 500 := by omega
    have hcl : (tz_j l).toNatClampNeg = l := nj_cl (by omega)
    have n3 : (tz_j l < tz_j 0 ∨ 12 ≤ l) = False := by
      have := nj_ix (l := l) (n := 12) (by omega) (by omega)
      rw [nj_cl (by omega)] at this
      exact this
    refine ⟨A, ?_, r, fr_rfl⟩
    have n1 : (tz_j 500 ≤ tz_j 500) = True := nj_let (by omega) (by omega)
    rw [e_X12_arrival_2]
    simp only [tz_lit, nj_m1, nj_m2, nj_m3, nj_m4, nj_m5, nj_m6, nj_m7, ↓reduceIte, tz_bI_some, tz_bV_some, tz_bL_some, cj10, cj01, cjm0, eq_self, not_true_eq_false, not_false_eq_true, or_false, false_or, or_true, true_or, or_self, and_true, true_and, and_false, false_and, n1, n3, hcl]
    exact fin N S A r H hl
  | succ k ih =>
    intro i N S A hi hN r H h2 hl
    have h12 := H.1.2.2.1
    have h8 := H.1.1
    have h4 := H.1.2.1
    have c := r.1
    have hwl := (H.2.1.2.1 l hl).2.1
    unfold sp_wh at hwl
    have n1 : (tz_j 500 ≤ tz_j i) = False := nj_lef (by omega) (by omega)
    have n3 : (tz_j l < tz_j 0 ∨ 12 ≤ l) = False := by
      have := nj_ix (l := l) (n := 12) (by omega) (by omega)
      rw [nj_cl (by omega)] at this
      exact this
    have hcl : (tz_j l).toNatClampNeg = l := nj_cl (by omega)
    have q20 : tz_g A 175 l = tz_j (S 20 l) := cm_175 c hl
    rw [e_X12_arrival_2]
    show ∃ A', _ = some (some (Value.int (tz_j ((if S 20 l < 200 then sp_ar l k (sp_tk S) else S) 21 l))), A') ∧ rm D (if S 20 l < 200 then sp_ar l k (sp_tk S) else S) A' ∧ _
    by_cases z : S 20 l < 200
    · have n4 : (tz_j 200 ≤ tz_j (S 20 l)) = False := nj_lef (by omega) (by omega)
      rw [if_pos (c := S 20 l < 200) z]
      obtain ⟨A1, e1, r1, f1⟩ := m_tk (by omega) r H h2
      obtain ⟨g1, g2, g3⟩ := tk_G H
      obtain ⟨A', e, r', f'⟩ := ih (i + 1) (N + 1) _ A1 (by omega) (by omega) r1 g1 (by rw [g3 200 0 (by unfold sp_kp; omega) (by omega)]; exact h2) (by rw [g3 15 0 (by unfold sp_kp; omega) (by omega)]; exact hl)
      refine ⟨A', ?_, r', fr_tr f1 f'⟩
      simp only [tz_lit, nj_m1, nj_m2, nj_m3, nj_m4, nj_m5, nj_m6, nj_m7, ↓reduceIte, tz_bI_some, tz_bV_some, tz_bL_some, cj10, cj01, cjm0, eq_self, not_true_eq_false, not_false_eq_true, or_false, false_or, or_true, true_or, or_self, and_true, true_and, and_false, false_and, n1, n3, hcl, q20, n4, e1, nj_add]
      exact e
    · have n4 : (tz_j 200 ≤ tz_j (S 20 l)) = True := nj_let (by omega) (by omega)
      rw [if_neg (c := S 20 l < 200) z]
      refine ⟨A, ?_, r, fr_rfl⟩
      have := fin N S A r H hl
      rw [q20] at this
      simp only [tz_lit, nj_m1, nj_m2, nj_m3, nj_m4, nj_m5, nj_m6, nj_m7, ↓reduceIte, tz_bI_some, tz_bV_some, tz_bL_some, cj10, cj01, cjm0, eq_self, not_true_eq_false, not_false_eq_true, or_false, false_or, or_true, true_or, or_self, and_true, true_and, and_false, false_and, n1, n3, hcl, q20, n4]
      exact this
theorem m_ar {D : Nat → Int32} {l N : Nat} {S : tz_S} {A : tz_Mem} (hN : N + 500 ≤ 2000000) (r : rm D S A) (H : sp_H N S) (h2 : S 200 0 ≠ 2) (hl : l < S 15 0) : ∃ A', f_X12_arrival (tz_j l) (tz_j 500) A = some (some (.int (tz_j (sp_ar l 500 S 21 l))), A') ∧ rm D (sp_ar l 500 S) A' ∧ tz_fr mo_p A A' := by
  rw [e_X12_arrival]
  exact m_arL 500 0 N S A (Nat.zero_add _) hN r H h2 hl
/-- by a storm thought away, or by none -/
theorem H_06 {N v : Nat} {S : tz_S} (H : sp_H N S) (hv : v < 4294967296) : sp_H N (tz_t S 0 6 v) := by
  obtain ⟨W, W2, WE, h3, hT⟩ := H
  have g : ∀ k j, k ≠ 0 → tz_t S 0 6 v k j = S k j := fun k j hk => tz_tk hk
  have g0 : ∀ j, j ≠ 6 → tz_t S 0 6 v 0 j = S 0 j := fun j hj => tz_ti hj
  have g1 : tz_t S 0 6 v 0 6 = v := tz_t1
  refine ⟨?_, ?_, we_mv WE (fun k j h1 h2 => g k j (by omega)), by rw [g0 3 (by omega)]; exact h3, by rw [g0 3 (by omega), g0 0 (by omega)]; exact hT⟩
  · unfold sp_W1 sp_lt at W ⊢
    simp only [g 1 _ (by omega), g 2 _ (by omega), g 3 _ (by omega), g 7 _ (by omega), g 8 _ (by omega), g 9 _ (by omega), g 10 _ (by omega), g 11 _ (by omega), g 12 _ (by omega), g 15 _ (by omega), g 17 _ (by omega), g 18 _ (by omega), g 19 _ (by omega), g 22 _ (by omega)]
    exact W
  · obtain ⟨a, b, c, d, e1, e2, e3⟩ := W2
    refine ⟨a, b, c, (sum_mv (S := S) (S' := tz_t S 0 6 v) (S 1 0) (fun _ _ => rfl)).trans d, e1, e2, ?_⟩
    rw [g1]
    exact hv
theorem t06 {S : tz_S} (hst : sp_st S) : tz_t S 0 6 4294967295 = S := by
  funext k i
  rw [tz_ta]
  split
  · rename_i h
    rw [h.1, h.2, hst.1]
  · rfl
theorem x_wo {S K : tz_S} {U : tz_U} {V : tz_V} {A : tz_Mem} {N l v : Nat} (hN : N ≤ 1100000) (c : rx 30 99 S A) (H : sp_H N S) (hst : sp_st S) (hl : l < S 15 0) (hv : v < 4294967296) : ∃ A', f_X11_arrivalWithout (tz_j l) (tz_j v) A = some (some (.int (tz_j (sp_ar l 500 (tz_t S 0 6 v) 21 l))), A') ∧ tz_fx th_p A A' := by
  obtain ⟨A1, f1, r1, g1⟩ := x_bec2 h76 h30 (by omega) H.1 hst c
  have r2 : rx 76 99 (tz_t S 0 6 v) (tz_s A1 (76 + 0) 6 (tz_j v)) := rx_s h76 (by omega) (by omega) (by omega) (by omega) (by omega) (by omega) (by omega) (by omega) (by omega) r1
  obtain ⟨A2, f2, r3, g2⟩ := x_ar h76 (show N + 500 ≤ 2000000 by omega) r2 (H_06 H hv) hl
  refine ⟨A2, ?_, fx_tr (fx_s (fx_mo g1 (fun k i => th_b)) (by unfold th_p; omega)) (fx_mo (fx_fr g2) (fun k i => th_r))⟩
  have f3 : f_X9_arrival 76 (tz_j l) (tz_j 2147483647) (tz_s A1 76 6 (tz_j v)) = some (some (.int (tz_j (sp_ar l 500 (tz_t S 0 6 v) 21 l))), A2) := f2
  rw [e_X11_arrivalWithout]
  simp only [tz_lit, nj_m1, nj_m2, nj_m3, nj_m4, nj_m5, nj_m6, nj_m7, ↓reduceIte, tz_bI_some, tz_bV_some, tz_bL_some, cj10, cj01, cjm0, eq_self, not_true_eq_false, not_false_eq_true, or_false, false_or, or_true, true_or, or_self, and_true, true_and, and_false, false_and, f1, f3]
theorem m_by {D : Nat → Int32} {S : tz_S} {A : tz_Mem} {N l : Nat} (hN : N ≤ 1100000) (r : rm D S A) (H : sp_H N S) (h2 : S 200 0 = 0) (hl : l < S 15 0) : ∃ C, f_X12_arrivesBy (tz_j l) A = some (some (.int (tz_j (sp_ar l 500 S 21 l))), C) ∧ tz_fr mt_p A C ∧ (∀ k i, kp_d k i → tz_g C k i = tz_g A k i) ∧ tz_g C 157 34 = tz_g A 157 34 ∧ tz_g C 157 36 = tz_j 4294967295 := by
  obtain ⟨A1, e1, f1, fA1, h⟩ := m_th2 A
  have r1 : rm D S A1 := rm_A r (fun k i h => f1 k i (by omega))
  obtain ⟨B, e2, rB, fB⟩ := m_ar (show N + 500 ≤ 2000000 by omega) r1 H (by omega) hl
  obtain ⟨C, e3, fC, g, f2⟩ := h B (fr_mo fB (fun k i => mo_mt)) (fun j => fB.2.2 181 j mo_181)
  refine ⟨C, ?_, fC, g, ?_, ?_⟩
  · rw [e_X12_arrivesBy]
    simp only [tz_lit, nj_m1, nj_m2, nj_m3, nj_m4, nj_m5, nj_m6, nj_m7, ↓reduceIte, tz_bI_some, tz_bV_some, tz_bL_some, cj10, cj01, cjm0, eq_self, not_true_eq_false, not_false_eq_true, or_false, false_or, or_true, true_or, or_self, and_true, true_and, and_false, false_and, e1, e2, e3]
  · rw [f2 157 34 kd_34, fB.2.2 157 34 mo_34, f1 157 34 (by omega)]
  · rw [f2 157 36 kd_36]
    exact rB.2.2.2.2.2 (by rw [(ar_G 500 N S H).2 200 0 (by unfold sp_kp; omega) (by omega), h2]; omega)

theorem p_arrives (x1 : Int32) : tz_twoI tz_J (f_X11_arrives x1) (f_X12_arrives x1) := by
  refine two_of (fun N S K U V A hN c ww => ?_)
  have W := ww.1.1
  have W2 := ww.1.2.1
  have h8 := W.1
  have h4 := W.2.1
  have h12 := W.2.2.1
  have cc := c.1.1
  rcases nj_three x1 (S 15 0) (by omega) with ⟨l, hl, rfl⟩ | h
  · have e1 := x_hasl1 h30 cc hl (by omega)
    obtain ⟨A1, f1, g1⟩ := x_wo (K := K) (U := U) (V := V) (v := 4294967295) hN c.1 ww.1 ww.2.1 hl (by omega)
    rw [t06 ww.2.1] at f1
    refine out_th (v := tz_j (sp_ar l 500 S 21 l)) c ww ⟨A1, ?_, g1⟩ (fun A D m => ?_)
    · rw [e_X11_arrives]
      simp only [tz_lit, nj_m1, nj_m2, nj_m3, nj_m4, nj_m5, nj_m6, nj_m7, ↓reduceIte, tz_bI_some, tz_bV_some, tz_bL_some, cj10, cj01, cjm0, eq_self, not_true_eq_false, not_false_eq_true, or_false, false_or, or_true, true_or, or_self, and_true, true_and, and_false, false_and, e1, f1]
    · have e2 := m_hasl1 m.1.1 hl (by omega)
      obtain ⟨C, f2, fC, gC, h34, h36⟩ := m_by hN m.1 ww.1 ww.2.1.2 hl
      obtain ⟨D', m', gg⟩ := MX_back W ww.2.1 m fC gC h34 (by rw [h36]; exact (m.1.2.2.2.2.2 (by rw [ww.2.1.2]; omega)).symm)
      refine ⟨C, D', ?_, m', mf_mg gg⟩
      rw [e_X12_arrives]
      simp only [tz_lit, nj_m1, nj_m2, nj_m3, nj_m4, nj_m5, nj_m6, nj_m7, ↓reduceIte, tz_bI_some, tz_bV_some, tz_bL_some, cj10, cj01, cjm0, eq_self, not_true_eq_false, not_false_eq_true, or_false, false_or, or_true, true_or, or_self, and_true, true_and, and_false, false_and, e2, f2]
  · have e1 := x_hasl0 h30 cc h (by omega)
    refine out_ref (v := tz_j 4294967291 - tz_j 10) 5 (by omega) c ww ?_ (fun A D m => ?_)
    · rw [e_X11_arrives]
      simp only [tz_lit, nj_m1, nj_m2, nj_m3, nj_m4, nj_m5, nj_m6, nj_m7, ↓reduceIte, tz_bI_some, tz_bV_some, tz_bL_some, cj10, cj01, cjm0, eq_self, not_true_eq_false, not_false_eq_true, or_false, false_or, or_true, true_or, or_self, and_true, true_and, and_false, false_and, e1, x_ref1, x_ref2, x_ref3, x_ref4, x_ref5, x_ref6, x_ref7, e_X11_refuseLower]
    · have e2 := m_hasl0 m.1.1 h (by omega)
      rw [e_X12_arrives]
      simp only [tz_lit, nj_m1, nj_m2, nj_m3, nj_m4, nj_m5, nj_m6, nj_m7, ↓reduceIte, tz_bI_some, tz_bV_some, tz_bL_some, cj10, cj01, cjm0, eq_self, not_true_eq_false, not_false_eq_true, or_false, false_or, or_true, true_or, or_self, and_true, true_and, and_false, false_and, e2, m_no1, m_no2, m_no3, m_no4, m_no5, m_no6, m_no7, e_X12_no10]

