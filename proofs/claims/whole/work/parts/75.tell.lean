/-! says, dry, seed, status, burn -/
theorem x_isOneL {b k g : Nat} {A : tz_Mem} (hb : tz_sky b) (hk : k ≤ 6) (hg : g ≤ 6) : q_X3_isOne_10 b (tz_j g) (tz_j k) (tz_j 0) A = some (some (.int (if sp_un k g = true then tz_j 1 else tz_j 0)), A) := by
  have xt : tz_XT 1 0 = tz_j 4294967295 ∧ tz_XT 1 1 = tz_j 0 ∧ tz_XT 1 2 = tz_j 0 ∧ tz_XT 1 3 = tz_j 1 ∧ tz_XT 1 4 = tz_j 0 ∧ tz_XT 1 5 = tz_j 2 ∧ tz_XT 1 6 = tz_j 4 := by decide +kernel
  obtain ⟨x0, x1, x2, x3, x4, x5, x6⟩ := xt
  have em : ∀ i, i < 7 → q_X3_isOne_10 b (tz_j g) (tz_j 4294967295) (tz_j i) A = some (some (.int (tz_j 0)), A) := by
    intro i hi
    rw [e_X3_isOne_10 _ _ _ _ hb]
    simp (disch := omega) only [tz_lit, nj_m1, ↓reduceIte, nj_cl, nj_ltt, nj_ltf, nj_let, nj_lef, nj_eqf, nj_lt, nj_le, nj_eq, nj_add, nj_mul, nj_modx, nj_and7, nj_div, tz_bI_some, tz_bV_some, or_false, false_or, or_self, and_false, false_and, and_true, true_and, not_true_eq_false, not_false_eq_true, nt_lef, nt_let, nt_ltf, nt_ltt, nt_eqf, nj_m2, nj_m3, nj_m4, nj_m5, nj_m6, nj_m7, tz_bL_some, nj_sub, ng_ltt, ng_let, ng_gtf, ng_gef]
  have e0 : ∀ i, i < 6 → q_X3_isOne_10 b (tz_j g) (tz_j 0) (tz_j i) A = some (some (.int (if g = 0 then tz_j 1 else tz_j 0)), A) := by
    intro i hi
    rw [e_X3_isOne_10 _ _ _ _ hb]
    by_cases z : g = 0
    · simp (disch := omega) only [tz_lit, nj_m1, ↓reduceIte, nj_cl, nj_ltt, nj_ltf, nj_let, nj_lef, nj_eqf, nj_lt, nj_le, nj_eq, nj_add, nj_mul, nj_modx, nj_and7, nj_div, tz_bI_some, tz_bV_some, or_false, false_or, or_self, and_false, false_and, and_true, true_and, not_true_eq_false, not_false_eq_true, nt_lef, nt_let, nt_ltf, nt_ltt, nt_eqf, nj_m2, nj_m3, nj_m4, nj_m5, nj_m6, nj_m7, tz_bL_some, nj_sub, ng_ltt, ng_let, ng_gtf, ng_gef, z]
    · simp (disch := omega) only [tz_lit, nj_m1, ↓reduceIte, nj_cl, nj_ltt, nj_ltf, nj_let, nj_lef, nj_eqf, nj_lt, nj_le, nj_eq, nj_add, nj_mul, nj_modx, nj_and7, nj_div, tz_bI_some, tz_bV_some, or_false, false_or, or_self, and_false, false_and, and_true, true_and, not_true_eq_false, not_false_eq_true, nt_lef, nt_let, nt_ltf, nt_ltt, nt_eqf, nj_m2, nj_m3, nj_m4, nj_m5, nj_m6, nj_m7, tz_bL_some, nj_sub, ng_ltt, ng_let, ng_gtf, ng_gef, if_neg z, x0, em (i + 1)]
  have e1 : ∀ u i, i < 5 → u = 1 ∨ u = 2 ∨ u = 4 → q_X3_isOne_10 b (tz_j g) (tz_j u) (tz_j i) A = some (some (.int (if g = u ∨ g = 0 then tz_j 1 else tz_j 0)), A) := by
    intro u i hi hu
    rw [e_X3_isOne_10 _ _ _ _ hb]
    by_cases z : g = u
    · simp (disch := omega) only [tz_lit, nj_m1, ↓reduceIte, nj_cl, nj_ltt, nj_ltf, nj_let, nj_lef, nj_eqf, nj_lt, nj_le, nj_eq, nj_add, nj_mul, nj_modx, nj_and7, nj_div, tz_bI_some, tz_bV_some, or_false, false_or, or_self, and_false, false_and, and_true, true_and, not_true_eq_false, not_false_eq_true, nt_lef, nt_let, nt_ltf, nt_ltt, nt_eqf, nj_m2, nj_m3, nj_m4, nj_m5, nj_m6, nj_m7, tz_bL_some, nj_sub, ng_ltt, ng_let, ng_gtf, ng_gef, z]
    · have z2 : ¬ u = g := fun q => z q.symm
      rcases hu with rfl | rfl | rfl
      · simp (disch := omega) only [tz_lit, nj_m1, ↓reduceIte, nj_cl, nj_ltt, nj_ltf, nj_let, nj_lef, nj_eqf, nj_lt, nj_le, nj_eq, nj_add, nj_mul, nj_modx, nj_and7, nj_div, tz_bI_some, tz_bV_some, or_false, false_or, or_self, and_false, false_and, and_true, true_and, not_true_eq_false, not_false_eq_true, nt_lef, nt_let, nt_ltf, nt_ltt, nt_eqf, nj_m2, nj_m3, nj_m4, nj_m5, nj_m6, nj_m7, tz_bL_some, nj_sub, ng_ltt, ng_let, ng_gtf, ng_gef, if_neg z, x1, e0 (i + 1)]
      · simp (disch := omega) only [tz_lit, nj_m1, ↓reduceIte, nj_cl, nj_ltt, nj_ltf, nj_let, nj_lef, nj_eqf, nj_lt, nj_le, nj_eq, nj_add, nj_mul, nj_modx, nj_and7, nj_div, tz_bI_some, tz_bV_some, or_false, false_or, or_self, and_false, false_and, and_true, true_and, not_true_eq_false, not_false_eq_true, nt_lef, nt_let, nt_ltf, nt_ltt, nt_eqf, nj_m2, nj_m3, nj_m4, nj_m5, nj_m6, nj_m7, tz_bL_some, nj_sub, ng_ltt, ng_let, ng_gtf, ng_gef, if_neg z, x2, e0 (i + 1)]
      · simp (disch := omega) only [tz_lit, nj_m1, ↓reduceIte, nj_cl, nj_ltt, nj_ltf, nj_let, nj_lef, nj_eqf, nj_lt, nj_le, nj_eq, nj_add, nj_mul, nj_modx, nj_and7, nj_div, tz_bI_some, tz_bV_some, or_false, false_or, or_self, and_false, false_and, and_true, true_and, not_true_eq_false, not_false_eq_true, nt_lef, nt_let, nt_ltf, nt_ltt, nt_eqf, nj_m2, nj_m3, nj_m4, nj_m5, nj_m6, nj_m7, tz_bL_some, nj_sub, ng_ltt, ng_let, ng_gtf, ng_gef, if_neg z, x4, e0 (i + 1)]
  have e2 : ∀ k u, (k = 3 ∧ u = 1) ∨ (k = 5 ∧ u = 2) ∨ (k = 6 ∧ u = 4) → q_X3_isOne_10 b (tz_j g) (tz_j k) (tz_j 0) A = some (some (.int (if g = k ∨ g = u ∨ g = 0 then tz_j 1 else tz_j 0)), A) := by
    intro k u hk
    rw [e_X3_isOne_10 _ _ _ _ hb]
    by_cases z : g = k
    · rcases hk with ⟨rfl, rfl⟩ | ⟨rfl, rfl⟩ | ⟨rfl, rfl⟩
      · simp (disch := omega) only [tz_lit, nj_m1, ↓reduceIte, nj_cl, nj_ltt, nj_ltf, nj_let, nj_lef, nj_eqf, nj_lt, nj_le, nj_eq, nj_add, nj_mul, nj_modx, nj_and7, nj_div, tz_bI_some, tz_bV_some, or_false, false_or, or_self, and_false, false_and, and_true, true_and, not_true_eq_false, not_false_eq_true, nt_lef, nt_let, nt_ltf, nt_ltt, nt_eqf, nj_m2, nj_m3, nj_m4, nj_m5, nj_m6, nj_m7, tz_bL_some, nj_sub, ng_ltt, ng_let, ng_gtf, ng_gef, z]
      · simp (disch := omega) only [tz_lit, nj_m1, ↓reduceIte, nj_cl, nj_ltt, nj_ltf, nj_let, nj_lef, nj_eqf, nj_lt, nj_le, nj_eq, nj_add, nj_mul, nj_modx, nj_and7, nj_div, tz_bI_some, tz_bV_some, or_false, false_or, or_self, and_false, false_and, and_true, true_and, not_true_eq_false, not_false_eq_true, nt_lef, nt_let, nt_ltf, nt_ltt, nt_eqf, nj_m2, nj_m3, nj_m4, nj_m5, nj_m6, nj_m7, tz_bL_some, nj_sub, ng_ltt, ng_let, ng_gtf, ng_gef, z]
      · simp (disch := omega) only [tz_lit, nj_m1, ↓reduceIte, nj_cl, nj_ltt, nj_ltf, nj_let, nj_lef, nj_eqf, nj_lt, nj_le, nj_eq, nj_add, nj_mul, nj_modx, nj_and7, nj_div, tz_bI_some, tz_bV_some, or_false, false_or, or_self, and_false, false_and, and_true, true_and, not_true_eq_false, not_false_eq_true, nt_lef, nt_let, nt_ltf, nt_ltt, nt_eqf, nj_m2, nj_m3, nj_m4, nj_m5, nj_m6, nj_m7, tz_bL_some, nj_sub, ng_ltt, ng_let, ng_gtf, ng_gef, z]
    · have z2 : ¬ k = g := fun q => z q.symm
      rcases hk with ⟨rfl, rfl⟩ | ⟨rfl, rfl⟩ | ⟨rfl, rfl⟩
      · simp (disch := omega) only [tz_lit, nj_m1, ↓reduceIte, nj_cl, nj_ltt, nj_ltf, nj_let, nj_lef, nj_eqf, nj_lt, nj_le, nj_eq, nj_add, nj_mul, nj_modx, nj_and7, nj_div, tz_bI_some, tz_bV_some, or_false, false_or, or_self, and_false, false_and, and_true, true_and, not_true_eq_false, not_false_eq_true, nt_lef, nt_let, nt_ltf, nt_ltt, nt_eqf, nj_m2, nj_m3, nj_m4, nj_m5, nj_m6, nj_m7, tz_bL_some, nj_sub, ng_ltt, ng_let, ng_gtf, ng_gef, if_neg z, x3, e1 1 (0 + 1)]
      · simp (disch := omega) only [tz_lit, nj_m1, ↓reduceIte, nj_cl, nj_ltt, nj_ltf, nj_let, nj_lef, nj_eqf, nj_lt, nj_le, nj_eq, nj_add, nj_mul, nj_modx, nj_and7, nj_div, tz_bI_some, tz_bV_some, or_false, false_or, or_self, and_false, false_and, and_true, true_and, not_true_eq_false, not_false_eq_true, nt_lef, nt_let, nt_ltf, nt_ltt, nt_eqf, nj_m2, nj_m3, nj_m4, nj_m5, nj_m6, nj_m7, tz_bL_some, nj_sub, ng_ltt, ng_let, ng_gtf, ng_gef, if_neg z, x5, e1 2 (0 + 1)]
      · simp (disch := omega) only [tz_lit, nj_m1, ↓reduceIte, nj_cl, nj_ltt, nj_ltf, nj_let, nj_lef, nj_eqf, nj_lt, nj_le, nj_eq, nj_add, nj_mul, nj_modx, nj_and7, nj_div, tz_bI_some, tz_bV_some, or_false, false_or, or_self, and_false, false_and, and_true, true_and, not_true_eq_false, not_false_eq_true, nt_lef, nt_let, nt_ltf, nt_ltt, nt_eqf, nj_m2, nj_m3, nj_m4, nj_m5, nj_m6, nj_m7, tz_bL_some, nj_sub, ng_ltt, ng_let, ng_gtf, ng_gef, if_neg z, x6, e1 4 (0 + 1)]
  unfold sp_un
  rcases (show k = 0 ∨ k = 1 ∨ k = 2 ∨ k = 3 ∨ k = 4 ∨ k = 5 ∨ k = 6 by omega) with rfl | rfl | rfl | rfl | rfl | rfl | rfl
  · rw [e0 0 (by omega)]
    congr 5
    simp
  · rw [e1 1 0 (by omega) (by omega)]
    congr 5
    simp
  · rw [e1 2 0 (by omega) (by omega)]
    congr 5
    simp
  · rw [e2 3 1 (by omega)]
    congr 5
    simp [or_assoc, or_comm, or_left_comm]
  · rw [e1 4 0 (by omega) (by omega)]
    congr 5
    simp
  · rw [e2 5 2 (by omega)]
    congr 5
    simp [or_assoc, or_comm, or_left_comm]
  · rw [e2 6 4 (by omega)]
    congr 5
    simp [or_assoc, or_comm, or_left_comm]
theorem x_isOne {b h g : Nat} {S : tz_S} {A : tz_Mem} (hb : tz_sky b) (c : rx_c b S A) (W : sp_W1 S) (hh : h < S 1 0) (hg : g ≤ 6) : f_X3_isOne b (tz_j h) (tz_j g) A = some (some (.int (if sp_un (S 2 h) g = true then tz_j 1 else tz_j 0)), A) := by
  have h8 := W.1
  have hk := W.2.2.2.1 h hh
  rw [e_X3_isOne _ _ _ hb]
  simp (disch := omega) only [tz_lit, nj_m1, ↓reduceIte, nj_cl, nj_ltt, nj_ltf, nj_let, nj_lef, nj_eqf, nj_lt, nj_le, nj_eq, nj_add, nj_mul, nj_modx, nj_and7, nj_div, tz_bI_some, tz_bV_some, or_false, false_or, or_self, and_false, false_and, and_true, true_and, not_true_eq_false, not_false_eq_true, nt_lef, nt_let, nt_ltf, nt_ltt, nt_eqf, nj_m2, nj_m3, nj_m4, nj_m5, nj_m6, nj_m7, tz_bL_some, nj_sub, ng_ltt, ng_let, ng_gtf, ng_gef, cx_2 c, x_isOneL hb hk.1 hg]

theorem bc_ex (x : Int32) : ∃ v, ∀ A, f_J6_bitCount x A = some (some (.int v), A) := ⟨_, e_J6_bitCount x⟩
theorem p_says (x1 x2 : Int32) : tz_twoI tz_J (f_X11_says x1 x2) (f_X12_says x1 x2) := by
  refine two_of (fun N S K U V A hN c ww => ?_)
  have W := ww.1.1
  have W2 := ww.1.2.1
  have h8 := W.1
  have h4 := W.2.1
  have h12 := W.2.2.1
  have cc := c.1.1
  rcases nj_three x1 8 (by omega) with ⟨s, hs, rfl⟩ | h | h
  · have k1 : f_X8_has (tz_j s) A = some (some (.int (tz_j 1)), A) := by
      rw [e_X8_has]
      simp (disch := omega) only [tz_lit, nj_m1, ↓reduceIte, nj_cl, nj_ltt, nj_ltf, nj_let, nj_lef, nj_eqf, nj_lt, nj_le, nj_eq, nj_add, nj_mul, nj_modx, nj_and7, nj_div, tz_bI_some, tz_bV_some, or_false, false_or, or_self, and_false, false_and, and_true, true_and, not_true_eq_false, not_false_eq_true, nt_lef, nt_let, nt_ltf, nt_ltt, nt_eqf, nj_m2, nj_m3, nj_m4, nj_m5, nj_m6, nj_m7, tz_bL_some, nj_sub, ng_ltt, ng_let, ng_gtf, ng_gef]
    have w1 : ∀ A, f_X12_within (tz_j s) (tz_j 0) (tz_j 7) A = some (some (.int (tz_j 1)), A) := fun A => by
      rw [e_X12_within]
      simp (disch := omega) only [tz_lit, nj_m1, ↓reduceIte, nj_cl, nj_ltt, nj_ltf, nj_let, nj_lef, nj_eqf, nj_lt, nj_le, nj_eq, nj_add, nj_mul, nj_modx, nj_and7, nj_div, tz_bI_some, tz_bV_some, or_false, false_or, or_self, and_false, false_and, and_true, true_and, not_true_eq_false, not_false_eq_true, nt_lef, nt_let, nt_ltf, nt_ltt, nt_eqf, nj_m2, nj_m3, nj_m4, nj_m5, nj_m6, nj_m7, tz_bL_some, nj_sub, ng_ltt, ng_let, ng_gtf, ng_gef]
    have hcl : (tz_j s).toNatClampNeg = s := nj_cl (by omega)
    have hgd : (tz_j s < tz_j 0 ∨ 8 ≤ s) = False := by
      have := nj_ix (l := s) (n := 8) (by omega) (by omega)
      rw [hcl] at this
      exact this
    rcases nj_three x2 7 (by omega) with ⟨g, hg, rfl⟩ | h2 | h2
    · have k2 : f_X11_isKind (tz_j g) A = some (some (.int (tz_j 1)), A) := by
        rw [e_X11_isKind]
        simp (disch := omega) only [tz_lit, nj_m1, ↓reduceIte, nj_cl, nj_ltt, nj_ltf, nj_let, nj_lef, nj_eqf, nj_lt, nj_le, nj_eq, nj_add, nj_mul, nj_modx, nj_and7, nj_div, tz_bI_some, tz_bV_some, or_false, false_or, or_self, and_false, false_and, and_true, true_and, not_true_eq_false, not_false_eq_true, nt_lef, nt_let, nt_ltf, nt_ltt, nt_eqf, nj_m2, nj_m3, nj_m4, nj_m5, nj_m6, nj_m7, tz_bL_some, nj_sub, ng_ltt, ng_let, ng_gtf, ng_gef]
      have w2 : ∀ A, f_X12_within (tz_j g) (tz_j 0) (tz_j 6) A = some (some (.int (tz_j 1)), A) := fun A => by
        rw [e_X12_within]
        simp (disch := omega) only [tz_lit, nj_m1, ↓reduceIte, nj_cl, nj_ltt, nj_ltf, nj_let, nj_lef, nj_eqf, nj_lt, nj_le, nj_eq, nj_add, nj_mul, nj_modx, nj_and7, nj_div, tz_bI_some, tz_bV_some, or_false, false_or, or_self, and_false, false_and, and_true, true_and, not_true_eq_false, not_false_eq_true, nt_lef, nt_let, nt_ltf, nt_ltt, nt_eqf, nj_m2, nj_m3, nj_m4, nj_m5, nj_m6, nj_m7, tz_bL_some, nj_sub, ng_ltt, ng_let, ng_gtf, ng_gef]
      obtain ⟨hu, l, hl, hl1⟩ := lg_rw ww.2.2.2.2 hs
      have q := (c.2.2.1.1 s hs).1
      rcases hu with z | ⟨h, hh, z⟩ | ⟨t, ht, z⟩
      · rw [z] at q
        have e1 := x_hash0 (b := 30) (Or.inl rfl) cc (x := tz_j 4294967295) (Or.inl (by decide)) (by omega)
        have k3 : f_X8_holdsRow (tz_j s) A = some (some (.int (tz_j 0)), A) := by
          rw [e_X8_holdsRow]
          simp (disch := omega) only [tz_lit, nj_m1, ↓reduceIte, nj_cl, nj_ltt, nj_ltf, nj_let, nj_lef, nj_eqf, nj_lt, nj_le, nj_eq, nj_add, nj_mul, nj_modx, nj_and7, nj_div, tz_bI_some, tz_bV_some, or_false, false_or, or_self, and_false, false_and, and_true, true_and, not_true_eq_false, not_false_eq_true, nt_lef, nt_let, nt_ltf, nt_ltt, nt_eqf, nj_m2, nj_m3, nj_m4, nj_m5, nj_m6, nj_m7, tz_bL_some, nj_sub, ng_ltt, ng_let, ng_gtf, ng_gef, q]
        refine out_ref (v := tz_j 4294967293) 3 (by omega) c ww ?_ (fun A D m => ?_)
        · rw [e_X11_says]
          simp only [tz_lit, nj_m1, nj_m2, nj_m3, nj_m4, nj_m5, nj_m6, nj_m7, ↓reduceIte, tz_bI_some, tz_bV_some, tz_bL_some, cj10, cj01, cjm0, eq_self, not_true_eq_false, not_false_eq_true, or_false, false_or, or_true, true_or, or_self, and_true, true_and, and_false, false_and, k1, k2, k3, hcl, hgd, q, e1, x_ref1, x_ref2, x_ref3, x_ref4, x_ref5, x_ref6, x_ref7, e_X11_refuseLower]
        · have p := (m.2.2.1.1 s hs).1
          rw [z] at p
          have n1 : (tz_j 4294967295 < tz_j 0) = True := eq_true (by decide)
          have n2 : (tz_j 0 ≤ tz_j 4294967295) = False := eq_false (by decide)
          rw [e_X12_says]
          simp only [tz_lit, nj_m1, nj_m2, nj_m3, nj_m4, nj_m5, nj_m6, nj_m7, ↓reduceIte, tz_bI_some, tz_bV_some, tz_bL_some, cj10, cj01, cjm0, eq_self, not_true_eq_false, not_false_eq_true, or_false, false_or, or_true, true_or, or_self, and_true, true_and, and_false, false_and, w1, w2, hcl, hgd, p, n1, n2, m_no1, m_no2, m_no3, m_no4, m_no5, m_no6, m_no7, e_X12_no10]
      · rw [z] at q
        have e1 := x_hash1 (b := 30) (Or.inl rfl) cc hh (by omega)
        have e3 := x_isOne (b := 30) (Or.inl rfl) cc W hh (show g ≤ 6 by omega)
        have k3 : f_X8_holdsRow (tz_j s) A = some (some (.int (tz_j 0)), A) := by
          rw [e_X8_holdsRow]
          simp (disch := omega) only [tz_lit, nj_m1, ↓reduceIte, nj_cl, nj_ltt, nj_ltf, nj_let, nj_lef, nj_eqf, nj_lt, nj_le, nj_eq, nj_add, nj_mul, nj_modx, nj_and7, nj_div, tz_bI_some, tz_bV_some, or_false, false_or, or_self, and_false, false_and, and_true, true_and, not_true_eq_false, not_false_eq_true, nt_lef, nt_let, nt_ltf, nt_ltt, nt_eqf, nj_m2, nj_m3, nj_m4, nj_m5, nj_m6, nj_m7, tz_bL_some, nj_sub, ng_ltt, ng_let, ng_gtf, ng_gef, q]
        have hk := W.2.2.2.1 h hh
        have hcl2 : (tz_j h).toNatClampNeg = h := nj_cl (by omega)
        have hgd2 : (tz_j h < tz_j 0 ∨ 8 ≤ h) = False := by
          have := nj_ix (l := h) (n := 8) (by omega) (by omega)
          rw [hcl2] at this
          exact this
        have n3 : (8 ≤ h) = False := nt_lef (by omega)
        have n1 : (tz_j h < tz_j 0) = False := nj_ltf (by omega) (by omega)
        have n2 : (tz_j 0 ≤ tz_j h) = True := nj_let (by omega) (by omega)
        have w3 : ∀ A D, MX D S K U V A → f_X12_isRow (tz_j s) A = some (some (.int (tz_j 0)), A) := fun A D m => by
          have p := (m.2.2.1.1 s hs).1
          rw [z] at p
          rw [e_X12_isRow]
          simp (disch := omega) only [tz_lit, nj_m1, ↓reduceIte, nj_cl, nj_ltt, nj_ltf, nj_let, nj_lef, nj_eqf, nj_lt, nj_le, nj_eq, nj_add, nj_mul, nj_modx, nj_and7, nj_div, tz_bI_some, tz_bV_some, or_false, false_or, or_self, and_false, false_and, and_true, true_and, not_true_eq_false, not_false_eq_true, nt_lef, nt_let, nt_ltf, nt_ltt, nt_eqf, nj_m2, nj_m3, nj_m4, nj_m5, nj_m6, nj_m7, tz_bL_some, nj_sub, ng_ltt, ng_let, ng_gtf, ng_gef, p]
        by_cases un : sp_un (S 2 h) g = true
        · rw [if_pos un] at e3
          have mo : ∀ A D v, MX D S K U V A → (if tz_j g = tz_j 0 then tz_bI (f_X12_lying (tz_j h) A) (fun y5 A5 => tz_bI (f_J6_bitCount y5 A5) (fun y6 A6 => some (some (.int y6), A6)))
            else if tz_j g = tz_j 1 then tz_bI (f_X12_times (tz_j h) (tz_j 50) A) (fun y5 A5 => some (some (.int y5), A5))
            else if tz_j g = tz_j 2 then tz_bI (f_X12_becomes (tz_j h) (tz_j 1234) A) (fun y5 A5 => some (some (.int y5), A5))
            else if tz_j g = tz_j 3 then tz_bI (f_X12_times (tz_j h) (tz_j 50) A) (fun y5 A5 => some (some (.int y5), A5))
            else if tz_j g = tz_j 4 then tz_bI (f_X12_times (tz_j h) (tz_j 50) A) (fun y5 A5 => some (some (.int y5), A5))
            else if tz_j g = tz_j 5 then tz_bI (f_X12_becomes (tz_j h) (tz_j 1234) A) (fun y5 A5 => some (some (.int y5), A5))
            else tz_bI (f_X12_times (tz_j h) (tz_j 50) A) (fun y5 A5 => some (some (.int y5), A5)) : tz_X) = some (some (.int v), A) → f_X12_says (tz_j s) (tz_j g) A = some (some (.int v), A) := by
            intro A D v m hv
            have p := (m.2.2.1.1 s hs).1
            rw [z] at p
            have e4 := m_isUnder (A := A) hk.1 (show g ≤ 6 by omega)
            rw [if_pos un] at e4
            have p2 := cm_161 m.1.1 hh
            rw [e_X12_says]
            simp only [tz_lit, nj_m1, nj_m2, nj_m3, nj_m4, nj_m5, nj_m6, nj_m7, ↓reduceIte, tz_bI_some, tz_bV_some, tz_bL_some, cj10, cj01, cjm0, eq_self, not_true_eq_false, not_false_eq_true, or_false, false_or, or_true, true_or, or_self, and_true, true_and, and_false, false_and, w1, w2, w3 A D m, hcl, hgd, p, n1, n2, n3, hcl2, hgd2, p2, e4]
            exact hv
          have cl : ∀ v, f_X3_answer 30 (tz_j h) (tz_j g) A = some (some (.int v), A) → f_X11_says (tz_j s) (tz_j g) A = some (some (.int v), A) := by
            intro v hv
            rw [e_X11_says]
            simp only [tz_lit, nj_m1, nj_m2, nj_m3, nj_m4, nj_m5, nj_m6, nj_m7, ↓reduceIte, tz_bI_some, tz_bV_some, tz_bL_some, cj10, cj01, cjm0, eq_self, not_true_eq_false, not_false_eq_true, or_false, false_or, or_true, true_or, or_self, and_true, true_and, and_false, false_and, k1, k2, k3, hcl, hgd, q, e1, e3, hv]
          by_cases g0 : g = 0
          · subst g0
            obtain ⟨v, eb⟩ := bc_ex (tz_g A 34 h)
            have hbits := m_at30 hh c.1
            refine out_pure (v := v) c ww (cl v ?_) (fun A' D m => mo A' D v m ?_)
            · have eb2 : f_J6_bitCount (tz_g A (30 + 4) h) A = some (some (.int v), A) := eb A
              rw [e_X3_answer _ _ _ (show tz_sky 30 from Or.inl rfl)]
              simp only [tz_lit, nj_m1, nj_m2, nj_m3, nj_m4, nj_m5, nj_m6, nj_m7, ↓reduceIte, tz_bI_some, tz_bV_some, tz_bL_some, cj10, cj01, cjm0, eq_self, not_true_eq_false, not_false_eq_true, or_false, false_or, or_true, true_or, or_self, and_true, true_and, and_false, false_and, hcl2, hgd2, n3, n1, eb2]
            · have e6 := m_lying m.1.1 W W2 (show h < 1000 by omega) hbits
              simp only [tz_lit, nj_m1, nj_m2, nj_m3, nj_m4, nj_m5, nj_m6, nj_m7, ↓reduceIte, tz_bI_some, tz_bV_some, tz_bL_some, cj10, cj01, cjm0, eq_self, not_true_eq_false, not_false_eq_true, or_false, false_or, or_true, true_or, or_self, and_true, true_and, and_false, false_and, e6, eb]
          · by_cases g2 : g = 2 ∨ g = 5
            · have e5 := x_bec (b := 30) (Or.inl rfl) cc W hh (show 1234 ≤ 9999 by omega)
              refine out_pure (v := tz_j (sp_bec S h 1234)) c ww (cl _ ?_) (fun A' D m => mo A' D _ m ?_)
              · rw [e_X3_answer _ _ _ (show tz_sky 30 from Or.inl rfl)]
                rcases g2 with rfl | rfl
                · simp (disch := omega) only [tz_lit, nj_m1, ↓reduceIte, nj_cl, nj_ltt, nj_ltf, nj_let, nj_lef, nj_eqf, nj_lt, nj_le, nj_eq, nj_add, nj_mul, nj_modx, nj_and7, nj_div, tz_bI_some, tz_bV_some, or_false, false_or, or_self, and_false, false_and, and_true, true_and, not_true_eq_false, not_false_eq_true, nt_lef, nt_let, nt_ltf, nt_ltt, nt_eqf, nj_m2, nj_m3, nj_m4, nj_m5, nj_m6, nj_m7, tz_bL_some, nj_sub, ng_ltt, ng_let, ng_gtf, ng_gef, e5]
                · simp (disch := omega) only [tz_lit, nj_m1, ↓reduceIte, nj_cl, nj_ltt, nj_ltf, nj_let, nj_lef, nj_eqf, nj_lt, nj_le, nj_eq, nj_add, nj_mul, nj_modx, nj_and7, nj_div, tz_bI_some, tz_bV_some, or_false, false_or, or_self, and_false, false_and, and_true, true_and, not_true_eq_false, not_false_eq_true, nt_lef, nt_let, nt_ltf, nt_ltt, nt_eqf, nj_m2, nj_m3, nj_m4, nj_m5, nj_m6, nj_m7, tz_bL_some, nj_sub, ng_ltt, ng_let, ng_gtf, ng_gef, e5]
              · have e6 := m_bec m.1.1 W hh (show 1234 ≤ 9999 by omega)
                rcases g2 with rfl | rfl
                · simp (disch := omega) only [tz_lit, nj_m1, ↓reduceIte, nj_cl, nj_ltt, nj_ltf, nj_let, nj_lef, nj_eqf, nj_lt, nj_le, nj_eq, nj_add, nj_mul, nj_modx, nj_and7, nj_div, tz_bI_some, tz_bV_some, or_false, false_or, or_self, and_false, false_and, and_true, true_and, not_true_eq_false, not_false_eq_true, nt_lef, nt_let, nt_ltf, nt_ltt, nt_eqf, nj_m2, nj_m3, nj_m4, nj_m5, nj_m6, nj_m7, tz_bL_some, nj_sub, ng_ltt, ng_let, ng_gtf, ng_gef, e6]
                · simp (disch := omega) only [tz_lit, nj_m1, ↓reduceIte, nj_cl, nj_ltt, nj_ltf, nj_let, nj_lef, nj_eqf, nj_lt, nj_le, nj_eq, nj_add, nj_mul, nj_modx, nj_and7, nj_div, tz_bI_some, tz_bV_some, or_false, false_or, or_self, and_false, false_and, and_true, true_and, not_true_eq_false, not_false_eq_true, nt_lef, nt_let, nt_ltf, nt_ltt, nt_eqf, nj_m2, nj_m3, nj_m4, nj_m5, nj_m6, nj_m7, tz_bL_some, nj_sub, ng_ltt, ng_let, ng_gtf, ng_gef, e6]
            · have e5 := x_tim (b := 30) (Or.inl rfl) cc W hh (show 50 ≤ 99 by omega)
              refine out_pure (v := tz_j (sp_tim S h 50)) c ww (cl _ ?_) (fun A' D m => mo A' D _ m ?_)
              · rw [e_X3_answer _ _ _ (show tz_sky 30 from Or.inl rfl)]
                simp (disch := omega) only [tz_lit, nj_m1, ↓reduceIte, nj_cl, nj_ltt, nj_ltf, nj_let, nj_lef, nj_eqf, nj_lt, nj_le, nj_eq, nj_add, nj_mul, nj_modx, nj_and7, nj_div, tz_bI_some, tz_bV_some, or_false, false_or, or_self, and_false, false_and, and_true, true_and, not_true_eq_false, not_false_eq_true, nt_lef, nt_let, nt_ltf, nt_ltt, nt_eqf, nj_m2, nj_m3, nj_m4, nj_m5, nj_m6, nj_m7, tz_bL_some, nj_sub, ng_ltt, ng_let, ng_gtf, ng_gef, e5]
              · have e6 := m_tim m.1.1 W hh (show 50 ≤ 99 by omega)
                rcases (show g = 1 ∨ g = 3 ∨ g = 4 ∨ g = 6 by omega) with rfl | rfl | rfl | rfl
                · simp (disch := omega) only [tz_lit, nj_m1, ↓reduceIte, nj_cl, nj_ltt, nj_ltf, nj_let, nj_lef, nj_eqf, nj_lt, nj_le, nj_eq, nj_add, nj_mul, nj_modx, nj_and7, nj_div, tz_bI_some, tz_bV_some, or_false, false_or, or_self, and_false, false_and, and_true, true_and, not_true_eq_false, not_false_eq_true, nt_lef, nt_let, nt_ltf, nt_ltt, nt_eqf, nj_m2, nj_m3, nj_m4, nj_m5, nj_m6, nj_m7, tz_bL_some, nj_sub, ng_ltt, ng_let, ng_gtf, ng_gef, e6]
                · simp (disch := omega) only [tz_lit, nj_m1, ↓reduceIte, nj_cl, nj_ltt, nj_ltf, nj_let, nj_lef, nj_eqf, nj_lt, nj_le, nj_eq, nj_add, nj_mul, nj_modx, nj_and7, nj_div, tz_bI_some, tz_bV_some, or_false, false_or, or_self, and_false, false_and, and_true, true_and, not_true_eq_false, not_false_eq_true, nt_lef, nt_let, nt_ltf, nt_ltt, nt_eqf, nj_m2, nj_m3, nj_m4, nj_m5, nj_m6, nj_m7, tz_bL_some, nj_sub, ng_ltt, ng_let, ng_gtf, ng_gef, e6]
                · simp (disch := omega) only [tz_lit, nj_m1, ↓reduceIte, nj_cl, nj_ltt, nj_ltf, nj_let, nj_lef, nj_eqf, nj_lt, nj_le, nj_eq, nj_add, nj_mul, nj_modx, nj_and7, nj_div, tz_bI_some, tz_bV_some, or_false, false_or, or_self, and_false, false_and, and_true, true_and, not_true_eq_false, not_false_eq_true, nt_lef, nt_let, nt_ltf, nt_ltt, nt_eqf, nj_m2, nj_m3, nj_m4, nj_m5, nj_m6, nj_m7, tz_bL_some, nj_sub, ng_ltt, ng_let, ng_gtf, ng_gef, e6]
                · simp (disch := omega) only [tz_lit, nj_m1, ↓reduceIte, nj_cl, nj_ltt, nj_ltf, nj_let, nj_lef, nj_eqf, nj_lt, nj_le, nj_eq, nj_add, nj_mul, nj_modx, nj_and7, nj_div, tz_bI_some, tz_bV_some, or_false, false_or, or_self, and_false, false_and, and_true, true_and, not_true_eq_false, not_false_eq_true, nt_lef, nt_let, nt_ltf, nt_ltt, nt_eqf, nj_m2, nj_m3, nj_m4, nj_m5, nj_m6, nj_m7, tz_bL_some, nj_sub, ng_ltt, ng_let, ng_gtf, ng_gef, e6]
        · rw [if_neg un] at e3
          refine out_ref (v := tz_j 4294967294) 2 (by omega) c ww ?_ (fun A D m => ?_)
          · rw [e_X11_says]
            simp only [tz_lit, nj_m1, nj_m2, nj_m3, nj_m4, nj_m5, nj_m6, nj_m7, ↓reduceIte, tz_bI_some, tz_bV_some, tz_bL_some, cj10, cj01, cjm0, eq_self, not_true_eq_false, not_false_eq_true, or_false, false_or, or_true, true_or, or_self, and_true, true_and, and_false, false_and, k1, k2, k3, hcl, hgd, q, e1, e3, x_ref1, x_ref2, x_ref3, x_ref4, x_ref5, x_ref6, x_ref7, e_X11_refuseLower]
          · have p := (m.2.2.1.1 s hs).1
            rw [z] at p
            have e4 := m_isUnder (A := A) hk.1 (show g ≤ 6 by omega)
            rw [if_neg un] at e4
            have p2 := cm_161 m.1.1 hh
            rw [e_X12_says]
            simp only [tz_lit, nj_m1, nj_m2, nj_m3, nj_m4, nj_m5, nj_m6, nj_m7, ↓reduceIte, tz_bI_some, tz_bV_some, tz_bL_some, cj10, cj01, cjm0, eq_self, not_true_eq_false, not_false_eq_true, or_false, false_or, or_true, true_or, or_self, and_true, true_and, and_false, false_and, w1, w2, w3 A D m, hcl, hgd, p, n1, n2, n3, hcl2, hgd2, p2, e4, m_no1, m_no2, m_no3, m_no4, m_no5, m_no6, m_no7, e_X12_no10]
      · rw [z] at q
        have k3 : f_X8_holdsRow (tz_j s) A = some (some (.int (tz_j 1)), A) := by
          rw [e_X8_holdsRow]
          simp (disch := omega) only [tz_lit, nj_m1, ↓reduceIte, nj_cl, nj_ltt, nj_ltf, nj_let, nj_lef, nj_eqf, nj_lt, nj_le, nj_eq, nj_add, nj_mul, nj_modx, nj_and7, nj_div, tz_bI_some, tz_bV_some, or_false, false_or, or_self, and_false, false_and, and_true, true_and, not_true_eq_false, not_false_eq_true, nt_lef, nt_let, nt_ltf, nt_ltt, nt_eqf, nj_m2, nj_m3, nj_m4, nj_m5, nj_m6, nj_m7, tz_bL_some, nj_sub, ng_ltt, ng_let, ng_gtf, ng_gef, q]
        refine out_ref (v := tz_j 4294967294) 2 (by omega) c ww ?_ (fun A D m => ?_)
        · rw [e_X11_says]
          simp only [tz_lit, nj_m1, nj_m2, nj_m3, nj_m4, nj_m5, nj_m6, nj_m7, ↓reduceIte, tz_bI_some, tz_bV_some, tz_bL_some, cj10, cj01, cjm0, eq_self, not_true_eq_false, not_false_eq_true, or_false, false_or, or_true, true_or, or_self, and_true, true_and, and_false, false_and, k1, k2, k3, x_ref1, x_ref2, x_ref3, x_ref4, x_ref5, x_ref6, x_ref7, e_X11_refuseLower]
        · have p := (m.2.2.1.1 s hs).1
          rw [z] at p
          have n1 : (tz_j (100 + t) < tz_j 0) = False := nj_ltf (by omega) (by omega)
          have w3 : f_X12_isRow (tz_j s) A = some (some (.int (tz_j 1)), A) := by
            rw [e_X12_isRow]
            simp (disch := omega) only [tz_lit, nj_m1, ↓reduceIte, nj_cl, nj_ltt, nj_ltf, nj_let, nj_lef, nj_eqf, nj_lt, nj_le, nj_eq, nj_add, nj_mul, nj_modx, nj_and7, nj_div, tz_bI_some, tz_bV_some, or_false, false_or, or_self, and_false, false_and, and_true, true_and, not_true_eq_false, not_false_eq_true, nt_lef, nt_let, nt_ltf, nt_ltt, nt_eqf, nj_m2, nj_m3, nj_m4, nj_m5, nj_m6, nj_m7, tz_bL_some, nj_sub, ng_ltt, ng_let, ng_gtf, ng_gef, p]
          rw [e_X12_says]
          simp only [tz_lit, nj_m1, nj_m2, nj_m3, nj_m4, nj_m5, nj_m6, nj_m7, ↓reduceIte, tz_bI_some, tz_bV_some, tz_bL_some, cj10, cj01, cjm0, eq_self, not_true_eq_false, not_false_eq_true, or_false, false_or, or_true, true_or, or_self, and_true, true_and, and_false, false_and, w1, w2, w3, hcl, hgd, p, n1, m_no1, m_no2, m_no3, m_no4, m_no5, m_no6, m_no7, e_X12_no10]

    · have k2 : f_X11_isKind x2 A = some (some (.int (tz_j 0)), A) := by
        rw [e_X11_isKind]
        simp (disch := omega) only [tz_lit, nj_m1, ↓reduceIte, nj_cl, nj_ltt, nj_ltf, nj_let, nj_lef, nj_eqf, nj_lt, nj_le, nj_eq, nj_add, nj_mul, nj_modx, nj_and7, nj_div, tz_bI_some, tz_bV_some, or_false, false_or, or_self, and_false, false_and, and_true, true_and, not_true_eq_false, not_false_eq_true, nt_lef, nt_let, nt_ltf, nt_ltt, nt_eqf, nj_m2, nj_m3, nj_m4, nj_m5, nj_m6, nj_m7, tz_bL_some, nj_sub, ng_ltt, ng_let, ng_gtf, ng_gef, ob_l h2]
      have w2 : ∀ A, f_X12_within x2 (tz_j 0) (tz_j 6) A = some (some (.int (tz_j 0)), A) := fun A => by
        rw [e_X12_within]
        simp (disch := omega) only [tz_lit, nj_m1, ↓reduceIte, nj_cl, nj_ltt, nj_ltf, nj_let, nj_lef, nj_eqf, nj_lt, nj_le, nj_eq, nj_add, nj_mul, nj_modx, nj_and7, nj_div, tz_bI_some, tz_bV_some, or_false, false_or, or_self, and_false, false_and, and_true, true_and, not_true_eq_false, not_false_eq_true, nt_lef, nt_let, nt_ltf, nt_ltt, nt_eqf, nj_m2, nj_m3, nj_m4, nj_m5, nj_m6, nj_m7, tz_bL_some, nj_sub, ng_ltt, ng_let, ng_gtf, ng_gef, ob_l h2]
      refine out_ref (v := tz_j 4294967295) 1 (by omega) c ww ?_ (fun A D m => ?_)
      · rw [e_X11_says]
        simp only [tz_lit, nj_m1, nj_m2, nj_m3, nj_m4, nj_m5, nj_m6, nj_m7, ↓reduceIte, tz_bI_some, tz_bV_some, tz_bL_some, cj10, cj01, cjm0, eq_self, not_true_eq_false, not_false_eq_true, or_false, false_or, or_true, true_or, or_self, and_true, true_and, and_false, false_and, k1, k2, x_ref1, x_ref2, x_ref3, x_ref4, x_ref5, x_ref6, x_ref7, e_X11_refuseLower]
      · rw [e_X12_says]
        simp only [tz_lit, nj_m1, nj_m2, nj_m3, nj_m4, nj_m5, nj_m6, nj_m7, ↓reduceIte, tz_bI_some, tz_bV_some, tz_bL_some, cj10, cj01, cjm0, eq_self, not_true_eq_false, not_false_eq_true, or_false, false_or, or_true, true_or, or_self, and_true, true_and, and_false, false_and, w1, w2, m_no1, m_no2, m_no3, m_no4, m_no5, m_no6, m_no7, e_X12_no10]
    · have k2 : f_X11_isKind x2 A = some (some (.int (tz_j 0)), A) := by
        rw [e_X11_isKind]
        simp (disch := omega) only [tz_lit, nj_m1, ↓reduceIte, nj_cl, nj_ltt, nj_ltf, nj_let, nj_lef, nj_eqf, nj_lt, nj_le, nj_eq, nj_add, nj_mul, nj_modx, nj_and7, nj_div, tz_bI_some, tz_bV_some, or_false, false_or, or_self, and_false, false_and, and_true, true_and, not_true_eq_false, not_false_eq_true, nt_lef, nt_let, nt_ltf, nt_ltt, nt_eqf, nj_m2, nj_m3, nj_m4, nj_m5, nj_m6, nj_m7, tz_bL_some, nj_sub, ng_ltt, ng_let, ng_gtf, ng_gef, ob_h (show 7 < 2147483648 by omega) h2]
      have w2 : ∀ A, f_X12_within x2 (tz_j 0) (tz_j 6) A = some (some (.int (tz_j 0)), A) := fun A => by
        rw [e_X12_within]
        simp (disch := omega) only [tz_lit, nj_m1, ↓reduceIte, nj_cl, nj_ltt, nj_ltf, nj_let, nj_lef, nj_eqf, nj_lt, nj_le, nj_eq, nj_add, nj_mul, nj_modx, nj_and7, nj_div, tz_bI_some, tz_bV_some, or_false, false_or, or_self, and_false, false_and, and_true, true_and, not_true_eq_false, not_false_eq_true, nt_lef, nt_let, nt_ltf, nt_ltt, nt_eqf, nj_m2, nj_m3, nj_m4, nj_m5, nj_m6, nj_m7, tz_bL_some, nj_sub, ng_ltt, ng_let, ng_gtf, ng_gef, ob_h (show 7 < 2147483648 by omega) h2]
      refine out_ref (v := tz_j 4294967295) 1 (by omega) c ww ?_ (fun A D m => ?_)
      · rw [e_X11_says]
        simp only [tz_lit, nj_m1, nj_m2, nj_m3, nj_m4, nj_m5, nj_m6, nj_m7, ↓reduceIte, tz_bI_some, tz_bV_some, tz_bL_some, cj10, cj01, cjm0, eq_self, not_true_eq_false, not_false_eq_true, or_false, false_or, or_true, true_or, or_self, and_true, true_and, and_false, false_and, k1, k2, x_ref1, x_ref2, x_ref3, x_ref4, x_ref5, x_ref6, x_ref7, e_X11_refuseLower]
      · rw [e_X12_says]
        simp only [tz_lit, nj_m1, nj_m2, nj_m3, nj_m4, nj_m5, nj_m6, nj_m7, ↓reduceIte, tz_bI_some, tz_bV_some, tz_bL_some, cj10, cj01, cjm0, eq_self, not_true_eq_false, not_false_eq_true, or_false, false_or, or_true, true_or, or_self, and_true, true_and, and_false, false_and, w1, w2, m_no1, m_no2, m_no3, m_no4, m_no5, m_no6, m_no7, e_X12_no10]
  · have k1 : f_X8_has x1 A = some (some (.int (tz_j 0)), A) := by
      rw [e_X8_has]
      simp (disch := omega) only [tz_lit, nj_m1, ↓reduceIte, nj_cl, nj_ltt, nj_ltf, nj_let, nj_lef, nj_eqf, nj_lt, nj_le, nj_eq, nj_add, nj_mul, nj_modx, nj_and7, nj_div, tz_bI_some, tz_bV_some, or_false, false_or, or_self, and_false, false_and, and_true, true_and, not_true_eq_false, not_false_eq_true, nt_lef, nt_let, nt_ltf, nt_ltt, nt_eqf, nj_m2, nj_m3, nj_m4, nj_m5, nj_m6, nj_m7, tz_bL_some, nj_sub, ng_ltt, ng_let, ng_gtf, ng_gef, ob_l h]
    have w1 : ∀ A, f_X12_within x1 (tz_j 0) (tz_j 7) A = some (some (.int (tz_j 0)), A) := fun A => by
      rw [e_X12_within]
      simp (disch := omega) only [tz_lit, nj_m1, ↓reduceIte, nj_cl, nj_ltt, nj_ltf, nj_let, nj_lef, nj_eqf, nj_lt, nj_le, nj_eq, nj_add, nj_mul, nj_modx, nj_and7, nj_div, tz_bI_some, tz_bV_some, or_false, false_or, or_self, and_false, false_and, and_true, true_and, not_true_eq_false, not_false_eq_true, nt_lef, nt_let, nt_ltf, nt_ltt, nt_eqf, nj_m2, nj_m3, nj_m4, nj_m5, nj_m6, nj_m7, tz_bL_some, nj_sub, ng_ltt, ng_let, ng_gtf, ng_gef, ob_l h]
    refine out_ref (v := tz_j 4294967295) 1 (by omega) c ww ?_ (fun A D m => ?_)
    · rw [e_X11_says]
      simp only [tz_lit, nj_m1, nj_m2, nj_m3, nj_m4, nj_m5, nj_m6, nj_m7, ↓reduceIte, tz_bI_some, tz_bV_some, tz_bL_some, cj10, cj01, cjm0, eq_self, not_true_eq_false, not_false_eq_true, or_false, false_or, or_true, true_or, or_self, and_true, true_and, and_false, false_and, k1, x_ref1, x_ref2, x_ref3, x_ref4, x_ref5, x_ref6, x_ref7, e_X11_refuseLower]
    · rw [e_X12_says]
      simp only [tz_lit, nj_m1, nj_m2, nj_m3, nj_m4, nj_m5, nj_m6, nj_m7, ↓reduceIte, tz_bI_some, tz_bV_some, tz_bL_some, cj10, cj01, cjm0, eq_self, not_true_eq_false, not_false_eq_true, or_false, false_or, or_true, true_or, or_self, and_true, true_and, and_false, false_and, w1, m_no1, m_no2, m_no3, m_no4, m_no5, m_no6, m_no7, e_X12_no10]
  · have k1 : f_X8_has x1 A = some (some (.int (tz_j 0)), A) := by
      rw [e_X8_has]
      simp (disch := omega) only [tz_lit, nj_m1, ↓reduceIte, nj_cl, nj_ltt, nj_ltf, nj_let, nj_lef, nj_eqf, nj_lt, nj_le, nj_eq, nj_add, nj_mul, nj_modx, nj_and7, nj_div, tz_bI_some, tz_bV_some, or_false, false_or, or_self, and_false, false_and, and_true, true_and, not_true_eq_false, not_false_eq_true, nt_lef, nt_let, nt_ltf, nt_ltt, nt_eqf, nj_m2, nj_m3, nj_m4, nj_m5, nj_m6, nj_m7, tz_bL_some, nj_sub, ng_ltt, ng_let, ng_gtf, ng_gef, ob_h (show 8 < 2147483648 by omega) h]
    have w1 : ∀ A, f_X12_within x1 (tz_j 0) (tz_j 7) A = some (some (.int (tz_j 0)), A) := fun A => by
      rw [e_X12_within]
      simp (disch := omega) only [tz_lit, nj_m1, ↓reduceIte, nj_cl, nj_ltt, nj_ltf, nj_let, nj_lef, nj_eqf, nj_lt, nj_le, nj_eq, nj_add, nj_mul, nj_modx, nj_and7, nj_div, tz_bI_some, tz_bV_some, or_false, false_or, or_self, and_false, false_and, and_true, true_and, not_true_eq_false, not_false_eq_true, nt_lef, nt_let, nt_ltf, nt_ltt, nt_eqf, nj_m2, nj_m3, nj_m4, nj_m5, nj_m6, nj_m7, tz_bL_some, nj_sub, ng_ltt, ng_let, ng_gtf, ng_gef, ob_h (show 8 < 2147483648 by omega) h]
    refine out_ref (v := tz_j 4294967295) 1 (by omega) c ww ?_ (fun A D m => ?_)
    · rw [e_X11_says]
      simp only [tz_lit, nj_m1, nj_m2, nj_m3, nj_m4, nj_m5, nj_m6, nj_m7, ↓reduceIte, tz_bI_some, tz_bV_some, tz_bL_some, cj10, cj01, cjm0, eq_self, not_true_eq_false, not_false_eq_true, or_false, false_or, or_true, true_or, or_self, and_true, true_and, and_false, false_and, k1, x_ref1, x_ref2, x_ref3, x_ref4, x_ref5, x_ref6, x_ref7, e_X11_refuseLower]
    · rw [e_X12_says]
      simp only [tz_lit, nj_m1, nj_m2, nj_m3, nj_m4, nj_m5, nj_m6, nj_m7, ↓reduceIte, tz_bI_some, tz_bV_some, tz_bL_some, cj10, cj01, cjm0, eq_self, not_true_eq_false, not_false_eq_true, or_false, false_or, or_true, true_or, or_self, and_true, true_and, and_false, false_and, w1, m_no1, m_no2, m_no3, m_no4, m_no5, m_no6, m_no7, e_X12_no10]
/-- the sky changes, in one cell, on both sides -/
theorem out_sky {N : Nat} {S S' K : tz_S} {U : tz_U} {V : tz_V} {F G : tz_Mem → tz_X} {A : tz_Mem} {v : Int32} (c : CX S K U V A) (ww : WX N S K U) (hH : sp_H (N + 2000) S') (hst : sp_st S') (h1 : S 1 0 ≤ S' 1 0) (hF : ∃ A1, F A = some (some (.int v), A1) ∧ rx 30 99 S' A1 ∧ tz_fx (fun k _ => (30 ≤ k ∧ k < 53) ∨ th_p k 0 ∨ (122 ≤ k ∧ k < 148)) A A1) (hG : ∀ A D, MX D S K U V A → ∃ A2 D', G A = some (some (.int v), A2) ∧ rm D' S' A2 ∧ tz_fr mt_p A A2) : two_R N S K U V F G A := by
  obtain ⟨A1, e1, r1, f1⟩ := hF
  have g : ∀ k i, ¬ ((30 ≤ k ∧ k < 53) ∨ ((76 ≤ k ∧ k < 122) ∨ (150 ≤ k ∧ k < 156)) ∨ (122 ≤ k ∧ k < 148)) → tz_g A1 k i = tz_g A k i := fun k i h => f1.2.2.1 k i h
  have gl : ∀ k i, tz_gl A1 k i = tz_gl A k i := fun k i => by show A1.2.2.1 k i = A.2.2.1 k i; rw [f1.2.1]
  refine ⟨v, S', K, U, V, ⟨A1, e1, ⟨r1, fun q => rx_mv (c.2.1 q) (fun k i h1 h2 => g k i (by omega)) (f1.2.2.2 _ _ (fun q => by have := q.1; unfold th_p at this; omega)) (Or.inl ww.2.2.2.1.2), ⟨fun s hs => ?_, fun i hi => ?_, ?_, ?_, ?_, fun i hi => ?_⟩, fx_con f1 c.2.2.2⟩, cf_fx f1 (fun k i h => by unfold th_p at h; omega)⟩, ⟨hH, hst, (WX_mo (M := N + 2000) ww (by omega)).2.2.1, ww.2.2.2.1, wu_mv ww.2.2.2.2 h1 (fun _ _ _ _ _ => rfl)⟩, fun A D m => ?_⟩
  · obtain ⟨a, b, d⟩ := c.2.2.1.1 s hs
    rw [g _ _ (by omega), g _ _ (by omega)]
    refine ⟨a, b, fun i hi => ?_⟩
    rw [gl]
    exact d i hi
  · rw [g _ _ (by omega)]
    exact c.2.2.1.2.1 i hi
  · rw [g _ _ (by omega)]
    exact c.2.2.1.2.2.1
  · rw [g _ _ (by omega)]
    exact c.2.2.1.2.2.2.1
  · rw [g _ _ (by omega)]
    exact c.2.2.1.2.2.2.2.1
  · rw [g _ _ (by omega)]
    exact c.2.2.1.2.2.2.2.2 i hi
  · obtain ⟨A2, D', e2, r2, f2⟩ := hG A D m
    have g2 : ∀ k i, ¬ mt_p k i → tz_g A2 k i = tz_g A k i := f2.2.2
    refine ⟨A2, D', e2, ⟨r2, fun q => rmk_mv (m.2.1 q) (fun j _ => g2 _ _ (by unfold mt_p mo_p; omega)), ⟨fun s hs => ?_, fun i hi => ?_, ?_, ?_, ?_, fun i hi => ?_⟩, by rw [f2.1]; exact m.2.2.2⟩, mf_mg (mg_fr f2 (fun k i h => by unfold mt_p mo_p at h; omega))⟩
    · obtain ⟨a, b, d⟩ := m.2.2.1.1 s hs
      rw [g2 _ _ (by unfold mt_p mo_p; omega), g2 _ _ (by unfold mt_p mo_p; omega)]
      refine ⟨a, b, fun i hi => ?_⟩
      rw [fr_gl f2]
      exact d i hi
    · rw [g2 _ _ (by unfold mt_p mo_p; omega)]
      exact m.2.2.1.2.1 i hi
    · rw [g2 _ _ (by unfold mt_p mo_p; omega)]
      exact m.2.2.1.2.2.1
    · rw [g2 _ _ (by unfold mt_p mo_p; omega)]
      exact m.2.2.1.2.2.2.1
    · rw [g2 _ _ (by unfold mt_p mo_p; omega)]
      exact m.2.2.1.2.2.2.2.1
    · rw [g2 _ _ (by unfold mt_p mo_p; omega)]
      exact m.2.2.1.2.2.2.2.2 i hi
def ch_p (k _i : Nat) : Prop := (30 ≤ k ∧ k < 53) ∨ th_p k 0 ∨ (122 ≤ k ∧ k < 148)
/-- dry, seed -/
theorem H_0i {N i v : Nat} {S : tz_S} (H : sp_H N S) (hi : (i = 4 ∧ v ≤ 100) ∨ (i = 5 ∧ v < 4294967296)) : sp_H N (tz_t S 0 i v) := by
  obtain ⟨W, W2, WE, h3, hT⟩ := H
  have g : ∀ k j, k ≠ 0 → tz_t S 0 i v k j = S k j := fun k j hk => tz_tk hk
  have g0 : ∀ j, j ≠ i → tz_t S 0 i v 0 j = S 0 j := fun j hj => tz_ti hj
  have g1 : tz_t S 0 i v 0 i = v := tz_t1
  refine ⟨?_, ?_, we_mv WE (fun k j h1 h2 => g k j (by omega)), by rw [g0 3 (by omega)]; exact h3, by rw [g0 3 (by omega), g0 0 (by omega)]; exact hT⟩
  · unfold sp_W1 sp_lt at W ⊢
    simp only [g 1 _ (by omega), g 2 _ (by omega), g 3 _ (by omega), g 7 _ (by omega), g 8 _ (by omega), g 9 _ (by omega), g 10 _ (by omega), g 11 _ (by omega), g 12 _ (by omega), g 15 _ (by omega), g 17 _ (by omega), g 18 _ (by omega), g 19 _ (by omega), g 22 _ (by omega)]
    exact W
  · obtain ⟨a, b, c, d, e1, e2, e3⟩ := W2
    refine ⟨a, fun l hl => ?_, fun h hh => ?_, ?_, ?_, ?_, ?_⟩
    · obtain ⟨b1, b2, b3, b4⟩ := b l hl
      rw [g0 3 (by omega)]
      exact ⟨b1, b2, b3, b4⟩
    · rw [g0 0 (by omega)]
      exact c h hh
    · rw [g0 0 (by omega)]
      exact (sum_mv (S := S) (S' := tz_t S 0 i v) (S 1 0) (fun _ _ => rfl)).trans d
    · rcases hi with ⟨rfl, hv⟩ | ⟨rfl, hv⟩
      · rw [g1]
        exact hv
      · rw [g0 4 (by omega)]
        exact e1
    · rcases hi with ⟨rfl, hv⟩ | ⟨rfl, hv⟩
      · rw [g0 5 (by omega)]
        exact e2
      · rw [g1]
        exact hv
    · rw [g0 6 (by omega)]
      exact e3

theorem p_dry (x1 : Int32) : tz_twoI tz_J (f_X11_dry x1) (f_X12_dry x1) := by
  refine two_of (fun N S K U V A hN c ww => ?_)
  have W := ww.1.1
  have W2 := ww.1.2.1
  have h8 := W.1
  have h4 := W.2.1
  have h12 := W.2.2.1
  have cc := c.1.1
  have q : tz_g A 30 4 = tz_j (S 0 4) := cx_0_4 cc
  rcases nj_three x1 101 (by omega) with ⟨v, hv, rfl⟩ | h | h
  · refine out_sky (v := tz_j (S 0 4)) (S' := tz_t S 0 4 v) c ww (H_0i (sp_H_mo ww.1 (by omega)) (Or.inl ⟨rfl, by omega⟩)) ⟨ww.2.1.1, ww.2.1.2⟩ (Nat.le_refl _) ⟨tz_s A 30 4 (tz_j v), ?_, ?_, fx_s fx_rfl (Or.inl (by omega))⟩ (fun A D m => ⟨tz_s A 157 23 (tz_j v), D, ?_, ?_, fr_s fr_rfl (by unfold mt_p mo_p; omega)⟩)
    · rw [e_X11_dry]
      simp (disch := omega) only [tz_lit, nj_m1, ↓reduceIte, nj_cl, nj_ltt, nj_ltf, nj_let, nj_lef, nj_eqf, nj_lt, nj_le, nj_eq, nj_add, nj_mul, nj_modx, nj_and7, nj_div, tz_bI_some, tz_bV_some, or_false, false_or, or_self, and_false, false_and, and_true, true_and, not_true_eq_false, not_false_eq_true, nt_lef, nt_let, nt_ltf, nt_ltt, nt_eqf, nj_m2, nj_m3, nj_m4, nj_m5, nj_m6, nj_m7, tz_bL_some, nj_sub, ng_ltt, ng_let, ng_gtf, ng_gef, q]
    · exact rx_s (b := 30) (k := 0) (Or.inl rfl) (by omega) (by omega) (by omega) (by omega) (by omega) (by omega) (by omega) (by omega) (by omega) c.1
    · rw [e_X12_dry]
      simp (disch := omega) only [tz_lit, nj_m1, ↓reduceIte, nj_cl, nj_ltt, nj_ltf, nj_let, nj_lef, nj_eqf, nj_lt, nj_le, nj_eq, nj_add, nj_mul, nj_modx, nj_and7, nj_div, tz_bI_some, tz_bV_some, or_false, false_or, or_self, and_false, false_and, and_true, true_and, not_true_eq_false, not_false_eq_true, nt_lef, nt_let, nt_ltf, nt_ltt, nt_eqf, nj_m2, nj_m3, nj_m4, nj_m5, nj_m6, nj_m7, tz_bL_some, nj_sub, ng_ltt, ng_let, ng_gtf, ng_gef, e_X12_within, cm_23 m.1.1]
    · exact rm_st m.1 (by unfold rm_rel; omega) (by omega) (by omega)
  · skip
    refine out_ref (v := tz_j 4294967290) 6 (by omega) c ww ?_ (fun A D m => ?_)
    · rw [e_X11_dry]
      simp (disch := omega) only [tz_lit, nj_m1, ↓reduceIte, nj_cl, nj_ltt, nj_ltf, nj_let, nj_lef, nj_eqf, nj_lt, nj_le, nj_eq, nj_add, nj_mul, nj_modx, nj_and7, nj_div, tz_bI_some, tz_bV_some, or_false, false_or, or_self, and_false, false_and, and_true, true_and, not_true_eq_false, not_false_eq_true, nt_lef, nt_let, nt_ltf, nt_ltt, nt_eqf, nj_m2, nj_m3, nj_m4, nj_m5, nj_m6, nj_m7, tz_bL_some, nj_sub, ng_ltt, ng_let, ng_gtf, ng_gef, e_X8_has, e_X8_holdsRow, e_X11_isKind, e_X11_isOneOfTwo, e_X11_isWord, x_ref1, x_ref2, x_ref3, x_ref4, x_ref5, x_ref6, x_ref7, e_X11_refuseLower, ob_l h]
    · rw [e_X12_dry]
      simp (disch := omega) only [tz_lit, nj_m1, ↓reduceIte, nj_cl, nj_ltt, nj_ltf, nj_let, nj_lef, nj_eqf, nj_lt, nj_le, nj_eq, nj_add, nj_mul, nj_modx, nj_and7, nj_div, tz_bI_some, tz_bV_some, or_false, false_or, or_self, and_false, false_and, and_true, true_and, not_true_eq_false, not_false_eq_true, nt_lef, nt_let, nt_ltf, nt_ltt, nt_eqf, nj_m2, nj_m3, nj_m4, nj_m5, nj_m6, nj_m7, tz_bL_some, nj_sub, ng_ltt, ng_let, ng_gtf, ng_gef, e_X12_within, e_X12_isRow, m_no1, m_no2, m_no3, m_no4, m_no5, m_no6, m_no7, e_X12_no10, ob_l h]

  · skip
    refine out_ref (v := tz_j 4294967290) 6 (by omega) c ww ?_ (fun A D m => ?_)
    · rw [e_X11_dry]
      simp (disch := omega) only [tz_lit, nj_m1, ↓reduceIte, nj_cl, nj_ltt, nj_ltf, nj_let, nj_lef, nj_eqf, nj_lt, nj_le, nj_eq, nj_add, nj_mul, nj_modx, nj_and7, nj_div, tz_bI_some, tz_bV_some, or_false, false_or, or_self, and_false, false_and, and_true, true_and, not_true_eq_false, not_false_eq_true, nt_lef, nt_let, nt_ltf, nt_ltt, nt_eqf, nj_m2, nj_m3, nj_m4, nj_m5, nj_m6, nj_m7, tz_bL_some, nj_sub, ng_ltt, ng_let, ng_gtf, ng_gef, e_X8_has, e_X8_holdsRow, e_X11_isKind, e_X11_isOneOfTwo, e_X11_isWord, x_ref1, x_ref2, x_ref3, x_ref4, x_ref5, x_ref6, x_ref7, e_X11_refuseLower, ob_h (show 101 < 2147483648 by omega) h]
    · rw [e_X12_dry]
      simp (disch := omega) only [tz_lit, nj_m1, ↓reduceIte, nj_cl, nj_ltt, nj_ltf, nj_let, nj_lef, nj_eqf, nj_lt, nj_le, nj_eq, nj_add, nj_mul, nj_modx, nj_and7, nj_div, tz_bI_some, tz_bV_some, or_false, false_or, or_self, and_false, false_and, and_true, true_and, not_true_eq_false, not_false_eq_true, nt_lef, nt_let, nt_ltf, nt_ltt, nt_eqf, nj_m2, nj_m3, nj_m4, nj_m5, nj_m6, nj_m7, tz_bL_some, nj_sub, ng_ltt, ng_let, ng_gtf, ng_gef, e_X12_within, e_X12_isRow, m_no1, m_no2, m_no3, m_no4, m_no5, m_no6, m_no7, e_X12_no10, ob_h (show 101 < 2147483648 by omega) h]

theorem p_seed (x1 : Int32) : tz_twoI tz_J (f_X11_seed x1) (f_X12_seed x1) := by
  refine two_of (fun N S K U V A hN c ww => ?_)
  have W := ww.1.1
  have W2 := ww.1.2.1
  have h8 := W.1
  have h4 := W.2.1
  have h12 := W.2.2.1
  have cc := c.1.1
  have q : tz_g A 30 5 = tz_j (S 0 5) := cx_0_5 cc
  obtain ⟨v, hv, rfl⟩ := nj_any x1
  refine out_sky (v := tz_j (S 0 5)) (S' := tz_t S 0 5 v) c ww (H_0i (sp_H_mo ww.1 (by omega)) (Or.inr ⟨rfl, by omega⟩)) ⟨ww.2.1.1, ww.2.1.2⟩ (Nat.le_refl _) ⟨tz_s A 30 5 (tz_j v), ?_, ?_, fx_s fx_rfl (Or.inl (by omega))⟩ (fun A D m => ⟨tz_s A 157 24 (tz_j v), D, ?_, ?_, fr_s fr_rfl (by unfold mt_p mo_p; omega)⟩)
  · rw [e_X11_seed, q]
  · exact rx_s (b := 30) (k := 0) (Or.inl rfl) (by omega) (by omega) (by omega) (by omega) (by omega) (by omega) (by omega) (by omega) (by omega) c.1
  · rw [e_X12_seed, cm_24 m.1.1]
  · exact rm_st m.1 (by unfold rm_rel; omega) (by omega) (by omega)

def sp_cw (p : Nat) : Nat → tz_S → Nat
  | 0, _ => 0
  | n + 1, S => sp_cw p n S + (if S 20 n = p then 1 else 0)
theorem cw_le {p : Nat} {S : tz_S} : ∀ n, sp_cw p n S ≤ n := by
  intro n
  induction n with
  | zero => exact Nat.le_refl 0
  | succ n ih =>
    show sp_cw p n S + (if S 20 n = p then 1 else 0) ≤ n + 1
    split <;> omega
theorem cw_s {p n : Nat} {S : tz_S} : sp_cw p (n + 1) S = sp_cw p n S + (if S 20 n = p then 1 else 0) := rfl
theorem x_cwL {b p : Nat} {S : tz_S} {A : tz_Mem} (hb : tz_sky b) (c : rx_c b S A) (W : sp_W1 S) (W2 : sp_W2 S) (hp : p < 1000) : ∀ k l, l + k = S 15 0 → q_X4_countWhere_4 b (tz_j p) (tz_j (sp_cw p l S)) (tz_j l) A = some (some (.int (tz_j (sp_cw p (S 15 0) S))), A) := by
  have h12 := W.2.2.1
  have h8 := W.1
  have h4 := W.2.1
  intro k
  induction k with
  | zero =>
    intro l hl
    rw [Nat.add_zero] at hl
    subst hl
    rw [e_X4_countWhere_4 _ _ _ _ hb]
    simp (disch := omega) only [tz_lit, nj_m1, ↓reduceIte, nj_cl, nj_ltt, nj_ltf, nj_let, nj_lef, nj_eqf, nj_lt, nj_le, nj_eq, nj_add, nj_mul, nj_modx, nj_and7, nj_div, tz_bI_some, tz_bV_some, or_false, false_or, or_self, and_false, false_and, and_true, true_and, not_true_eq_false, not_false_eq_true, nt_lef, nt_let, nt_ltf, nt_ltt, nt_eqf, nj_m2, nj_m3, nj_m4, nj_m5, nj_m6, nj_m7, tz_bL_some, nj_sub, ng_ltt, ng_let, ng_gtf, ng_gef, cx_15 c]
  | succ k ih =>
    intro l hl
    have hwl := (W2.2.1 l (by omega)).2.1
    unfold sp_wh at hwl
    have e := ih (l + 1) (by omega)
    rw [cw_s] at e
    rw [e_X4_countWhere_4 _ _ _ _ hb]
    by_cases z : S 20 l = p
    · rw [if_pos z] at e
      simp (disch := omega) only [tz_lit, nj_m1, ↓reduceIte, nj_cl, nj_ltt, nj_ltf, nj_let, nj_lef, nj_eqf, nj_lt, nj_le, nj_eq, nj_add, nj_mul, nj_modx, nj_and7, nj_div, tz_bI_some, tz_bV_some, or_false, false_or, or_self, and_false, false_and, and_true, true_and, not_true_eq_false, not_false_eq_true, nt_lef, nt_let, nt_ltf, nt_ltt, nt_eqf, nj_m2, nj_m3, nj_m4, nj_m5, nj_m6, nj_m7, tz_bL_some, nj_sub, ng_ltt, ng_let, ng_gtf, ng_gef, cx_15 c, cx_20 c, z]
      exact e
    · rw [if_neg z] at e
      simp (disch := omega) only [tz_lit, nj_m1, ↓reduceIte, nj_cl, nj_ltt, nj_ltf, nj_let, nj_lef, nj_eqf, nj_lt, nj_le, nj_eq, nj_add, nj_mul, nj_modx, nj_and7, nj_div, tz_bI_some, tz_bV_some, or_false, false_or, or_self, and_false, false_and, and_true, true_and, not_true_eq_false, not_false_eq_true, nt_lef, nt_let, nt_ltf, nt_ltt, nt_eqf, nj_m2, nj_m3, nj_m4, nj_m5, nj_m6, nj_m7, tz_bL_some, nj_sub, ng_ltt, ng_let, ng_gtf, ng_gef, cx_15 c, cx_20 c, if_neg z, z]
      exact e
theorem x_cw {b p : Nat} {S : tz_S} {A : tz_Mem} (hb : tz_sky b) (c : rx_c b S A) (W : sp_W1 S) (W2 : sp_W2 S) (hp : p < 1000) : f_X4_countWhere b (tz_j p) A = some (some (.int (tz_j (sp_cw p (S 15 0) S))), A) := by
  rw [e_X4_countWhere _ _ hb]
  exact x_cwL hb c W W2 hp (S 15 0) 0 (Nat.zero_add _)
theorem m_cwL {S : tz_S} {A : tz_Mem} (c : rm_c S A) (W : sp_W1 S) (W2 : sp_W2 S) : ∀ k l, l + k = S 15 0 → q_X12_there_4 (tz_j (sp_cw 200 l S)) (tz_j l) A = some (some (.int (tz_j (sp_cw 200 (S 15 0) S))), A) ∧ q_X12_status_78 (tz_j (sp_cw 300 l S)) (tz_j l) A = some (some (.int (tz_j (sp_cw 300 (S 15 0) S))), A) := by
  have h12 := W.2.2.1
  have h8 := W.1
  have h4 := W.2.1
  intro k
  induction k with
  | zero =>
    intro l hl
    rw [Nat.add_zero] at hl
    subst hl
    refine ⟨?_, ?_⟩
    · rw [e_X12_there_4]
      simp (disch := omega) only [tz_lit, nj_m1, ↓reduceIte, nj_cl, nj_ltt, nj_ltf, nj_let, nj_lef, nj_eqf, nj_lt, nj_le, nj_eq, nj_add, nj_mul, nj_modx, nj_and7, nj_div, tz_bI_some, tz_bV_some, or_false, false_or, or_self, and_false, false_and, and_true, true_and, not_true_eq_false, not_false_eq_true, nt_lef, nt_let, nt_ltf, nt_ltt, nt_eqf, nj_m2, nj_m3, nj_m4, nj_m5, nj_m6, nj_m7, tz_bL_some, nj_sub, ng_ltt, ng_let, ng_gtf, ng_gef, cm_15 c]
    · rw [e_X12_status_78]
      simp (disch := omega) only [tz_lit, nj_m1, ↓reduceIte, nj_cl, nj_ltt, nj_ltf, nj_let, nj_lef, nj_eqf, nj_lt, nj_le, nj_eq, nj_add, nj_mul, nj_modx, nj_and7, nj_div, tz_bI_some, tz_bV_some, or_false, false_or, or_self, and_false, false_and, and_true, true_and, not_true_eq_false, not_false_eq_true, nt_lef, nt_let, nt_ltf, nt_ltt, nt_eqf, nj_m2, nj_m3, nj_m4, nj_m5, nj_m6, nj_m7, tz_bL_some, nj_sub, ng_ltt, ng_let, ng_gtf, ng_gef, cm_15 c]
  | succ k ih =>
    intro l hl
    have hwl := (W2.2.1 l (by omega)).2.1
    unfold sp_wh at hwl
    obtain ⟨e, e'⟩ := ih (l + 1) (by omega)
    rw [cw_s] at e e'
    refine ⟨?_, ?_⟩
    · rw [e_X12_there_4]
      by_cases z : S 20 l = 200
      · rw [if_pos z] at e
        simp (disch := omega) only [tz_lit, nj_m1, ↓reduceIte, nj_cl, nj_ltt, nj_ltf, nj_let, nj_lef, nj_eqf, nj_lt, nj_le, nj_eq, nj_add, nj_mul, nj_modx, nj_and7, nj_div, tz_bI_some, tz_bV_some, or_false, false_or, or_self, and_false, false_and, and_true, true_and, not_true_eq_false, not_false_eq_true, nt_lef, nt_let, nt_ltf, nt_ltt, nt_eqf, nj_m2, nj_m3, nj_m4, nj_m5, nj_m6, nj_m7, tz_bL_some, nj_sub, ng_ltt, ng_let, ng_gtf, ng_gef, cm_15 c, cm_175 c, z]
        exact e
      · rw [if_neg z] at e
        simp (disch := omega) only [tz_lit, nj_m1, ↓reduceIte, nj_cl, nj_ltt, nj_ltf, nj_let, nj_lef, nj_eqf, nj_lt, nj_le, nj_eq, nj_add, nj_mul, nj_modx, nj_and7, nj_div, tz_bI_some, tz_bV_some, or_false, false_or, or_self, and_false, false_and, and_true, true_and, not_true_eq_false, not_false_eq_true, nt_lef, nt_let, nt_ltf, nt_ltt, nt_eqf, nj_m2, nj_m3, nj_m4, nj_m5, nj_m6, nj_m7, tz_bL_some, nj_sub, ng_ltt, ng_let, ng_gtf, ng_gef, cm_15 c, cm_175 c, if_neg z, z]
        exact e
    · rw [e_X12_status_78]
      by_cases z : S 20 l = 300
      · rw [if_pos z] at e'
        simp (disch := omega) only [tz_lit, nj_m1, ↓reduceIte, nj_cl, nj_ltt, nj_ltf, nj_let, nj_lef, nj_eqf, nj_lt, nj_le, nj_eq, nj_add, nj_mul, nj_modx, nj_and7, nj_div, tz_bI_some, tz_bV_some, or_false, false_or, or_self, and_false, false_and, and_true, true_and, not_true_eq_false, not_false_eq_true, nt_lef, nt_let, nt_ltf, nt_ltt, nt_eqf, nj_m2, nj_m3, nj_m4, nj_m5, nj_m6, nj_m7, tz_bL_some, nj_sub, ng_ltt, ng_let, ng_gtf, ng_gef, cm_15 c, cm_175 c, z]
        exact e'
      · rw [if_neg z] at e'
        simp (disch := omega) only [tz_lit, nj_m1, ↓reduceIte, nj_cl, nj_ltt, nj_ltf, nj_let, nj_lef, nj_eqf, nj_lt, nj_le, nj_eq, nj_add, nj_mul, nj_modx, nj_and7, nj_div, tz_bI_some, tz_bV_some, or_false, false_or, or_self, and_false, false_and, and_true, true_and, not_true_eq_false, not_false_eq_true, nt_lef, nt_let, nt_ltf, nt_ltt, nt_eqf, nj_m2, nj_m3, nj_m4, nj_m5, nj_m6, nj_m7, tz_bL_some, nj_sub, ng_ltt, ng_let, ng_gtf, ng_gef, cm_15 c, cm_175 c, if_neg z, z]
        exact e'
theorem m_there {S : tz_S} {A : tz_Mem} (c : rm_c S A) (W : sp_W1 S) (W2 : sp_W2 S) : f_X12_there A = some (some (.int (tz_j (sp_cw 200 (S 15 0) S))), A) := by
  rw [e_X12_there]
  exact (m_cwL c W W2 (S 15 0) 0 (Nat.zero_add _)).1
theorem sum_le {S : tz_S} : ∀ n m, n ≤ m → sp_sum n S ≤ sp_sum m S := by
  intro n m h
  induction m with
  | zero =>
    rw [show n = 0 by omega]
    exact Nat.le_refl _
  | succ m ih =>
    by_cases z : n = m + 1
    · rw [z]
      exact Nat.le_refl _
    · have := ih (by omega)
      show sp_sum n S ≤ sp_sum m S + S 5 m
      omega
theorem x_everL {b : Nat} {S : tz_S} {A : tz_Mem} (hb : tz_sky b) (c : rx_c b S A) (W : sp_W1 S) (W2 : sp_W2 S) (hT : S 0 0 < 2147483648) : ∀ k l, l + k = S 1 0 → q_X3_countEver_4 b (tz_j (sp_sum l S)) (tz_j l) A = some (some (.int (tz_j (S 0 0))), A) := by
  have h8 := W.1
  intro k
  induction k with
  | zero =>
    intro l hl
    rw [Nat.add_zero] at hl
    subst hl
    rw [e_X3_countEver_4 _ _ _ hb, W2.2.2.2.1]
    simp (disch := omega) only [tz_lit, nj_m1, ↓reduceIte, nj_cl, nj_ltt, nj_ltf, nj_let, nj_lef, nj_eqf, nj_lt, nj_le, nj_eq, nj_add, nj_mul, nj_modx, nj_and7, nj_div, tz_bI_some, tz_bV_some, or_false, false_or, or_self, and_false, false_and, and_true, true_and, not_true_eq_false, not_false_eq_true, nt_lef, nt_let, nt_ltf, nt_ltt, nt_eqf, nj_m2, nj_m3, nj_m4, nj_m5, nj_m6, nj_m7, tz_bL_some, nj_sub, ng_ltt, ng_let, ng_gtf, ng_gef, cx_1 c]
  | succ k ih =>
    intro l hl
    have e := ih (l + 1) (by omega)
    rw [show sp_sum (l + 1) S = sp_sum l S + S 5 l from rfl] at e
    have hs := sum_le (S := S) (l + 1) (S 1 0) (by omega)
    rw [e_X3_countEver_4 _ _ _ hb]
    simp (disch := omega) only [tz_lit, nj_m1, ↓reduceIte, nj_cl, nj_ltt, nj_ltf, nj_let, nj_lef, nj_eqf, nj_lt, nj_le, nj_eq, nj_add, nj_mul, nj_modx, nj_and7, nj_div, tz_bI_some, tz_bV_some, or_false, false_or, or_self, and_false, false_and, and_true, true_and, not_true_eq_false, not_false_eq_true, nt_lef, nt_let, nt_ltf, nt_ltt, nt_eqf, nj_m2, nj_m3, nj_m4, nj_m5, nj_m6, nj_m7, tz_bL_some, nj_sub, ng_ltt, ng_let, ng_gtf, ng_gef, cx_1 c, cx_5 c]
    exact e
theorem x_ever {b : Nat} {S : tz_S} {A : tz_Mem} (hb : tz_sky b) (c : rx_c b S A) (W : sp_W1 S) (W2 : sp_W2 S) (hT : S 0 0 < 2147483648) : f_X3_countEver b A = some (some (.int (tz_j (S 0 0))), A) := by
  rw [e_X3_countEver _ hb]
  exact x_everL hb c W W2 hT (S 1 0) 0 (Nat.zero_add _)

theorem p_status (x1 : Int32) : tz_twoI tz_J (f_X11_status x1) (f_X12_status x1) := by
  refine two_of (fun N S K U V A hN c ww => ?_)
  have W := ww.1.1
  have W2 := ww.1.2.1
  have h8 := W.1
  have h4 := W.2.1
  have h12 := W.2.2.1
  have cc := c.1.1
  have hH := ww.1.2.2.2
  have q3 : tz_g A 30 3 = tz_j (S 0 3) := cx_0_3 cc
  have q4 : tz_g A 30 4 = tz_j (S 0 4) := cx_0_4 cc
  have q5 : tz_g A 30 5 = tz_j (S 0 5) := cx_0_5 cc
  rcases nj_three x1 18 (by omega) with ⟨u, hu, rfl⟩ | h | h
  · rcases (show u = 0 ∨ u = 1 ∨ u = 2 ∨ u = 3 ∨ u = 4 ∨ u = 5 ∨ u = 6 ∨ u = 7 ∨ u = 8 ∨ u = 9 ∨ u = 10 ∨ 11 ≤ u by omega) with rfl | rfl | rfl | rfl | rfl | rfl | rfl | rfl | rfl | rfl | rfl | hq
    · refine out_pure (v := tz_j (S 1 0)) c ww ?_ (fun A D m => ?_)
      · rw [e_X11_status]
        simp (disch := omega) only [tz_lit, nj_m1, ↓reduceIte, nj_cl, nj_ltt, nj_ltf, nj_let, nj_lef, nj_eqf, nj_lt, nj_le, nj_eq, nj_add, nj_mul, nj_modx, nj_and7, nj_div, tz_bI_some, tz_bV_some, or_false, false_or, or_self, and_false, false_and, and_true, true_and, not_true_eq_false, not_false_eq_true, nt_lef, nt_let, nt_ltf, nt_ltt, nt_eqf, nj_m2, nj_m3, nj_m4, nj_m5, nj_m6, nj_m7, tz_bL_some, nj_sub, ng_ltt, ng_let, ng_gtf, ng_gef, cz_1 cc]
      · have mc := m.1.1
        rw [e_X12_status]
        simp (disch := omega) only [tz_lit, nj_m1, ↓reduceIte, nj_cl, nj_ltt, nj_ltf, nj_let, nj_lef, nj_eqf, nj_lt, nj_le, nj_eq, nj_add, nj_mul, nj_modx, nj_and7, nj_div, tz_bI_some, tz_bV_some, or_false, false_or, or_self, and_false, false_and, and_true, true_and, not_true_eq_false, not_false_eq_true, nt_lef, nt_let, nt_ltf, nt_ltt, nt_eqf, nj_m2, nj_m3, nj_m4, nj_m5, nj_m6, nj_m7, tz_bL_some, nj_sub, ng_ltt, ng_let, ng_gtf, ng_gef, cm_3 mc]
    · refine out_pure (v := tz_j (S 7 0)) c ww ?_ (fun A D m => ?_)
      · rw [e_X11_status]
        simp (disch := omega) only [tz_lit, nj_m1, ↓reduceIte, nj_cl, nj_ltt, nj_ltf, nj_let, nj_lef, nj_eqf, nj_lt, nj_le, nj_eq, nj_add, nj_mul, nj_modx, nj_and7, nj_div, tz_bI_some, tz_bV_some, or_false, false_or, or_self, and_false, false_and, and_true, true_and, not_true_eq_false, not_false_eq_true, nt_lef, nt_let, nt_ltf, nt_ltt, nt_eqf, nj_m2, nj_m3, nj_m4, nj_m5, nj_m6, nj_m7, tz_bL_some, nj_sub, ng_ltt, ng_let, ng_gtf, ng_gef, cz_7 cc]
      · have mc := m.1.1
        rw [e_X12_status]
        simp (disch := omega) only [tz_lit, nj_m1, ↓reduceIte, nj_cl, nj_ltt, nj_ltf, nj_let, nj_lef, nj_eqf, nj_lt, nj_le, nj_eq, nj_add, nj_mul, nj_modx, nj_and7, nj_div, tz_bI_some, tz_bV_some, or_false, false_or, or_self, and_false, false_and, and_true, true_and, not_true_eq_false, not_false_eq_true, nt_lef, nt_let, nt_ltf, nt_ltt, nt_eqf, nj_m2, nj_m3, nj_m4, nj_m5, nj_m6, nj_m7, tz_bL_some, nj_sub, ng_ltt, ng_let, ng_gtf, ng_gef, cm_8 mc]
    · refine out_pure (v := tz_j (S 15 0)) c ww ?_ (fun A D m => ?_)
      · rw [e_X11_status]
        simp (disch := omega) only [tz_lit, nj_m1, ↓reduceIte, nj_cl, nj_ltt, nj_ltf, nj_let, nj_lef, nj_eqf, nj_lt, nj_le, nj_eq, nj_add, nj_mul, nj_modx, nj_and7, nj_div, tz_bI_some, tz_bV_some, or_false, false_or, or_self, and_false, false_and, and_true, true_and, not_true_eq_false, not_false_eq_true, nt_lef, nt_let, nt_ltf, nt_ltt, nt_eqf, nj_m2, nj_m3, nj_m4, nj_m5, nj_m6, nj_m7, tz_bL_some, nj_sub, ng_ltt, ng_let, ng_gtf, ng_gef, cz_15 cc]
      · have mc := m.1.1
        rw [e_X12_status]
        simp (disch := omega) only [tz_lit, nj_m1, ↓reduceIte, nj_cl, nj_ltt, nj_ltf, nj_let, nj_lef, nj_eqf, nj_lt, nj_le, nj_eq, nj_add, nj_mul, nj_modx, nj_and7, nj_div, tz_bI_some, tz_bV_some, or_false, false_or, or_self, and_false, false_and, and_true, true_and, not_true_eq_false, not_false_eq_true, nt_lef, nt_let, nt_ltf, nt_ltt, nt_eqf, nj_m2, nj_m3, nj_m4, nj_m5, nj_m6, nj_m7, tz_bL_some, nj_sub, ng_ltt, ng_let, ng_gtf, ng_gef, cm_15 mc]
    · refine out_pure (v := tz_j (sp_cw 200 (S 15 0) S)) c ww ?_ (fun A D m => ?_)
      · rw [e_X11_status]
        simp (disch := omega) only [tz_lit, nj_m1, ↓reduceIte, nj_cl, nj_ltt, nj_ltf, nj_let, nj_lef, nj_eqf, nj_lt, nj_le, nj_eq, nj_add, nj_mul, nj_modx, nj_and7, nj_div, tz_bI_some, tz_bV_some, or_false, false_or, or_self, and_false, false_and, and_true, true_and, not_true_eq_false, not_false_eq_true, nt_lef, nt_let, nt_ltf, nt_ltt, nt_eqf, nj_m2, nj_m3, nj_m4, nj_m5, nj_m6, nj_m7, tz_bL_some, nj_sub, ng_ltt, ng_let, ng_gtf, ng_gef, x_cw (b := 30) (p := 200) (show tz_sky 30 from Or.inl rfl) cc W W2 (show 200 < 1000 by omega)]
      · have mc := m.1.1
        rw [e_X12_status]
        simp (disch := omega) only [tz_lit, nj_m1, ↓reduceIte, nj_cl, nj_ltt, nj_ltf, nj_let, nj_lef, nj_eqf, nj_lt, nj_le, nj_eq, nj_add, nj_mul, nj_modx, nj_and7, nj_div, tz_bI_some, tz_bV_some, or_false, false_or, or_self, and_false, false_and, and_true, true_and, not_true_eq_false, not_false_eq_true, nt_lef, nt_let, nt_ltf, nt_ltt, nt_eqf, nj_m2, nj_m3, nj_m4, nj_m5, nj_m6, nj_m7, tz_bL_some, nj_sub, ng_ltt, ng_let, ng_gtf, ng_gef, m_there mc W W2]
    · refine out_pure (v := tz_j (sp_cw 300 (S 15 0) S)) c ww ?_ (fun A D m => ?_)
      · rw [e_X11_status]
        simp (disch := omega) only [tz_lit, nj_m1, ↓reduceIte, nj_cl, nj_ltt, nj_ltf, nj_let, nj_lef, nj_eqf, nj_lt, nj_le, nj_eq, nj_add, nj_mul, nj_modx, nj_and7, nj_div, tz_bI_some, tz_bV_some, or_false, false_or, or_self, and_false, false_and, and_true, true_and, not_true_eq_false, not_false_eq_true, nt_lef, nt_let, nt_ltf, nt_ltt, nt_eqf, nj_m2, nj_m3, nj_m4, nj_m5, nj_m6, nj_m7, tz_bL_some, nj_sub, ng_ltt, ng_let, ng_gtf, ng_gef, x_cw (b := 30) (p := 300) (show tz_sky 30 from Or.inl rfl) cc W W2 (show 300 < 1000 by omega)]
      · have mc := m.1.1
        rw [e_X12_status]
        simp (disch := omega) only [tz_lit, nj_m1, ↓reduceIte, nj_cl, nj_ltt, nj_ltf, nj_let, nj_lef, nj_eqf, nj_lt, nj_le, nj_eq, nj_add, nj_mul, nj_modx, nj_and7, nj_div, tz_bI_some, tz_bV_some, or_false, false_or, or_self, and_false, false_and, and_true, true_and, not_true_eq_false, not_false_eq_true, nt_lef, nt_let, nt_ltf, nt_ltt, nt_eqf, nj_m2, nj_m3, nj_m4, nj_m5, nj_m6, nj_m7, tz_bL_some, nj_sub, ng_ltt, ng_let, ng_gtf, ng_gef, show q_X12_status_78 (tz_j 0) (tz_j 0) A = _ from (m_cwL mc W W2 (S 15 0) 0 (Nat.zero_add _)).2]
    · refine out_pure (v := tz_j (S 0 3)) c ww ?_ (fun A D m => ?_)
      · rw [e_X11_status]
        simp (disch := omega) only [tz_lit, nj_m1, ↓reduceIte, nj_cl, nj_ltt, nj_ltf, nj_let, nj_lef, nj_eqf, nj_lt, nj_le, nj_eq, nj_add, nj_mul, nj_modx, nj_and7, nj_div, tz_bI_some, tz_bV_some, or_false, false_or, or_self, and_false, false_and, and_true, true_and, not_true_eq_false, not_false_eq_true, nt_lef, nt_let, nt_ltf, nt_ltt, nt_eqf, nj_m2, nj_m3, nj_m4, nj_m5, nj_m6, nj_m7, tz_bL_some, nj_sub, ng_ltt, ng_let, ng_gtf, ng_gef, q3]
      · have mc := m.1.1
        rw [e_X12_status]
        simp (disch := omega) only [tz_lit, nj_m1, ↓reduceIte, nj_cl, nj_ltt, nj_ltf, nj_let, nj_lef, nj_eqf, nj_lt, nj_le, nj_eq, nj_add, nj_mul, nj_modx, nj_and7, nj_div, tz_bI_some, tz_bV_some, or_false, false_or, or_self, and_false, false_and, and_true, true_and, not_true_eq_false, not_false_eq_true, nt_lef, nt_let, nt_ltf, nt_ltt, nt_eqf, nj_m2, nj_m3, nj_m4, nj_m5, nj_m6, nj_m7, tz_bL_some, nj_sub, ng_ltt, ng_let, ng_gtf, ng_gef, cm_22 mc]
    · refine out_pure (v := tz_j (S 0 4)) c ww ?_ (fun A D m => ?_)
      · rw [e_X11_status]
        simp (disch := omega) only [tz_lit, nj_m1, ↓reduceIte, nj_cl, nj_ltt, nj_ltf, nj_let, nj_lef, nj_eqf, nj_lt, nj_le, nj_eq, nj_add, nj_mul, nj_modx, nj_and7, nj_div, tz_bI_some, tz_bV_some, or_false, false_or, or_self, and_false, false_and, and_true, true_and, not_true_eq_false, not_false_eq_true, nt_lef, nt_let, nt_ltf, nt_ltt, nt_eqf, nj_m2, nj_m3, nj_m4, nj_m5, nj_m6, nj_m7, tz_bL_some, nj_sub, ng_ltt, ng_let, ng_gtf, ng_gef, q4]
      · have mc := m.1.1
        rw [e_X12_status]
        simp (disch := omega) only [tz_lit, nj_m1, ↓reduceIte, nj_cl, nj_ltt, nj_ltf, nj_let, nj_lef, nj_eqf, nj_lt, nj_le, nj_eq, nj_add, nj_mul, nj_modx, nj_and7, nj_div, tz_bI_some, tz_bV_some, or_false, false_or, or_self, and_false, false_and, and_true, true_and, not_true_eq_false, not_false_eq_true, nt_lef, nt_let, nt_ltf, nt_ltt, nt_eqf, nj_m2, nj_m3, nj_m4, nj_m5, nj_m6, nj_m7, tz_bL_some, nj_sub, ng_ltt, ng_let, ng_gtf, ng_gef, cm_23 mc]
    · refine out_pure (v := tz_j (S 0 5)) c ww ?_ (fun A D m => ?_)
      · rw [e_X11_status]
        simp (disch := omega) only [tz_lit, nj_m1, ↓reduceIte, nj_cl, nj_ltt, nj_ltf, nj_let, nj_lef, nj_eqf, nj_lt, nj_le, nj_eq, nj_add, nj_mul, nj_modx, nj_and7, nj_div, tz_bI_some, tz_bV_some, or_false, false_or, or_self, and_false, false_and, and_true, true_and, not_true_eq_false, not_false_eq_true, nt_lef, nt_let, nt_ltf, nt_ltt, nt_eqf, nj_m2, nj_m3, nj_m4, nj_m5, nj_m6, nj_m7, tz_bL_some, nj_sub, ng_ltt, ng_let, ng_gtf, ng_gef, q5]
      · have mc := m.1.1
        rw [e_X12_status]
        simp (disch := omega) only [tz_lit, nj_m1, ↓reduceIte, nj_cl, nj_ltt, nj_ltf, nj_let, nj_lef, nj_eqf, nj_lt, nj_le, nj_eq, nj_add, nj_mul, nj_modx, nj_and7, nj_div, tz_bI_some, tz_bV_some, or_false, false_or, or_self, and_false, false_and, and_true, true_and, not_true_eq_false, not_false_eq_true, nt_lef, nt_let, nt_ltf, nt_ltt, nt_eqf, nj_m2, nj_m3, nj_m4, nj_m5, nj_m6, nj_m7, tz_bL_some, nj_sub, ng_ltt, ng_let, ng_gtf, ng_gef, cm_24 mc]
    · refine out_pure (v := tz_j (S 0 0)) c ww ?_ (fun A D m => ?_)
      · rw [e_X11_status]
        simp (disch := omega) only [tz_lit, nj_m1, ↓reduceIte, nj_cl, nj_ltt, nj_ltf, nj_let, nj_lef, nj_eqf, nj_lt, nj_le, nj_eq, nj_add, nj_mul, nj_modx, nj_and7, nj_div, tz_bI_some, tz_bV_some, or_false, false_or, or_self, and_false, false_and, and_true, true_and, not_true_eq_false, not_false_eq_true, nt_lef, nt_let, nt_ltf, nt_ltt, nt_eqf, nj_m2, nj_m3, nj_m4, nj_m5, nj_m6, nj_m7, tz_bL_some, nj_sub, ng_ltt, ng_let, ng_gtf, ng_gef, x_ever (b := 30) (show tz_sky 30 from Or.inl rfl) cc W W2 (show S 0 0 < 2147483648 by omega)]
      · have mc := m.1.1
        rw [e_X12_status]
        simp (disch := omega) only [tz_lit, nj_m1, ↓reduceIte, nj_cl, nj_ltt, nj_ltf, nj_let, nj_lef, nj_eqf, nj_lt, nj_le, nj_eq, nj_add, nj_mul, nj_modx, nj_and7, nj_div, tz_bI_some, tz_bV_some, or_false, false_or, or_self, and_false, false_and, and_true, true_and, not_true_eq_false, not_false_eq_true, nt_lef, nt_let, nt_ltf, nt_ltt, nt_eqf, nj_m2, nj_m3, nj_m4, nj_m5, nj_m6, nj_m7, tz_bL_some, nj_sub, ng_ltt, ng_let, ng_gtf, ng_gef, cm_25 mc]
    · refine out_pure (v := U 4 0) c ww ?_ (fun A D m => ?_)
      · rw [e_X11_status]
        simp (disch := omega) only [tz_lit, nj_m1, ↓reduceIte, nj_cl, nj_ltt, nj_ltf, nj_let, nj_lef, nj_eqf, nj_lt, nj_le, nj_eq, nj_add, nj_mul, nj_modx, nj_and7, nj_div, tz_bI_some, tz_bV_some, or_false, false_or, or_self, and_false, false_and, and_true, true_and, not_true_eq_false, not_false_eq_true, nt_lef, nt_let, nt_ltf, nt_ltt, nt_eqf, nj_m2, nj_m3, nj_m4, nj_m5, nj_m6, nj_m7, tz_bL_some, nj_sub, ng_ltt, ng_let, ng_gtf, ng_gef, c.2.2.1.2.2.2.2.1]
      · have mc := m.1.1
        rw [e_X12_status]
        simp (disch := omega) only [tz_lit, nj_m1, ↓reduceIte, nj_cl, nj_ltt, nj_ltf, nj_let, nj_lef, nj_eqf, nj_lt, nj_le, nj_eq, nj_add, nj_mul, nj_modx, nj_and7, nj_div, tz_bI_some, tz_bV_some, or_false, false_or, or_self, and_false, false_and, and_true, true_and, not_true_eq_false, not_false_eq_true, nt_lef, nt_let, nt_ltf, nt_ltt, nt_eqf, nj_m2, nj_m3, nj_m4, nj_m5, nj_m6, nj_m7, tz_bL_some, nj_sub, ng_ltt, ng_let, ng_gtf, ng_gef, m.2.2.1.2.2.2.2.1]
    · refine out_pure (v := tz_j 4294967295) c ww ?_ (fun A D m => ?_)
      · rw [e_X11_status]
        simp (disch := omega) only [tz_lit, nj_m1, ↓reduceIte, nj_cl, nj_ltt, nj_ltf, nj_let, nj_lef, nj_eqf, nj_lt, nj_le, nj_eq, nj_add, nj_mul, nj_modx, nj_and7, nj_div, tz_bI_some, tz_bV_some, or_false, false_or, or_self, and_false, false_and, and_true, true_and, not_true_eq_false, not_false_eq_true, nt_lef, nt_let, nt_ltf, nt_ltt, nt_eqf, nj_m2, nj_m3, nj_m4, nj_m5, nj_m6, nj_m7, tz_bL_some, nj_sub, ng_ltt, ng_let, ng_gtf, ng_gef]
      · have mc := m.1.1
        rw [e_X12_status]
        simp (disch := omega) only [tz_lit, nj_m1, ↓reduceIte, nj_cl, nj_ltt, nj_ltf, nj_let, nj_lef, nj_eqf, nj_lt, nj_le, nj_eq, nj_add, nj_mul, nj_modx, nj_and7, nj_div, tz_bI_some, tz_bV_some, or_false, false_or, or_self, and_false, false_and, and_true, true_and, not_true_eq_false, not_false_eq_true, nt_lef, nt_let, nt_ltf, nt_ltt, nt_eqf, nj_m2, nj_m3, nj_m4, nj_m5, nj_m6, nj_m7, tz_bL_some, nj_sub, ng_ltt, ng_let, ng_gtf, ng_gef, e_X12_within]
    · refine out_pure (v := U 2 (u - 10)) c ww ?_ (fun A D m => ?_)
      · have q := c.2.2.1.2.1 (u - 10) (by omega)
        rw [e_X11_status]
        simp (disch := omega) only [tz_lit, nj_m1, ↓reduceIte, nj_cl, nj_ltt, nj_ltf, nj_let, nj_lef, nj_eqf, nj_lt, nj_le, nj_eq, nj_add, nj_mul, nj_modx, nj_and7, nj_div, tz_bI_some, tz_bV_some, or_false, false_or, or_self, and_false, false_and, and_true, true_and, not_true_eq_false, not_false_eq_true, nt_lef, nt_let, nt_ltf, nt_ltt, nt_eqf, nj_m2, nj_m3, nj_m4, nj_m5, nj_m6, nj_m7, tz_bL_some, nj_sub, ng_ltt, ng_let, ng_gtf, ng_gef, q]
      · have p := m.2.2.1.2.1 (u - 10) (by omega)
        rw [e_X12_status]
        simp (disch := omega) only [tz_lit, nj_m1, ↓reduceIte, nj_cl, nj_ltt, nj_ltf, nj_let, nj_lef, nj_eqf, nj_lt, nj_le, nj_eq, nj_add, nj_mul, nj_modx, nj_and7, nj_div, tz_bI_some, tz_bV_some, or_false, false_or, or_self, and_false, false_and, and_true, true_and, not_true_eq_false, not_false_eq_true, nt_lef, nt_let, nt_ltf, nt_ltt, nt_eqf, nj_m2, nj_m3, nj_m4, nj_m5, nj_m6, nj_m7, tz_bL_some, nj_sub, ng_ltt, ng_let, ng_gtf, ng_gef, e_X12_within, p]
  · skip
    refine out_pure (v := tz_j 4294967295) c ww ?_ (fun A D m => ?_)
    · rw [e_X11_status]
      simp (disch := omega) only [tz_lit, nj_m1, ↓reduceIte, nj_cl, nj_ltt, nj_ltf, nj_let, nj_lef, nj_eqf, nj_lt, nj_le, nj_eq, nj_add, nj_mul, nj_modx, nj_and7, nj_div, tz_bI_some, tz_bV_some, or_false, false_or, or_self, and_false, false_and, and_true, true_and, not_true_eq_false, not_false_eq_true, nt_lef, nt_let, nt_ltf, nt_ltt, nt_eqf, nj_m2, nj_m3, nj_m4, nj_m5, nj_m6, nj_m7, tz_bL_some, nj_sub, ng_ltt, ng_let, ng_gtf, ng_gef, e_X8_has, e_X8_holdsRow, e_X11_isKind, e_X11_isOneOfTwo, e_X11_isWord, x_ref1, x_ref2, x_ref3, x_ref4, x_ref5, x_ref6, x_ref7, e_X11_refuseLower, ob_l h]
    · rw [e_X12_status]
      simp (disch := omega) only [tz_lit, nj_m1, ↓reduceIte, nj_cl, nj_ltt, nj_ltf, nj_let, nj_lef, nj_eqf, nj_lt, nj_le, nj_eq, nj_add, nj_mul, nj_modx, nj_and7, nj_div, tz_bI_some, tz_bV_some, or_false, false_or, or_self, and_false, false_and, and_true, true_and, not_true_eq_false, not_false_eq_true, nt_lef, nt_let, nt_ltf, nt_ltt, nt_eqf, nj_m2, nj_m3, nj_m4, nj_m5, nj_m6, nj_m7, tz_bL_some, nj_sub, ng_ltt, ng_let, ng_gtf, ng_gef, e_X12_within, e_X12_isRow, m_no1, m_no2, m_no3, m_no4, m_no5, m_no6, m_no7, e_X12_no10, ob_l h]

  · skip
    refine out_pure (v := tz_j 4294967295) c ww ?_ (fun A D m => ?_)
    · rw [e_X11_status]
      simp (disch := omega) only [tz_lit, nj_m1, ↓reduceIte, nj_cl, nj_ltt, nj_ltf, nj_let, nj_lef, nj_eqf, nj_lt, nj_le, nj_eq, nj_add, nj_mul, nj_modx, nj_and7, nj_div, tz_bI_some, tz_bV_some, or_false, false_or, or_self, and_false, false_and, and_true, true_and, not_true_eq_false, not_false_eq_true, nt_lef, nt_let, nt_ltf, nt_ltt, nt_eqf, nj_m2, nj_m3, nj_m4, nj_m5, nj_m6, nj_m7, tz_bL_some, nj_sub, ng_ltt, ng_let, ng_gtf, ng_gef, e_X8_has, e_X8_holdsRow, e_X11_isKind, e_X11_isOneOfTwo, e_X11_isWord, x_ref1, x_ref2, x_ref3, x_ref4, x_ref5, x_ref6, x_ref7, e_X11_refuseLower, ob_h (show 18 < 2147483648 by omega) h]
    · rw [e_X12_status]
      simp (disch := omega) only [tz_lit, nj_m1, ↓reduceIte, nj_cl, nj_ltt, nj_ltf, nj_let, nj_lef, nj_eqf, nj_lt, nj_le, nj_eq, nj_add, nj_mul, nj_modx, nj_and7, nj_div, tz_bI_some, tz_bV_some, or_false, false_or, or_self, and_false, false_and, and_true, true_and, not_true_eq_false, not_false_eq_true, nt_lef, nt_let, nt_ltf, nt_ltt, nt_eqf, nj_m2, nj_m3, nj_m4, nj_m5, nj_m6, nj_m7, tz_bL_some, nj_sub, ng_ltt, ng_let, ng_gtf, ng_gef, e_X12_within, e_X12_isRow, m_no1, m_no2, m_no3, m_no4, m_no5, m_no6, m_no7, e_X12_no10, ob_h (show 18 < 2147483648 by omega) h]

