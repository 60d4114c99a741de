/-! a letter handed in, in thought -/
theorem x_rol {S : tz_S} {A : tz_Mem} (c : rx_c 30 S A) (W : sp_W1 S) (x1 x2 x3 x4 : Int32) : (∃ a f t v, x1 = tz_j a ∧ a < 10000 ∧ x2 = tz_j f ∧ f < S 1 0 ∧ x3 = tz_j t ∧ t < S 1 0 ∧ f ≠ t ∧ x4 = tz_j v ∧ 1 ≤ v ∧ v ≤ 99 ∧ S 15 0 < 12 ∧ f_X11_refusalOfLetter x1 x2 x3 x4 A = some (some (.int (tz_j 0)), A)) ∨ (f_X11_refusalOfLetter x1 x2 x3 x4 A = some (some (.int (tz_j 4294967295)), A) ∧ ((x2 < tz_j 0 ∨ tz_j (S 1 0) ≤ x2) ∨ (x3 < tz_j 0 ∨ tz_j (S 1 0) ≤ x3))) ∨ (f_X11_refusalOfLetter x1 x2 x3 x4 A = some (some (.int (tz_j 4294967290)), A) ∧ ∃ f t, x2 = tz_j f ∧ f < S 1 0 ∧ x3 = tz_j t ∧ t < S 1 0 ∧ ((∀ A, f_X12_within x1 (tz_j 0) (tz_j 9999) A = some (some (.int (tz_j 0)), A)) ∨ (∀ A, f_X12_within x4 (tz_j 1) (tz_j 99) A = some (some (.int (tz_j 0)), A)) ∨ f = t)) ∨ (f_X11_refusalOfLetter x1 x2 x3 x4 A = some (some (.int (tz_j 4294967289)), A) ∧ S 15 0 = 12 ∧ ∃ a f t v, x1 = tz_j a ∧ a < 10000 ∧ x2 = tz_j f ∧ f < S 1 0 ∧ x3 = tz_j t ∧ t < S 1 0 ∧ f ≠ t ∧ x4 = tz_j v ∧ 1 ≤ v ∧ v ≤ 99) := by
  have h8 := W.1
  have h12 := W.2.2.1
  rw [e_X11_refusalOfLetter]
  rcases nj_three x2 (S 1 0) (by omega) with ⟨f, hf, rfl⟩ | h
  · have a1 := x_hash1 h30 c hf (by omega)
    rcases nj_three x3 (S 1 0) (by omega) with ⟨t, ht, rfl⟩ | h
    · have a2 := x_hash1 h30 c ht (by omega)
      rcases nj_three x1 10000 (by omega) with ⟨a, ha, rfl⟩ | h
      · have a3 := x_isWord1 (A := A) ha
        rcases nj_in x4 1 99 (by omega) (by omega) with ⟨v, hv1, hv, rfl⟩ | ⟨h, b4⟩
        · have n1 : (tz_j v < tz_j 1) = False := nj_ltf (by omega) (by omega)
          have n2 : (tz_j 99 < tz_j v) = False := nj_ltf (by omega) (by omega)
          by_cases y : f = t
          · subst y
            refine Or.inr (Or.inr (Or.inl ⟨?_, f, f, rfl, hf, rfl, hf, Or.inr (Or.inr rfl)⟩))
            simp (disch := omega) only [tz_lit, nj_m1, nj_m2, nj_m3, nj_m4, nj_m5, nj_m6, nj_m7, ↓reduceIte, tz_bI_some, tz_bV_some, tz_bL_some, cj10, cj01, cjm0, eq_self, not_true_eq_false, not_false_eq_true, or_false, false_or, or_true, true_or, or_self, and_true, true_and, and_false, false_and, nj_eqf, nj_ltt, nj_ltf, nj_let, nj_lef, nj_cl, nt_lef, ng_ltt, ng_let, ng_gtf, ng_gef, a1, a2, a3, n1, n2]
          · have n3 : (tz_j f = tz_j t) = False := nj_eqf y (by omega) (by omega)
            by_cases z : S 15 0 < 12
            · have a4 : f_X4_isFull 30 A = some (some (.int (tz_j 0)), A) := by
                rw [e_X4_isFull _ h30]
                simp (disch := omega) only [tz_lit, nj_m1, ↓reduceIte, nj_cl, nj_ltt, nj_ltf, nj_let, nj_lef, nj_eqf, nj_lt, nj_le, nj_eq, nj_add, nj_mul, nj_modx, nj_and7, nj_div, tz_bI_some, tz_bV_some, or_false, false_or, or_self, and_false, false_and, and_true, true_and, not_true_eq_false, not_false_eq_true, nt_lef, nt_let, nt_ltf, nt_ltt, nt_eqf, nj_m2, nj_m3, nj_m4, nj_m5, nj_m6, nj_m7, tz_bL_some, nj_sub, ng_ltt, ng_let, ng_gtf, ng_gef, cx_15 c]
              refine Or.inl ⟨a, f, t, v, rfl, ha, rfl, hf, rfl, ht, y, rfl, hv1, hv, z, ?_⟩
              simp (disch := omega) only [tz_lit, nj_m1, nj_m2, nj_m3, nj_m4, nj_m5, nj_m6, nj_m7, ↓reduceIte, tz_bI_some, tz_bV_some, tz_bL_some, cj10, cj01, cjm0, eq_self, not_true_eq_false, not_false_eq_true, or_false, false_or, or_true, true_or, or_self, and_true, true_and, and_false, false_and, nj_eqf, nj_ltt, nj_ltf, nj_let, nj_lef, nj_cl, nt_lef, ng_ltt, ng_let, ng_gtf, ng_gef, a1, a2, a3, a4, n1, n2, n3]
            · have a4 : f_X4_isFull 30 A = some (some (.int (tz_j 1)), A) := by
                rw [e_X4_isFull _ h30]
                simp (disch := omega) only [tz_lit, nj_m1, ↓reduceIte, nj_cl, nj_ltt, nj_ltf, nj_let, nj_lef, nj_eqf, nj_lt, nj_le, nj_eq, nj_add, nj_mul, nj_modx, nj_and7, nj_div, tz_bI_some, tz_bV_some, or_false, false_or, or_self, and_false, false_and, and_true, true_and, not_true_eq_false, not_false_eq_true, nt_lef, nt_let, nt_ltf, nt_ltt, nt_eqf, nj_m2, nj_m3, nj_m4, nj_m5, nj_m6, nj_m7, tz_bL_some, nj_sub, ng_ltt, ng_let, ng_gtf, ng_gef, cx_15 c]
              refine Or.inr (Or.inr (Or.inr ⟨?_, (by omega), a, f, t, v, rfl, ha, rfl, hf, rfl, ht, y, rfl, hv1, hv⟩))
              simp (disch := omega) only [tz_lit, nj_m1, nj_m2, nj_m3, nj_m4, nj_m5, nj_m6, nj_m7, ↓reduceIte, tz_bI_some, tz_bV_some, tz_bL_some, cj10, cj01, cjm0, eq_self, not_true_eq_false, not_false_eq_true, or_false, false_or, or_true, true_or, or_self, and_true, true_and, and_false, false_and, nj_eqf, nj_ltt, nj_ltf, nj_let, nj_lef, nj_cl, nt_lef, ng_ltt, ng_let, ng_gtf, ng_gef, a1, a2, a3, a4, n1, n2, n3]
        · refine Or.inr (Or.inr (Or.inl ⟨?_, f, t, rfl, hf, rfl, ht, Or.inr (Or.inl b4)⟩))
          rcases h with h | h
          · simp (disch := omega) only [tz_lit, nj_m1, nj_m2, nj_m3, nj_m4, nj_m5, nj_m6, nj_m7, ↓reduceIte, tz_bI_some, tz_bV_some, tz_bL_some, cj10, cj01, cjm0, eq_self, not_true_eq_false, not_false_eq_true, or_false, false_or, or_true, true_or, or_self, and_true, true_and, and_false, false_and, nj_eqf, nj_ltt, nj_ltf, nj_let, nj_lef, nj_cl, nt_lef, ng_ltt, ng_let, ng_gtf, ng_gef, a1, a2, a3, eq_true h]
          · rcases pr_tf (x4 < tz_j 1) with y | y
            · simp (disch := omega) only [tz_lit, nj_m1, nj_m2, nj_m3, nj_m4, nj_m5, nj_m6, nj_m7, ↓reduceIte, tz_bI_some, tz_bV_some, tz_bL_some, cj10, cj01, cjm0, eq_self, not_true_eq_false, not_false_eq_true, or_false, false_or, or_true, true_or, or_self, and_true, true_and, and_false, false_and, nj_eqf, nj_ltt, nj_ltf, nj_let, nj_lef, nj_cl, nt_lef, ng_ltt, ng_let, ng_gtf, ng_gef, a1, a2, a3, y]
            · simp (disch := omega) only [tz_lit, nj_m1, nj_m2, nj_m3, nj_m4, nj_m5, nj_m6, nj_m7, ↓reduceIte, tz_bI_some, tz_bV_some, tz_bL_some, cj10, cj01, cjm0, eq_self, not_true_eq_false, not_false_eq_true, or_false, false_or, or_true, true_or, or_self, and_true, true_and, and_false, false_and, nj_eqf, nj_ltt, nj_ltf, nj_let, nj_lef, nj_cl, nt_lef, ng_ltt, ng_let, ng_gtf, ng_gef, a1, a2, a3, y, eq_true h]
      · have a3 := x_isWord0 (A := A) h
        refine Or.inr (Or.inr (Or.inl ⟨?_, f, t, rfl, hf, rfl, ht, Or.inl (fun A => wi_ob (a := 0) (n := 9999) (by omega) (by omega) h)⟩))
        simp (disch := omega) only [tz_lit, nj_m1, nj_m2, nj_m3, nj_m4, nj_m5, nj_m6, nj_m7, ↓reduceIte, tz_bI_some, tz_bV_some, tz_bL_some, cj10, cj01, cjm0, eq_self, not_true_eq_false, not_false_eq_true, or_false, false_or, or_true, true_or, or_self, and_true, true_and, and_false, false_and, nj_eqf, nj_ltt, nj_ltf, nj_let, nj_lef, nj_cl, nt_lef, ng_ltt, ng_let, ng_gtf, ng_gef, a1, a2, a3]
    · have a2 := x_hash0 h30 c h (by omega)
      refine Or.inr (Or.inl ⟨?_, Or.inr h⟩)
      simp (disch := omega) only [tz_lit, nj_m1, nj_m2, nj_m3, nj_m4, nj_m5, nj_m6, nj_m7, ↓reduceIte, tz_bI_some, tz_bV_some, tz_bL_some, cj10, cj01, cjm0, eq_self, not_true_eq_false, not_false_eq_true, or_false, false_or, or_true, true_or, or_self, and_true, true_and, and_false, false_and, nj_eqf, nj_ltt, nj_ltf, nj_let, nj_lef, nj_cl, nt_lef, ng_ltt, ng_let, ng_gtf, ng_gef, a1, a2]
  · have a1 := x_hash0 h30 c h (by omega)
    refine Or.inr (Or.inl ⟨?_, Or.inl h⟩)
    simp (disch := omega) only [tz_lit, nj_m1, nj_m2, nj_m3, nj_m4, nj_m5, nj_m6, nj_m7, ↓reduceIte, tz_bI_some, tz_bV_some, tz_bL_some, cj10, cj01, cjm0, eq_self, not_true_eq_false, not_false_eq_true, or_false, false_or, or_true, true_or, or_self, and_true, true_and, and_false, false_and, nj_eqf, nj_ltt, nj_ltf, nj_let, nj_lef, nj_cl, nt_lef, ng_ltt, ng_let, ng_gtf, ng_gef, a1]
theorem wi_v {x a b : Int32} (A : tz_Mem) : f_X12_within x a b A = some (some (.int (tz_j 0)), A) ∨ f_X12_within x a b A = some (some (.int (tz_j 1)), A) := by
  rw [e_X12_within]
  repeat' split
  all_goals first | exact Or.inl rfl | exact Or.inr rfl
theorem nhA {S : tz_S} {A : tz_Mem} {x2 x3 g : Int32} (c : rm_c S A) (h8 : S 1 0 ≤ 8) (h : (x2 < tz_j 0 ∨ tz_j (S 1 0) ≤ x2) ∨ (x3 < tz_j 0 ∨ tz_j (S 1 0) ≤ x3)) : f_X12_noHanding x2 x3 g A = some (some (.int (tz_j 4294967295)), A) := by
  rw [e_X12_noHanding]
  rcases h with h | h
  · have a1 := m_hash0 c h (by omega)
    simp only [tz_lit, nj_m1, nj_m2, nj_m3, nj_m4, nj_m5, nj_m6, nj_m7, ↓reduceIte, tz_bI_some, tz_bV_some, tz_bL_some, cj10, cj01, cjm0, eq_self, not_true_eq_false, not_false_eq_true, or_false, false_or, or_true, true_or, or_self, and_true, true_and, and_false, false_and, a1]
  · have a2 := m_hash0 c h (by omega)
    rcases nj_three x2 (S 1 0) (by omega) with ⟨f, hf, rfl⟩ | h
    · have a1 := m_hash1 c hf (by omega)
      simp only [tz_lit, nj_m1, nj_m2, nj_m3, nj_m4, nj_m5, nj_m6, nj_m7, ↓reduceIte, tz_bI_some, tz_bV_some, tz_bL_some, cj10, cj01, cjm0, eq_self, not_true_eq_false, not_false_eq_true, or_false, false_or, or_true, true_or, or_self, and_true, true_and, and_false, false_and, a1, a2]
    · have a1 := m_hash0 c h (by omega)
      simp only [tz_lit, nj_m1, nj_m2, nj_m3, nj_m4, nj_m5, nj_m6, nj_m7, ↓reduceIte, tz_bI_some, tz_bV_some, tz_bL_some, cj10, cj01, cjm0, eq_self, not_true_eq_false, not_false_eq_true, or_false, false_or, or_true, true_or, or_self, and_true, true_and, and_false, false_and, a1]
theorem nhB {S : tz_S} {A : tz_Mem} {f : Nat} {g : Int32} (c : rm_c S A) (h8 : S 1 0 ≤ 8) (hf : f < S 1 0) : f_X12_noHanding (tz_j f) (tz_j f) g A = some (some (.int (tz_j 4294967290)), A) := by
  have a1 := m_hash1 c hf (by omega)
  rw [e_X12_noHanding]
  simp only [tz_lit, nj_m1, nj_m2, nj_m3, nj_m4, nj_m5, nj_m6, nj_m7, ↓reduceIte, tz_bI_some, tz_bV_some, tz_bL_some, cj10, cj01, cjm0, eq_self, not_true_eq_false, not_false_eq_true, or_false, false_or, or_true, true_or, or_self, and_true, true_and, and_false, false_and, a1]
theorem nhC {S : tz_S} {A : tz_Mem} {f t : Nat} (c : rm_c S A) (h8 : S 1 0 ≤ 8) (hf : f < S 1 0) (ht : t < S 1 0) : f_X12_noHanding (tz_j f) (tz_j t) (tz_j 0) A = some (some (.int (tz_j 4294967290)), A) := by
  have a1 := m_hash1 c hf (by omega)
  have a2 := m_hash1 c ht (by omega)
  rw [e_X12_noHanding]
  rcases pr_tf (tz_j f = tz_j t) with y | y
  · simp only [tz_lit, nj_m1, nj_m2, nj_m3, nj_m4, nj_m5, nj_m6, nj_m7, ↓reduceIte, tz_bI_some, tz_bV_some, tz_bL_some, cj10, cj01, cjm0, eq_self, not_true_eq_false, not_false_eq_true, or_false, false_or, or_true, true_or, or_self, and_true, true_and, and_false, false_and, a1, a2, y]
  · simp only [tz_lit, nj_m1, nj_m2, nj_m3, nj_m4, nj_m5, nj_m6, nj_m7, ↓reduceIte, tz_bI_some, tz_bV_some, tz_bL_some, cj10, cj01, cjm0, eq_self, not_true_eq_false, not_false_eq_true, or_false, false_or, or_true, true_or, or_self, and_true, true_and, and_false, false_and, a1, a2, y]
theorem nhD {S : tz_S} {A : tz_Mem} {f t : Nat} (c : rm_c S A) (h8 : S 1 0 ≤ 8) (hf : f < S 1 0) (ht : t < S 1 0) (y : f ≠ t) (h : S 15 0 < 12) : f_X12_noHanding (tz_j f) (tz_j t) (tz_j 1) A = some (some (.int (tz_j 0)), A) := by
  have a1 := m_hash1 c hf (by omega)
  have a2 := m_hash1 c ht (by omega)
  have q := cm_15 c
  have n1 : (tz_j (S 15 0) = tz_j 12) = False := nj_eqf (by omega) (by omega) (by omega)
  have n2 : (tz_j f = tz_j t) = False := nj_eqf y (by omega) (by omega)
  rw [e_X12_noHanding]
  simp only [tz_lit, nj_m1, nj_m2, nj_m3, nj_m4, nj_m5, nj_m6, nj_m7, ↓reduceIte, tz_bI_some, tz_bV_some, tz_bL_some, cj10, cj01, cjm0, eq_self, not_true_eq_false, not_false_eq_true, or_false, false_or, or_true, true_or, or_self, and_true, true_and, and_false, false_and, a1, a2, q, n1, n2]
theorem nhE {S : tz_S} {A : tz_Mem} {f t : Nat} (c : rm_c S A) (h8 : S 1 0 ≤ 8) (hf : f < S 1 0) (ht : t < S 1 0) (y : f ≠ t) (h : S 15 0 = 12) : f_X12_noHanding (tz_j f) (tz_j t) (tz_j 1) A = some (some (.int (tz_j 4294967289)), A) := by
  have a1 := m_hash1 c hf (by omega)
  have a2 := m_hash1 c ht (by omega)
  have q := cm_15 c
  rw [h] at q
  have n2 : (tz_j f = tz_j t) = False := nj_eqf y (by omega) (by omega)
  rw [e_X12_noHanding]
  simp only [tz_lit, nj_m1, nj_m2, nj_m3, nj_m4, nj_m5, nj_m6, nj_m7, ↓reduceIte, tz_bI_some, tz_bV_some, tz_bL_some, cj10, cj01, cjm0, eq_self, not_true_eq_false, not_false_eq_true, or_false, false_or, or_true, true_or, or_self, and_true, true_and, and_false, false_and, a1, a2, q, n2]
def sp_hd (a f t v n : Nat) (S : tz_S) : tz_S := sp_addL a f t v (sp_n n S)
theorem hd_H {N a f t v n : Nat} {S : tz_S} (H : sp_H N S) (hn : S 15 0 < 12) (ha : a ≤ 9999) (hf : f < S 1 0) (ht : t < S 1 0) (hv : 1 ≤ v ∧ v ≤ 99) : sp_H (N + n) (sp_hd a f t v n S) ∧ sp_hd a f t v n S 15 0 = S 15 0 + 1 ∧ sp_hd a f t v n S 20 (S 15 0) = f ∧ sp_hd a f t v n S 21 (S 15 0) = 4294967295 ∧ sp_hd a f t v n S 0 3 = S 0 3 + n ∧ sp_hd a f t v n S 200 0 = S 200 0 ∧ sp_n n S 15 0 = S 15 0 := by
  obtain ⟨g1, g2, g3⟩ := n_G n S H
  have e15 := g3 15 0 (by unfold sp_kp; omega) (by omega)
  have e1 := g3 1 0 (by unfold sp_kp; omega) (by omega)
  refine ⟨addL_H g1 (by omega) ha (by omega) (by omega) hv, ?_, ?_, ?_, ?_, ?_, e15⟩
  · unfold sp_hd
    rw [addL_15, e15]
  · unfold sp_hd
    rw [addL_f (by omega) (by omega), ← e15, fl_20]
  · unfold sp_hd
    rw [addL_f (by omega) (by omega), ← e15, fl_21]
  · unfold sp_hd
    rw [addL_g (by omega) (by omega) (by omega), g2]
  · unfold sp_hd
    rw [addL_g (by omega) (by omega) (by omega), g3 200 0 (by unfold sp_kp; omega) (by omega)]
theorem m_handed {D : Nat → Int32} {S : tz_S} {A : tz_Mem} {N a f t v n : Nat} (hN : N ≤ 1100000) (r : rm D S A) (H : sp_H N S) (h2 : S 200 0 = 0) (hn : S 15 0 < 12) (ha : a ≤ 9999) (hf : f < S 1 0) (ht : t < S 1 0) (hv : 1 ≤ v ∧ v ≤ 99) (hn9 : n ≤ 99) : ∃ C, f_X12_handed (tz_j a) (tz_j f) (tz_j t) (tz_j v) (tz_j n) A = some (some (.int (tz_j (sp_ar (S 15 0) 500 (sp_hd a f t v n S) 21 (S 15 0)))), C) ∧ tz_fr mt_p A C ∧ (∀ k i, kp_d k i → tz_g C k i = tz_g A k i) ∧ tz_g C 157 34 = tz_g A 157 34 ∧ tz_g C 157 36 = tz_j 4294967295 := by
  have h12 := H.1.2.2.1
  obtain ⟨A1, e1, f1, fA1, h⟩ := m_th2 A
  have r1 : rm D S A1 := rm_A r (fun k i h => f1 k i (by omega))
  obtain ⟨B, e2, r2, f2⟩ := m_n (q := fun y A => q_X12_handed_11 (tz_j a) (tz_j f) (tz_j t) (tz_j v) (tz_j n) y A) (n := n) (fun i A hi => by
    have n1 : (tz_j n ≤ tz_j i) = False := nj_lef (by omega) (by omega)
    have n2 : tz_j i + tz_j 1 = tz_j (i + 1) := nj_add
    show q_X12_handed_11 _ _ _ _ _ _ _ = _
    rw [e_X12_handed_11]
    simp only [tz_lit, nj_m1, nj_m2, nj_m3, nj_m4, nj_m5, nj_m6, nj_m7, ↓reduceIte, tz_bI_some, tz_bV_some, tz_bL_some, cj10, cj01, cjm0, eq_self, not_true_eq_false, not_false_eq_true, or_false, false_or, or_true, true_or, or_self, and_true, true_and, and_false, false_and, n1, n2]) n 0 N S A1 (by omega) (by omega) r1 H (by omega)
  obtain ⟨g1, g2, g3, g4, g5, g6, g7⟩ := hd_H (n := n) H hn ha hf ht hv
  obtain ⟨A3, e3, r3, f3⟩ := m_addL (a := a) (f := f) (t := t) (v := v) r2 (by rw [g7]; exact hn)
  rw [g7] at e3
  obtain ⟨A4, e4, r4, f4⟩ := m_ar (l := S 15 0) (show N + n + 500 ≤ 2000000 by omega) r3 g1 (by show sp_hd a f t v n S 200 0 ≠ 2; rw [g6]; omega) (by show S 15 0 < sp_hd a f t v n S 15 0; omega)
  have fB : tz_fr mt_p A1 (tz_s A4 183 0 (tz_g A4 171 (S 15 0))) := fr_s (fr_tr (fr_mo f2 (fun k i => mo_mt)) (fr_tr (fr_mo f3 (fun k i => mo_mt)) (fr_mo f4 (fun k i => mo_mt)))) (by unfold mt_p; omega)
  obtain ⟨C, e5, fC, g, ff⟩ := h _ fB (fun j => by rw [tz_gsk (by omega), f4.2.2 181 j mo_181, f3.2.2 181 j mo_181, f2.2.2 181 j mo_181])
  refine ⟨C, ?_, fC, g, ?_, ?_⟩
  · have n1 : (tz_j n ≤ tz_j n) = True := nj_let (Nat.le_refl _) (by omega)
    have n2 := nj_ix8 (s := S 15 0) (n := 12) (by omega) (by omega)
    have n3 : (tz_j (S 15 0)).toNatClampNeg = S 15 0 := nj_cl (by omega)
    have n4 : (tz_j 0 < tz_j 0) = False := nj_ltf (by omega) (by omega)
    have n5 : (10 ≤ 0) = False := eq_false (by omega)
    have e6 : q_X12_handed_11 (tz_j a) (tz_j f) (tz_j t) (tz_j v) (tz_j n) (tz_j n) B = some (some (.int (tz_j (sp_ar (S 15 0) 500 (sp_hd a f t v n S) 21 (S 15 0)))), C) := by
      rw [e_X12_handed_11]
      simp only [tz_lit, nj_m1, nj_m2, nj_m3, nj_m4, nj_m5, nj_m6, nj_m7, ↓reduceIte, tz_bI_some, tz_bV_some, tz_bL_some, cj10, cj01, cjm0, eq_self, not_true_eq_false, not_false_eq_true, or_false, false_or, or_true, true_or, or_self, and_true, true_and, and_false, false_and, n1, e3, e4, n2, n3, n4, n5, e5]
      rfl
    rw [e_X12_handed]
    simp only [tz_lit, nj_m1, nj_m2, nj_m3, nj_m4, nj_m5, nj_m6, nj_m7, ↓reduceIte, tz_bI_some, tz_bV_some, tz_bL_some, cj10, cj01, cjm0, eq_self, not_true_eq_false, not_false_eq_true, or_false, false_or, or_true, true_or, or_self, and_true, true_and, and_false, false_and, e1]
    exact e2.trans e6
  · rw [ff 157 34 kd_34, tz_gsk (by omega), f4.2.2 157 34 mo_34, f3.2.2 157 34 mo_34, f2.2.2 157 34 mo_34, f1 157 34 (by omega)]
  · rw [ff 157 36 kd_36, tz_gsk (by omega)]
    exact r4.2.2.2.2.2 (by
      show sp_ar (S 15 0) 500 (sp_hd a f t v n S) 200 0 ≠ 1
      rw [(ar_G 500 (N + n) _ g1).2 200 0 (by unfold sp_kp; omega) (by omega), g6]
      omega)
theorem MX_handed {D : Nat → Int32} {S K : tz_S} {U : tz_U} {V : tz_V} {A : tz_Mem} {N a f t v n : Nat} (hN : N ≤ 1100000) (m : MX D S K U V A) (H : sp_H N S) (hst : sp_st S) (hn : S 15 0 < 12) (ha : a ≤ 9999) (hf : f < S 1 0) (ht : t < S 1 0) (hv : 1 ≤ v ∧ v ≤ 99) (hn9 : n ≤ 99) : ∃ C D', f_X12_handed (tz_j a) (tz_j f) (tz_j t) (tz_j v) (tz_j n) A = some (some (.int (tz_j (sp_ar (S 15 0) 500 (sp_hd a f t v n S) 21 (S 15 0)))), C) ∧ MX D' S K U V C ∧ mg A C := by
  obtain ⟨C, e1, fC, g, h34, h36⟩ := m_handed hN m.1 H hst.2 hn ha hf ht hv hn9
  obtain ⟨D', m', gg⟩ := MX_back H.1 hst m fC g h34 (by rw [h36]; exact (m.1.2.2.2.2.2 (by rw [hst.2]; omega)).symm)
  exact ⟨C, D', e1, m', gg⟩
theorem p_handIn (x1 x2 x3 x4 x5 : Int32) : tz_twoI tz_J (f_X11_handIn x1 x2 x3 x4 x5) (f_X12_handIn x1 x2 x3 x4 x5) := by
  refine two_of (fun N S K U V A hN c ww => ?_)
  have W := ww.1.1
  have h8 := W.1
  have h4 := W.2.1
  have h12 := W.2.2.1
  rcases x_rol c.1.1 W x1 x2 x3 x4 with ⟨a, f, t, v, rfl, ha, rfl, hf, rfl, ht, hne, rfl, hv1, hv, hn12, a1⟩ | ⟨a1, ho⟩ | ⟨a1, f, t, rfl, hf, rfl, ht, ho⟩ | ⟨a1, h15, a, f, t, v, rfl, ha, rfl, hf, rfl, ht, hne, rfl, hv1, hv⟩
  · have b1 : ∀ A, f_X12_within (tz_j a) (tz_j 0) (tz_j 9999) A = some (some (.int (tz_j 1)), A) := fun A => by
      rw [m_within (by omega) (by omega) (by omega), if_pos ⟨(by omega), (by omega)⟩]
    have b4 : ∀ A, f_X12_within (tz_j v) (tz_j 1) (tz_j 99) A = some (some (.int (tz_j 1)), A) := fun A => by
      rw [m_within (by omega) (by omega) (by omega), if_pos ⟨(by omega), (by omega)⟩]
    rcases nj_three x5 100 (by omega) with ⟨n, hn, rfl⟩ | h
    · have b5 : ∀ A, f_X12_within (tz_j n) (tz_j 0) (tz_j 99) A = some (some (.int (tz_j 1)), A) := fun A => by
        rw [m_within (by omega) (by omega) (by omega), if_pos ⟨(by omega), (by omega)⟩]
      have n1 : (tz_j n < tz_j 0) = False := nj_ltf (by omega) (by omega)
      have n2 : (tz_j n ≤ tz_j 99) = True := nj_let (by omega) (by omega)
      obtain ⟨g1, g2, g3, g4, g5, g6, g7⟩ := hd_H (n := n) ww.1 hn12 (show a ≤ 9999 by omega) hf ht ⟨hv1, hv⟩
      obtain ⟨A1, f1, r1, ff1⟩ := x_bec2 h76 h30 (by omega) W ww.2.1 c.1
      obtain ⟨A2, f2, r2, ff2⟩ := x_pass (n := n) h76 (show N + n ≤ 2000000 by omega) r1 ww.1
      have gn := n_G n S ww.1
      obtain ⟨A3, f3, r3, ff3⟩ := x_addL (a := a) (f := f) (t := t) h76 r2 gn.1.1 (by rw [g7]; exact hn12) (by rw [gn.2.2 1 0 (by unfold sp_kp; omega) (by omega)]; exact hf) hv
      rw [g7] at f3
      obtain ⟨A4, f4, r4, ff4⟩ := x_ar (l := S 15 0) h76 (show N + n + 500 ≤ 2000000 by omega) r3 g1 (by show S 15 0 < sp_hd a f t v n S 15 0; omega)
      refine out_th (v := tz_j (sp_ar (S 15 0) 500 (sp_hd a f t v n S) 21 (S 15 0))) c ww ⟨A4, ?_, fx_tr (fx_mo ff1 (fun k i => th_b)) (fx_tr (fx_mo (fx_fr ff2) (fun k i => th_r)) (fx_tr (fx_mo (fx_fr ff3) (fun k i => th_r)) (fx_mo (fx_fr ff4) (fun k i => th_r))))⟩ (fun A D m => ?_)
      · rw [e_X11_handIn]
        simp (disch := omega) only [tz_lit, nj_m1, nj_m2, nj_m3, nj_m4, nj_m5, nj_m6, nj_m7, ↓reduceIte, tz_bI_some, tz_bV_some, tz_bL_some, cj10, cj01, cjm0, eq_self, not_true_eq_false, not_false_eq_true, or_false, false_or, or_true, true_or, or_self, and_true, true_and, and_false, false_and, nj_eqf, nj_ltt, nj_ltf, nj_let, nj_lef, nj_cl, nt_lef, ng_ltt, ng_let, ng_gtf, ng_gef, a1, n1, n2, f1, f2, f3, f4]
        rfl
      · obtain ⟨C, D', e1, m', gg⟩ := MX_handed (n := n) hN m ww.1 ww.2.1 hn12 (show a ≤ 9999 by omega) hf ht ⟨hv1, hv⟩ (by omega)
        refine ⟨C, D', ?_, m', mf_mg gg⟩
        have e2 := nhD m.1.1 h8 hf ht hne hn12
        rw [e_X12_handIn]
        simp (disch := omega) only [tz_lit, nj_m1, nj_m2, nj_m3, nj_m4, nj_m5, nj_m6, nj_m7, ↓reduceIte, tz_bI_some, tz_bV_some, tz_bL_some, cj10, cj01, cjm0, eq_self, not_true_eq_false, not_false_eq_true, or_false, false_or, or_true, true_or, or_self, and_true, true_and, and_false, false_and, nj_eqf, nj_ltt, nj_ltf, nj_let, nj_lef, nj_cl, nt_lef, ng_ltt, ng_let, ng_gtf, ng_gef, b1, b4, b5, e2, e1]
    · have b5 := fun A => wi_ob (A := A) (a := 0) (n := 99) (by omega) (by omega) h
      refine out_ref (v := tz_j 4294967290 - tz_j 10) 6 (by omega) c ww ?_ (fun A D m => ?_)
      · rw [e_X11_handIn]
        rcases h with h | h
        · simp (disch := omega) only [tz_lit, nj_m1, nj_m2, nj_m3, nj_m4, nj_m5, nj_m6, nj_m7, ↓reduceIte, tz_bI_some, tz_bV_some, tz_bL_some, cj10, cj01, cjm0, eq_self, not_true_eq_false, not_false_eq_true, or_false, false_or, or_true, true_or, or_self, and_true, true_and, and_false, false_and, nj_eqf, nj_ltt, nj_ltf, nj_let, nj_lef, nj_cl, nt_lef, ng_ltt, ng_let, ng_gtf, ng_gef, a1, ob_l h, e_X11_refuseLower, x_ref1, x_ref2, x_ref3, x_ref4, x_ref5, x_ref6, x_ref7, e_X11_refuseLower]
        · simp (disch := omega) only [tz_lit, nj_m1, nj_m2, nj_m3, nj_m4, nj_m5, nj_m6, nj_m7, ↓reduceIte, tz_bI_some, tz_bV_some, tz_bL_some, cj10, cj01, cjm0, eq_self, not_true_eq_false, not_false_eq_true, or_false, false_or, or_true, true_or, or_self, and_true, true_and, and_false, false_and, nj_eqf, nj_ltt, nj_ltf, nj_let, nj_lef, nj_cl, nt_lef, ng_ltt, ng_let, ng_gtf, ng_gef, a1, ob_h (show 100 < 2147483648 by omega) h, e_X11_refuseLower, x_ref1, x_ref2, x_ref3, x_ref4, x_ref5, x_ref6, x_ref7, e_X11_refuseLower]
      · skip
        have e2 := nhC m.1.1 h8 hf ht
        rw [e_X12_handIn]
        simp (disch := omega) only [tz_lit, nj_m1, nj_m2, nj_m3, nj_m4, nj_m5, nj_m6, nj_m7, ↓reduceIte, tz_bI_some, tz_bV_some, tz_bL_some, cj10, cj01, cjm0, eq_self, not_true_eq_false, not_false_eq_true, or_false, false_or, or_true, true_or, or_self, and_true, true_and, and_false, false_and, nj_eqf, nj_ltt, nj_ltf, nj_let, nj_lef, nj_cl, nt_lef, ng_ltt, ng_let, ng_gtf, ng_gef, b1, b4, b5, e2, e_X12_no10, m_no1, m_no2, m_no3, m_no4, m_no5, m_no6, m_no7, e_X12_no10]
  · have wv := fun (A : tz_Mem) (x a b : Int32) => wi_v (x := x) (a := a) (b := b) A
    refine out_ref (v := tz_j 4294967295 - tz_j 10) 1 (by omega) c ww ?_ (fun A D m => ?_)
    · rw [e_X11_handIn]
      simp (disch := omega) only [tz_lit, nj_m1, nj_m2, nj_m3, nj_m4, nj_m5, nj_m6, nj_m7, ↓reduceIte, tz_bI_some, tz_bV_some, tz_bL_some, cj10, cj01, cjm0, eq_self, not_true_eq_false, not_false_eq_true, or_false, false_or, or_true, true_or, or_self, and_true, true_and, and_false, false_and, nj_eqf, nj_ltt, nj_ltf, nj_let, nj_lef, nj_cl, nt_lef, ng_ltt, ng_let, ng_gtf, ng_gef, a1, e_X11_refuseLower, x_ref1, x_ref2, x_ref3, x_ref4, x_ref5, x_ref6, x_ref7, e_X11_refuseLower]
    · skip
      have e2 : ∀ g, f_X12_noHanding x2 x3 g A = some (some (.int (tz_j 4294967295)), A) := fun g => nhA m.1.1 h8 ho
      rw [e_X12_handIn]
      rcases wv A x1 (tz_j 0) (tz_j 9999) with y1 | y1
      · simp (disch := omega) only [tz_lit, nj_m1, nj_m2, nj_m3, nj_m4, nj_m5, nj_m6, nj_m7, ↓reduceIte, tz_bI_some, tz_bV_some, tz_bL_some, cj10, cj01, cjm0, eq_self, not_true_eq_false, not_false_eq_true, or_false, false_or, or_true, true_or, or_self, and_true, true_and, and_false, false_and, nj_eqf, nj_ltt, nj_ltf, nj_let, nj_lef, nj_cl, nt_lef, ng_ltt, ng_let, ng_gtf, ng_gef, y1, e2, e_X12_no10, m_no1, m_no2, m_no3, m_no4, m_no5, m_no6, m_no7, e_X12_no10]
      · rcases wv A x4 (tz_j 1) (tz_j 99) with y2 | y2
        · simp (disch := omega) only [tz_lit, nj_m1, nj_m2, nj_m3, nj_m4, nj_m5, nj_m6, nj_m7, ↓reduceIte, tz_bI_some, tz_bV_some, tz_bL_some, cj10, cj01, cjm0, eq_self, not_true_eq_false, not_false_eq_true, or_false, false_or, or_true, true_or, or_self, and_true, true_and, and_false, false_and, nj_eqf, nj_ltt, nj_ltf, nj_let, nj_lef, nj_cl, nt_lef, ng_ltt, ng_let, ng_gtf, ng_gef, y1, y2, e2, e_X12_no10, m_no1, m_no2, m_no3, m_no4, m_no5, m_no6, m_no7, e_X12_no10]
        · rcases wv A x5 (tz_j 0) (tz_j 99) with y3 | y3
          · simp (disch := omega) only [tz_lit, nj_m1, nj_m2, nj_m3, nj_m4, nj_m5, nj_m6, nj_m7, ↓reduceIte, tz_bI_some, tz_bV_some, tz_bL_some, cj10, cj01, cjm0, eq_self, not_true_eq_false, not_false_eq_true, or_false, false_or, or_true, true_or, or_self, and_true, true_and, and_false, false_and, nj_eqf, nj_ltt, nj_ltf, nj_let, nj_lef, nj_cl, nt_lef, ng_ltt, ng_let, ng_gtf, ng_gef, y1, y2, y3, e2, e_X12_no10, m_no1, m_no2, m_no3, m_no4, m_no5, m_no6, m_no7, e_X12_no10]
          · simp (disch := omega) only [tz_lit, nj_m1, nj_m2, nj_m3, nj_m4, nj_m5, nj_m6, nj_m7, ↓reduceIte, tz_bI_some, tz_bV_some, tz_bL_some, cj10, cj01, cjm0, eq_self, not_true_eq_false, not_false_eq_true, or_false, false_or, or_true, true_or, or_self, and_true, true_and, and_false, false_and, nj_eqf, nj_ltt, nj_ltf, nj_let, nj_lef, nj_cl, nt_lef, ng_ltt, ng_let, ng_gtf, ng_gef, y1, y2, y3, e2, e_X12_no10, m_no1, m_no2, m_no3, m_no4, m_no5, m_no6, m_no7, e_X12_no10]
  · have wv := fun (A : tz_Mem) (x a b : Int32) => wi_v (x := x) (a := a) (b := b) A
    refine out_ref (v := tz_j 4294967290 - tz_j 10) 6 (by omega) c ww ?_ (fun A D m => ?_)
    · rw [e_X11_handIn]
      rcases nj_three x5 100 (by omega) with ⟨n, hn, rfl⟩ | h | h
      · have n1 : (tz_j n < tz_j 0) = False := nj_ltf (by omega) (by omega)
        have n2 : (tz_j n ≤ tz_j 99) = True := nj_let (by omega) (by omega)
        simp (disch := omega) only [tz_lit, nj_m1, nj_m2, nj_m3, nj_m4, nj_m5, nj_m6, nj_m7, ↓reduceIte, tz_bI_some, tz_bV_some, tz_bL_some, cj10, cj01, cjm0, eq_self, not_true_eq_false, not_false_eq_true, or_false, false_or, or_true, true_or, or_self, and_true, true_and, and_false, false_and, nj_eqf, nj_ltt, nj_ltf, nj_let, nj_lef, nj_cl, nt_lef, ng_ltt, ng_let, ng_gtf, ng_gef, a1, n1, n2, e_X11_refuseLower, x_ref1, x_ref2, x_ref3, x_ref4, x_ref5, x_ref6, x_ref7, e_X11_refuseLower]
      · simp (disch := omega) only [tz_lit, nj_m1, nj_m2, nj_m3, nj_m4, nj_m5, nj_m6, nj_m7, ↓reduceIte, tz_bI_some, tz_bV_some, tz_bL_some, cj10, cj01, cjm0, eq_self, not_true_eq_false, not_false_eq_true, or_false, false_or, or_true, true_or, or_self, and_true, true_and, and_false, false_and, nj_eqf, nj_ltt, nj_ltf, nj_let, nj_lef, nj_cl, nt_lef, ng_ltt, ng_let, ng_gtf, ng_gef, a1, ob_l h, e_X11_refuseLower, x_ref1, x_ref2, x_ref3, x_ref4, x_ref5, x_ref6, x_ref7, e_X11_refuseLower]
      · simp (disch := omega) only [tz_lit, nj_m1, nj_m2, nj_m3, nj_m4, nj_m5, nj_m6, nj_m7, ↓reduceIte, tz_bI_some, tz_bV_some, tz_bL_some, cj10, cj01, cjm0, eq_self, not_true_eq_false, not_false_eq_true, or_false, false_or, or_true, true_or, or_self, and_true, true_and, and_false, false_and, nj_eqf, nj_ltt, nj_ltf, nj_let, nj_lef, nj_cl, nt_lef, ng_ltt, ng_let, ng_gtf, ng_gef, a1, ob_h (show 100 < 2147483648 by omega) h, e_X11_refuseLower, x_ref1, x_ref2, x_ref3, x_ref4, x_ref5, x_ref6, x_ref7, e_X11_refuseLower]
    · skip
      have e2 := nhC m.1.1 h8 hf ht
      rw [e_X12_handIn]
      rcases ho with y | y | y
      · simp (disch := omega) only [tz_lit, nj_m1, nj_m2, nj_m3, nj_m4, nj_m5, nj_m6, nj_m7, ↓reduceIte, tz_bI_some, tz_bV_some, tz_bL_some, cj10, cj01, cjm0, eq_self, not_true_eq_false, not_false_eq_true, or_false, false_or, or_true, true_or, or_self, and_true, true_and, and_false, false_and, nj_eqf, nj_ltt, nj_ltf, nj_let, nj_lef, nj_cl, nt_lef, ng_ltt, ng_let, ng_gtf, ng_gef, y, e2, e_X12_no10, m_no1, m_no2, m_no3, m_no4, m_no5, m_no6, m_no7, e_X12_no10]
      · rcases wv A x1 (tz_j 0) (tz_j 9999) with y1 | y1
        · simp (disch := omega) only [tz_lit, nj_m1, nj_m2, nj_m3, nj_m4, nj_m5, nj_m6, nj_m7, ↓reduceIte, tz_bI_some, tz_bV_some, tz_bL_some, cj10, cj01, cjm0, eq_self, not_true_eq_false, not_false_eq_true, or_false, false_or, or_true, true_or, or_self, and_true, true_and, and_false, false_and, nj_eqf, nj_ltt, nj_ltf, nj_let, nj_lef, nj_cl, nt_lef, ng_ltt, ng_let, ng_gtf, ng_gef, y1, e2, e_X12_no10, m_no1, m_no2, m_no3, m_no4, m_no5, m_no6, m_no7, e_X12_no10]
        · simp (disch := omega) only [tz_lit, nj_m1, nj_m2, nj_m3, nj_m4, nj_m5, nj_m6, nj_m7, ↓reduceIte, tz_bI_some, tz_bV_some, tz_bL_some, cj10, cj01, cjm0, eq_self, not_true_eq_false, not_false_eq_true, or_false, false_or, or_true, true_or, or_self, and_true, true_and, and_false, false_and, nj_eqf, nj_ltt, nj_ltf, nj_let, nj_lef, nj_cl, nt_lef, ng_ltt, ng_let, ng_gtf, ng_gef, y1, y, e2, e_X12_no10, m_no1, m_no2, m_no3, m_no4, m_no5, m_no6, m_no7, e_X12_no10]
      · subst y
        have e3 : ∀ g, f_X12_noHanding (tz_j f) (tz_j f) g A = some (some (.int (tz_j 4294967290)), A) := fun g => nhB m.1.1 h8 hf
        rcases wv A x1 (tz_j 0) (tz_j 9999) with y1 | y1
        · simp (disch := omega) only [tz_lit, nj_m1, nj_m2, nj_m3, nj_m4, nj_m5, nj_m6, nj_m7, ↓reduceIte, tz_bI_some, tz_bV_some, tz_bL_some, cj10, cj01, cjm0, eq_self, not_true_eq_false, not_false_eq_true, or_false, false_or, or_true, true_or, or_self, and_true, true_and, and_false, false_and, nj_eqf, nj_ltt, nj_ltf, nj_let, nj_lef, nj_cl, nt_lef, ng_ltt, ng_let, ng_gtf, ng_gef, y1, e3, e_X12_no10, m_no1, m_no2, m_no3, m_no4, m_no5, m_no6, m_no7, e_X12_no10]
        · rcases wv A x4 (tz_j 1) (tz_j 99) with y2 | y2
          · simp (disch := omega) only [tz_lit, nj_m1, nj_m2, nj_m3, nj_m4, nj_m5, nj_m6, nj_m7, ↓reduceIte, tz_bI_some, tz_bV_some, tz_bL_some, cj10, cj01, cjm0, eq_self, not_true_eq_false, not_false_eq_true, or_false, false_or, or_true, true_or, or_self, and_true, true_and, and_false, false_and, nj_eqf, nj_ltt, nj_ltf, nj_let, nj_lef, nj_cl, nt_lef, ng_ltt, ng_let, ng_gtf, ng_gef, y1, y2, e3, e_X12_no10, m_no1, m_no2, m_no3, m_no4, m_no5, m_no6, m_no7, e_X12_no10]
          · rcases wv A x5 (tz_j 0) (tz_j 99) with y3 | y3
            · simp (disch := omega) only [tz_lit, nj_m1, nj_m2, nj_m3, nj_m4, nj_m5, nj_m6, nj_m7, ↓reduceIte, tz_bI_some, tz_bV_some, tz_bL_some, cj10, cj01, cjm0, eq_self, not_true_eq_false, not_false_eq_true, or_false, false_or, or_true, true_or, or_self, and_true, true_and, and_false, false_and, nj_eqf, nj_ltt, nj_ltf, nj_let, nj_lef, nj_cl, nt_lef, ng_ltt, ng_let, ng_gtf, ng_gef, y1, y2, y3, e3, e_X12_no10, m_no1, m_no2, m_no3, m_no4, m_no5, m_no6, m_no7, e_X12_no10]
            · simp (disch := omega) only [tz_lit, nj_m1, nj_m2, nj_m3, nj_m4, nj_m5, nj_m6, nj_m7, ↓reduceIte, tz_bI_some, tz_bV_some, tz_bL_some, cj10, cj01, cjm0, eq_self, not_true_eq_false, not_false_eq_true, or_false, false_or, or_true, true_or, or_self, and_true, true_and, and_false, false_and, nj_eqf, nj_ltt, nj_ltf, nj_let, nj_lef, nj_cl, nt_lef, ng_ltt, ng_let, ng_gtf, ng_gef, y1, y2, y3, e3, e_X12_no10, m_no1, m_no2, m_no3, m_no4, m_no5, m_no6, m_no7, e_X12_no10]
  · have b1 : ∀ A, f_X12_within (tz_j a) (tz_j 0) (tz_j 9999) A = some (some (.int (tz_j 1)), A) := fun A => by
      rw [m_within (by omega) (by omega) (by omega), if_pos ⟨(by omega), (by omega)⟩]
    have b4 : ∀ A, f_X12_within (tz_j v) (tz_j 1) (tz_j 99) A = some (some (.int (tz_j 1)), A) := fun A => by
      rw [m_within (by omega) (by omega) (by omega), if_pos ⟨(by omega), (by omega)⟩]
    rcases nj_three x5 100 (by omega) with ⟨n, hn, rfl⟩ | h
    · have b5 : ∀ A, f_X12_within (tz_j n) (tz_j 0) (tz_j 99) A = some (some (.int (tz_j 1)), A) := fun A => by
        rw [m_within (by omega) (by omega) (by omega), if_pos ⟨(by omega), (by omega)⟩]
      have n1 : (tz_j n < tz_j 0) = False := nj_ltf (by omega) (by omega)
      have n2 : (tz_j n ≤ tz_j 99) = True := nj_let (by omega) (by omega)
      refine out_ref (v := tz_j 4294967289 - tz_j 10) 7 (by omega) c ww ?_ (fun A D m => ?_)
      · rw [e_X11_handIn]
        simp (disch := omega) only [tz_lit, nj_m1, nj_m2, nj_m3, nj_m4, nj_m5, nj_m6, nj_m7, ↓reduceIte, tz_bI_some, tz_bV_some, tz_bL_some, cj10, cj01, cjm0, eq_self, not_true_eq_false, not_false_eq_true, or_false, false_or, or_true, true_or, or_self, and_true, true_and, and_false, false_and, nj_eqf, nj_ltt, nj_ltf, nj_let, nj_lef, nj_cl, nt_lef, ng_ltt, ng_let, ng_gtf, ng_gef, a1, n1, n2, e_X11_refuseLower, x_ref1, x_ref2, x_ref3, x_ref4, x_ref5, x_ref6, x_ref7, e_X11_refuseLower]
      · skip
        have e2 := nhE m.1.1 h8 hf ht hne h15
        rw [e_X12_handIn]
        simp (disch := omega) only [tz_lit, nj_m1, nj_m2, nj_m3, nj_m4, nj_m5, nj_m6, nj_m7, ↓reduceIte, tz_bI_some, tz_bV_some, tz_bL_some, cj10, cj01, cjm0, eq_self, not_true_eq_false, not_false_eq_true, or_false, false_or, or_true, true_or, or_self, and_true, true_and, and_false, false_and, nj_eqf, nj_ltt, nj_ltf, nj_let, nj_lef, nj_cl, nt_lef, ng_ltt, ng_let, ng_gtf, ng_gef, b1, b4, b5, e2, e_X12_no10, m_no1, m_no2, m_no3, m_no4, m_no5, m_no6, m_no7, e_X12_no10]
    · have b5 := fun A => wi_ob (A := A) (a := 0) (n := 99) (by omega) (by omega) h
      refine out_ref (v := tz_j 4294967290 - tz_j 10) 6 (by omega) c ww ?_ (fun A D m => ?_)
      · rw [e_X11_handIn]
        rcases h with h | h
        · simp (disch := omega) only [tz_lit, nj_m1, nj_m2, nj_m3, nj_m4, nj_m5, nj_m6, nj_m7, ↓reduceIte, tz_bI_some, tz_bV_some, tz_bL_some, cj10, cj01, cjm0, eq_self, not_true_eq_false, not_false_eq_true, or_false, false_or, or_true, true_or, or_self, and_true, true_and, and_false, false_and, nj_eqf, nj_ltt, nj_ltf, nj_let, nj_lef, nj_cl, nt_lef, ng_ltt, ng_let, ng_gtf, ng_gef, a1, ob_l h, e_X11_refuseLower, x_ref1, x_ref2, x_ref3, x_ref4, x_ref5, x_ref6, x_ref7, e_X11_refuseLower]
        · simp (disch := omega) only [tz_lit, nj_m1, nj_m2, nj_m3, nj_m4, nj_m5, nj_m6, nj_m7, ↓reduceIte, tz_bI_some, tz_bV_some, tz_bL_some, cj10, cj01, cjm0, eq_self, not_true_eq_false, not_false_eq_true, or_false, false_or, or_true, true_or, or_self, and_true, true_and, and_false, false_and, nj_eqf, nj_ltt, nj_ltf, nj_let, nj_lef, nj_cl, nt_lef, ng_ltt, ng_let, ng_gtf, ng_gef, a1, ob_h (show 100 < 2147483648 by omega) h, e_X11_refuseLower, x_ref1, x_ref2, x_ref3, x_ref4, x_ref5, x_ref6, x_ref7, e_X11_refuseLower]
      · skip
        have e2 := nhC m.1.1 h8 hf ht
        rw [e_X12_handIn]
        simp (disch := omega) only [tz_lit, nj_m1, nj_m2, nj_m3, nj_m4, nj_m5, nj_m6, nj_m7, ↓reduceIte, tz_bI_some, tz_bV_some, tz_bL_some, cj10, cj01, cjm0, eq_self, not_true_eq_false, not_false_eq_true, or_false, false_or, or_true, true_or, or_self, and_true, true_and, and_false, false_and, nj_eqf, nj_ltt, nj_ltf, nj_let, nj_lef, nj_cl, nt_lef, ng_ltt, ng_let, ng_gtf, ng_gef, b1, b4, b5, e2, e_X12_no10, m_no1, m_no2, m_no3, m_no4, m_no5, m_no6, m_no7, e_X12_no10]
