/-! the model: the heaviest; a storm goes on; an hour -/
theorem rel_L {S : tz_S} {k l : Nat} (hl : l < S 15 0) (h1 : 16 ≤ k) (h2 : k ≤ 21) : rm_rel S (k + 155) l k l := Or.inr (Or.inr (Or.inr (Or.inr (Or.inr ⟨rfl, hl, rfl, h1, h2⟩))))
theorem lt_as {S : tz_S} {l m : Nat} (h1 : sp_lt S l m) (h2 : sp_lt S m l) : False := by
  unfold sp_lt at h1 h2
  omega
theorem m_hvL {S : tz_S} {A : tz_Mem} {p g : Nat} (c : rm_c S A) (W : sp_W1 S) (hp : p < 1000) (hg : g ≤ 99) (W2 : sp_W2 S) : ∀ k l found, l + k = S 15 0 → (found = 4294967295 ∧ (∀ m, m < l → ¬ (S 20 m = p ∧ S 19 m ≤ g))) ∨ (found < l ∧ (S 20 found = p ∧ S 19 found ≤ g) ∧ ∀ m, m < l → (S 20 m = p ∧ S 19 m ≤ g) → m = found ∨ sp_lt S found m) → ∃ r, q_X12_heaviest_5 (tz_j p) (tz_j g) (tz_j found) (tz_j l) A = some (some (.int (tz_j r)), A) ∧ ((r = 4294967295 ∧ (∀ m, m < S 15 0 → ¬ (S 20 m = p ∧ S 19 m ≤ g))) ∨ (r < S 15 0 ∧ (S 20 r = p ∧ S 19 r ≤ g) ∧ ∀ m, m < S 15 0 → (S 20 m = p ∧ S 19 m ≤ g) → m = r ∨ sp_lt S r m)) := by
  have h12 := W.2.2.1
  have h4 := W.2.1
  have h8 := W.1
  intro k
  induction k with
  | zero =>
    intro l found hl hI
    rw [Nat.add_zero] at hl
    subst hl
    refine ⟨found, ?_, hI⟩
    rw [e_X12_heaviest_5]
    simp (disch := omega) only [tz_lit, nj_m1, ↓reduceIte, nj_cl, nj_ltt, nj_ltf, nj_let, nj_lef, nj_eqf, nj_lt, nj_le, nj_eq, nj_add, nj_mul, nj_mod, nj_and7, nj_div, tz_bI_some, tz_bV_some, or_false, false_or, or_self, and_false, false_and, and_true, true_and, not_true_eq_false, not_false_eq_true, nt_lef, nt_let, nt_ltf, nt_ltt, nt_eqf, cm_15 c]
  | succ k ih =>
    intro l found hl hI
    have hwl := (W2.2.1 l (by omega)).2.1
    have h19 := (W.2.2.2.2.2.1 l (by omega)).2.2
    unfold sp_wh at hwl
    rw [e_X12_heaviest_5]
    by_cases c1 : S 20 l = p
    · by_cases c2 : S 19 l ≤ g
      · rcases hI with ⟨hf, hI⟩ | ⟨hf, hI1, hI2⟩
        · obtain ⟨r, e, hr⟩ := ih (l + 1) l (by omega) (Or.inr ⟨by omega, ⟨c1, c2⟩, fun m hm hP => by
            by_cases z : m = l
            · exact Or.inl z
            · exact absurd hP (hI m (by omega))⟩)
          refine ⟨r, ?_, hr⟩
          simp (disch := omega) only [tz_lit, nj_m1, ↓reduceIte, nj_cl, nj_ltt, nj_ltf, nj_let, nj_lef, nj_eqf, nj_lt, nj_le, nj_eq, nj_add, nj_mul, nj_mod, nj_and7, nj_div, tz_bI_some, tz_bV_some, or_false, false_or, or_self, and_false, false_and, and_true, true_and, not_true_eq_false, not_false_eq_true, nt_lef, nt_let, nt_ltf, nt_ltt, nt_eqf, cm_15 c, cm_175 c, cm_174 c, c1, hf]
          exact e
        · have h19f := (W.2.2.2.2.2.1 found (by omega)).2.2
          by_cases c3 : S 19 l ≤ S 19 found
          · obtain ⟨r, e, hr⟩ := ih (l + 1) found (by omega) (Or.inr ⟨by omega, hI1, fun m hm hP => by
              by_cases z : m = l
              · right
                unfold sp_lt
                rw [z]
                omega
              · exact hI2 m (by omega) hP⟩)
            refine ⟨r, ?_, hr⟩
            simp (disch := omega) only [tz_lit, nj_m1, ↓reduceIte, nj_cl, nj_ltt, nj_ltf, nj_let, nj_lef, nj_eqf, nj_lt, nj_le, nj_eq, nj_add, nj_mul, nj_mod, nj_and7, nj_div, tz_bI_some, tz_bV_some, or_false, false_or, or_self, and_false, false_and, and_true, true_and, not_true_eq_false, not_false_eq_true, nt_lef, nt_let, nt_ltf, nt_ltt, nt_eqf, cm_15 c, cm_175 c, cm_174 c, c1]
            exact e
          · obtain ⟨r, e, hr⟩ := ih (l + 1) l (by omega) (Or.inr ⟨by omega, ⟨c1, c2⟩, fun m hm hP => by
              by_cases z : m = l
              · exact Or.inl z
              · right
                have := hI2 m (by omega) hP
                unfold sp_lt at this ⊢
                rcases this with this | this
                · rw [this]
                  omega
                · omega⟩)
            refine ⟨r, ?_, hr⟩
            simp (disch := omega) only [tz_lit, nj_m1, ↓reduceIte, nj_cl, nj_ltt, nj_ltf, nj_let, nj_lef, nj_eqf, nj_lt, nj_le, nj_eq, nj_add, nj_mul, nj_mod, nj_and7, nj_div, tz_bI_some, tz_bV_some, or_false, false_or, or_self, and_false, false_and, and_true, true_and, not_true_eq_false, not_false_eq_true, nt_lef, nt_let, nt_ltf, nt_ltt, nt_eqf, cm_15 c, cm_175 c, cm_174 c, c1]
            exact e
      · obtain ⟨r, e, hr⟩ := ih (l + 1) found (by omega) (by
          rcases hI with ⟨hf, hI⟩ | ⟨hf, hI1, hI2⟩
          · exact Or.inl ⟨hf, fun m hm hP => by
              by_cases z : m = l
              · rw [z] at hP
                exact c2 hP.2
              · exact hI m (by omega) hP⟩
          · exact Or.inr ⟨by omega, hI1, fun m hm hP => by
              by_cases z : m = l
              · rw [z] at hP
                exact absurd hP.2 c2
              · exact hI2 m (by omega) hP⟩)
        refine ⟨r, ?_, hr⟩
        simp (disch := omega) only [tz_lit, nj_m1, ↓reduceIte, nj_cl, nj_ltt, nj_ltf, nj_let, nj_lef, nj_eqf, nj_lt, nj_le, nj_eq, nj_add, nj_mul, nj_mod, nj_and7, nj_div, tz_bI_some, tz_bV_some, or_false, false_or, or_self, and_false, false_and, and_true, true_and, not_true_eq_false, not_false_eq_true, nt_lef, nt_let, nt_ltf, nt_ltt, nt_eqf, cm_15 c, cm_175 c, cm_174 c, c1]
        exact e
    · obtain ⟨r, e, hr⟩ := ih (l + 1) found (by omega) (by
        rcases hI with ⟨hf, hI⟩ | ⟨hf, hI1, hI2⟩
        · exact Or.inl ⟨hf, fun m hm hP => by
            by_cases z : m = l
            · rw [z] at hP
              exact c1 hP.1
            · exact hI m (by omega) hP⟩
        · exact Or.inr ⟨by omega, hI1, fun m hm hP => by
            by_cases z : m = l
            · rw [z] at hP
              exact absurd hP.1 c1
            · exact hI2 m (by omega) hP⟩)
      refine ⟨r, ?_, hr⟩
      simp (disch := omega) only [tz_lit, nj_m1, ↓reduceIte, nj_cl, nj_ltt, nj_ltf, nj_let, nj_lef, nj_eqf, nj_lt, nj_le, nj_eq, nj_add, nj_mul, nj_mod, nj_and7, nj_div, tz_bI_some, tz_bV_some, or_false, false_or, or_self, and_false, false_and, and_true, true_and, not_true_eq_false, not_false_eq_true, nt_lef, nt_let, nt_ltf, nt_ltt, nt_eqf, cm_15 c, cm_175 c, cm_174 c]
      exact e
theorem m_hv0 {S : tz_S} {A : tz_Mem} {p g : Nat} (c : rm_c S A) (W : sp_W1 S) (hp : p < 1000) (hg : g ≤ 99) (W2 : sp_W2 S) (hn : ∀ j, j < S 15 0 → ¬ (S 20 (S 22 j) = p ∧ S 19 (S 22 j) ≤ g)) : f_X12_heaviest (tz_j p) (tz_j g) A = some (some (.int (tz_j 4294967295)), A) := by
  obtain ⟨r, e, hr⟩ := m_hvL c W hp hg W2 (S 15 0) 0 4294967295 (Nat.zero_add _) (Or.inl ⟨rfl, fun m hm => absurd hm (Nat.not_lt_zero m)⟩)
  have e2 : f_X12_heaviest (tz_j p) (tz_j g) A = q_X12_heaviest_5 (tz_j p) (tz_j g) (tz_j 4294967295) (tz_j 0) A := by
    rw [e_X12_heaviest, ← nj_m1]
    rfl
  rw [e2, e]
  rcases hr with ⟨hr, _⟩ | ⟨hr, hP, _⟩
  · rw [hr]
  · obtain ⟨j, hj, ej⟩ := W.2.2.2.2.2.2.2.2 r hr
    exact absurd (by rw [ej]; exact hP) (hn j hj)
theorem m_hv1 {S : tz_S} {A : tz_Mem} {p g i : Nat} (c : rm_c S A) (W : sp_W1 S) (hp : p < 1000) (hg : g ≤ 99) (W2 : sp_W2 S) (hi : i < S 15 0) (hP : S 20 (S 22 i) = p ∧ S 19 (S 22 i) ≤ g) (hn : ∀ j, j < i → ¬ (S 20 (S 22 j) = p ∧ S 19 (S 22 j) ≤ g)) : f_X12_heaviest (tz_j p) (tz_j g) A = some (some (.int (tz_j (S 22 i))), A) := by
  obtain ⟨r, e, hr⟩ := m_hvL c W hp hg W2 (S 15 0) 0 4294967295 (Nat.zero_add _) (Or.inl ⟨rfl, fun m hm => absurd hm (Nat.not_lt_zero m)⟩)
  have e2 : f_X12_heaviest (tz_j p) (tz_j g) A = q_X12_heaviest_5 (tz_j p) (tz_j g) (tz_j 4294967295) (tz_j 0) A := by
    rw [e_X12_heaviest, ← nj_m1]
    rfl
  have ho := W.2.2.2.2.2.2.1 i hi
  rw [e2, e]
  rcases hr with ⟨_, hr⟩ | ⟨hr, hQ, hmin⟩
  · exact absurd hP (hr _ ho)
  · rcases hmin _ ho hP with z | z
    · rw [z]
    · obtain ⟨j, hj, ej⟩ := W.2.2.2.2.2.2.2.2 r hr
      rw [← ej] at hQ z
      by_cases y : j < i
      · exact absurd hQ (hn j y)
      · by_cases x : i = j
        · rw [← ej, x]
        · exact (lt_as z (W.2.2.2.2.2.2.2.1 i j (by omega) hj)).elim
theorem m_at {t : Nat} {S : tz_S} {A : tz_Mem} (c : rm_c S A) (W : sp_W1 S) (W2 : sp_W2 S) (ht : t < S 7 0) : f_X12_storedAt (tz_j t) A = some (some (.int (tz_j (sp_at S t))), A) := by
  have h4 := W.2.1
  have ht2 := W.2.2.2.2.1 t ht
  have hp := W2.1 t ht
  rw [e_X12_storedAt]
  simp (disch := omega) only [tz_lit, nj_m1, ↓reduceIte, nj_cl, nj_ltt, nj_ltf, nj_let, nj_lef, nj_eqf, nj_lt, nj_le, nj_eq, nj_add, nj_mul, nj_mod, nj_and7, nj_div, tz_bI_some, tz_bV_some, or_false, false_or, or_self, and_false, false_and, and_true, true_and, not_true_eq_false, not_false_eq_true, nt_lef, nt_let, nt_ltf, nt_ltt, nt_eqf, cm_167 c, cm_166 c ht hp]
  rfl
theorem m_hears {D : Nat → Int32} {h v m l : Nat} {S : tz_S} {A : tz_Mem} (hm : m ≤ 11) (hv : v ≤ 9999) (r : rm D S A) (WE : sp_WE S) (h2 : S 200 0 ≠ 2) (h8 : S 1 0 ≤ 8) (hh : h < S 1 0) (hT : S 0 0 + m < 2147483648) : ∃ A', f_X12_hears (tz_j h) (tz_j v) (tz_j m) A = some (none, A') ∧ rm D (sp_lis l h v m (sp_hr h v m S)) A' ∧ tz_fr mo_p A A' := by
  rw [e_X12_hears]
  exact m_hears_3 hm hv m 0 S A (Nat.zero_add _) r WE h2 h8 hh hT
theorem m_say {D : Nat → Int32} {t l h : Nat} {S : tz_S} {A : tz_Mem} (r : rm D S A) (W : sp_W1 S) (W2 : sp_W2 S) (WE : sp_WE S) (h2 : S 200 0 ≠ 2) (hl : l < S 15 0) (hh : h < S 1 0) (ht : t < 4) (hT : S 0 0 + 11 < 2147483648) : ∃ A', q_X12_comes_38 (tz_j t) (tz_j h) (tz_j l) A = tz_bI (f_X12_heaviest (tz_j (100 + t)) (tz_j 99) A') (fun y4 A4 => q_X12_comes_38 (tz_j t) (tz_j h) y4 A4) ∧ rm D (sp_say l h S) A' ∧ tz_fr mo_p A A' := by
  have h8 := W.1
  have h4 := W.2.1
  have h12 := W.2.2.1
  have h99 := W.2.2.2.2.2.1 l hl
  have hwd := (W2.2.1 l hl).1
  have c := r.1
  have e1 := m_bec c W hh hwd
  have htm := tim_le (g := S 19 l) W hh
  have hbc := bec_le (S := S) (h := h) hwd
  have r1 : rm D (tz_t S 16 l (sp_bec S h (S 16 l))) (tz_s A 171 l (tz_j (sp_bec S h (S 16 l)))) := rm_st r (by unfold rm_rel; omega) (by omega) (by omega)
  have f1 : tz_fr mo_p A (tz_s A 171 l (tz_j (sp_bec S h (S 16 l)))) := fr_s fr_rfl (by unfold mo_p; omega)
  have W1 : sp_W1 (tz_t S 16 l (sp_bec S h (S 16 l))) := sf_W1 (sf_t (by unfold sp_kp; omega)) W
  have e2 := m_tim (g := S 19 l) r1.1 W1 hh h99.2.2.2
  have et : sp_tim (tz_t S 16 l (sp_bec S h (S 16 l))) h (S 19 l) = sp_tim S h (S 19 l) := rfl
  rw [et] at e2
  unfold sp_say
  generalize hSS : tz_t S 16 l (sp_bec S h (S 16 l)) = S1 at r1 e2 ⊢
  generalize hbcg : sp_bec S h (S 16 l) = v at *
  generalize htmg : sp_tim S h (S 19 l) = m at *
  have s1 : ∀ k i, k ≠ 16 → S1 k i = S k i := fun k i hk => by rw [← hSS]; exact tz_tk hk
  obtain ⟨A2, e3, r3, f3⟩ := m_hears (h := h) (v := v) (m := m) (l := l) htm (by omega) r1 (we_mv WE (fun k i a b => s1 k i (by omega))) (by rw [s1 200 0 (by omega)]; exact h2) (by rw [s1 1 0 (by omega)]; exact h8) (by rw [s1 1 0 (by omega)]; exact hh) (by rw [s1 0 0 (by omega)]; omega)
  have hg := (hr_get (h := h) (w := v) m S1).1
  generalize hS2 : sp_hr h v m S1 = S2 at *
  have s3 : ∀ k i, k = 1 ∨ k = 7 ∨ k = 15 ∨ k = 18 ∨ k = 20 ∨ (k = 0 ∧ i = 3) → sp_lis l h v m S2 k i = S k i := fun k i hk => by rw [lis_get (by omega), hg k i (by omega) (by omega) (by omega), s1 k i (by omega)]
  have c4 := r3.1
  rw [e_X12_comes_38]
  by_cases q : S 18 l = h
  · refine ⟨tz_s (tz_s (tz_s A2 175 l (tz_j h)) 175 l (tz_j 200)) 176 l (tz_j (S 0 3)), ?_, ?_, fr_s (fr_s (fr_s (fr_tr f1 f3) (by unfold mo_p; omega)) (by unfold mo_p; omega)) (by unfold mo_p; omega)⟩
    · have k18 : tz_g A2 173 l = tz_j h := by rw [cm_173 c4 (by rw [s3 15 0 (by omega)]; exact hl), s3 18 l (by omega), q]
      have k03 : tz_g A2 157 22 = tz_j (S 0 3) := by rw [cm_22 c4, s3 0 3 (by omega)]
      simp (disch := omega) only [tz_lit, nj_m1, ↓reduceIte, nj_cl, nj_ltt, nj_ltf, nj_let, nj_lef, nj_eqf, nj_lt, nj_le, nj_eq, nj_add, nj_mul, nj_mod, nj_and7, nj_div, tz_bI_some, tz_bV_some, or_false, false_or, or_self, and_false, false_and, and_true, true_and, not_true_eq_false, not_false_eq_true, nt_lef, nt_let, nt_ltf, nt_ltt, nt_eqf, cm_171 c, e1, tz_gs1, tz_gsk, cm_174 c, e2, e3, k18, k03]
    · unfold sp_fin
      rw [if_pos (by rw [s3 18 l (by omega)]; exact q)]
      have ra := rm_st (v := h) r3 (p := 175) (q := l) (k := 20) (i := l) (rel_L (k := 20) (by rw [s3 15 0 (by omega)]; exact hl) (by omega) (by omega)) (by omega) (by omega)
      have rb := rm_st (v := 200) ra (p := 175) (q := l) (k := 20) (i := l) (rel_L (k := 20) (by rw [tz_tk (by omega), s3 15 0 (by omega)]; exact hl) (by omega) (by omega)) (by omega) (by omega)
      rw [tz_tt] at rb
      have rc := rm_st (v := S 0 3) rb (p := 176) (q := l) (k := 21) (i := l) (rel_L (k := 21) (by rw [tz_tk (by omega), s3 15 0 (by omega)]; exact hl) (by omega) (by omega)) (by omega) (by omega)
      rw [s3 0 3 (by omega)]
      exact rc
  · refine ⟨tz_s A2 175 l (tz_j h), ?_, ?_, fr_s (fr_tr f1 f3) (by unfold mo_p; omega)⟩
    · have k18 : (tz_g A2 173 l = tz_j h) = False := by
        rw [cm_173 c4 (by rw [s3 15 0 (by omega)]; exact hl), s3 18 l (by omega), nj_eq (by omega) (by omega)]
        exact eq_false q
      simp (disch := omega) only [tz_lit, nj_m1, ↓reduceIte, nj_cl, nj_ltt, nj_ltf, nj_let, nj_lef, nj_eqf, nj_lt, nj_le, nj_eq, nj_add, nj_mul, nj_mod, nj_and7, nj_div, tz_bI_some, tz_bV_some, or_false, false_or, or_self, and_false, false_and, and_true, true_and, not_true_eq_false, not_false_eq_true, nt_lef, nt_let, nt_ltf, nt_ltt, nt_eqf, cm_171 c, e1, tz_gs1, tz_gsk, cm_174 c, e2, e3, k18]
    · unfold sp_fin
      rw [if_neg (by rw [s3 18 l (by omega)]; exact q)]
      exact rm_st (v := h) r3 (p := 175) (q := l) (k := 20) (i := l) (rel_L (k := 20) (by rw [s3 15 0 (by omega)]; exact hl) (by omega) (by omega)) (by omega) (by omega)
theorem m_takeL {D : Nat → Int32} {t h : Nat} : ∀ k i left S A, i + k = S 15 0 → left ≤ 9 → rm D S A → sp_W1 S → sp_W2 S → sp_WE S → t < S 7 0 → h < S 1 0 → (∀ j, j < i → ¬ (S 20 (S 22 j) = h ∧ S 19 (S 22 j) ≤ S 9 t)) → ∃ A', tz_bI (f_X12_heaviest (tz_j h) (tz_j (S 9 t)) A) (fun y1 A1 => q_X12_comes_152 (tz_j t) (tz_j h) y1 (tz_j left) A1) = some (none, A') ∧ rm D (sp_take t h k i left S) A' ∧ tz_fr mo_p A A' := by
  intro k
  induction k with
  | zero =>
    intro i left S A hi hle r W W2 WE ht hh hn
    have h8 := W.1
    have h4 := W.2.1
    have ht2 := W.2.2.2.2.1 t ht
    have e := m_hv0 r.1 W (show h < 1000 by omega) (show S 9 t ≤ 99 by omega) W2 (fun j hj => hn j (by omega))
    refine ⟨A, ?_, r, fr_rfl⟩
    rw [e, tz_bI_some, e_X12_comes_152]
    simp (disch := omega) only [tz_lit, nj_m1, ↓reduceIte, nj_cl, nj_ltt, nj_ltf, nj_let, nj_lef, nj_eqf, nj_lt, nj_le, nj_eq, nj_add, nj_mul, nj_mod, nj_and7, nj_div, tz_bI_some, tz_bV_some, or_false, false_or, or_self, and_false, false_and, and_true, true_and, not_true_eq_false, not_false_eq_true, nt_lef, nt_let, nt_ltf, nt_ltt, nt_eqf]
  | succ k ih =>
    intro i left S A hi hle r W W2 WE ht hh hn
    have c := r.1
    have h8 := W.1
    have h4 := W.2.1
    have h12 := W.2.2.1
    have ht2 := W.2.2.2.2.1 t ht
    have ho := W.2.2.2.2.2.2.1 i (by omega)
    show ∃ A', _ = some (none, A') ∧ rm D (if left = 0 then S else if S 20 (S 22 i) = h ∧ S 19 (S 22 i) ≤ S 9 t then sp_take t h k (i + 1) (left - 1) (tz_t S 20 (S 22 i) (100 + t)) else sp_take t h k (i + 1) left S) A' ∧ _
    by_cases c0 : left = 0
    · rw [if_pos c0]
      obtain ⟨y, e, _⟩ := m_hvL c W (show h < 1000 by omega) (show S 9 t ≤ 99 by omega) W2 (S 15 0) 0 4294967295 (Nat.zero_add _) (Or.inl ⟨rfl, fun m hm => absurd hm (Nat.not_lt_zero m)⟩)
      have e2 : f_X12_heaviest (tz_j h) (tz_j (S 9 t)) A = q_X12_heaviest_5 (tz_j h) (tz_j (S 9 t)) (tz_j 4294967295) (tz_j 0) A := by
        rw [e_X12_heaviest, ← nj_m1]
        rfl
      refine ⟨A, ?_, r, fr_rfl⟩
      rw [e2, e, tz_bI_some, e_X12_comes_152, c0]
      split
      · rfl
      · simp (disch := omega) only [tz_lit, nj_m1, ↓reduceIte, nj_cl, nj_ltt, nj_ltf, nj_let, nj_lef, nj_eqf, nj_lt, nj_le, nj_eq, nj_add, nj_mul, nj_mod, nj_and7, nj_div, tz_bI_some, tz_bV_some, or_false, false_or, or_self, and_false, false_and, and_true, true_and, not_true_eq_false, not_false_eq_true, nt_lef, nt_let, nt_ltf, nt_ltt, nt_eqf]
    rw [if_neg c0]
    by_cases c1 : S 20 (S 22 i) = h ∧ S 19 (S 22 i) ≤ S 9 t
    · rw [if_pos c1, m_hv1 c W (show h < 1000 by omega) (show S 9 t ≤ 99 by omega) W2 (by omega) c1 hn, tz_bI_some, e_X12_comes_152]
      have f : sp_f S (tz_t S 20 (S 22 i) (100 + t)) := sf_t (by unfold sp_kp; omega)
      have ra := rm_st (v := 100 + t) r (p := 175) (q := S 22 i) (k := 20) (i := S 22 i) (by unfold rm_rel; omega) (by omega) (by omega)
      have k9 : tz_g (tz_s A 175 (S 22 i) (tz_j (100 + t))) 169 t = tz_j (S 9 t) := by rw [tz_gsk (by omega), cm_169 c ht]
      obtain ⟨A', e, r', f'⟩ := ih (i + 1) (left - 1) _ _ (by rw [f 15 0 (by unfold sp_kp; omega)]; omega) (by omega) ra (sf_W1 f W) (W2_20 W2 (by unfold sp_wh; omega) (by omega) (by omega)) (we_mv WE (fun k i _ _ => tz_tk (by omega))) (by rw [f 7 0 (by unfold sp_kp; omega)]; exact ht) (by rw [f 1 0 (by unfold sp_kp; omega)]; exact hh) (fun j hj => by
        have k22 : tz_t S 20 (S 22 i) (100 + t) 22 j = S 22 j := tz_tk (by omega)
        rw [k22, tz_tk (show (19 : Nat) ≠ 20 by omega), tz_tk (show (9 : Nat) ≠ 20 by omega), tz_ta]
        by_cases z : S 22 j = S 22 i
        · rw [if_pos ⟨rfl, z⟩]
          omega
        · rw [if_neg (fun y => z y.2)]
          by_cases y : j < i
          · exact hn j y
          · exact absurd (by rw [show j = i from by omega]) z)
      rw [f 9 t (by unfold sp_kp; omega)] at e
      refine ⟨A', ?_, r', fr_tr (fr_s fr_rfl (by unfold mo_p; omega)) f'⟩
      simp only [tz_lit, nj_m1, nj_dec (show 1 ≤ left by omega)]
      simp (disch := omega) only [tz_lit, nj_m1, ↓reduceIte, nj_cl, nj_ltt, nj_ltf, nj_let, nj_lef, nj_eqf, nj_lt, nj_le, nj_eq, nj_add, nj_mul, nj_mod, nj_and7, nj_div, tz_bI_some, tz_bV_some, or_false, false_or, or_self, and_false, false_and, and_true, true_and, not_true_eq_false, not_false_eq_true, nt_lef, nt_let, nt_ltf, nt_ltt, nt_eqf, k9, nj_dec]
      exact e
    · rw [if_neg c1]
      exact ih (i + 1) left S A (by omega) hle r W W2 WE ht hh (fun j hj => by
        by_cases y : j < i
        · exact hn j y
        · rw [show j = i from by omega]
          exact c1)
theorem m_sayL {D : Nat → Int32} {t h : Nat} : ∀ k i S A, i + k = S 15 0 → rm D S A → sp_W1 S → sp_W2 S → sp_WE S → S 200 0 ≠ 2 → t < S 7 0 → h < S 1 0 → (∀ j, j < i → S 20 (S 22 j) ≠ 100 + t) → S 0 0 + 11 * k < 2147483648 → ∃ A', tz_bI (f_X12_heaviest (tz_j (100 + t)) (tz_j 99) A) (fun y2 A2 => q_X12_comes_38 (tz_j t) (tz_j h) y2 A2) = some (none, A') ∧ rm D (sp_take t h (S 15 0) 0 (S 10 t) (sp_sayL t h k i S)) A' ∧ tz_fr mo_p A A' := by
  intro k
  induction k with
  | zero =>
    intro i S A hi r W W2 WE h2 ht hh hn hT
    have c := r.1
    have h4 := W.2.1
    have ht2 := W.2.2.2.2.1 t ht
    have e := m_hv0 c W (show 100 + t < 1000 by omega) (Nat.le_refl 99) W2 (fun j hj z => hn j (by omega) z.1)
    obtain ⟨A', e1, r', f'⟩ := m_takeL (h := h) (S 15 0) 0 (S 10 t) S A (Nat.zero_add _) (by omega) r W W2 WE ht hh (fun j hj => absurd hj (Nat.not_lt_zero j))
    refine ⟨A', ?_, r', f'⟩
    rw [e, tz_bI_some, e_X12_comes_38]
    simp (disch := omega) only [tz_lit, nj_m1, ↓reduceIte, nj_cl, nj_ltt, nj_ltf, nj_let, nj_lef, nj_eqf, nj_lt, nj_le, nj_eq, nj_add, nj_mul, nj_mod, nj_and7, nj_div, tz_bI_some, tz_bV_some, or_false, false_or, or_self, and_false, false_and, and_true, true_and, not_true_eq_false, not_false_eq_true, nt_lef, nt_let, nt_ltf, nt_ltt, nt_eqf, cm_169 c, cm_170 c]
    exact e1
  | succ k ih =>
    intro i S A hi r W W2 WE h2 ht hh hn hT
    have c := r.1
    have h8 := W.1
    have h4 := W.2.1
    have h12 := W.2.2.1
    have ho := W.2.2.2.2.2.2.1 i (by omega)
    have hw := (W.2.2.2.2.2.1 (S 22 i) ho).2.2.2
    show ∃ A', _ = some (none, A') ∧ rm D (sp_take t h (S 15 0) 0 (S 10 t) (sp_sayL t h k (i + 1) (if S 20 (S 22 i) = 100 + t then sp_say (S 22 i) h S else S))) A' ∧ _
    by_cases c1 : S 20 (S 22 i) = 100 + t
    · rw [if_pos c1, m_hv1 c W (show 100 + t < 1000 by omega) (Nat.le_refl 99) W2 (by omega) ⟨c1, hw⟩ (fun j hj z => hn j hj z.1), tz_bI_some]
      obtain ⟨A1, e1, r1, f1⟩ := m_say (t := t) r W W2 WE h2 ho hh (by omega) (by omega)
      have g := say_G W W2 WE ho hh (by omega)
      have sg := (say_get (l := S 22 i) (h := h) (S := S) (by omega))
      have k15 := g.1 15 0 (by unfold sp_kp; omega)
      obtain ⟨A', e, r', f'⟩ := ih (i + 1) _ A1 (by rw [k15]; omega) r1 g.2.1 g.2.2.1 g.2.2.2.1 (by rw [g.1 200 0 (by unfold sp_kp; omega)]; exact h2) (by rw [g.1 7 0 (by unfold sp_kp; omega)]; exact ht) (by rw [g.1 1 0 (by unfold sp_kp; omega)]; exact hh) (fun j hj => by
        rw [g.1 22 j (by unfold sp_kp; omega)]
        by_cases z : S 22 j = S 22 i
        · rw [z, sg.2.2.1]
          split <;> omega
        · rw [sg.1 20 _ (by omega) (by omega) (by omega) (by omega) (by omega)]
          by_cases y : j < i
          · exact hn j y
          · exact absurd (by rw [show j = i from by omega]) z) (by have := g.2.2.2.2.2; omega)
      rw [k15, g.1 10 t (by unfold sp_kp; omega)] at r'
      exact ⟨A', e1.trans e, r', fr_tr f1 f'⟩
    · rw [if_neg c1]
      exact ih (i + 1) S A (by omega) r W W2 WE h2 ht hh (fun j hj => by
        by_cases y : j < i
        · exact hn j y
        · rw [show j = i from by omega]
          exact c1) (by omega)
theorem m_com {D : Nat → Int32} {t : Nat} {S : tz_S} {A : tz_Mem} (r : rm D S A) (W : sp_W1 S) (W2 : sp_W2 S) (WE : sp_WE S) (h2 : S 200 0 ≠ 2) (ht : t < S 7 0) (hT : S 0 0 + 132 < 2147483648) : ∃ A', f_X12_comes (tz_j t) A = some (none, A') ∧ rm D (sp_com t S) A' ∧ tz_fr mo_p A A' := by
  have c := r.1
  have h4 := W.2.1
  have h12 := W.2.2.1
  have ht2 := W.2.2.2.2.1 t ht
  have hp := W2.1 t ht
  have g := adv_G W W2 WE ht
  have ht1 : t < sp_adv t S 7 0 := ht
  have hh := at_lt g.2.1 g.2.2.1 ht1
  have em : (S 13 t + 1) % S 11 t = if S 13 t + 1 < S 11 t then S 13 t + 1 else 0 := by
    split
    · exact Nat.mod_eq_of_lt (by omega)
    · rw [show S 13 t + 1 = S 11 t from by omega, Nat.mod_self]
  have ra : rm D (sp_adv t S) (tz_s A 167 t (tz_j (if S 13 t + 1 < S 11 t then S 13 t + 1 else 0))) := rm_st r (by unfold rm_rel; omega) (by omega) (by omega)
  have e2 := m_at ra.1 g.2.1 g.2.2.1 ht1
  obtain ⟨A', e, r', f'⟩ := m_sayL (h := sp_at (sp_adv t S) t) (S 15 0) 0 (sp_adv t S) _ (Nat.zero_add _) ra g.2.1 g.2.2.1 g.2.2.2.1 h2 ht1 hh (fun j hj => absurd hj (Nat.not_lt_zero j)) (by rw [show sp_adv t S 0 0 = S 0 0 from rfl]; omega)
  refine ⟨A', ?_, r', fr_tr (fr_s fr_rfl (by unfold mo_p; omega)) f'⟩
  rw [e_X12_comes]
  simp (disch := omega) only [tz_lit, nj_m1, ↓reduceIte, nj_cl, nj_ltt, nj_ltf, nj_let, nj_lef, nj_eqf, nj_lt, nj_le, nj_eq, nj_add, nj_mul, nj_modx, nj_and7, nj_div, tz_bI_some, tz_bV_some, or_false, false_or, or_self, and_false, false_and, and_true, true_and, not_true_eq_false, not_false_eq_true, nt_lef, nt_let, nt_ltf, nt_ltt, nt_eqf, cm_165 c, cm_167 c, em, e2]
  exact e
theorem m_has {A : tz_Mem} {x : Int32} {t : Nat} (ht : t < 32) : f_X12_has x (tz_j t) A = some (some (.int (if x.toBitVec.getLsbD t = true then tz_j 1 else tz_j 0)), A) := by
  have e := bj_has ht x
  rw [e_X12_has]
  by_cases z : x.toBitVec.getLsbD t = true
  · rw [if_pos z] at *
    simp (disch := omega) only [tz_lit, nj_m1, ↓reduceIte, nj_cl, nj_ltt, nj_ltf, nj_let, nj_lef, nj_eqf, nj_lt, nj_le, nj_eq, nj_add, nj_mul, nj_mod, nj_and7, nj_div, tz_bI_some, tz_bV_some, or_false, false_or, or_self, and_false, false_and, and_true, true_and, not_true_eq_false, not_false_eq_true, nt_lef, nt_let, nt_ltf, nt_ltt, nt_eqf, e, z]
  · simp (disch := omega) only [tz_lit, nj_m1, ↓reduceIte, nj_cl, nj_ltt, nj_ltf, nj_let, nj_lef, nj_eqf, nj_lt, nj_le, nj_eq, nj_add, nj_mul, nj_mod, nj_and7, nj_div, tz_bI_some, tz_bV_some, or_false, false_or, or_self, and_false, false_and, and_true, true_and, not_true_eq_false, not_false_eq_true, nt_lef, nt_let, nt_ltf, nt_ltt, nt_eqf, e, if_neg z, z, Bool.false_eq_true]
theorem m_tkL {D : Nat → Int32} : ∀ k t S A, t + k = S 7 0 → rm D S A → sp_W1 S → sp_W2 S → sp_WE S → S 200 0 ≠ 2 → S 0 0 + 132 * k < 2147483648 → S 0 3 < 2147483648 → ∃ A', q_X12_goOn_12 (tz_j t) A = some (none, A') ∧ rm D (sp_tkL k t S) A' ∧ tz_fr mo_p A A' := by
  intro k
  induction k with
  | zero =>
    intro t S A ht r W W2 WE h2 hT h3
    have c := r.1
    have h4 := W.2.1
    refine ⟨A, ?_, r, fr_rfl⟩
    rw [e_X12_goOn_12]
    simp (disch := omega) only [tz_lit, nj_m1, ↓reduceIte, nj_cl, nj_ltt, nj_ltf, nj_let, nj_lef, nj_eqf, nj_lt, nj_le, nj_eq, nj_add, nj_mul, nj_modx, nj_and7, nj_div, tz_bI_some, tz_bV_some, or_false, false_or, or_self, and_false, false_and, and_true, true_and, not_true_eq_false, not_false_eq_true, nt_lef, nt_let, nt_ltf, nt_ltt, nt_eqf, cm_8 c]
  | succ k ih =>
    intro t S A ht r W W2 WE h2 hT h3
    have c := r.1
    have h4 := W.2.1
    have ht0 : t < S 7 0 := by omega
    have ht2 := W.2.2.2.2.1 t ht0
    have hm : S 0 3 % S 8 t < 9 := by
      have := Nat.mod_lt (S 0 3) (show 0 < S 8 t by omega)
      omega
    have es := r.2.2.2.1 t (by omega)
    have e0 := m_has (A := A) (x := tz_g A 157 34) (show t < 32 by omega)
    rw [es] at e0
    show ∃ A', _ = some (none, A') ∧ rm D (sp_tkL k (t + 1) (if S 0 3 % S 8 t = 0 ∧ t ≠ S 0 6 then sp_com t S else S)) A' ∧ _
    by_cases q : S 0 3 % S 8 t = 0
    · by_cases z : t = S 0 6
      · rw [if_neg (fun y => y.2 z)]
        rw [if_pos (by rw [decide_eq_true_iff]; exact z)] at e0
        rw [e_X12_goOn_12]
        simp (disch := omega) only [tz_lit, nj_m1, ↓reduceIte, nj_cl, nj_ltt, nj_ltf, nj_let, nj_lef, nj_eqf, nj_lt, nj_le, nj_eq, nj_add, nj_mul, nj_modx, nj_and7, nj_div, tz_bI_some, tz_bV_some, or_false, false_or, or_self, and_false, false_and, and_true, true_and, not_true_eq_false, not_false_eq_true, nt_lef, nt_let, nt_ltf, nt_ltt, nt_eqf, cm_8 c, cm_22 c, cm_168 c, q, e0]
        exact ih (t + 1) S A (by omega) r W W2 WE h2 (by omega) h3
      · rw [if_pos ⟨q, z⟩]
        rw [if_neg (by rw [decide_eq_true_iff]; exact z)] at e0
        obtain ⟨A1, e1, r1, f1⟩ := m_com r W W2 WE h2 ht0 (by omega)
        have g := com_G W W2 WE ht0
        have gg := g.2.2.2.2
        obtain ⟨A', e, r', f'⟩ := ih (t + 1) _ A1 (by rw [g.1 7 0 (by unfold sp_kp; omega)]; omega) r1 g.2.1 g.2.2.1 g.2.2.2.1 (by rw [g.1 200 0 (by unfold sp_kp; omega)]; exact h2) (by omega) (by rw [g.1 0 3 (by unfold sp_kp; omega)]; exact h3)
        refine ⟨A', ?_, r', fr_tr f1 f'⟩
        rw [e_X12_goOn_12]
        simp (disch := omega) only [tz_lit, nj_m1, ↓reduceIte, nj_cl, nj_ltt, nj_ltf, nj_let, nj_lef, nj_eqf, nj_lt, nj_le, nj_eq, nj_add, nj_mul, nj_modx, nj_and7, nj_div, tz_bI_some, tz_bV_some, or_false, false_or, or_self, and_false, false_and, and_true, true_and, not_true_eq_false, not_false_eq_true, nt_lef, nt_let, nt_ltf, nt_ltt, nt_eqf, cm_8 c, cm_22 c, cm_168 c, q, e0, e1]
        exact e
    · rw [if_neg (fun y => q y.1)]
      rw [e_X12_goOn_12]
      simp (disch := omega) only [tz_lit, nj_m1, ↓reduceIte, nj_cl, nj_ltt, nj_ltf, nj_let, nj_lef, nj_eqf, nj_lt, nj_le, nj_eq, nj_add, nj_mul, nj_modx, nj_and7, nj_div, tz_bI_some, tz_bV_some, or_false, false_or, or_self, and_false, false_and, and_true, true_and, not_true_eq_false, not_false_eq_true, nt_lef, nt_let, nt_ltf, nt_ltt, nt_eqf, cm_8 c, cm_22 c, cm_168 c]
      exact ih (t + 1) S A (by omega) r W W2 WE h2 (by omega) h3
theorem m_tk {D : Nat → Int32} {N : Nat} {S : tz_S} {A : tz_Mem} (hN : N ≤ 2000000) (r : rm D S A) (H : sp_H N S) (h2 : S 200 0 ≠ 2) : ∃ A', f_X12_goOn A = some (none, A') ∧ rm D (sp_tk S) A' ∧ tz_fr mo_p A A' := by
  obtain ⟨W, W2, WE, h3, hT⟩ := H
  obtain ⟨a, b2, c⟩ := tk0 W W2 WE
  have h4 := W.2.1
  have hr : rm D (tz_t S 0 3 (S 0 3 + 1)) (tz_s A 157 22 (tz_j (S 0 3 + 1))) := rm_st r (by unfold rm_rel; omega) (by omega) (by omega)
  obtain ⟨A', e, r', f'⟩ := m_tkL (S 7 0) 0 (tz_t S 0 3 (S 0 3 + 1)) (tz_s A 157 22 (tz_j (S 0 3 + 1))) (Nat.zero_add _) hr a b2 c h2 (by rw [show tz_t S 0 3 (S 0 3 + 1) 0 0 = S 0 0 from rfl]; omega) (by rw [show tz_t S 0 3 (S 0 3 + 1) 0 3 = S 0 3 + 1 from rfl]; omega)
  refine ⟨A', ?_, r', fr_tr (fr_s fr_rfl (by unfold mo_p; omega)) f'⟩
  rw [e_X12_goOn]
  simp (disch := omega) only [tz_lit, nj_m1, ↓reduceIte, nj_cl, nj_ltt, nj_ltf, nj_let, nj_lef, nj_eqf, nj_lt, nj_le, nj_eq, nj_add, nj_mul, nj_modx, nj_and7, nj_div, tz_bI_some, tz_bV_some, or_false, false_or, or_self, and_false, false_and, and_true, true_and, not_true_eq_false, not_false_eq_true, nt_lef, nt_let, nt_ltf, nt_ltt, nt_eqf, cm_22 r.1]
  exact e
