/-! the model: what is heard, said, taken up; an hour -/
theorem tz_tt {S : tz_S} {k i a b : Nat} : tz_t (tz_t S k i a) k i b = tz_t S k i b := by
  funext k' i'
  rw [tz_ta, tz_ta, tz_ta]
  split <;> rfl
theorem rm_S {D : Nat → Int32} {S S' : tz_S} {A : tz_Mem} (h8 : S 1 0 ≤ 8) (r : rm D S A) (e : ∀ k i, k ≤ 201 → S' k i = S k i) : rm D S' A := by
  obtain ⟨c, ww, o, s, ee⟩ := r
  refine ⟨rm_c_A c (fun k i hk => e k i (by omega)) (fun _ _ _ _ _ => rfl), ?_, rm_o_mv o (fun _ => e _ _ (by omega)) (fun _ => rfl), rm_s_mv s (e _ _ (by omega)) rfl, rm_e_mv ee (e _ _ (by omega)) (fun _ => ⟨e _ _ (by omega), e _ _ (by omega)⟩) ⟨rfl, rfl⟩⟩
  intro g hg
  rw [e 1 0 (by omega)] at hg
  have hk : sp_kept S' g = sp_kept S g := by unfold sp_kept; rw [e 5 g (by omega)]
  rw [hk]
  refine ⟨(ww g hg).1, fun i hi => ?_⟩
  rw [e 5 g (by omega), e (100 + g) _ (by omega)]
  exact (ww g hg).2 i hi
theorem rm_hr1 {D : Nat → Int32} {S : tz_S} {A A' : tz_Mem} {h v : Nat} (h8 : S 1 0 ≤ 8) (hh : h < S 1 0) (r : rm D S A) (e1 : ∀ k i, k ≠ 163 → k ≠ 164 → k ≠ 182 → ¬ (k = 157 ∧ i = 25) → tz_g A' k i = tz_g A k i)
    (e2 : tz_g A' 157 25 = tz_j (S 0 0 + 1)) (e3 : ∀ g, tz_g A' 182 g = if g = h then tz_g A 182 g + tz_j 1 else tz_g A 182 g) (e4 : ∀ g, tz_g A' 163 g = if g = h then tz_j (if S 5 h < 8 then S 5 h + 1 else 8) else tz_g A 163 g)
    (e5 : ∀ g i, g ≠ h → i < 8 → tz_g A' 164 (8 * g + i) = tz_g A 164 (8 * g + i)) (e6 : ∀ i, i < sp_kept S h → i < 7 → tz_g A' 164 (8 * h + i) = if S 5 h < 8 then tz_g A 164 (8 * h + i) else tz_g A 164 (8 * h + i + 1)) (e7 : tz_g A' 164 (8 * h + (if S 5 h < 8 then S 5 h else 7)) = tz_j v) : rm D (sp_hr1 h v S) A' := by
  obtain ⟨c, ww, o, s, ee⟩ := r
  have q1 : ∀ k i, (k ≠ 0 ∨ i ≠ 0) → (k ≠ 5 ∨ i ≠ h) → k ≠ 100 + h → sp_hr1 h v S k i = S k i := (fun k i a1 a2 a3 => (hr_get (h := h) (w := v) 1 S).1 k i a1 a2 a3)
  have q0 : sp_hr1 h v S 0 0 = S 0 0 + 1 := rfl
  have q5 : sp_hr1 h v S 5 h = S 5 h + 1 := (hr_get (h := h) (w := v) 1 S).2.2
  refine ⟨?_, ?_, ?_, rm_s_mv s (q1 _ _ (by omega) (by omega) (by omega)) (e1 _ _ (by omega) (by omega) (by omega) (by omega)), rm_e_mv ee (q1 _ _ (by omega) (by omega) (by omega)) (fun _ => ⟨q1 _ _ (by omega) (by omega) (by omega), q1 _ _ (by omega) (by omega) (by omega)⟩) ⟨e1 _ _ (by omega) (by omega) (by omega) (by omega), e1 _ _ (by omega) (by omega) (by omega) (by omega)⟩⟩
  · intro p q k i hr
    have hr2 : rm_rel S p q k i := rel_mv (q1 _ _ (by omega) (by omega) (by omega)) (q1 _ _ (by omega) (by omega) (by omega)) (q1 _ _ (by omega) (by omega) (by omega)) (fun _ _ => q1 _ _ (by omega) (by omega) (by omega)) hr
    have hc := c p q k i hr2
    by_cases z : k = 0 ∧ i = 0
    · have z2 : p = 157 ∧ q = 25 := by unfold rm_rel at hr2; omega
      rw [z.1, z.2, z2.1, z2.2, e2, q0]
    · rw [e1 p q (by unfold rm_rel at hr2; omega) (by unfold rm_rel at hr2; omega) (by unfold rm_rel at hr2; omega) (by unfold rm_rel at hr2; omega), q1 k i (by omega) (by unfold rm_rel at hr2; omega) (by unfold rm_rel at hr2; omega)]
      exact hc
  · intro g hg
    rw [q1 1 0 (by omega) (by omega) (by omega)] at hg
    obtain ⟨w1, w2⟩ := ww g hg
    by_cases z : g = h
    · subst z
      have hk : sp_kept (sp_hr1 g v S) g = if S 5 g < 8 then S 5 g + 1 else 8 := by
        unfold sp_kept
        rw [q5]
        split <;> split <;> omega
      rw [hk, e4, if_pos rfl, q5]
      refine ⟨rfl, fun i hi => ?_⟩
      have eh : ∀ j, sp_hr1 g v S (100 + g) j = if j = S 5 g then v else S (100 + g) j := fun j => by
        show tz_t (tz_t (tz_t S (100 + g) (S 5 g) v) 5 g (S 5 g + 1)) 0 0 (S 0 0 + 1) (100 + g) j = _
        rw [tz_tk (by omega), tz_tk (by omega), tz_ta]
        simp
      rw [eh]
      by_cases y : S 5 g < 8
      · rw [if_pos y] at hi ⊢
        have ky : sp_kept S g = S 5 g := by unfold sp_kept; rw [if_pos y]
        by_cases x : i = S 5 g
        · rw [if_pos (by omega), x]
          rw [if_pos y] at e7
          exact e7
        · rw [if_neg (by omega), e6 i (by omega) (by omega), if_pos y, w2 i (by omega), ky]
          congr 2
          omega
      · rw [if_neg y] at hi ⊢
        have ky : sp_kept S g = 8 := by unfold sp_kept; rw [if_neg y]
        by_cases x : i = 7
        · rw [if_pos (by omega), x]
          rw [if_neg y] at e7
          exact e7
        · rw [if_neg (by omega), e6 i (by omega) (by omega), if_neg y, show 8 * g + i + 1 = 8 * g + (i + 1) from by omega, w2 (i + 1) (by omega), ky]
          congr 2
          omega
    · have e55 : sp_hr1 h v S 5 g = S 5 g := q1 5 g (by omega) (by omega) (by omega)
      have hk : sp_kept (sp_hr1 h v S) g = sp_kept S g := by unfold sp_kept; rw [e55]
      have hk8 : sp_kept S g ≤ 8 := by unfold sp_kept; split <;> omega
      rw [hk, e4, if_neg z, e55]
      refine ⟨w1, fun i hi => ?_⟩
      rw [e5 g i z (by omega), q1 (100 + g) _ (by omega) (by omega) (by omega)]
      exact w2 i hi
  · intro g hg
    rw [e3]
    by_cases z : g = h
    · rw [if_pos z, z, q5, o h (by omega), Int32.add_assoc, nj_add]
    · rw [if_neg z, q1 5 g (by omega) (by omega) (by omega)]
      exact o g hg
theorem m_shift {h : Nat} (hh : h < 8) {z2 z3 z4 : Int32} : ∀ k e A, e + k = 7 → ∃ B, q_X12_hears_23 (tz_j h) z2 z3 z4 (tz_j e) A = q_X12_hears_23 (tz_j h) z2 z3 z4 (tz_j 7) B ∧ tz_fr (fun k _ => k = 164) A B ∧ (∀ i, e ≤ i → i < 7 → tz_g B 164 (8 * h + i) = tz_g A 164 (8 * h + i + 1)) ∧ (∀ i, ¬ (8 * h + e ≤ i ∧ i < 8 * h + 7) → tz_g B 164 i = tz_g A 164 i) := by
  intro k
  induction k with
  | zero =>
    intro e A he
    rw [show e = 7 from by omega]
    exact ⟨A, rfl, fr_rfl, fun i a b => by omega, fun _ _ => rfl⟩
  | succ k ih =>
    intro e A he
    obtain ⟨B, e1, f1, s1, o1⟩ := ih (e + 1) (tz_s A 164 (8 * h + e) (tz_g A 164 (8 * h + e + 1))) (by omega)
    refine ⟨B, ?_, fr_tr (fr_s fr_rfl rfl) f1, fun i a b => ?_, fun i a => ?_⟩
    · rw [← e1, e_X12_hears_23 _ _ _ _ (tz_j e)]
      simp (disch := omega) only [tz_lit, nj_m1, ↓reduceIte, nj_cl, nj_ltt, nj_ltf, nj_let, nj_lef, nj_eqf, nj_lt, nj_le, nj_eq, nj_add, nj_mul, nj_mod, nj_and7, nj_div, tz_bI_some, tz_bV_some, or_false, false_or, or_self, and_false, false_and, and_true, true_and, not_true_eq_false, not_false_eq_true, nt_lef, nt_let, nt_ltf, nt_ltt, nt_eqf]
    · by_cases z : i = e
      · rw [z, o1 _ (by omega), tz_gs1]
      · rw [s1 i (by omega) b, tz_gsi (by omega)]
    · rw [o1 i (by omega), tz_gsi (by omega)]
theorem m_hears_3 {D : Nat → Int32} {h v m l : Nat} (hm : m ≤ 11) (hv : v ≤ 9999) : ∀ k i S A, i + k = m → rm D S A → sp_WE S → S 200 0 ≠ 2 → S 1 0 ≤ 8 → h < S 1 0 → S 0 0 + k < 2147483648 → ∃ A', q_X12_hears_3 (tz_j h) (tz_j v) (tz_j m) (tz_j i) A = some (none, A') ∧ rm D (sp_lis l h v m (sp_hr h v k S)) A' ∧ tz_fr mo_p A A' := by
  intro k
  induction k with
  | zero =>
    intro i S A hi r WE h2 h8 hh h5
    rw [e_X12_hears_3]
    obtain ⟨e1, e0⟩ := r.2.2.2.2
    by_cases a1 : S 200 0 = 1
    · obtain ⟨b1, b2⟩ := e1 a1
      obtain ⟨w1, w2⟩ := WE.2.1 a1
      show ∃ A', _ = some (none, A') ∧ rm D (sp_lis l h v m S) A' ∧ _
      unfold sp_lis
      rw [if_pos a1]
      have hup : ∃ A', (some (none, tz_s A 157 37 (tz_j h)) : tz_X) = some (none, A') ∧ rm D (tz_t S 201 0 h) A' ∧ tz_fr mo_p A A' := by
        refine ⟨_, rfl, ?_, fr_s fr_rfl (by unfold mo_p; omega)⟩
        obtain ⟨c, ww, o, s, ee⟩ := r
        refine ⟨rm_c_A c (fun k i hk => tz_tk (by omega)) (fun p q k i hr => by rw [tz_gS, if_neg (by unfold rm_rel at hr; omega)]), rm_w_mv ww (tz_tk (by omega)) (fun _ => tz_tk (by omega)) (fun g j hg => tz_tk (by omega)) (fun _ => ⟨tz_gsk (by omega), tz_gsk (by omega)⟩), rm_o_mv o (fun _ => tz_tk (by omega)) (fun _ => tz_gsk (by omega)), rm_s_mv s (tz_tk (by omega)) (tz_gsi (by omega)), ?_⟩
        · refine ⟨fun _ => ⟨by rw [tz_gsi (by omega), tz_ti (by omega), b1], by rw [tz_gs1, tz_t1]⟩, fun q => absurd (by rw [tz_tk (by omega)]; exact a1) q⟩
      by_cases c1 : v = S 201 1
      · by_cases c2 : 0 < m
        · rcases w2 with w2 | w2
          · rw [if_pos (c := v = S 201 1 ∧ 0 < m ∧ (S 201 0 = 4294967295 ∨ h < S 201 0)) ⟨c1, c2, Or.inl w2⟩]
            simp (disch := omega) only [tz_lit, nj_m1, ↓reduceIte, nj_cl, nj_ltt, nj_ltf, nj_let, nj_lef, nj_eqf, nj_lt, nj_le, nj_eq, nj_add, nj_mul, nj_mod, nj_and7, nj_div, tz_bI_some, tz_bV_some, or_false, false_or, or_self, and_false, false_and, and_true, true_and, not_true_eq_false, not_false_eq_true, nt_lef, nt_let, nt_ltf, nt_ltt, nt_eqf, b1, b2, w2, c1]
            exact hup
          · by_cases c3 : h < S 201 0
            · rw [if_pos (c := v = S 201 1 ∧ 0 < m ∧ (S 201 0 = 4294967295 ∨ h < S 201 0)) ⟨c1, c2, Or.inr c3⟩]
              simp (disch := omega) only [tz_lit, nj_m1, ↓reduceIte, nj_cl, nj_ltt, nj_ltf, nj_let, nj_lef, nj_eqf, nj_lt, nj_le, nj_eq, nj_add, nj_mul, nj_mod, nj_and7, nj_div, tz_bI_some, tz_bV_some, or_false, false_or, or_self, and_false, false_and, and_true, true_and, not_true_eq_false, not_false_eq_true, nt_lef, nt_let, nt_ltf, nt_ltt, nt_eqf, b1, b2, c1]
              exact hup
            · rw [if_neg (c := v = S 201 1 ∧ 0 < m ∧ (S 201 0 = 4294967295 ∨ h < S 201 0)) (by omega)]
              simp (disch := omega) only [tz_lit, nj_m1, ↓reduceIte, nj_cl, nj_ltt, nj_ltf, nj_let, nj_lef, nj_eqf, nj_lt, nj_le, nj_eq, nj_add, nj_mul, nj_mod, nj_and7, nj_div, tz_bI_some, tz_bV_some, or_false, false_or, or_self, and_false, false_and, and_true, true_and, not_true_eq_false, not_false_eq_true, nt_lef, nt_let, nt_ltf, nt_ltt, nt_eqf, b1, b2, c1]
              exact ⟨A, rfl, r, fr_rfl⟩
        · rw [if_neg (c := v = S 201 1 ∧ 0 < m ∧ (S 201 0 = 4294967295 ∨ h < S 201 0)) (by omega)]
          simp (disch := omega) only [tz_lit, nj_m1, ↓reduceIte, nj_cl, nj_ltt, nj_ltf, nj_let, nj_lef, nj_eqf, nj_lt, nj_le, nj_eq, nj_add, nj_mul, nj_mod, nj_and7, nj_div, tz_bI_some, tz_bV_some, or_false, false_or, or_self, and_false, false_and, and_true, true_and, not_true_eq_false, not_false_eq_true, nt_lef, nt_let, nt_ltf, nt_ltt, nt_eqf, b1, b2, c1]
          exact ⟨A, rfl, r, fr_rfl⟩
      · rw [if_neg (c := v = S 201 1 ∧ 0 < m ∧ (S 201 0 = 4294967295 ∨ h < S 201 0)) (fun q => c1 q.1)]
        refine ⟨A, ?_, r, fr_rfl⟩
        by_cases c2 : m ≤ 0
        · simp (disch := omega) only [tz_lit, nj_m1, ↓reduceIte, nj_cl, nj_ltt, nj_ltf, nj_let, nj_lef, nj_eqf, nj_lt, nj_le, nj_eq, nj_add, nj_mul, nj_mod, nj_and7, nj_div, tz_bI_some, tz_bV_some, or_false, false_or, or_self, and_false, false_and, and_true, true_and, not_true_eq_false, not_false_eq_true, nt_lef, nt_let, nt_ltf, nt_ltt, nt_eqf, b1, b2]
        · simp (disch := omega) only [tz_lit, nj_m1, ↓reduceIte, nj_cl, nj_ltt, nj_ltf, nj_let, nj_lef, nj_eqf, nj_lt, nj_le, nj_eq, nj_add, nj_mul, nj_mod, nj_and7, nj_div, tz_bI_some, tz_bV_some, or_false, false_or, or_self, and_false, false_and, and_true, true_and, not_true_eq_false, not_false_eq_true, nt_lef, nt_let, nt_ltf, nt_ltt, nt_eqf, b1, b2, if_neg c1]
    · have b0 := e0 a1
      refine ⟨A, ?_, ?_, fr_rfl⟩
      · by_cases c2 : m ≤ 0
        · simp (disch := omega) only [tz_lit, nj_m1, ↓reduceIte, nj_cl, nj_ltt, nj_ltf, nj_let, nj_lef, nj_eqf, nj_lt, nj_le, nj_eq, nj_add, nj_mul, nj_mod, nj_and7, nj_div, tz_bI_some, tz_bV_some, or_false, false_or, or_self, and_false, false_and, and_true, true_and, not_true_eq_false, not_false_eq_true, nt_lef, nt_let, nt_ltf, nt_ltt, nt_eqf, b0]
        · simp (disch := omega) only [tz_lit, nj_m1, ↓reduceIte, nj_cl, nj_ltt, nj_ltf, nj_let, nj_lef, nj_eqf, nj_lt, nj_le, nj_eq, nj_add, nj_mul, nj_mod, nj_and7, nj_div, tz_bI_some, tz_bV_some, or_false, false_or, or_self, and_false, false_and, and_true, true_and, not_true_eq_false, not_false_eq_true, nt_lef, nt_let, nt_ltf, nt_ltt, nt_eqf, b0]
      · refine rm_S h8 r (fun k i hk => ?_)
        show sp_lis l h v m S k i = S k i
        unfold sp_lis
        rw [if_neg a1, if_neg h2]
        split
        · split
          · rw [tz_tk (by omega), tz_tk (by omega)]
          · rfl
        · rfl
  | succ k ih =>
    intro i S A hi r WE h2 h8 hh h5
    have c := r.1
    obtain ⟨w1, w2⟩ := r.2.1 h hh
    have q1 : ∀ k i, (k ≠ 0 ∨ i ≠ 0) → (k ≠ 5 ∨ i ≠ h) → k ≠ 100 + h → sp_hr1 h v S k i = S k i := (fun k i a1 a2 a3 => (hr_get (h := h) (w := v) 1 S).1 k i a1 a2 a3)
    rw [e_X12_hears_3]
    show ∃ A', _ = some (none, A') ∧ rm D (sp_lis l h v m (sp_hr h v k (sp_hr1 h v S))) A' ∧ _
    by_cases y : S 5 h < 8
    · have ky : sp_kept S h = S 5 h := by unfold sp_kept; rw [if_pos y]
      rw [ky] at w1 w2
      simp (disch := omega) only [tz_lit, nj_m1, ↓reduceIte, nj_cl, nj_ltt, nj_ltf, nj_let, nj_lef, nj_eqf, nj_lt, nj_le, nj_eq, nj_add, nj_mul, nj_mod, nj_and7, nj_div, tz_bI_some, tz_bV_some, or_false, false_or, or_self, and_false, false_and, and_true, true_and, not_true_eq_false, not_false_eq_true, nt_lef, nt_let, nt_ltf, nt_ltt, nt_eqf, w1, tz_gsk, tz_gsi, cm_25 c]
      obtain ⟨A', e, r', f'⟩ := ih (i + 1) (sp_hr1 h v S) (tz_s (tz_s (tz_s (tz_s A 163 h (tz_j (S 5 h + 1))) 164 (8 * h + S 5 h) (tz_j v)) 157 25 (tz_j (S 0 0 + 1))) 182 h (tz_g A 182 h + tz_j 1)) (by omega) (rm_hr1 h8 hh r (fun k i a1 a2 a3 a4 => by rw [tz_gsk a3, tz_gS, if_neg a4, tz_gsk a2, tz_gsk a1]) (by rw [tz_gsk (by omega), tz_gs1]) (fun g => by
          by_cases z : g = h
          · rw [if_pos z, z, tz_gs1]
          · rw [if_neg z, tz_gsi z, tz_gsk (by omega), tz_gsk (by omega), tz_gsk (by omega)]) (fun g => by
          rw [tz_gsk (by omega), tz_gsk (by omega), tz_gsk (by omega)]
          by_cases z : g = h
          · rw [if_pos z, z, tz_gs1, if_pos y]
          · rw [if_neg z, tz_gsi z]) (fun g i a1 a2 => by rw [tz_gsk (by omega), tz_gsk (by omega), tz_gsi (by omega), tz_gsk (by omega)]) (fun i a1 a2 => by rw [tz_gsk (by omega), tz_gsk (by omega), tz_gsi (by omega), tz_gsk (by omega), if_pos y]) (by rw [if_pos y, tz_gsk (by omega), tz_gsk (by omega), tz_gs1])) (we_mv WE (fun k i a1 a2 => q1 k i (by omega) (by omega) (by omega))) (by rw [q1 200 0 (by omega) (by omega) (by omega)]; exact h2) (by rw [q1 1 0 (by omega) (by omega) (by omega)]; exact h8) (by rw [q1 1 0 (by omega) (by omega) (by omega)]; exact hh) (by rw [show sp_hr1 h v S 0 0 = S 0 0 + 1 from rfl]; omega)
      exact ⟨A', e, r', fr_tr (fr_s (fr_s (fr_s (fr_s fr_rfl (by unfold mo_p; omega)) (by unfold mo_p; omega)) (by unfold mo_p; omega)) (by unfold mo_p; omega)) f'⟩
    · have ky : sp_kept S h = 8 := by unfold sp_kept; rw [if_neg y]
      rw [ky] at w1 w2
      obtain ⟨B, e1, f1, s1, o1⟩ := m_shift (h := h) (by omega) (z2 := tz_j v) (z3 := tz_j m) (z4 := tz_j i) 7 0 A (by omega)
      have fb : ∀ k i, k ≠ 164 → tz_g B k i = tz_g A k i := fun k i hk => f1.2.2 k i hk
      have eb25 : tz_g B 157 25 = tz_j (S 0 0) := by rw [fb _ _ (by omega), cm_25 c]
      simp (disch := omega) only [tz_lit, nj_m1, ↓reduceIte, nj_cl, nj_ltt, nj_ltf, nj_let, nj_lef, nj_eqf, nj_lt, nj_le, nj_eq, nj_add, nj_mul, nj_mod, nj_and7, nj_div, tz_bI_some, tz_bV_some, or_false, false_or, or_self, and_false, false_and, and_true, true_and, not_true_eq_false, not_false_eq_true, nt_lef, nt_let, nt_ltf, nt_ltt, nt_eqf, w1]
      rw [show q_X12_hears_23 (tz_j h) (tz_j v) (tz_j m) (tz_j i) (tz_j 0) A = _ from e1, e_X12_hears_23]
      simp (disch := omega) only [tz_lit, nj_m1, ↓reduceIte, nj_cl, nj_ltt, nj_ltf, nj_let, nj_lef, nj_eqf, nj_lt, nj_le, nj_eq, nj_add, nj_mul, nj_mod, nj_and7, nj_div, tz_bI_some, tz_bV_some, or_false, false_or, or_self, and_false, false_and, and_true, true_and, not_true_eq_false, not_false_eq_true, nt_lef, nt_let, nt_ltf, nt_ltt, nt_eqf, tz_gs1, tz_gsk, tz_gsi, eb25]
      obtain ⟨A', e, r', f'⟩ := ih (i + 1) (sp_hr1 h v S) (tz_s (tz_s (tz_s (tz_s (tz_s B 163 h (tz_j 7)) 163 h (tz_j (7 + 1))) 164 (8 * h + 7) (tz_j v)) 157 25 (tz_j (S 0 0 + 1))) 182 h (tz_g B 182 h + tz_j 1)) (by omega) (rm_hr1 h8 hh r (fun k i a1 a2 a3 a4 => by rw [tz_gsk a3, tz_gS, if_neg a4, tz_gsk a2, tz_gsk a1, tz_gsk a1, fb _ _ a2]) (by rw [tz_gsk (by omega), tz_gs1]) (fun g => by
          by_cases z : g = h
          · rw [if_pos z, z, tz_gs1, fb _ _ (by omega)]
          · rw [if_neg z, tz_gsi z, tz_gsk (by omega), tz_gsk (by omega), tz_gsk (by omega), tz_gsk (by omega), fb _ _ (by omega)]) (fun g => by
          rw [tz_gsk (by omega), tz_gsk (by omega), tz_gsk (by omega)]
          by_cases z : g = h
          · rw [if_pos z, z, tz_gs1, if_neg y]
          · rw [if_neg z, tz_gsi z, tz_gsi z, fb _ _ (by omega)]) (fun g i a1 a2 => by rw [tz_gsk (by omega), tz_gsk (by omega), tz_gsi (by omega), tz_gsk (by omega), tz_gsk (by omega), o1 _ (by omega)]) (fun i a1 a2 => by rw [tz_gsk (by omega), tz_gsk (by omega), tz_gsi (by omega), tz_gsk (by omega), tz_gsk (by omega), s1 i (by omega) a2, if_neg y]) (by rw [if_neg y, tz_gsk (by omega), tz_gsk (by omega), tz_gs1])) (we_mv WE (fun k i a1 a2 => q1 k i (by omega) (by omega) (by omega))) (by rw [q1 200 0 (by omega) (by omega) (by omega)]; exact h2) (by rw [q1 1 0 (by omega) (by omega) (by omega)]; exact h8) (by rw [q1 1 0 (by omega) (by omega) (by omega)]; exact hh) (by rw [show sp_hr1 h v S 0 0 = S 0 0 + 1 from rfl]; omega)
      exact ⟨A', e, r', fr_tr (fr_s (fr_s (fr_s (fr_s (fr_s (fr_mo f1 (fun k i q => by unfold mo_p; omega)) (by unfold mo_p; omega)) (by unfold mo_p; omega)) (by unfold mo_p; omega)) (by unfold mo_p; omega)) (by unfold mo_p; omega)) f'⟩
