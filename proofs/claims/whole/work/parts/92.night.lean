/-! the told night: the model listens -/
def rn_c (S : tz_S) (A : tz_Mem) : Prop := ∀ p q k i, rm_rel S p q k i → (k ≠ 0 ∨ i ≠ 0) → k ≠ 21 → tz_g A p q = tz_j (S k i)
theorem rn_of {S : tz_S} {A : tz_Mem} (c : rm_c S A) : rn_c S A := fun p q k i h _ _ => c p q k i h
theorem rn_s {S : tz_S} {A : tz_Mem} {p q k i v : Nat} (h : rn_c S A) (hr : rm_rel S p q k i) (hk : k ≠ 1 ∧ k ≠ 7 ∧ k ≠ 15 ∧ k ≠ 11) : rn_c (tz_t S k i v) (tz_s A p q (tz_j v)) := by
  intro p' q' k' i' h2 a b
  have h3 : rm_rel S p' q' k' i' := rel_mv (tz_tk (by omega)) (tz_tk (by omega)) (tz_tk (by omega)) (fun _ _ => tz_tk (by omega)) h2
  have h1 := hr
  have h4 := h p' q' k' i' h3 a b
  by_cases z : p' = p ∧ q' = q
  · have e : k' = k ∧ i' = i := by
      unfold rm_rel at h1 h3
      omega
    rw [z.1, z.2, e.1, e.2, tz_gs1, tz_t1]
  · have e : ¬ (k' = k ∧ i' = i) := fun y => z (by
      rw [y.1, y.2] at h3
      unfold rm_rel at h1 h3
      omega)
    rw [tz_gS, if_neg z, tz_ta, if_neg e]
    exact h4
theorem rn_A {S S' : tz_S} {A A' : tz_Mem} (h : rn_c S A) (eS : ∀ k i, k ≤ 20 → k ≠ 5 → (k ≠ 0 ∨ i ≠ 0) → S' k i = S k i) (eA : ∀ p q k i, rm_rel S p q k i → tz_g A' p q = tz_g A p q) : rn_c S' A' := by
  intro p q k i hr a b
  have hr2 := rel_mv (eS 1 0 (by omega) (by omega) (by omega)) (eS 7 0 (by omega) (by omega) (by omega)) (eS 15 0 (by omega) (by omega) (by omega)) (fun t _ => eS 11 t (by omega) (by omega) (by omega)) hr
  rw [eA p q k i hr2, eS k i (by unfold rm_rel at hr2; omega) (by unfold rm_rel at hr2; omega) a]
  exact h p q k i hr2 a b
theorem cn_3 {S : tz_S} {A : tz_Mem} (h : rn_c S A) : tz_g A 157 3 = tz_j (S 1 0) := h 157 3 1 0 (Or.inl ⟨rfl, rfl, Or.inl ⟨rfl, rfl⟩⟩) (by omega) (by omega)
theorem cn_8 {S : tz_S} {A : tz_Mem} (h : rn_c S A) : tz_g A 157 8 = tz_j (S 7 0) := h 157 8 7 0 (Or.inl ⟨rfl, rfl, Or.inr (Or.inl ⟨rfl, rfl⟩)⟩) (by omega) (by omega)
theorem cn_15 {S : tz_S} {A : tz_Mem} (h : rn_c S A) : tz_g A 157 15 = tz_j (S 15 0) := h 157 15 15 0 (Or.inl ⟨rfl, rfl, Or.inr (Or.inr ⟨rfl, rfl⟩)⟩) (by omega) (by omega)
theorem cn_22 {S : tz_S} {A : tz_Mem} (h : rn_c S A) : tz_g A 157 22 = tz_j (S 0 3) := h 157 22 0 3 (Or.inr (Or.inl ⟨rfl, rfl, Or.inr (Or.inl ⟨rfl, rfl⟩)⟩)) (by omega) (by omega)
theorem cn_23 {S : tz_S} {A : tz_Mem} (h : rn_c S A) : tz_g A 157 23 = tz_j (S 0 4) := h 157 23 0 4 (Or.inr (Or.inl ⟨rfl, rfl, Or.inr (Or.inr (Or.inl ⟨rfl, rfl⟩))⟩)) (by omega) (by omega)
theorem cn_24 {S : tz_S} {A : tz_Mem} (h : rn_c S A) : tz_g A 157 24 = tz_j (S 0 5) := h 157 24 0 5 (Or.inr (Or.inl ⟨rfl, rfl, Or.inr (Or.inr (Or.inr ⟨rfl, rfl⟩))⟩)) (by omega) (by omega)
theorem cn_161 {S : tz_S} {A : tz_Mem} (h : rn_c S A) {i : Nat} (hi : i < S 1 0) : tz_g A 161 i = tz_j (S 2 i) := h 161 i 2 i (Or.inr (Or.inr (Or.inl ⟨rfl, hi, Or.inl ⟨rfl, rfl⟩⟩))) (by omega) (by omega)
theorem cn_162 {S : tz_S} {A : tz_Mem} (h : rn_c S A) {i : Nat} (hi : i < S 1 0) : tz_g A 162 i = tz_j (S 3 i) := h 162 i 3 i (Or.inr (Or.inr (Or.inl ⟨rfl, hi, Or.inr ⟨rfl, rfl⟩⟩))) (by omega) (by omega)
theorem cn_168 {S : tz_S} {A : tz_Mem} (h : rn_c S A) {i : Nat} (hi : i < S 7 0) : tz_g A 168 i = tz_j (S 8 i) := h 168 i 8 i (Or.inr (Or.inr (Or.inr (Or.inl ⟨rfl, hi, Or.inl ⟨rfl, rfl⟩⟩)))) (by omega) (by omega)
theorem cn_169 {S : tz_S} {A : tz_Mem} (h : rn_c S A) {i : Nat} (hi : i < S 7 0) : tz_g A 169 i = tz_j (S 9 i) := h 169 i 9 i (Or.inr (Or.inr (Or.inr (Or.inl ⟨rfl, hi, Or.inr (Or.inl ⟨rfl, rfl⟩)⟩)))) (by omega) (by omega)
theorem cn_170 {S : tz_S} {A : tz_Mem} (h : rn_c S A) {i : Nat} (hi : i < S 7 0) : tz_g A 170 i = tz_j (S 10 i) := h 170 i 10 i (Or.inr (Or.inr (Or.inr (Or.inl ⟨rfl, hi, Or.inr (Or.inr (Or.inl ⟨rfl, rfl⟩))⟩)))) (by omega) (by omega)
theorem cn_165 {S : tz_S} {A : tz_Mem} (h : rn_c S A) {i : Nat} (hi : i < S 7 0) : tz_g A 165 i = tz_j (S 11 i) := h 165 i 11 i (Or.inr (Or.inr (Or.inr (Or.inl ⟨rfl, hi, Or.inr (Or.inr (Or.inr (Or.inl ⟨rfl, rfl⟩)))⟩)))) (by omega) (by omega)
theorem cn_167 {S : tz_S} {A : tz_Mem} (h : rn_c S A) {i : Nat} (hi : i < S 7 0) : tz_g A 167 i = tz_j (S 13 i) := h 167 i 13 i (Or.inr (Or.inr (Or.inr (Or.inl ⟨rfl, hi, Or.inr (Or.inr (Or.inr (Or.inr ⟨rfl, rfl⟩)))⟩)))) (by omega) (by omega)
theorem cn_171 {S : tz_S} {A : tz_Mem} (h : rn_c S A) {i : Nat} (hi : i < S 15 0) : tz_g A 171 i = tz_j (S 16 i) := h 171 i 16 i (Or.inr (Or.inr (Or.inr (Or.inr (Or.inr ⟨rfl, hi, rfl, by omega, by omega⟩))))) (by omega) (by omega)
theorem cn_172 {S : tz_S} {A : tz_Mem} (h : rn_c S A) {i : Nat} (hi : i < S 15 0) : tz_g A 172 i = tz_j (S 17 i) := h 172 i 17 i (Or.inr (Or.inr (Or.inr (Or.inr (Or.inr ⟨rfl, hi, rfl, by omega, by omega⟩))))) (by omega) (by omega)
theorem cn_173 {S : tz_S} {A : tz_Mem} (h : rn_c S A) {i : Nat} (hi : i < S 15 0) : tz_g A 173 i = tz_j (S 18 i) := h 173 i 18 i (Or.inr (Or.inr (Or.inr (Or.inr (Or.inr ⟨rfl, hi, rfl, by omega, by omega⟩))))) (by omega) (by omega)
theorem cn_174 {S : tz_S} {A : tz_Mem} (h : rn_c S A) {i : Nat} (hi : i < S 15 0) : tz_g A 174 i = tz_j (S 19 i) := h 174 i 19 i (Or.inr (Or.inr (Or.inr (Or.inr (Or.inr ⟨rfl, hi, rfl, by omega, by omega⟩))))) (by omega) (by omega)
theorem cn_175 {S : tz_S} {A : tz_Mem} (h : rn_c S A) {i : Nat} (hi : i < S 15 0) : tz_g A 175 i = tz_j (S 20 i) := h 175 i 20 i (Or.inr (Or.inr (Or.inr (Or.inr (Or.inr ⟨rfl, hi, rfl, by omega, by omega⟩))))) (by omega) (by omega)
theorem cn_166 {S : tz_S} {A : tz_Mem} (h : rn_c S A) {t j : Nat} (ht : t < S 7 0) (hj : j < S 11 t) : tz_g A 166 (6 * t + j) = tz_j (S 12 (6 * t + j)) := h 166 (6 * t + j) 12 (6 * t + j) (Or.inr (Or.inr (Or.inr (Or.inr (Or.inl ⟨rfl, rfl, rfl, t, j, ht, hj, rfl⟩))))) (by omega) (by omega)
theorem n_bec {h v : Nat} {S : tz_S} {A : tz_Mem} (c : rn_c S A) (W : sp_W1 S) (hh : h < S 1 0) (hv : v ≤ 9999) : f_X12_becomes (tz_j h) (tz_j v) A = some (some (.int (tz_j (sp_bec S h v))), A) := by
  have h8 := W.1
  have hk := W.2.2.2.1 h hh
  have eu := m_isUnder (A := A) hk.1 (show 2 ≤ 6 by omega)
  rw [e_X12_becomes]
  unfold sp_bec
  by_cases c2 : S 2 h = 2
  · rw [c2] at eu
    simp (disch := omega) only [tz_lit, nj_m1, ↓reduceIte, nj_cl, nj_ltt, nj_ltf, nj_let, nj_lef, nj_eqf, nj_lt, nj_le, nj_eq, nj_add, nj_mul, nj_mod, nj_and7, nj_div, tz_bI_some, tz_bV_some, or_false, false_or, or_self, and_false, false_and, and_true, true_and, not_true_eq_false, not_false_eq_true, nt_lef, nt_let, nt_ltf, nt_ltt, nt_eqf, cn_161 c, c2, eu, show sp_un 2 2 = true from rfl]
  by_cases c5 : S 2 h = 5
  · rw [c5] at eu
    simp (disch := omega) only [tz_lit, nj_m1, ↓reduceIte, nj_cl, nj_ltt, nj_ltf, nj_let, nj_lef, nj_eqf, nj_lt, nj_le, nj_eq, nj_add, nj_mul, nj_mod, nj_and7, nj_div, tz_bI_some, tz_bV_some, or_false, false_or, or_self, and_false, false_and, and_true, true_and, not_true_eq_false, not_false_eq_true, nt_lef, nt_let, nt_ltf, nt_ltt, nt_eqf, cn_161 c, cn_162 c, c5, eu, show sp_un 5 2 = true from rfl]
  have hu : sp_un (S 2 h) 2 = false := by
    unfold sp_un
    simp
    omega
  simp (disch := omega) only [tz_lit, nj_m1, ↓reduceIte, nj_cl, nj_ltt, nj_ltf, nj_let, nj_lef, nj_eqf, nj_lt, nj_le, nj_eq, nj_add, nj_mul, nj_mod, nj_and7, nj_div, tz_bI_some, tz_bV_some, or_false, false_or, or_self, and_false, false_and, and_true, true_and, not_true_eq_false, not_false_eq_true, nt_lef, nt_let, nt_ltf, nt_ltt, nt_eqf, cn_161 c, eu, hu, if_neg c2, if_neg c5, Bool.false_eq_true]
theorem n_tim {h g : Nat} {S : tz_S} {A : tz_Mem} (c : rn_c S A) (W : sp_W1 S) (hh : h < S 1 0) (hg : g ≤ 99) : f_X12_times (tz_j h) (tz_j g) A = some (some (.int (tz_j (sp_tim S h g))), A) := by
  have h8 := W.1
  have hk := W.2.2.2.1 h hh
  rw [e_X12_times]
  unfold sp_tim
  by_cases c1 : S 2 h = 1
  · simp (disch := omega) only [tz_lit, nj_m1, ↓reduceIte, nj_cl, nj_ltt, nj_ltf, nj_let, nj_lef, nj_eqf, nj_lt, nj_le, nj_eq, nj_add, nj_mul, nj_mod, nj_and7, nj_div, tz_bI_some, tz_bV_some, or_false, false_or, or_self, and_false, false_and, and_true, true_and, not_true_eq_false, not_false_eq_true, nt_lef, nt_let, nt_ltf, nt_ltt, nt_eqf, cn_161 c, c1]
  by_cases c2 : S 2 h = 2
  · simp (disch := omega) only [tz_lit, nj_m1, ↓reduceIte, nj_cl, nj_ltt, nj_ltf, nj_let, nj_lef, nj_eqf, nj_lt, nj_le, nj_eq, nj_add, nj_mul, nj_mod, nj_and7, nj_div, tz_bI_some, tz_bV_some, or_false, false_or, or_self, and_false, false_and, and_true, true_and, not_true_eq_false, not_false_eq_true, nt_lef, nt_let, nt_ltf, nt_ltt, nt_eqf, cn_161 c, c2]
  by_cases c3 : S 2 h = 3
  · simp (disch := omega) only [tz_lit, nj_m1, ↓reduceIte, nj_cl, nj_ltt, nj_ltf, nj_let, nj_lef, nj_eqf, nj_lt, nj_le, nj_eq, nj_add, nj_mul, nj_mod, nj_and7, nj_div, tz_bI_some, tz_bV_some, or_false, false_or, or_self, and_false, false_and, and_true, true_and, not_true_eq_false, not_false_eq_true, nt_lef, nt_let, nt_ltf, nt_ltt, nt_eqf, cn_161 c, cn_162 c, c3]
  by_cases c4 : S 2 h = 4
  · simp (disch := omega) only [tz_lit, nj_m1, ↓reduceIte, nj_cl, nj_ltt, nj_ltf, nj_let, nj_lef, nj_eqf, nj_lt, nj_le, nj_eq, nj_add, nj_mul, nj_mod, nj_and7, nj_div, tz_bI_some, tz_bV_some, or_false, false_or, or_self, and_false, false_and, and_true, true_and, not_true_eq_false, not_false_eq_true, nt_lef, nt_let, nt_ltf, nt_ltt, nt_eqf, cn_161 c, cn_162 c, c4]
    split <;> rfl
  by_cases c5 : S 2 h = 5
  · simp (disch := omega) only [tz_lit, nj_m1, ↓reduceIte, nj_cl, nj_ltt, nj_ltf, nj_let, nj_lef, nj_eqf, nj_lt, nj_le, nj_eq, nj_add, nj_mul, nj_mod, nj_and7, nj_div, tz_bI_some, tz_bV_some, or_false, false_or, or_self, and_false, false_and, and_true, true_and, not_true_eq_false, not_false_eq_true, nt_lef, nt_let, nt_ltf, nt_ltt, nt_eqf, cn_161 c, c5]
  by_cases c6 : S 2 h = 6
  · simp (disch := omega) only [tz_lit, nj_m1, ↓reduceIte, nj_cl, nj_ltt, nj_ltf, nj_let, nj_lef, nj_eqf, nj_lt, nj_le, nj_eq, nj_add, nj_mul, nj_mod, nj_and7, nj_div, tz_bI_some, tz_bV_some, or_false, false_or, or_self, and_false, false_and, and_true, true_and, not_true_eq_false, not_false_eq_true, nt_lef, nt_let, nt_ltf, nt_ltt, nt_eqf, cn_161 c, c6]
  simp (disch := omega) only [tz_lit, nj_m1, ↓reduceIte, nj_cl, nj_ltt, nj_ltf, nj_let, nj_lef, nj_eqf, nj_lt, nj_le, nj_eq, nj_add, nj_mul, nj_mod, nj_and7, nj_div, tz_bI_some, tz_bV_some, or_false, false_or, or_self, and_false, false_and, and_true, true_and, not_true_eq_false, not_false_eq_true, nt_lef, nt_let, nt_ltf, nt_ltt, nt_eqf, cn_161 c]
theorem n_hvL {S : tz_S} {A : tz_Mem} {p g : Nat} (c : rn_c S A) (W : sp_W1 S) (hp : p < 1000) (hg : g ≤ 99) (W2 : sp_W2 S) : ∀ k l found, l + k = S 15 0 → (found = 4294967295 ∧ (∀ m, m < l → ¬ (S 20 m = p ∧ S 19 m ≤ g))) ∨ (found < l ∧ (S 20 found = p ∧ S 19 found ≤ g) ∧ ∀ m, m < l → (S 20 m = p ∧ S 19 m ≤ g) → m = found ∨ sp_lt S found m) → ∃ r, q_X12_heaviest_5 (tz_j p) (tz_j g) (tz_j found) (tz_j l) A = some (some (.int (tz_j r)), A) ∧ ((r = 4294967295 ∧ (∀ m, m < S 15 0 → ¬ (S 20 m = p ∧ S 19 m ≤ g))) ∨ (r < S 15 0 ∧ (S 20 r = p ∧ S 19 r ≤ g) ∧ ∀ m, m < S 15 0 → (S 20 m = p ∧ S 19 m ≤ g) → m = r ∨ sp_lt S r m)) := by
  have h12 := W.2.2.1
  have h4 := W.2.1
  have h8 := W.1
  intro k
  induction k with
  | zero =>
    intro l found hl hI
    rw [Nat.add_zero] at hl
    subst hl
    refine ⟨found, ?_, hI⟩
    rw [e_X12_heaviest_5]
    simp (disch := omega) only [tz_lit, nj_m1, ↓reduceIte, nj_cl, nj_ltt, nj_ltf, nj_let, nj_lef, nj_eqf, nj_lt, nj_le, nj_eq, nj_add, nj_mul, nj_mod, nj_and7, nj_div, tz_bI_some, tz_bV_some, or_false, false_or, or_self, and_false, false_and, and_true, true_and, not_true_eq_false, not_false_eq_true, nt_lef, nt_let, nt_ltf, nt_ltt, nt_eqf, cn_15 c]
  | succ k ih =>
    intro l found hl hI
    have hwl := (W2.2.1 l (by omega)).2.1
    have h19 := (W.2.2.2.2.2.1 l (by omega)).2.2
    unfold sp_wh at hwl
    rw [e_X12_heaviest_5]
    by_cases c1 : S 20 l = p
    · by_cases c2 : S 19 l ≤ g
      · rcases hI with ⟨hf, hI⟩ | ⟨hf, hI1, hI2⟩
        · obtain ⟨r, e, hr⟩ := ih (l + 1) l (by omega) (Or.inr ⟨by omega, ⟨c1, c2⟩, fun m hm hP => by
            by_cases z : m = l
            · exact Or.inl z
            · exact absurd hP (hI m (by omega))⟩)
          refine ⟨r, ?_, hr⟩
          simp (disch := omega) only [tz_lit, nj_m1, ↓reduceIte, nj_cl, nj_ltt, nj_ltf, nj_let, nj_lef, nj_eqf, nj_lt, nj_le, nj_eq, nj_add, nj_mul, nj_mod, nj_and7, nj_div, tz_bI_some, tz_bV_some, or_false, false_or, or_self, and_false, false_and, and_true, true_and, not_true_eq_false, not_false_eq_true, nt_lef, nt_let, nt_ltf, nt_ltt, nt_eqf, cn_15 c, cn_175 c, cn_174 c, c1, hf]
          exact e
        · have h19f := (W.2.2.2.2.2.1 found (by omega)).2.2
          by_cases c3 : S 19 l ≤ S 19 found
          · obtain ⟨r, e, hr⟩ := ih (l + 1) found (by omega) (Or.inr ⟨by omega, hI1, fun m hm hP => by
              by_cases z : m = l
              · right
                unfold sp_lt
                rw [z]
                omega
              · exact hI2 m (by omega) hP⟩)
            refine ⟨r, ?_, hr⟩
            simp (disch := omega) only [tz_lit, nj_m1, ↓reduceIte, nj_cl, nj_ltt, nj_ltf, nj_let, nj_lef, nj_eqf, nj_lt, nj_le, nj_eq, nj_add, nj_mul, nj_mod, nj_and7, nj_div, tz_bI_some, tz_bV_some, or_false, false_or, or_self, and_false, false_and, and_true, true_and, not_true_eq_false, not_false_eq_true, nt_lef, nt_let, nt_ltf, nt_ltt, nt_eqf, cn_15 c, cn_175 c, cn_174 c, c1]
            exact e
          · obtain ⟨r, e, hr⟩ := ih (l + 1) l (by omega) (Or.inr ⟨by omega, ⟨c1, c2⟩, fun m hm hP => by
              by_cases z : m = l
              · exact Or.inl z
              · right
                have := hI2 m (by omega) hP
                unfold sp_lt at this ⊢
                rcases this with this | this
                · rw [this]
                  omega
                · omega⟩)
            refine ⟨r, ?_, hr⟩
            simp (disch := omega) only [tz_lit, nj_m1, ↓reduceIte, nj_cl, nj_ltt, nj_ltf, nj_let, nj_lef, nj_eqf, nj_lt, nj_le, nj_eq, nj_add, nj_mul, nj_mod, nj_and7, nj_div, tz_bI_some, tz_bV_some, or_false, false_or, or_self, and_false, false_and, and_true, true_and, not_true_eq_false, not_false_eq_true, nt_lef, nt_let, nt_ltf, nt_ltt, nt_eqf, cn_15 c, cn_175 c, cn_174 c, c1]
            exact e
      · obtain ⟨r, e, hr⟩ := ih (l + 1) found (by omega) (by
          rcases hI with ⟨hf, hI⟩ | ⟨hf, hI1, hI2⟩
          · exact Or.inl ⟨hf, fun m hm hP => by
              by_cases z : m = l
              · rw [z] at hP
                exact c2 hP.2
              · exact hI m (by omega) hP⟩
          · exact Or.inr ⟨by omega, hI1, fun m hm hP => by
              by_cases z : m = l
              · rw [z] at hP
                exact absurd hP.2 c2
              · exact hI2 m (by omega) hP⟩)
        refine ⟨r, ?_, hr⟩
        simp (disch := omega) only [tz_lit, nj_m1, ↓reduceIte, nj_cl, nj_ltt, nj_ltf, nj_let, nj_lef, nj_eqf, nj_lt, nj_le, nj_eq, nj_add, nj_mul, nj_mod, nj_and7, nj_div, tz_bI_some, tz_bV_some, or_false, false_or, or_self, and_false, false_and, and_true, true_and, not_true_eq_false, not_false_eq_true, nt_lef, nt_let, nt_ltf, nt_ltt, nt_eqf, cn_15 c, cn_175 c, cn_174 c, c1]
        exact e
    · obtain ⟨r, e, hr⟩ := ih (l + 1) found (by omega) (by
        rcases hI with ⟨hf, hI⟩ | ⟨hf, hI1, hI2⟩
        · exact Or.inl ⟨hf, fun m hm hP => by
            by_cases z : m = l
            · rw [z] at hP
              exact c1 hP.1
            · exact hI m (by omega) hP⟩
        · exact Or.inr ⟨by omega, hI1, fun m hm hP => by
            by_cases z : m = l
            · rw [z] at hP
              exact absurd hP.1 c1
            · exact hI2 m (by omega) hP⟩)
      refine ⟨r, ?_, hr⟩
      simp (disch := omega) only [tz_lit, nj_m1, ↓reduceIte, nj_cl, nj_ltt, nj_ltf, nj_let, nj_lef, nj_eqf, nj_lt, nj_le, nj_eq, nj_add, nj_mul, nj_mod, nj_and7, nj_div, tz_bI_some, tz_bV_some, or_false, false_or, or_self, and_false, false_and, and_true, true_and, not_true_eq_false, not_false_eq_true, nt_lef, nt_let, nt_ltf, nt_ltt, nt_eqf, cn_15 c, cn_175 c, cn_174 c]
      exact e
theorem n_hv0 {S : tz_S} {A : tz_Mem} {p g : Nat} (c : rn_c S A) (W : sp_W1 S) (hp : p < 1000) (hg : g ≤ 99) (W2 : sp_W2 S) (hn : ∀ j, j < S 15 0 → ¬ (S 20 (S 22 j) = p ∧ S 19 (S 22 j) ≤ g)) : f_X12_heaviest (tz_j p) (tz_j g) A = some (some (.int (tz_j 4294967295)), A) := by
  obtain ⟨r, e, hr⟩ := n_hvL c W hp hg W2 (S 15 0) 0 4294967295 (Nat.zero_add _) (Or.inl ⟨rfl, fun m hm => absurd hm (Nat.not_lt_zero m)⟩)
  have e2 : f_X12_heaviest (tz_j p) (tz_j g) A = q_X12_heaviest_5 (tz_j p) (tz_j g) (tz_j 4294967295) (tz_j 0) A := by
    rw [e_X12_heaviest, ← nj_m1]
    rfl
  rw [e2, e]
  rcases hr with ⟨hr, _⟩ | ⟨hr, hP, _⟩
  · rw [hr]
  · obtain ⟨j, hj, ej⟩ := W.2.2.2.2.2.2.2.2 r hr
    exact absurd (by rw [ej]; exact hP) (hn j hj)
theorem n_hv1 {S : tz_S} {A : tz_Mem} {p g i : Nat} (c : rn_c S A) (W : sp_W1 S) (hp : p < 1000) (hg : g ≤ 99) (W2 : sp_W2 S) (hi : i < S 15 0) (hP : S 20 (S 22 i) = p ∧ S 19 (S 22 i) ≤ g) (hn : ∀ j, j < i → ¬ (S 20 (S 22 j) = p ∧ S 19 (S 22 j) ≤ g)) : f_X12_heaviest (tz_j p) (tz_j g) A = some (some (.int (tz_j (S 22 i))), A) := by
  obtain ⟨r, e, hr⟩ := n_hvL c W hp hg W2 (S 15 0) 0 4294967295 (Nat.zero_add _) (Or.inl ⟨rfl, fun m hm => absurd hm (Nat.not_lt_zero m)⟩)
  have e2 : f_X12_heaviest (tz_j p) (tz_j g) A = q_X12_heaviest_5 (tz_j p) (tz_j g) (tz_j 4294967295) (tz_j 0) A := by
    rw [e_X12_heaviest, ← nj_m1]
    rfl
  have ho := W.2.2.2.2.2.2.1 i hi
  rw [e2, e]
  rcases hr with ⟨_, hr⟩ | ⟨hr, hQ, hmin⟩
  · exact absurd hP (hr _ ho)
  · rcases hmin _ ho hP with z | z
    · rw [z]
    · obtain ⟨j, hj, ej⟩ := W.2.2.2.2.2.2.2.2 r hr
      rw [← ej] at hQ z
      by_cases y : j < i
      · exact absurd hQ (hn j y)
      · by_cases x : i = j
        · rw [← ej, x]
        · exact (lt_as z (W.2.2.2.2.2.2.2.1 i j (by omega) hj)).elim
theorem n_at {t : Nat} {S : tz_S} {A : tz_Mem} (c : rn_c S A) (W : sp_W1 S) (W2 : sp_W2 S) (ht : t < S 7 0) : f_X12_storedAt (tz_j t) A = some (some (.int (tz_j (sp_at S t))), A) := by
  have h4 := W.2.1
  have ht2 := W.2.2.2.2.1 t ht
  have hp := W2.1 t ht
  rw [e_X12_storedAt]
  simp (disch := omega) only [tz_lit, nj_m1, ↓reduceIte, nj_cl, nj_ltt, nj_ltf, nj_let, nj_lef, nj_eqf, nj_lt, nj_le, nj_eq, nj_add, nj_mul, nj_mod, nj_and7, nj_div, tz_bI_some, tz_bV_some, or_false, false_or, or_self, and_false, false_and, and_true, true_and, not_true_eq_false, not_false_eq_true, nt_lef, nt_let, nt_ltf, nt_ltt, nt_eqf, cn_167 c, cn_166 c ht hp]
  rfl
theorem ni_stop {v : Nat} : ∀ m S, ¬ (S 202 3 = 0 ∧ S 202 0 < S 202 1) → sp_ni v m S = S := by
  intro m
  induction m with
  | zero => exact fun _ _ => rfl
  | succ m ih =>
    intro S h
    have e : sp_ni1 v S = S := if_neg h
    show sp_ni v m (sp_ni1 v S) = S
    rw [e]
    exact ih S h
def nq_p (k i : Nat) : Prop := (k = 157 ∧ (i = 22 ∨ i = 38)) ∨ k = 167 ∨ k = 171 ∨ k = 175
/-- what the model has while it listens: y were told ahead of this storm -/
def rnn (n y : Nat) (T : Nat → Nat) (A0 : tz_Mem) (g : Int32) (S : tz_S) (A : tz_Mem) : Prop := rn_c S A ∧ tz_g A 157 38 = tz_j (S 202 0 - y) ∧ y ≤ S 202 0 ∧ S 202 0 ≤ n ∧ S 202 1 = n ∧ S 202 3 ≤ 1 ∧ g = tz_j (1 - S 202 3) ∧ (∀ j, S 203 j = T j) ∧ A.2.2 = A0.2.2
theorem rnn_st {n y : Nat} {T : Nat → Nat} {A0 : tz_Mem} {g : Int32} {S : tz_S} {A : tz_Mem} {p q k i v : Nat} (r : rnn n y T A0 g S A) (hr : rm_rel S p q k i) (hk : k = 13 ∨ k = 16 ∨ k = 20) : rnn n y T A0 g (tz_t S k i v) (tz_s A p q (tz_j v)) := by
  obtain ⟨c, r38, ry, rn', r1, r3, rg, rT, rA⟩ := r
  have e2 : ∀ j, tz_t S k i v 202 j = S 202 j := fun j => tz_tk (by omega)
  refine ⟨rn_s c hr (by omega), ?_, by rw [e2]; exact ry, by rw [e2]; exact rn', by rw [e2]; exact r1, by rw [e2]; exact r3, by rw [e2]; exact rg, fun j => (tz_tk (by omega)).trans (rT j), rA⟩
  rw [e2, tz_gsk (by unfold rm_rel at hr; omega)]
  exact r38
theorem rnn_S {n y : Nat} {T : Nat → Nat} {A0 : tz_Mem} {g : Int32} {S S' : tz_S} {A : tz_Mem} (r : rnn n y T A0 g S A) (eS : ∀ k i, k ≤ 20 → k ≠ 5 → (k ≠ 0 ∨ i ≠ 0) → S' k i = S k i) (e2 : ∀ k i, 202 ≤ k → S' k i = S k i) : rnn n y T A0 g S' A := by
  obtain ⟨c, r38, ry, rn', r1, r3, rg, rT, rA⟩ := r
  have e3 : ∀ j, S' 202 j = S 202 j := fun j => e2 202 j (by omega)
  exact ⟨rn_A c eS (fun _ _ _ _ _ => rfl), by rw [e3]; exact r38, by rw [e3]; exact ry, by rw [e3]; exact rn', by rw [e3]; exact r1, by rw [e3]; exact r3, by rw [e3]; exact rg, fun j => (e2 203 j (by omega)).trans (rT j), rA⟩
theorem n_niL {n y t s l h v m u : Nat} {T : Nat → Nat} {A0 : tz_Mem} (hn : n ≤ 40) (hT : ∀ B : tz_Mem, B.2.2 = A0.2.2 → ∀ j, j < n → f_X12_told (tz_j s) (tz_j j) B = some (some (.int (tz_j (T j))), B)) (hT2 : ∀ j, T j < 4294967296) (hm : m ≤ 11) (hv : v ≤ 9999) (hl : l < 12) : ∀ k i g S A, i + k = m → rnn n y T A0 g S A → l < S 15 0 → S 16 l = v → ∃ A' g', q_X12_listens_102 (tz_j t) (tz_j u) (tz_j s) (tz_j n) (tz_j y) g (tz_j h) (tz_j l) (tz_j m) (tz_j i) A = q_X12_listens_102 (tz_j t) (tz_j u) (tz_j s) (tz_j n) (tz_j y) g' (tz_j h) (tz_j l) (tz_j m) (tz_j m) A' ∧ rnn n y T A0 g' (sp_ni v k S) A' ∧ tz_fr nq_p A A' := by
  intro k
  induction k with
  | zero =>
    intro i g S A hi r hl2 h16
    rw [Nat.add_zero] at hi
    exact ⟨A, g, by rw [hi], r, fr_rfl⟩
  | succ k ih =>
    intro i g S A hi r hl2 h16
    have r0 := r
    obtain ⟨c, r38, ry, rn', r1, r3, rg, rT, rA⟩ := r
    have n1 : (tz_j m ≤ tz_j i) = False := nj_lef (by omega) (by omega)
    have n2 : (tz_j m ≤ tz_j m) = True := nj_let (Nat.le_refl _) (by omega)
    have e38 : tz_j y + tz_g A 157 38 = tz_j (S 202 0) := by
      rw [r38, nj_add, Nat.add_sub_cancel' ry]
    have n5 := nj_ix8 (s := l) (n := 12) hl (by omega)
    have c1 : (tz_j l).toNatClampNeg = l := nj_cl (by omega)
    by_cases a : S 202 3 = 0
    · have eg : g = tz_j 1 := by rw [rg, a]
      by_cases b : S 202 0 < S 202 1
      · have n4 : (tz_j n ≤ tz_j (S 202 0)) = False := nj_lef (by omega) (by omega)
        have et := hT A rA (S 202 0) (by omega)
        have q171 : tz_g A 171 l = tz_j v := by rw [cn_171 c hl2, h16]
        have a3 : tz_j i + tz_j 1 = tz_j (i + 1) := nj_add
        have es : sp_ni v (k + 1) S = sp_ni v k (sp_ni1 v S) := rfl
        have es1 : sp_ni1 v S = if S 203 (S 202 0) = v then tz_t S 202 0 (S 202 0 + 1) else tz_t S 202 3 1 := if_pos ⟨a, b⟩
        rw [es, es1, eg]
        by_cases z : S 203 (S 202 0) = v
        · rw [if_pos z]
          obtain ⟨A', g', e, r', f'⟩ := ih (i + 1) (tz_j 1) (tz_t S 202 0 (S 202 0 + 1)) (tz_s A 157 38 (tz_j (S 202 0 + 1 - y))) (by omega) ⟨rn_A c (fun k i _ _ _ => tz_tk (by omega)) (fun p q k i hr => by rw [tz_gS, if_neg (by unfold rm_rel at hr; omega)]), by rw [tz_gs1, tz_t1], by rw [tz_t1]; omega, by rw [tz_t1]; omega, by rw [tz_ti (by omega)]; exact r1, by rw [tz_ti (by omega)]; exact r3, by rw [tz_ti (by omega), a], fun j => (tz_tk (by omega)).trans (rT j), rA⟩ (by rw [tz_tk (by omega)]; exact hl2) (by rw [tz_tk (by omega)]; exact h16)
          refine ⟨A', g', ?_, r', fr_tr (fr_s fr_rfl (by unfold nq_p; omega)) f'⟩
          have e39 : tz_g A 157 38 + tz_j 1 = tz_j (S 202 0 + 1 - y) := by
            rw [r38, nj_add, show S 202 0 - y + 1 = S 202 0 + 1 - y by omega]
          have ez : tz_j (T (S 202 0)) = tz_j v := by rw [← rT, z]
          rw [e_X12_listens_102]
          simp only [tz_lit, nj_m1, nj_m2, nj_m3, nj_m4, nj_m5, nj_m6, nj_m7, ↓reduceIte, tz_bI_some, tz_bV_some, tz_bL_some, cj10, cj01, cjm0, eq_self, not_true_eq_false, not_false_eq_true, or_false, false_or, or_true, true_or, or_self, and_true, true_and, and_false, false_and, n1, e38, n4, et, n5, c1, q171, ez, e39, a3]
          exact e
        · rw [if_neg z]
          obtain ⟨A', g', e, r', f'⟩ := ih (i + 1) (tz_j 0) (tz_t S 202 3 1) A (by omega) ⟨rn_A c (fun k i _ _ _ => tz_tk (by omega)) (fun _ _ _ _ _ => rfl), by rw [tz_ti (by omega)]; exact r38, by rw [tz_ti (by omega)]; exact ry, by rw [tz_ti (by omega)]; exact rn', by rw [tz_ti (by omega)]; exact r1, by rw [tz_t1]; omega, by rw [tz_t1], fun j => (tz_tk (by omega)).trans (rT j), rA⟩ (by rw [tz_tk (by omega)]; exact hl2) (by rw [tz_tk (by omega)]; exact h16)
          refine ⟨A', g', ?_, r', f'⟩
          have ez : (tz_j (T (S 202 0)) = tz_j v) = False := nj_eqf (by rw [← rT]; exact z) (hT2 _) (by omega)
          rw [e_X12_listens_102]
          simp only [tz_lit, nj_m1, nj_m2, nj_m3, nj_m4, nj_m5, nj_m6, nj_m7, ↓reduceIte, tz_bI_some, tz_bV_some, tz_bL_some, cj10, cj01, cjm0, eq_self, not_true_eq_false, not_false_eq_true, or_false, false_or, or_true, true_or, or_self, and_true, true_and, and_false, false_and, n1, e38, n4, et, n5, c1, q171, ez, a3]
          exact e
      · have n4 : (tz_j n ≤ tz_j (S 202 0)) = True := nj_let (by omega) (by omega)
        refine ⟨A, g, ?_, by rw [ni_stop _ _ (fun q => b q.2)]; exact r0, fr_rfl⟩
        rw [e_X12_listens_102 _ _ _ _ _ _ _ _ _ (tz_j i) A, e_X12_listens_102 _ _ _ _ _ _ _ _ _ (tz_j m) A]
        simp only [tz_lit, nj_m1, nj_m2, nj_m3, nj_m4, nj_m5, nj_m6, nj_m7, ↓reduceIte, tz_bI_some, tz_bV_some, tz_bL_some, cj10, cj01, cjm0, eq_self, not_true_eq_false, not_false_eq_true, or_false, false_or, or_true, true_or, or_self, and_true, true_and, and_false, false_and, n1, n2, eg, e38, n4, n5, c1]
    · have eg : g = tz_j 0 := by rw [rg, show S 202 3 = 1 by omega]
      refine ⟨A, g, ?_, by rw [ni_stop _ _ (fun q => a q.1)]; exact r0, fr_rfl⟩
      rw [e_X12_listens_102 _ _ _ _ _ _ _ _ _ (tz_j i) A, e_X12_listens_102 _ _ _ _ _ _ _ _ _ (tz_j m) A]
      simp only [tz_lit, nj_m1, nj_m2, nj_m3, nj_m4, nj_m5, nj_m6, nj_m7, ↓reduceIte, tz_bI_some, tz_bV_some, tz_bL_some, cj10, cj01, cjm0, eq_self, not_true_eq_false, not_false_eq_true, or_false, false_or, or_true, true_or, or_self, and_true, true_and, and_false, false_and, n1, n2, eg, n5, c1]
theorem n_ex {n y t s l h m u : Nat} {T : Nat → Nat} {A0 : tz_Mem} {g : Int32} {S : tz_S} {A : tz_Mem} (hm : m ≤ 11) (hl : l < S 15 0) (h12 : S 15 0 ≤ 12) (hh : h < 8) (h18 : S 18 l < 8) (r : rnn n y T A0 g S A) : ∃ A', q_X12_listens_102 (tz_j t) (tz_j u) (tz_j s) (tz_j n) (tz_j y) g (tz_j h) (tz_j l) (tz_j m) (tz_j m) A = tz_bI (f_X12_heaviest (tz_j (100 + t)) (tz_j 99) A') (fun y1 A1 => q_X12_listens_48 (tz_j t) (tz_j u) (tz_j s) (tz_j n) (tz_j y) g (tz_j h) y1 A1) ∧ rnn n y T A0 g (sp_fin l h S) A' ∧ tz_fr nq_p A A' := by
  have n2 : (tz_j m ≤ tz_j m) = True := nj_let (Nat.le_refl _) (by omega)
  have n5 := nj_ix8 (s := l) (n := 12) (by omega) (by omega)
  have c1 : (tz_j l).toNatClampNeg = l := nj_cl (by omega)
  have a3 : tz_j 100 + tz_j t = tz_j (100 + t) := nj_add
  have k18 : tz_g (tz_s A 175 l (tz_j h)) 173 l = tz_j (S 18 l) := by rw [tz_gsk (by omega), cn_173 r.1 hl]
  have ra := rnn_st (v := h) r (p := 175) (q := l) (k := 20) (i := l) (rel_L (k := 20) hl (by omega) (by omega)) (by omega)
  rw [e_X12_listens_102]
  unfold sp_fin
  by_cases q : S 18 l = h
  · rw [if_pos q]
    rw [q] at k18
    have rb := rnn_st (v := 200) ra (p := 175) (q := l) (k := 20) (i := l) (rel_L (k := 20) (by rw [tz_tk (by omega)]; exact hl) (by omega) (by omega)) (by omega)
    rw [tz_tt] at rb
    refine ⟨_, ?_, rnn_S rb (fun k i _ _ _ => tz_tk (by omega)) (fun k i _ => tz_tk (by omega)), fr_s (fr_s fr_rfl (by unfold nq_p; omega)) (by unfold nq_p; omega)⟩
    simp only [tz_lit, nj_m1, nj_m2, nj_m3, nj_m4, nj_m5, nj_m6, nj_m7, ↓reduceIte, tz_bI_some, tz_bV_some, tz_bL_some, cj10, cj01, cjm0, eq_self, not_true_eq_false, not_false_eq_true, or_false, false_or, or_true, true_or, or_self, and_true, true_and, and_false, false_and, n2, n5, c1, a3, k18]
  · rw [if_neg q]
    have n6 : (tz_j (S 18 l) = tz_j h) = False := nj_eqf q (by omega) (by omega)
    refine ⟨_, ?_, ra, fr_s fr_rfl (by unfold nq_p; omega)⟩
    simp only [tz_lit, nj_m1, nj_m2, nj_m3, nj_m4, nj_m5, nj_m6, nj_m7, ↓reduceIte, tz_bI_some, tz_bV_some, tz_bL_some, cj10, cj01, cjm0, eq_self, not_true_eq_false, not_false_eq_true, or_false, false_or, or_true, true_or, or_self, and_true, true_and, and_false, false_and, n2, n5, c1, a3, k18, n6]
theorem n_say {n y t s l h u : Nat} {T : Nat → Nat} {A0 : tz_Mem} {g : Int32} {S : tz_S} {A : tz_Mem} (hn : n ≤ 40) (hT : ∀ B : tz_Mem, B.2.2 = A0.2.2 → ∀ j, j < n → f_X12_told (tz_j s) (tz_j j) B = some (some (.int (tz_j (T j))), B)) (hT2 : ∀ j, T j < 4294967296) (r : rnn n y T A0 g S A) (W : sp_W1 S) (W2 : sp_W2 S) (h2 : S 200 0 = 2) (hu : S 202 2 = u) (hu8 : u < 8) (hl : l < S 15 0) (hh : h < S 1 0) : ∃ A' g', q_X12_listens_48 (tz_j t) (tz_j u) (tz_j s) (tz_j n) (tz_j y) g (tz_j h) (tz_j l) A = tz_bI (f_X12_heaviest (tz_j (100 + t)) (tz_j 99) A') (fun y1 A1 => q_X12_listens_48 (tz_j t) (tz_j u) (tz_j s) (tz_j n) (tz_j y) g' (tz_j h) y1 A1) ∧ rnn n y T A0 g' (sp_say l h S) A' ∧ tz_fr nq_p A A' := by
  have h8 := W.1
  have h12 := W.2.2.1
  have h99 := W.2.2.2.2.2.1 l hl
  have hwd := (W2.2.1 l hl).1
  have c := r.1
  have e1 := n_bec c W hh hwd
  have htm := tim_le (g := S 19 l) W hh
  have hbc := bec_le (S := S) (h := h) hwd
  have r1 : rnn n y T A0 g (tz_t S 16 l (sp_bec S h (S 16 l))) (tz_s A 171 l (tz_j (sp_bec S h (S 16 l)))) := rnn_st r (by unfold rm_rel; omega) (by omega)
  have f1 : tz_fr nq_p A (tz_s A 171 l (tz_j (sp_bec S h (S 16 l)))) := fr_s fr_rfl (by unfold nq_p; omega)
  have W1 : sp_W1 (tz_t S 16 l (sp_bec S h (S 16 l))) := sf_W1 (sf_t (by unfold sp_kp; omega)) W
  have e2 := n_tim (g := S 19 l) r1.1 W1 hh h99.2.2.2
  have et : sp_tim (tz_t S 16 l (sp_bec S h (S 16 l))) h (S 19 l) = sp_tim S h (S 19 l) := rfl
  rw [et] at e2
  unfold sp_say
  generalize hSS : tz_t S 16 l (sp_bec S h (S 16 l)) = S1 at r1 e2 ⊢
  have s16 : S1 16 l = sp_bec S h (S 16 l) := by rw [← hSS]; exact tz_t1
  generalize hbcg : sp_bec S h (S 16 l) = v at *
  generalize htmg : sp_tim S h (S 19 l) = m at *
  have s1 : ∀ k i, k ≠ 16 → S1 k i = S k i := fun k i hk => by rw [← hSS]; exact tz_tk hk
  have hg := (hr_get (h := h) (w := v) m S1).1
  have r2 : rnn n y T A0 g (sp_hr h v m S1) (tz_s A 171 l (tz_j v)) := rnn_S r1 (fun k i _ _ _ => hg k i (by omega) (by omega) (by omega)) (fun k i _ => hg k i (by omega) (by omega) (by omega))
  generalize hS2 : sp_hr h v m S1 = S2 at *
  have s2 : ∀ k i, k = 1 ∨ k = 7 ∨ k = 15 ∨ k = 18 ∨ k = 20 ∨ k = 200 ∨ k = 202 → S2 k i = S k i := fun k i hk => by rw [hg k i (by omega) (by omega) (by omega), s1 k i (by omega)]
  have k174 : tz_g (tz_s A 171 l (tz_j v)) 174 l = tz_j (S 19 l) := by rw [tz_gsk (by omega), cn_174 c hl]
  have q171 := cn_171 c hl
  have n5 := nj_ix8 (s := l) (n := 12) (by omega) (by omega)
  have c1 : (tz_j l).toNatClampNeg = l := nj_cl (by omega)
  have n6 : (tz_j l = tz_j 4294967295) = False := nj_eqf (by omega) (by omega) (by omega)
  have el : sp_lis l h v m S2 = if h = S2 202 2 then sp_ni v m S2 else S2 := by
    unfold sp_lis
    rw [if_neg (by rw [s2 200 0 (by omega)]; omega), if_pos (by rw [s2 200 0 (by omega)]; exact h2)]
  rw [el, s2 202 2 (by omega), hu]
  by_cases q : h = u
  · rw [if_pos q]
    obtain ⟨A2, g2, e3, r3, f3⟩ := n_niL (t := t) (s := s) (h := h) (u := u) hn hT hT2 htm (show v ≤ 9999 from hbc) (show l < 12 by omega) m 0 g S2 _ (Nat.zero_add _) r2 (by rw [s2 15 0 (by omega)]; exact hl) (by rw [hg 16 l (by omega) (by omega) (by omega)]; exact s16)
    have sn : ∀ k i, k = 15 ∨ k = 18 → sp_ni v m S2 k i = S k i := fun k i hk => by rw [ni_get m S2 k i (by omega), s2 k i (by omega)]
    obtain ⟨A3, e4, r4, f4⟩ := n_ex (t := t) (s := s) (u := u) (h := h) (l := l) htm (by rw [sn 15 0 (by omega)]; exact hl) (by rw [sn 15 0 (by omega)]; exact h12) (by omega) (by rw [sn 18 l (by omega)]; omega) r3
    refine ⟨A3, g2, ?_, r4, fr_tr f1 (fr_tr f3 f4)⟩
    rw [e_X12_listens_48]
    have n7 : (tz_j h = tz_j u) = True := nj_eqt q
    simp only [tz_lit, nj_m1, nj_m2, nj_m3, nj_m4, nj_m5, nj_m6, nj_m7, ↓reduceIte, tz_bI_some, tz_bV_some, tz_bL_some, cj10, cj01, cjm0, eq_self, not_true_eq_false, not_false_eq_true, or_false, false_or, or_true, true_or, or_self, and_true, true_and, and_false, false_and, n6, n5, c1, q171, e1, n7, k174, e2]
    exact e3.trans e4
  · rw [if_neg q]
    obtain ⟨A3, e4, r4, f4⟩ := n_ex (t := t) (s := s) (u := u) (h := h) (l := l) (m := 0) (by omega) (by rw [s2 15 0 (by omega)]; exact hl) (by rw [s2 15 0 (by omega)]; exact h12) (by omega) (by rw [s2 18 l (by omega)]; omega) r2
    refine ⟨A3, g, ?_, r4, fr_tr f1 f4⟩
    rw [e_X12_listens_48]
    have n7 : (tz_j h = tz_j u) = False := nj_eqf q (by omega) (by omega)
    simp only [tz_lit, nj_m1, nj_m2, nj_m3, nj_m4, nj_m5, nj_m6, nj_m7, ↓reduceIte, tz_bI_some, tz_bV_some, tz_bL_some, cj10, cj01, cjm0, eq_self, not_true_eq_false, not_false_eq_true, or_false, false_or, or_true, true_or, or_self, and_true, true_and, and_false, false_and, n6, n5, c1, q171, e1, n7]
    exact e4
theorem n_takeL {n y t h : Nat} {T : Nat → Nat} {A0 : tz_Mem} {g : Int32} (hg : g = tz_j 0 ∨ g = tz_j 1) : ∀ k i left S A, i + k = S 15 0 → left ≤ 9 → rnn n y T A0 g S A → sp_W1 S → sp_W2 S → sp_WE S → t < S 7 0 → h < S 1 0 → (∀ j, j < i → ¬ (S 20 (S 22 j) = h ∧ S 19 (S 22 j) ≤ S 9 t)) → ∃ A', tz_bI (f_X12_heaviest (tz_j h) (tz_j (S 9 t)) A) (fun y1 A1 => q_X12_listens_244 (tz_j t) g (tz_j h) y1 (tz_j left) A1) = some (some (.int g), A') ∧ rnn n y T A0 g (sp_take t h k i left S) A' ∧ tz_fr nq_p A A' := by
  have hgt : (g = tz_j 0 ∨ g = tz_j 1) = True := eq_true hg
  intro k
  induction k with
  | zero =>
    intro i left S A hi hle r W W2 WE ht hh hn
    have h8 := W.1
    have h4 := W.2.1
    have ht2 := W.2.2.2.2.1 t ht
    have e := n_hv0 r.1 W (show h < 1000 by omega) (show S 9 t ≤ 99 by omega) W2 (fun j hj => hn j (by omega))
    refine ⟨A, ?_, r, fr_rfl⟩
    rw [e, tz_bI_some, e_X12_listens_244]
    simp only [tz_lit, nj_m1, nj_m2, nj_m3, nj_m4, nj_m5, nj_m6, nj_m7, ↓reduceIte, tz_bI_some, tz_bV_some, tz_bL_some, cj10, cj01, cjm0, eq_self, not_true_eq_false, not_false_eq_true, or_false, false_or, or_true, true_or, or_self, and_true, true_and, and_false, false_and, hgt]
  | succ k ih =>
    intro i left S A hi hle r W W2 WE ht hh hn
    have c := r.1
    have h8 := W.1
    have h4 := W.2.1
    have h12 := W.2.2.1
    have ht2 := W.2.2.2.2.1 t ht
    have ho := W.2.2.2.2.2.2.1 i (by omega)
    show ∃ A', _ = some (some (Value.int g), A') ∧ rnn n y T A0 g (if left = 0 then S else if S 20 (S 22 i) = h ∧ S 19 (S 22 i) ≤ S 9 t then sp_take t h k (i + 1) (left - 1) (tz_t S 20 (S 22 i) (100 + t)) else sp_take t h k (i + 1) left S) A' ∧ _
    by_cases c0 : left = 0
    · rw [if_pos c0]
      obtain ⟨z, e, _⟩ := n_hvL c W (show h < 1000 by omega) (show S 9 t ≤ 99 by omega) W2 (S 15 0) 0 4294967295 (Nat.zero_add _) (Or.inl ⟨rfl, fun m hm => absurd hm (Nat.not_lt_zero m)⟩)
      have e2 : f_X12_heaviest (tz_j h) (tz_j (S 9 t)) A = q_X12_heaviest_5 (tz_j h) (tz_j (S 9 t)) (tz_j 4294967295) (tz_j 0) A := by
        rw [e_X12_heaviest, ← nj_m1]
        rfl
      refine ⟨A, ?_, r, fr_rfl⟩
      have n0 : (tz_j 0 ≤ tz_j 0) = True := nj_let (Nat.le_refl _) (by omega)
      rw [e2, e, tz_bI_some, e_X12_listens_244, c0]
      by_cases zz : tz_j z = tz_j 4294967295
      · simp only [tz_lit, nj_m1, nj_m2, nj_m3, nj_m4, nj_m5, nj_m6, nj_m7, ↓reduceIte, tz_bI_some, tz_bV_some, tz_bL_some, cj10, cj01, cjm0, eq_self, not_true_eq_false, not_false_eq_true, or_false, false_or, or_true, true_or, or_self, and_true, true_and, and_false, false_and, zz, hgt]
      · have z2 := eq_false zz
        simp only [tz_lit, nj_m1, nj_m2, nj_m3, nj_m4, nj_m5, nj_m6, nj_m7, ↓reduceIte, tz_bI_some, tz_bV_some, tz_bL_some, cj10, cj01, cjm0, eq_self, not_true_eq_false, not_false_eq_true, or_false, false_or, or_true, true_or, or_self, and_true, true_and, and_false, false_and, z2, n0, hgt]
    rw [if_neg c0]
    by_cases c1 : S 20 (S 22 i) = h ∧ S 19 (S 22 i) ≤ S 9 t
    · rw [if_pos c1, n_hv1 c W (show h < 1000 by omega) (show S 9 t ≤ 99 by omega) W2 (by omega) c1 hn, tz_bI_some, e_X12_listens_244]
      have f : sp_f S (tz_t S 20 (S 22 i) (100 + t)) := sf_t (by unfold sp_kp; omega)
      have ra := rnn_st (v := 100 + t) r (p := 175) (q := S 22 i) (k := 20) (i := S 22 i) (by unfold rm_rel; omega) (by omega)
      have k9 : tz_g (tz_s A 175 (S 22 i) (tz_j (100 + t))) 169 t = tz_j (S 9 t) := by rw [tz_gsk (by omega), cn_169 c ht]
      obtain ⟨A', e, r', f'⟩ := ih (i + 1) (left - 1) _ _ (by rw [f 15 0 (by unfold sp_kp; omega)]; omega) (by omega) ra (sf_W1 f W) (W2_20 W2 (by unfold sp_wh; omega) (by omega) (by omega)) (we_mv WE (fun k i _ _ => tz_tk (by omega))) (by rw [f 7 0 (by unfold sp_kp; omega)]; exact ht) (by rw [f 1 0 (by unfold sp_kp; omega)]; exact hh) (fun j hj => by
        have k22 : tz_t S 20 (S 22 i) (100 + t) 22 j = S 22 j := tz_tk (by omega)
        rw [k22, tz_tk (show (19 : Nat) ≠ 20 by omega), tz_tk (show (9 : Nat) ≠ 20 by omega), tz_ta]
        by_cases z : S 22 j = S 22 i
        · rw [if_pos ⟨rfl, z⟩]
          omega
        · rw [if_neg (fun y => z y.2)]
          by_cases y : j < i
          · exact hn j y
          · exact absurd (by rw [show j = i from by omega]) z)
      rw [f 9 t (by unfold sp_kp; omega)] at e
      refine ⟨A', ?_, r', fr_tr (fr_s fr_rfl (by unfold nq_p; omega)) f'⟩
      have n1 : (tz_j (S 22 i) = tz_j 4294967295) = False := nj_eqf (by omega) (by omega) (by omega)
      have n2 : (tz_j left ≤ tz_j 0) = False := nj_lef (by omega) (by omega)
      have n3 := nj_ix8 (s := S 22 i) (n := 12) (by omega) (by omega)
      have n4 := nj_ix8 (s := t) (n := 4) (by omega) (by omega)
      have d1 : (tz_j (S 22 i)).toNatClampNeg = S 22 i := nj_cl (by omega)
      have d2 : (tz_j t).toNatClampNeg = t := nj_cl (by omega)
      have a3 : tz_j 100 + tz_j t = tz_j (100 + t) := nj_add
      have a4 : tz_j left + tz_j 4294967295 = tz_j (left - 1) := nj_dec (by omega)
      simp only [tz_lit, nj_m1, nj_m2, nj_m3, nj_m4, nj_m5, nj_m6, nj_m7, ↓reduceIte, tz_bI_some, tz_bV_some, tz_bL_some, cj10, cj01, cjm0, eq_self, not_true_eq_false, not_false_eq_true, or_false, false_or, or_true, true_or, or_self, and_true, true_and, and_false, false_and, n1, n2, n3, n4, d1, d2, a3, a4, k9]
      exact e
    · rw [if_neg c1]
      exact ih (i + 1) left S A (by omega) hle r W W2 WE ht hh (fun j hj => by
        by_cases y : j < i
        · exact hn j y
        · rw [show j = i from by omega]
          exact c1)
theorem rnn_g {n y : Nat} {T : Nat → Nat} {A0 : tz_Mem} {g : Int32} {S : tz_S} {A : tz_Mem} (r : rnn n y T A0 g S A) : g = tz_j 0 ∨ g = tz_j 1 := by
  have h3 := r.2.2.2.2.2.1
  rw [r.2.2.2.2.2.2.1]
  by_cases z : S 202 3 = 0
  · rw [z]
    exact Or.inr rfl
  · rw [show S 202 3 = 1 by omega]
    exact Or.inl rfl
theorem n_sayL {n y t s h u : Nat} {T : Nat → Nat} {A0 : tz_Mem} (hn : n ≤ 40) (hT : ∀ B : tz_Mem, B.2.2 = A0.2.2 → ∀ j, j < n → f_X12_told (tz_j s) (tz_j j) B = some (some (.int (tz_j (T j))), B)) (hT2 : ∀ j, T j < 4294967296) (hu8 : u < 8) : ∀ k i g S A, i + k = S 15 0 → rnn n y T A0 g S A → sp_W1 S → sp_W2 S → sp_WE S → S 200 0 = 2 → S 202 2 = u → t < S 7 0 → h < S 1 0 → (∀ j, j < i → S 20 (S 22 j) ≠ 100 + t) → ∃ A' g', tz_bI (f_X12_heaviest (tz_j (100 + t)) (tz_j 99) A) (fun y2 A2 => q_X12_listens_48 (tz_j t) (tz_j u) (tz_j s) (tz_j n) (tz_j y) g (tz_j h) y2 A2) = some (some (.int g'), A') ∧ rnn n y T A0 g' (sp_take t h (S 15 0) 0 (S 10 t) (sp_sayL t h k i S)) A' ∧ tz_fr nq_p A A' := by
  intro k
  induction k with
  | zero =>
    intro i g S A hi r W W2 WE h2 hu ht hh hnn
    have c := r.1
    have h4 := W.2.1
    have ht2 := W.2.2.2.2.1 t ht
    have e := n_hv0 c W (show 100 + t < 1000 by omega) (Nat.le_refl 99) W2 (fun j hj z => hnn j (by omega) z.1)
    obtain ⟨A', e1, r', f'⟩ := n_takeL (h := h) (t := t) (rnn_g r) (S 15 0) 0 (S 10 t) S A (Nat.zero_add _) (by omega) r W W2 WE ht hh (fun j hj => absurd hj (Nat.not_lt_zero j))
    refine ⟨A', g, ?_, r', f'⟩
    have n4 := nj_ix8 (s := t) (n := 4) (by omega) (by omega)
    have d2 : (tz_j t).toNatClampNeg = t := nj_cl (by omega)
    rw [e, tz_bI_some, e_X12_listens_48]
    simp only [tz_lit, nj_m1, nj_m2, nj_m3, nj_m4, nj_m5, nj_m6, nj_m7, ↓reduceIte, tz_bI_some, tz_bV_some, tz_bL_some, cj10, cj01, cjm0, eq_self, not_true_eq_false, not_false_eq_true, or_false, false_or, or_true, true_or, or_self, and_true, true_and, and_false, false_and, n4, d2, cn_169 c ht, cn_170 c ht]
    exact e1
  | succ k ih =>
    intro i g S A hi r W W2 WE h2 hu ht hh hnn
    have c := r.1
    have h8 := W.1
    have h4 := W.2.1
    have h12 := W.2.2.1
    have ho := W.2.2.2.2.2.2.1 i (by omega)
    have hw := (W.2.2.2.2.2.1 (S 22 i) ho).2.2.2
    show ∃ A' g', _ = some (some (Value.int g'), A') ∧ rnn n y T A0 g' (sp_take t h (S 15 0) 0 (S 10 t) (sp_sayL t h k (i + 1) (if S 20 (S 22 i) = 100 + t then sp_say (S 22 i) h S else S))) A' ∧ _
    by_cases c1 : S 20 (S 22 i) = 100 + t
    · rw [if_pos c1, n_hv1 c W (show 100 + t < 1000 by omega) (Nat.le_refl 99) W2 (by omega) ⟨c1, hw⟩ (fun j hj z => hnn j hj z.1), tz_bI_some]
      obtain ⟨A1, g1, e1, r1, f1⟩ := n_say (t := t) hn hT hT2 r W W2 h2 hu hu8 ho hh
      have g := say_G W W2 WE ho hh (by omega)
      have sg := (say_get (l := S 22 i) (h := h) (S := S) (by omega))
      have k15 := g.1 15 0 (by unfold sp_kp; omega)
      obtain ⟨A', g', e, r', f'⟩ := ih (i + 1) g1 _ A1 (by rw [k15]; omega) r1 g.2.1 g.2.2.1 g.2.2.2.1 (by rw [g.1 200 0 (by unfold sp_kp; omega)]; exact h2) (by rw [g.1 202 2 (by unfold sp_kp; omega)]; exact hu) (by rw [g.1 7 0 (by unfold sp_kp; omega)]; exact ht) (by rw [g.1 1 0 (by unfold sp_kp; omega)]; exact hh) (fun j hj => by
        rw [g.1 22 j (by unfold sp_kp; omega)]
        by_cases z : S 22 j = S 22 i
        · rw [z, sg.2.2.1]
          split <;> omega
        · rw [sg.1 20 _ (by omega) (by omega) (by omega) (by omega) (by omega)]
          by_cases y : j < i
          · exact hnn j y
          · exact absurd (by rw [show j = i from by omega]) z)
      rw [k15, g.1 10 t (by unfold sp_kp; omega)] at r'
      exact ⟨A', g', e1.trans e, r', fr_tr f1 f'⟩
    · rw [if_neg c1]
      exact ih (i + 1) g S A (by omega) r W W2 WE h2 hu ht hh (fun j hj => by
        by_cases y : j < i
        · exact hnn j y
        · rw [show j = i from by omega]
          exact c1)
theorem n_listens {n t s u : Nat} {T : Nat → Nat} {A0 : tz_Mem} {S : tz_S} {A : tz_Mem} (hn : n ≤ 40) (hT : ∀ B : tz_Mem, B.2.2 = A0.2.2 → ∀ j, j < n → f_X12_told (tz_j s) (tz_j j) B = some (some (.int (tz_j (T j))), B)) (hT2 : ∀ j, T j < 4294967296) (c : rn_c S A) (rA : A.2.2 = A0.2.2) (W : sp_W1 S) (W2 : sp_W2 S) (WE : sp_WE S) (h2 : S 200 0 = 2) (hu : S 202 2 = u) (h1 : S 202 1 = n) (h3 : S 202 3 = 0) (h203 : ∀ j, S 203 j = T j) (ht : t < S 7 0) : ∃ A' g', f_X12_listens (tz_j t) (tz_j u) (tz_j s) (tz_j n) (tz_j (S 202 0)) A = some (some (.int g'), A') ∧ rnn n (S 202 0) T A0 g' (sp_com t S) A' ∧ tz_fr nq_p A A' := by
  have h4 := W.2.1
  have h12 := W.2.2.1
  have ht2 := W.2.2.2.2.1 t ht
  have hp := W2.1 t ht
  have wu8 := (WE.2.2.1 h2)
  have g := adv_G W W2 WE ht
  have ht1 : t < sp_adv t S 7 0 := ht
  have hh := at_lt g.2.1 g.2.2.1 ht1
  have em : (S 13 t + 1) % S 11 t = if S 13 t + 1 < S 11 t then S 13 t + 1 else 0 := by
    split
    · exact Nat.mod_eq_of_lt (by omega)
    · rw [show S 13 t + 1 = S 11 t from by omega, Nat.mod_self]
  have r0 : rnn n (S 202 0) T A0 (tz_j 1) S (tz_s A 157 38 (tz_j 0)) := ⟨rn_A c (fun _ _ _ _ _ => rfl) (fun p q k i hr => by rw [tz_gS, if_neg (by unfold rm_rel at hr; omega)]), by rw [tz_gs1, Nat.sub_self], Nat.le_refl _, by omega, h1, by omega, by rw [h3], h203, rA⟩
  have ra : rnn n (S 202 0) T A0 (tz_j 1) (sp_adv t S) (tz_s (tz_s A 157 38 (tz_j 0)) 167 t (tz_j (if S 13 t + 1 < S 11 t then S 13 t + 1 else 0))) := rnn_st r0 (by unfold rm_rel; omega) (by omega)
  have e2 := n_at ra.1 g.2.1 g.2.2.1 ht1
  obtain ⟨A', g', e, r', f'⟩ := n_sayL (s := s) (u := u) (h := sp_at (sp_adv t S) t) hn hT hT2 (by omega) (S 15 0) 0 (tz_j 1) (sp_adv t S) _ (Nat.zero_add _) ra g.2.1 g.2.2.1 g.2.2.2.1 ((g.1 200 0 (by unfold sp_kp; omega)).trans h2) ((g.1 202 2 (by unfold sp_kp; omega)).trans hu) ht1 hh (fun j hj => absurd hj (Nat.not_lt_zero j))
  refine ⟨A', g', ?_, r', fr_tr (fr_s (fr_s fr_rfl (by unfold nq_p; omega)) (by unfold nq_p; omega)) f'⟩
  have k165 : tz_g (tz_s A 157 38 (tz_j 0)) 165 t = tz_j (S 11 t) := cn_165 r0.1 ht
  have k167 : tz_g (tz_s A 157 38 (tz_j 0)) 167 t = tz_j (S 13 t) := cn_167 r0.1 ht
  have n4 := nj_ix8 (s := t) (n := 4) (by omega) (by omega)
  have d2 : (tz_j t).toNatClampNeg = t := nj_cl (by omega)
  have n6 : (tz_j (S 11 t) = tz_j 0) = False := nj_eqf (by omega) (by omega) (by omega)
  have ep : tz_j (S 13 t) + tz_j 1 - (tz_j (S 13 t) + tz_j 1) / tz_j (S 11 t) * tz_j (S 11 t) = tz_j (if S 13 t + 1 < S 11 t then S 13 t + 1 else 0) := by
    rw [nj_add, nj_mod (by omega) (by omega), em]
  have a3 : tz_j 100 + tz_j t = tz_j (100 + t) := nj_add
  rw [e_X12_listens]
  simp only [tz_lit, nj_m1, nj_m2, nj_m3, nj_m4, nj_m5, nj_m6, nj_m7, ↓reduceIte, tz_bI_some, tz_bV_some, tz_bL_some, cj10, cj01, cjm0, eq_self, not_true_eq_false, not_false_eq_true, or_false, false_or, or_true, true_or, or_self, and_true, true_and, and_false, false_and, n4, d2, k165, k167, n6, ep, e2, a3]
  exact e
/-- once it went wrong nothing more is told -/
theorem say_brk {l h i : Nat} {S : tz_S} (hh : h < 8) (h2 : S 200 0 = 2) (hb : S 202 3 ≠ 0) : sp_say l h S 202 i = S 202 i := by
  unfold sp_say
  rw [fin_get (Or.inl ⟨by omega, by omega⟩)]
  have hg := (hr_get (h := h) (w := sp_bec S h (S 16 l)) (sp_tim S h (S 19 l)) (tz_t S 16 l (sp_bec S h (S 16 l)))).1
  generalize sp_hr h (sp_bec S h (S 16 l)) (sp_tim S h (S 19 l)) (tz_t S 16 l (sp_bec S h (S 16 l))) = S2 at *
  have e : ∀ k i, k = 200 ∨ k = 202 → S2 k i = S k i := fun k i hk => (hg k i (by omega) (by omega) (by omega)).trans (tz_tk (by omega))
  unfold sp_lis
  rw [if_neg (by rw [e 200 0 (by omega)]; omega), if_pos (by rw [e 200 0 (by omega)]; exact h2)]
  split
  · rw [ni_stop _ _ (fun q => hb (by rw [← e 202 3 (by omega)]; exact q.1))]
    exact e 202 i (by omega)
  · exact e 202 i (by omega)
theorem sayL_brk {t h : Nat} (hh : h < 8) : ∀ k i S, S 200 0 = 2 → S 202 3 ≠ 0 → ∀ j, sp_sayL t h k i S 202 j = S 202 j := by
  intro k
  induction k with
  | zero => exact fun _ _ _ _ _ => rfl
  | succ k ih =>
    intro i S h2 hb j
    show sp_sayL t h k (i + 1) (if S 20 (S 22 i) = 100 + t then sp_say (S 22 i) h S else S) 202 j = _
    by_cases q : S 20 (S 22 i) = 100 + t
    · rw [if_pos q]
      have e : ∀ j, sp_say (S 22 i) h S 202 j = S 202 j := fun j => say_brk hh h2 hb
      exact (ih (i + 1) _ ((sf_say hh 200 0 (by unfold sp_kp; omega)).trans h2) (by rw [e]; exact hb) j).trans (e j)
    · rw [if_neg q]
      exact ih (i + 1) S h2 hb j
theorem take_brk {t h : Nat} : ∀ k i left S j, sp_take t h k i left S 202 j = S 202 j := by
  intro k
  induction k with
  | zero => exact fun _ _ _ _ => rfl
  | succ k ih =>
    intro i left S j
    show (if left = 0 then S else if S 20 (S 22 i) = h ∧ S 19 (S 22 i) ≤ S 9 t then sp_take t h k (i + 1) (left - 1) (tz_t S 20 (S 22 i) (100 + t)) else sp_take t h k (i + 1) left S) 202 j = _
    by_cases c0 : left = 0
    · rw [if_pos c0]
    rw [if_neg c0]
    by_cases c1 : S 20 (S 22 i) = h ∧ S 19 (S 22 i) ≤ S 9 t
    · rw [if_pos c1]
      exact (ih _ _ _ _).trans (tz_tk (by omega))
    · rw [if_neg c1]
      exact ih _ _ _ _
theorem com_brk {t j : Nat} {S : tz_S} (W : sp_W1 S) (W2 : sp_W2 S) (WE : sp_WE S) (ht : t < S 7 0) (h2 : S 200 0 = 2) (hb : S 202 3 ≠ 0) : sp_com t S 202 j = S 202 j := by
  have h8 := W.1
  have g := adv_G W W2 WE ht
  have hh := at_lt g.2.1 g.2.2.1 (show t < sp_adv t S 7 0 from ht)
  have e1 : sp_adv t S 1 0 = S 1 0 := rfl
  exact (take_brk _ _ _ _ _).trans (sayL_brk (by omega) _ _ (sp_adv t S) h2 hb j)
theorem tkL_brk : ∀ k t S, t + k = S 7 0 → sp_W1 S → sp_W2 S → sp_WE S → S 200 0 = 2 → S 202 3 ≠ 0 → ∀ j, sp_tkL k t S 202 j = S 202 j := by
  intro k
  induction k with
  | zero => exact fun _ _ _ _ _ _ _ _ _ => rfl
  | succ k ih =>
    intro t S ht W W2 WE h2 hb j
    show sp_tkL k (t + 1) (if S 0 3 % S 8 t = 0 ∧ t ≠ S 0 6 then sp_com t S else S) 202 j = _
    by_cases q : S 0 3 % S 8 t = 0 ∧ t ≠ S 0 6
    · rw [if_pos q]
      have g := com_G W W2 WE (show t < S 7 0 by omega)
      have e : ∀ j, sp_com t S 202 j = S 202 j := fun j => com_brk W W2 WE (by omega) h2 hb
      exact (ih (t + 1) _ (by rw [g.1 7 0 (by unfold sp_kp; omega)]; omega) g.2.1 g.2.2.1 g.2.2.2.1 ((g.1 200 0 (by unfold sp_kp; omega)).trans h2) (by rw [e]; exact hb) j).trans (e j)
    · rw [if_neg q]
      exact ih (t + 1) S (by omega) W W2 WE h2 hb j
theorem n_skip {c : Nat} {z1 z2 z3 z5 z7 : Int32} {A : tz_Mem} (hc : c ≤ 4) (q8 : tz_g A 157 8 = tz_j c) : ∀ k t, t + k = c → q_X12_night_123 z1 z2 z3 z5 (tz_j 0) z7 (tz_j t) A = q_X12_night_91 z1 z2 z3 z5 (tz_j 0) (z7 + tz_j 1) A := by
  intro k
  induction k with
  | zero =>
    intro t ht
    have n1 : (tz_j c ≤ tz_j t) = True := nj_let (by omega) (by omega)
    rw [e_X12_night_123]
    simp only [tz_lit, nj_m1, nj_m2, nj_m3, nj_m4, nj_m5, nj_m6, nj_m7, ↓reduceIte, tz_bI_some, tz_bV_some, tz_bL_some, cj10, cj01, cjm0, eq_self, not_true_eq_false, not_false_eq_true, or_false, false_or, or_true, true_or, or_self, and_true, true_and, and_false, false_and, q8, n1]
  | succ k ih =>
    intro t ht
    have n1 : (tz_j c ≤ tz_j t) = False := nj_lef (by omega) (by omega)
    have a3 : tz_j t + tz_j 1 = tz_j (t + 1) := nj_add
    rw [e_X12_night_123]
    simp only [tz_lit, nj_m1, nj_m2, nj_m3, nj_m4, nj_m5, nj_m6, nj_m7, ↓reduceIte, tz_bI_some, tz_bV_some, tz_bL_some, cj10, cj01, cjm0, eq_self, not_true_eq_false, not_false_eq_true, or_false, false_or, or_true, true_or, or_self, and_true, true_and, and_false, false_and, q8, n1, a3]
    exact ih (t + 1) (by omega)
theorem n_hrL {n s u i : Nat} {T : Nat → Nat} {A0 : tz_Mem} (hn : n ≤ 40) (hT : ∀ B : tz_Mem, B.2.2 = A0.2.2 → ∀ j, j < n → f_X12_told (tz_j s) (tz_j j) B = some (some (.int (tz_j (T j))), B)) (hT2 : ∀ j, T j < 4294967296) : ∀ k t S A, t + k = S 7 0 → (S 202 3 = 0 → rn_c S A) → tz_g A 157 8 = tz_j (S 7 0) → A.2.2 = A0.2.2 → sp_W1 S → sp_W2 S → sp_WE S → S 200 0 = 2 → S 202 2 = u → S 202 1 = n → (∀ j, S 203 j = T j) → S 0 6 = 4294967295 → S 0 3 < 2147483648 → ∃ A', q_X12_night_123 (tz_j u) (tz_j s) (tz_j n) (tz_j (S 202 0)) (tz_j (1 - S 202 3)) (tz_j i) (tz_j t) A = q_X12_night_91 (tz_j u) (tz_j s) (tz_j n) (tz_j (sp_tkL k t S 202 0)) (tz_j (1 - sp_tkL k t S 202 3)) (tz_j (i + 1)) A' ∧ (sp_tkL k t S 202 3 = 0 → rn_c (sp_tkL k t S) A') ∧ tz_fr nq_p A A' := by
  intro k
  induction k with
  | zero =>
    intro t S A ht c q8 rA W W2 WE h2 hu h1 h203 h6 hr3
    have h4 := W.2.1
    have n1 : (tz_j (S 7 0) ≤ tz_j t) = True := nj_let (by omega) (by omega)
    have a3 : tz_j i + tz_j 1 = tz_j (i + 1) := nj_add
    refine ⟨A, ?_, c, fr_rfl⟩
    rw [e_X12_night_123]
    simp only [tz_lit, nj_m1, nj_m2, nj_m3, nj_m4, nj_m5, nj_m6, nj_m7, ↓reduceIte, tz_bI_some, tz_bV_some, tz_bL_some, cj10, cj01, cjm0, eq_self, not_true_eq_false, not_false_eq_true, or_false, false_or, or_true, true_or, or_self, and_true, true_and, and_false, false_and, q8, n1, a3]
    rfl
  | succ k ih =>
    intro t S A ht c q8 rA W W2 WE h2 hu h1 h203 h6 hr3
    have h4 := W.2.1
    have we := WE.2.2.1 h2
    by_cases hb : S 202 3 = 0
    · have c' := c hb
      have ht0 : t < S 7 0 := by omega
      have ht2 := W.2.2.2.2.1 t ht0
      have n1 : (tz_j (S 7 0) ≤ tz_j t) = False := nj_lef (by omega) (by omega)
      have a3 : tz_j t + tz_j 1 = tz_j (t + 1) := nj_add
      have n4 := nj_ix8 (s := t) (n := 4) (by omega) (by omega)
      have d2 : (tz_j t).toNatClampNeg = t := nj_cl (by omega)
      have k168 := cn_168 c' ht0
      have k22 := cn_22 c'
      have n6 : (tz_j (S 8 t) = tz_j 0) = False := nj_eqf (by omega) (by omega) (by omega)
      have ep : tz_j (S 0 3) - tz_j (S 0 3) / tz_j (S 8 t) * tz_j (S 8 t) = tz_j (S 0 3 % S 8 t) := nj_mod hr3 (by omega)
      have hm : S 0 3 % S 8 t < 9 := by
        have := Nat.mod_lt (S 0 3) (show 0 < S 8 t by omega)
        omega
      show ∃ A', _ = q_X12_night_91 (tz_j u) (tz_j s) (tz_j n) (tz_j (sp_tkL k (t + 1) (if S 0 3 % S 8 t = 0 ∧ t ≠ S 0 6 then sp_com t S else S) 202 0)) (tz_j (1 - sp_tkL k (t + 1) (if S 0 3 % S 8 t = 0 ∧ t ≠ S 0 6 then sp_com t S else S) 202 3)) (tz_j (i + 1)) A' ∧ (sp_tkL k (t + 1) (if S 0 3 % S 8 t = 0 ∧ t ≠ S 0 6 then sp_com t S else S) 202 3 = 0 → rn_c (sp_tkL k (t + 1) (if S 0 3 % S 8 t = 0 ∧ t ≠ S 0 6 then sp_com t S else S)) A') ∧ tz_fr nq_p A A'
      have e1 : tz_j (1 - S 202 3) = tz_j 1 := by rw [hb]
      by_cases q : S 0 3 % S 8 t = 0
      · rw [if_pos ⟨q, by omega⟩]
        obtain ⟨A1, g1, e, r, f⟩ := n_listens (s := s) hn hT hT2 c' rA W W2 WE h2 hu h1 hb h203 ht0
        have g := com_G W W2 WE ht0
        have k7 := g.1 7 0 (by unfold sp_kp; omega)
        obtain ⟨rc, r38, ry, rn', r1, r3, rg, rT, rA1⟩ := r
        obtain ⟨A', e', c2, f'⟩ := ih (t + 1) (sp_com t S) A1 (by rw [k7]; omega) (fun _ => rc) (cn_8 rc) rA1 g.2.1 g.2.2.1 g.2.2.2.1 ((g.1 200 0 (by unfold sp_kp; omega)).trans h2) ((g.1 202 2 (by unfold sp_kp; omega)).trans hu) r1 rT ((g.1 0 6 (by unfold sp_kp; omega)).trans h6) (by rw [g.1 0 3 (by unfold sp_kp; omega)]; exact hr3)
        refine ⟨A', ?_, c2, fr_tr f f'⟩
        rw [q] at ep
        have e38 : tz_j (S 202 0) + tz_g A1 157 38 = tz_j (sp_com t S 202 0) := by
          rw [r38, nj_add, Nat.add_sub_cancel' ry]
        rw [e_X12_night_123]
        simp only [tz_lit, nj_m1, nj_m2, nj_m3, nj_m4, nj_m5, nj_m6, nj_m7, ↓reduceIte, tz_bI_some, tz_bV_some, tz_bL_some, cj10, cj01, cjm0, eq_self, not_true_eq_false, not_false_eq_true, or_false, false_or, or_true, true_or, or_self, and_true, true_and, and_false, false_and, q8, n1, e1, n4, d2, k168, k22, n6, ep, e, e38, a3, rg]
        exact e'
      · rw [if_neg (fun z => q z.1)]
        obtain ⟨A', e', c2, f'⟩ := ih (t + 1) S A (by omega) c q8 rA W W2 WE h2 hu h1 h203 h6 hr3
        refine ⟨A', ?_, c2, f'⟩
        have n7 : (tz_j (S 0 3 % S 8 t) = tz_j 0) = False := nj_eqf q (by omega) (by omega)
        rw [e1] at e'
        rw [e_X12_night_123]
        simp only [tz_lit, nj_m1, nj_m2, nj_m3, nj_m4, nj_m5, nj_m6, nj_m7, ↓reduceIte, tz_bI_some, tz_bV_some, tz_bL_some, cj10, cj01, cjm0, eq_self, not_true_eq_false, not_false_eq_true, or_false, false_or, or_true, true_or, or_self, and_true, true_and, and_false, false_and, q8, n1, e1, n4, d2, k168, k22, n6, ep, n7, a3]
        exact e'
    · have e0 := tkL_brk (k + 1) t S ht W W2 WE h2 hb
      refine ⟨A, ?_, fun z => absurd (by rw [← e0]; exact z) hb, fr_rfl⟩
      rw [e0, e0, show 1 - S 202 3 = 0 by omega, n_skip (by omega) q8 (k + 1) t ht, nj_add]
def sp_ng : Nat → tz_S → tz_S
  | 0, S => S
  | k + 1, S => if S 202 3 = 0 ∧ S 202 0 < S 202 1 then sp_ng k (sp_tk S) else S
theorem n_ngL {n s u : Nat} {T : Nat → Nat} {A0 : tz_Mem} (hn : n ≤ 40) (hT : ∀ B : tz_Mem, B.2.2 = A0.2.2 → ∀ j, j < n → f_X12_told (tz_j s) (tz_j j) B = some (some (.int (tz_j (T j))), B)) (hT2 : ∀ j, T j < 4294967296) : ∀ k i N S A, i + k = 500 → N + k ≤ 2000000 → (S 202 3 = 0 → rn_c S A) → A.2.2 = A0.2.2 → sp_H N S → S 200 0 = 2 → S 202 2 = u → S 202 1 = n → (∀ j, S 203 j = T j) → S 0 6 = 4294967295 → ∃ B, q_X12_night_91 (tz_j u) (tz_j s) (tz_j n) (tz_j (S 202 0)) (tz_j (1 - S 202 3)) (tz_j i) A = tz_bV (f_X12_again_s181 B) (fun A1 => some (some (.int (if sp_ng k S 202 0 < n then tz_j (sp_ng k S 202 0) else tz_j 4294967295)), A1)) ∧ tz_fr nq_p A B := by
  have fin : ∀ (a : Nat) (A : tz_Mem), a ≤ n → (tz_bV (f_X12_again_s181 A) (fun A1 => if tz_j a < tz_j n then some (some (.int (tz_j a)), A1) else some (some (.int (tz_j 4294967295)), A1)) : tz_X) = tz_bV (f_X12_again_s181 A) (fun A1 => some (some (.int (if a < n then tz_j a else tz_j 4294967295)), A1)) := by
    intro a A ha
    by_cases z : a < n
    · have n1 : (tz_j a < tz_j n) = True := nj_ltt z (by omega)
      simp only [tz_lit, nj_m1, nj_m2, nj_m3, nj_m4, nj_m5, nj_m6, nj_m7, ↓reduceIte, tz_bI_some, tz_bV_some, tz_bL_some, cj10, cj01, cjm0, eq_self, not_true_eq_false, not_false_eq_true, or_false, false_or, or_true, true_or, or_self, and_true, true_and, and_false, false_and, n1, if_pos z]
    · have n1 : (tz_j a < tz_j n) = False := nj_ltf (by omega) (by omega)
      simp only [tz_lit, nj_m1, nj_m2, nj_m3, nj_m4, nj_m5, nj_m6, nj_m7, ↓reduceIte, tz_bI_some, tz_bV_some, tz_bL_some, cj10, cj01, cjm0, eq_self, not_true_eq_false, not_false_eq_true, or_false, false_or, or_true, true_or, or_self, and_true, true_and, and_false, false_and, n1, if_neg z]
  intro k
  induction k with
  | zero =>
    intro i N S A hi hN c rA H h2 hu h1 h203 h6
    have we := H.2.2.1.2.2.1 h2
    obtain rfl : i = 500 := by omega
    have n1 : (tz_j 500 ≤ tz_j 500) = True := nj_let (by omega) (by omega)
    refine ⟨A, ?_, fr_rfl⟩
    rw [e_X12_night_91]
    simp only [tz_lit, nj_m1, nj_m2, nj_m3, nj_m4, nj_m5, nj_m6, nj_m7, ↓reduceIte, tz_bI_some, tz_bV_some, tz_bL_some, cj10, cj01, cjm0, eq_self, not_true_eq_false, not_false_eq_true, or_false, false_or, or_true, true_or, or_self, and_true, true_and, and_false, false_and, n1]
    exact fin (S 202 0) A (by omega)
  | succ k ih =>
    intro i N S A hi hN c rA H h2 hu h1 h203 h6
    have we := H.2.2.1.2.2.1 h2
    have h4 := H.1.2.1
    have hr3 := H.2.2.2.1
    have n1 : (tz_j 500 ≤ tz_j i) = False := nj_lef (by omega) (by omega)
    have es : sp_ng (k + 1) S = if S 202 3 = 0 ∧ S 202 0 < S 202 1 then sp_ng k (sp_tk S) else S := rfl
    rw [es, e_X12_night_91]
    by_cases a : S 202 0 < S 202 1
    · have n2 : (tz_j n ≤ tz_j (S 202 0)) = False := nj_lef (by omega) (by omega)
      by_cases b : S 202 3 = 0
      · rw [if_pos (c := S 202 3 = 0 ∧ S 202 0 < S 202 1) ⟨b, a⟩]
        have e1 : tz_j (1 - S 202 3) = tz_j 1 := by rw [b]
        obtain ⟨w1, w2, w3⟩ := tk0 H.1 H.2.1 H.2.2.1
        have k22 := cn_22 (c b)
        have a3 : tz_j (S 0 3) + tz_j 1 = tz_j (S 0 3 + 1) := nj_add
        have c1 : rn_c (tz_t S 0 3 (S 0 3 + 1)) (tz_s A 157 22 (tz_j (S 0 3 + 1))) := rn_s (c b) (by unfold rm_rel; omega) (by omega)
        obtain ⟨A1, e, c2, f⟩ := n_hrL (i := i) hn hT hT2 (S 7 0) 0 (tz_t S 0 3 (S 0 3 + 1)) _ (Nat.zero_add _) (fun _ => c1) (cn_8 c1) rA w1 w2 w3 h2 hu h1 h203 h6 (by rw [tz_t1]; omega)
        obtain ⟨g1, g2, g3⟩ := tk_G H
        obtain ⟨B, e', f'⟩ := ih (i + 1) (N + 1) (sp_tk S) A1 (by omega) (by omega) c2 (f.2.1.trans rA) g1 ((g3 200 0 (by unfold sp_kp; omega) (by omega)).trans h2) ((g3 202 2 (by unfold sp_kp; omega) (by omega)).trans hu) ((g3 202 1 (by unfold sp_kp; omega) (by omega)).trans h1) (fun j => (g3 203 j (by unfold sp_kp; omega) (by omega)).trans (h203 j)) ((g3 0 6 (by unfold sp_kp; omega) (by omega)).trans h6)
        refine ⟨B, ?_, fr_tr (fr_s fr_rfl (by unfold nq_p; omega)) (fr_tr f f')⟩
        have e5 : tz_t S 0 3 (S 0 3 + 1) 202 0 = S 202 0 := tz_tk (by omega)
        have e6 : tz_t S 0 3 (S 0 3 + 1) 202 3 = S 202 3 := tz_tk (by omega)
        rw [e5, e6, e1] at e
        simp only [tz_lit, nj_m1, nj_m2, nj_m3, nj_m4, nj_m5, nj_m6, nj_m7, ↓reduceIte, tz_bI_some, tz_bV_some, tz_bL_some, cj10, cj01, cjm0, eq_self, not_true_eq_false, not_false_eq_true, or_false, false_or, or_true, true_or, or_self, and_true, true_and, and_false, false_and, n1, n2, e1, k22, a3]
        exact e.trans e'
      · rw [if_neg (c := S 202 3 = 0 ∧ S 202 0 < S 202 1) (fun z => b z.1)]
        refine ⟨A, ?_, fr_rfl⟩
        have e1 : tz_j (1 - S 202 3) = tz_j 0 := by rw [show 1 - S 202 3 = 0 by omega]
        simp only [tz_lit, nj_m1, nj_m2, nj_m3, nj_m4, nj_m5, nj_m6, nj_m7, ↓reduceIte, tz_bI_some, tz_bV_some, tz_bL_some, cj10, cj01, cjm0, eq_self, not_true_eq_false, not_false_eq_true, or_false, false_or, or_true, true_or, or_self, and_true, true_and, and_false, false_and, n1, n2, e1]
        exact fin (S 202 0) A (by omega)
    · rw [if_neg (c := S 202 3 = 0 ∧ S 202 0 < S 202 1) (fun z => a z.2)]
      have n2 : (tz_j n ≤ tz_j (S 202 0)) = True := nj_let (by omega) (by omega)
      refine ⟨A, ?_, fr_rfl⟩
      simp only [tz_lit, nj_m1, nj_m2, nj_m3, nj_m4, nj_m5, nj_m6, nj_m7, ↓reduceIte, tz_bI_some, tz_bV_some, tz_bL_some, cj10, cj01, cjm0, eq_self, not_true_eq_false, not_false_eq_true, or_false, false_or, or_true, true_or, or_self, and_true, true_and, and_false, false_and, n1, n2]
      exact fin (S 202 0) A (by omega)
