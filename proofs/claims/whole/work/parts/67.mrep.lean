/-! what the model's memory is to the sky as numbers -/
def rm_way (S : tz_S) (i : Nat) : Prop := ∃ t j, t < S 7 0 ∧ j < S 11 t ∧ i = 6 * t + j
def rm_rel (S : tz_S) (p q k i : Nat) : Prop := (p = 157 ∧ i = 0 ∧ ((q = 3 ∧ k = 1) ∨ (q = 8 ∧ k = 7) ∨ (q = 15 ∧ k = 15))) ∨ (p = 157 ∧ k = 0 ∧ ((q = 25 ∧ i = 0) ∨ (q = 22 ∧ i = 3) ∨ (q = 23 ∧ i = 4) ∨ (q = 24 ∧ i = 5)))
  ∨ (q = i ∧ i < S 1 0 ∧ ((p = 161 ∧ k = 2) ∨ (p = 162 ∧ k = 3)))
  ∨ (q = i ∧ i < S 7 0 ∧ ((p = 168 ∧ k = 8) ∨ (p = 169 ∧ k = 9) ∨ (p = 170 ∧ k = 10) ∨ (p = 165 ∧ k = 11) ∨ (p = 167 ∧ k = 13)))
  ∨ (q = i ∧ p = 166 ∧ k = 12 ∧ rm_way S i)
  ∨ (q = i ∧ i < S 15 0 ∧ p = k + 155 ∧ 16 ≤ k ∧ k ≤ 21)
def rm_c (S : tz_S) (A : tz_Mem) : Prop := ∀ p q k i, rm_rel S p q k i → tz_g A p q = tz_j (S k i)
def sp_kept (S : tz_S) (h : Nat) : Nat := if S 5 h < 8 then S 5 h else 8
def rm_w (S : tz_S) (A : tz_Mem) : Prop := ∀ h, h < S 1 0 → tz_g A 163 h = tz_j (sp_kept S h) ∧ ∀ i, i < sp_kept S h → tz_g A 164 (8 * h + i) = tz_j (S (100 + h) (S 5 h - sp_kept S h + i))
def rm_o (D : Nat → Int32) (S : tz_S) (A : tz_Mem) : Prop := ∀ h, h < 8 → tz_g A 182 h = D h + tz_j (S 5 h)
def rm_s (S : tz_S) (A : tz_Mem) : Prop := ∀ t, t < 4 → (tz_g A 157 34).toBitVec.getLsbD t = decide (t = S 0 6)
def rm_e (S : tz_S) (A : tz_Mem) : Prop := (S 200 0 = 1 → tz_g A 157 36 = tz_j (S 201 1) ∧ tz_g A 157 37 = tz_j (S 201 0)) ∧ (S 200 0 ≠ 1 → tz_g A 157 36 = tz_j 4294967295)
def rm (D : Nat → Int32) (S : tz_S) (A : tz_Mem) : Prop := rm_c S A ∧ rm_w S A ∧ rm_o D S A ∧ rm_s S A ∧ rm_e S A
def mo_p (k i : Nat) : Prop := (k = 157 ∧ (i = 3 ∨ i = 8 ∨ i = 15 ∨ (22 ≤ i ∧ i ≤ 25) ∨ (36 ≤ i ∧ i ≤ 38))) ∨ (161 ≤ k ∧ k ≤ 176) ∨ k = 182

theorem cm_3 {S : tz_S} {A : tz_Mem} (h : rm_c S A) : tz_g A 157 3 = tz_j (S 1 0) := h 157 3 1 0 (Or.inl ⟨rfl, rfl, Or.inl ⟨rfl, rfl⟩⟩)
theorem cm_8 {S : tz_S} {A : tz_Mem} (h : rm_c S A) : tz_g A 157 8 = tz_j (S 7 0) := h 157 8 7 0 (Or.inl ⟨rfl, rfl, Or.inr (Or.inl ⟨rfl, rfl⟩)⟩)
theorem cm_15 {S : tz_S} {A : tz_Mem} (h : rm_c S A) : tz_g A 157 15 = tz_j (S 15 0) := h 157 15 15 0 (Or.inl ⟨rfl, rfl, Or.inr (Or.inr ⟨rfl, rfl⟩)⟩)
theorem cm_25 {S : tz_S} {A : tz_Mem} (h : rm_c S A) : tz_g A 157 25 = tz_j (S 0 0) := h 157 25 0 0 (Or.inr (Or.inl ⟨rfl, rfl, Or.inl ⟨rfl, rfl⟩⟩))
theorem cm_22 {S : tz_S} {A : tz_Mem} (h : rm_c S A) : tz_g A 157 22 = tz_j (S 0 3) := h 157 22 0 3 (Or.inr (Or.inl ⟨rfl, rfl, Or.inr (Or.inl ⟨rfl, rfl⟩)⟩))
theorem cm_23 {S : tz_S} {A : tz_Mem} (h : rm_c S A) : tz_g A 157 23 = tz_j (S 0 4) := h 157 23 0 4 (Or.inr (Or.inl ⟨rfl, rfl, Or.inr (Or.inr (Or.inl ⟨rfl, rfl⟩))⟩))
theorem cm_24 {S : tz_S} {A : tz_Mem} (h : rm_c S A) : tz_g A 157 24 = tz_j (S 0 5) := h 157 24 0 5 (Or.inr (Or.inl ⟨rfl, rfl, Or.inr (Or.inr (Or.inr ⟨rfl, rfl⟩))⟩))
theorem cm_161 {S : tz_S} {A : tz_Mem} (h : rm_c S A) {i : Nat} (hi : i < S 1 0) : tz_g A 161 i = tz_j (S 2 i) := h 161 i 2 i (Or.inr (Or.inr (Or.inl ⟨rfl, hi, Or.inl ⟨rfl, rfl⟩⟩)))
theorem cm_162 {S : tz_S} {A : tz_Mem} (h : rm_c S A) {i : Nat} (hi : i < S 1 0) : tz_g A 162 i = tz_j (S 3 i) := h 162 i 3 i (Or.inr (Or.inr (Or.inl ⟨rfl, hi, Or.inr ⟨rfl, rfl⟩⟩)))
theorem cm_168 {S : tz_S} {A : tz_Mem} (h : rm_c S A) {i : Nat} (hi : i < S 7 0) : tz_g A 168 i = tz_j (S 8 i) := h 168 i 8 i (Or.inr (Or.inr (Or.inr (Or.inl ⟨rfl, hi, Or.inl ⟨rfl, rfl⟩⟩))))
theorem cm_169 {S : tz_S} {A : tz_Mem} (h : rm_c S A) {i : Nat} (hi : i < S 7 0) : tz_g A 169 i = tz_j (S 9 i) := h 169 i 9 i (Or.inr (Or.inr (Or.inr (Or.inl ⟨rfl, hi, Or.inr (Or.inl ⟨rfl, rfl⟩)⟩))))
theorem cm_170 {S : tz_S} {A : tz_Mem} (h : rm_c S A) {i : Nat} (hi : i < S 7 0) : tz_g A 170 i = tz_j (S 10 i) := h 170 i 10 i (Or.inr (Or.inr (Or.inr (Or.inl ⟨rfl, hi, Or.inr (Or.inr (Or.inl ⟨rfl, rfl⟩))⟩))))
theorem cm_165 {S : tz_S} {A : tz_Mem} (h : rm_c S A) {i : Nat} (hi : i < S 7 0) : tz_g A 165 i = tz_j (S 11 i) := h 165 i 11 i (Or.inr (Or.inr (Or.inr (Or.inl ⟨rfl, hi, Or.inr (Or.inr (Or.inr (Or.inl ⟨rfl, rfl⟩)))⟩))))
theorem cm_167 {S : tz_S} {A : tz_Mem} (h : rm_c S A) {i : Nat} (hi : i < S 7 0) : tz_g A 167 i = tz_j (S 13 i) := h 167 i 13 i (Or.inr (Or.inr (Or.inr (Or.inl ⟨rfl, hi, Or.inr (Or.inr (Or.inr (Or.inr ⟨rfl, rfl⟩)))⟩))))
theorem cm_171 {S : tz_S} {A : tz_Mem} (h : rm_c S A) {i : Nat} (hi : i < S 15 0) : tz_g A 171 i = tz_j (S 16 i) := h 171 i 16 i (Or.inr (Or.inr (Or.inr (Or.inr (Or.inr ⟨rfl, hi, rfl, by omega, by omega⟩)))))
theorem cm_172 {S : tz_S} {A : tz_Mem} (h : rm_c S A) {i : Nat} (hi : i < S 15 0) : tz_g A 172 i = tz_j (S 17 i) := h 172 i 17 i (Or.inr (Or.inr (Or.inr (Or.inr (Or.inr ⟨rfl, hi, rfl, by omega, by omega⟩)))))
theorem cm_173 {S : tz_S} {A : tz_Mem} (h : rm_c S A) {i : Nat} (hi : i < S 15 0) : tz_g A 173 i = tz_j (S 18 i) := h 173 i 18 i (Or.inr (Or.inr (Or.inr (Or.inr (Or.inr ⟨rfl, hi, rfl, by omega, by omega⟩)))))
theorem cm_174 {S : tz_S} {A : tz_Mem} (h : rm_c S A) {i : Nat} (hi : i < S 15 0) : tz_g A 174 i = tz_j (S 19 i) := h 174 i 19 i (Or.inr (Or.inr (Or.inr (Or.inr (Or.inr ⟨rfl, hi, rfl, by omega, by omega⟩)))))
theorem cm_175 {S : tz_S} {A : tz_Mem} (h : rm_c S A) {i : Nat} (hi : i < S 15 0) : tz_g A 175 i = tz_j (S 20 i) := h 175 i 20 i (Or.inr (Or.inr (Or.inr (Or.inr (Or.inr ⟨rfl, hi, rfl, by omega, by omega⟩)))))
theorem cm_176 {S : tz_S} {A : tz_Mem} (h : rm_c S A) {i : Nat} (hi : i < S 15 0) : tz_g A 176 i = tz_j (S 21 i) := h 176 i 21 i (Or.inr (Or.inr (Or.inr (Or.inr (Or.inr ⟨rfl, hi, rfl, by omega, by omega⟩)))))
theorem cm_166 {S : tz_S} {A : tz_Mem} (h : rm_c S A) {t j : Nat} (ht : t < S 7 0) (hj : j < S 11 t) : tz_g A 166 (6 * t + j) = tz_j (S 12 (6 * t + j)) := h 166 (6 * t + j) 12 (6 * t + j) (Or.inr (Or.inr (Or.inr (Or.inr (Or.inl ⟨rfl, rfl, rfl, t, j, ht, hj, rfl⟩)))))
theorem rel_mv {S S' : tz_S} (e1 : S' 1 0 = S 1 0) (e7 : S' 7 0 = S 7 0) (e15 : S' 15 0 = S 15 0) (e11 : ∀ t, t < S 7 0 → S' 11 t = S 11 t) {p q k i : Nat} (h : rm_rel S' p q k i) : rm_rel S p q k i := by
  unfold rm_rel at h ⊢
  rw [e1, e7, e15] at h
  rcases h with h | h | h | h | h | h
  · exact Or.inl h
  · exact Or.inr (Or.inl h)
  · exact Or.inr (Or.inr (Or.inl h))
  · exact Or.inr (Or.inr (Or.inr (Or.inl h)))
  · refine Or.inr (Or.inr (Or.inr (Or.inr (Or.inl ⟨h.1, h.2.1, h.2.2.1, ?_⟩))))
    obtain ⟨t, j, ht, hj, e⟩ := h.2.2.2
    rw [e7] at ht
    rw [e11 t ht] at hj
    exact ⟨t, j, ht, hj, e⟩
  · exact Or.inr (Or.inr (Or.inr (Or.inr (Or.inr h))))
theorem rm_c_mv {S S' : tz_S} {A A' : tz_Mem} (h : rm_c S A) (e1 : S' 1 0 = S 1 0) (e7 : S' 7 0 = S 7 0) (e15 : S' 15 0 = S 15 0) (e11 : ∀ t, t < S 7 0 → S' 11 t = S 11 t) (e : ∀ p q k i, rm_rel S p q k i → tz_g A' p q = tz_j (S k i) → tz_g A' p q = tz_j (S' k i)) (eA : ∀ p q k i, rm_rel S p q k i → S' k i = S k i → tz_g A' p q = tz_g A p q) (eN : ∀ p q k i, rm_rel S p q k i → S' k i ≠ S k i → tz_g A' p q = tz_j (S' k i)) : rm_c S' A' := by
  intro p q k i hr
  have hr2 := rel_mv e1 e7 e15 e11 hr
  by_cases z : S' k i = S k i
  · rw [eA p q k i hr2 z, z]
    exact h p q k i hr2
  · exact eN p q k i hr2 z
/-- one cell -/
theorem rm_c_s {S : tz_S} {A : tz_Mem} {p q k i v : Nat} (h : rm_c S A) (hr : ∀ i', i' = i → rm_rel S p q k i') (hk : k ≠ 1 ∧ k ≠ 7 ∧ k ≠ 15 ∧ k ≠ 11) : rm_c (tz_t S k i v) (tz_s A p q (tz_j v)) := by
  intro p' q' k' i' h2
  have h3 : rm_rel S p' q' k' i' := rel_mv (tz_tk (by omega)) (tz_tk (by omega)) (tz_tk (by omega)) (fun _ _ => tz_tk (by omega)) h2
  have h1 := hr i rfl
  have h4 := h p' q' k' i' h3
  by_cases z : p' = p ∧ q' = q
  · have e : k' = k ∧ i' = i := by
      unfold rm_rel at h1 h3
      omega
    rw [z.1, z.2, e.1, e.2, tz_gs1, tz_t1]
  · have e : ¬ (k' = k ∧ i' = i) := fun y => z (by
      rw [y.1, y.2] at h3
      unfold rm_rel at h1 h3
      omega)
    rw [tz_gS, if_neg z, tz_ta, if_neg e]
    exact h4
theorem rm_c_A {S S' : tz_S} {A A' : tz_Mem} (h : rm_c S A) (eS : ∀ k i, k ≤ 21 → S' k i = S k i) (eA : ∀ p q k i, rm_rel S p q k i → tz_g A' p q = tz_g A p q) : rm_c S' A' := by
  intro p q k i hr
  have hr2 := rel_mv (eS _ _ (by omega)) (eS _ _ (by omega)) (eS _ _ (by omega)) (fun _ _ => eS _ _ (by omega)) hr
  rw [eA p q k i hr2, eS k i (by unfold rm_rel at hr2; omega)]
  exact h p q k i hr2
theorem rm_w_mv {S S' : tz_S} {A A' : tz_Mem} (h : rm_w S A) (e1 : S' 1 0 = S 1 0) (e5 : ∀ g, S' 5 g = S 5 g) (e100 : ∀ g j, g < S 1 0 → S' (100 + g) j = S (100 + g) j) (eA : ∀ i, tz_g A' 163 i = tz_g A 163 i ∧ tz_g A' 164 i = tz_g A 164 i) : rm_w S' A' := by
  intro g hg
  rw [e1] at hg
  have hk : sp_kept S' g = sp_kept S g := by unfold sp_kept; rw [e5]
  rw [(eA g).1, hk]
  refine ⟨(h g hg).1, fun i hi => ?_⟩
  rw [(eA _).2, e5, e100 g _ hg]
  exact (h g hg).2 i hi
theorem rm_o_mv {D : Nat → Int32} {S S' : tz_S} {A A' : tz_Mem} (h : rm_o D S A) (e5 : ∀ g, S' 5 g = S 5 g) (eA : ∀ i, tz_g A' 182 i = tz_g A 182 i) : rm_o D S' A' := fun g hg => by rw [eA, e5]; exact h g hg
theorem rm_s_mv {S S' : tz_S} {A A' : tz_Mem} (h : rm_s S A) (e6 : S' 0 6 = S 0 6) (eA : tz_g A' 157 34 = tz_g A 157 34) : rm_s S' A' := fun t ht => by rw [eA, e6]; exact h t ht
theorem rm_e_mv {S S' : tz_S} {A A' : tz_Mem} (h : rm_e S A) (e : S' 200 0 = S 200 0) (e1 : S 200 0 = 1 → S' 201 0 = S 201 0 ∧ S' 201 1 = S 201 1) (eA : tz_g A' 157 36 = tz_g A 157 36 ∧ tz_g A' 157 37 = tz_g A 157 37) : rm_e S' A' := by
  unfold rm_e at h ⊢
  rw [eA.1, eA.2, e]
  refine ⟨fun q => ?_, h.2⟩
  rw [(e1 q).1, (e1 q).2]
  exact h.1 q
/-- a cell that nothing else hangs on -/
theorem rm_st {D : Nat → Int32} {S : tz_S} {A : tz_Mem} {p q k i v : Nat} (r : rm D S A) (hr : rm_rel S p q k i) (hk : k = 0 ∧ i ≠ 0 ∨ k = 13 ∨ k = 16 ∨ k = 20 ∨ k = 21) (h0 : k = 0 → i ≠ 6) : rm D (tz_t S k i v) (tz_s A p q (tz_j v)) := by
  obtain ⟨c, ww, o, s, e⟩ := r
  have hp : ¬ (p = 157 ∧ (q = 34 ∨ q = 36 ∨ q = 37)) ∧ p ≠ 163 ∧ p ≠ 164 ∧ p ≠ 182 := by
    unfold rm_rel at hr
    omega
  refine ⟨rm_c_s c (fun i' z => by rw [z]; exact hr) (by omega), rm_w_mv ww (tz_tk (by omega)) (fun _ => tz_tk (by omega)) (fun _ _ _ => tz_tk (by omega)) (fun _ => ⟨tz_gsk (by omega), tz_gsk (by omega)⟩), rm_o_mv o (fun _ => tz_tk (by omega)) (fun _ => tz_gsk (by omega)), rm_s_mv s (by rw [tz_ta, if_neg (by omega)]) (by rw [tz_gS, if_neg (by omega)]), rm_e_mv e (tz_tk (by omega)) (fun _ => ⟨tz_tk (by omega), tz_tk (by omega)⟩) ⟨by rw [tz_gS, if_neg (by omega)], by rw [tz_gS, if_neg (by omega)]⟩⟩
/-- other memory -/
theorem rm_A {D : Nat → Int32} {S : tz_S} {A A' : tz_Mem} (r : rm D S A) (eA : ∀ k i, (k = 157 ∧ (i = 3 ∨ i = 8 ∨ i = 15 ∨ (22 ≤ i ∧ i ≤ 25) ∨ i = 34 ∨ i = 36 ∨ i = 37)) ∨ (161 ≤ k ∧ k ≤ 176) ∨ k = 182 → tz_g A' k i = tz_g A k i) : rm D S A' := by
  obtain ⟨c, ww, o, s, e⟩ := r
  exact ⟨rm_c_A c (fun _ _ _ => rfl) (fun p q k i h => eA p q (by unfold rm_rel at h; omega)), rm_w_mv ww rfl (fun _ => rfl) (fun _ _ _ => rfl) (fun _ => ⟨eA _ _ (by omega), eA _ _ (by omega)⟩), rm_o_mv o (fun _ => rfl) (fun _ => eA _ _ (by omega)), rm_s_mv s rfl (eA _ _ (by omega)), rm_e_mv e rfl (fun _ => ⟨rfl, rfl⟩) ⟨eA _ _ (by omega), eA _ _ (by omega)⟩⟩


theorem m_within {a b c : Nat} {A : tz_Mem} (ha : a < 2147483648) (hb : b < 2147483648) (hc : c < 2147483648) : f_X12_within (tz_j a) (tz_j b) (tz_j c) A = some (some (.int (if b ≤ a ∧ a ≤ c then tz_j 1 else tz_j 0)), A) := by
  rw [e_X12_within]
  by_cases h1 : b ≤ a
  · by_cases h2 : a ≤ c
    · rw [if_pos (c := b ≤ a ∧ a ≤ c) ⟨h1, h2⟩]
      simp (disch := omega) only [tz_lit, nj_m1, ↓reduceIte, nj_cl, nj_ltt, nj_ltf, nj_let, nj_lef, nj_eqf, nj_lt, nj_le, nj_eq, nj_add, nj_mul, nj_mod, nj_and7, nj_div, tz_bI_some, tz_bV_some, or_false, false_or, or_self, and_false, false_and, and_true, true_and, not_true_eq_false, not_false_eq_true, nt_lef, nt_let, nt_ltf, nt_ltt, nt_eqf]
    · rw [if_neg (c := b ≤ a ∧ a ≤ c) (fun q => h2 q.2)]
      simp (disch := omega) only [tz_lit, nj_m1, ↓reduceIte, nj_cl, nj_ltt, nj_ltf, nj_let, nj_lef, nj_eqf, nj_lt, nj_le, nj_eq, nj_add, nj_mul, nj_mod, nj_and7, nj_div, tz_bI_some, tz_bV_some, or_false, false_or, or_self, and_false, false_and, and_true, true_and, not_true_eq_false, not_false_eq_true, nt_lef, nt_let, nt_ltf, nt_ltt, nt_eqf]
  · rw [if_neg (c := b ≤ a ∧ a ≤ c) (fun q => h1 q.1)]
    simp (disch := omega) only [tz_lit, nj_m1, ↓reduceIte, nj_cl, nj_ltt, nj_ltf, nj_let, nj_lef, nj_eqf, nj_lt, nj_le, nj_eq, nj_add, nj_mul, nj_mod, nj_and7, nj_div, tz_bI_some, tz_bV_some, or_false, false_or, or_self, and_false, false_and, and_true, true_and, not_true_eq_false, not_false_eq_true, nt_lef, nt_let, nt_ltf, nt_ltt, nt_eqf]
def sp_un (k g : Nat) : Bool := decide (g = k) || decide (g = 0) || (decide (k = 3) && decide (g = 1)) || (decide (k = 5) && decide (g = 2)) || (decide (k = 6) && decide (g = 4))
theorem m_isUnder {k g : Nat} {A : tz_Mem} (hk : k ≤ 6) (hg : g ≤ 6) : f_X12_isUnder (tz_j k) (tz_j g) A = some (some (.int (if sp_un k g = true then tz_j 1 else tz_j 0)), A) := by
  have hk2 : k = 0 ∨ k = 1 ∨ k = 2 ∨ k = 3 ∨ k = 4 ∨ k = 5 ∨ k = 6 := by omega
  have e0 : ∀ g, g ≤ 6 → q_X12_isUnder_2 (tz_j g) (tz_j 0) A = some (some (.int (if g = 0 then tz_j 1 else tz_j 0)), A) := by
    intro g hg
    rw [e_X12_isUnder_2]
    by_cases z : g = 0
    · simp (disch := omega) only [tz_lit, nj_m1, ↓reduceIte, nj_cl, nj_ltt, nj_ltf, nj_let, nj_lef, nj_eqf, nj_lt, nj_le, nj_eq, nj_add, nj_mul, nj_mod, nj_and7, nj_div, tz_bI_some, tz_bV_some, or_false, false_or, or_self, and_false, false_and, and_true, true_and, not_true_eq_false, not_false_eq_true, nt_lef, nt_let, nt_ltf, nt_ltt, nt_eqf, z]
    · simp (disch := omega) only [tz_lit, nj_m1, ↓reduceIte, nj_cl, nj_ltt, nj_ltf, nj_let, nj_lef, nj_eqf, nj_lt, nj_le, nj_eq, nj_add, nj_mul, nj_mod, nj_and7, nj_div, tz_bI_some, tz_bV_some, or_false, false_or, or_self, and_false, false_and, and_true, true_and, not_true_eq_false, not_false_eq_true, nt_lef, nt_let, nt_ltf, nt_ltt, nt_eqf, if_neg z]
  have e1 : ∀ g k, g ≤ 6 → k ≤ 6 → k = 1 ∨ k = 2 ∨ k = 4 → q_X12_isUnder_2 (tz_j g) (tz_j k) A = some (some (.int (if g = k ∨ g = 0 then tz_j 1 else tz_j 0)), A) := by
    intro g k hg hk hk2
    rw [e_X12_isUnder_2, e_X12_above]
    by_cases z : g = k
    · simp (disch := omega) only [tz_lit, nj_m1, ↓reduceIte, nj_cl, nj_ltt, nj_ltf, nj_let, nj_lef, nj_eqf, nj_lt, nj_le, nj_eq, nj_add, nj_mul, nj_mod, nj_and7, nj_div, tz_bI_some, tz_bV_some, or_false, false_or, or_self, and_false, false_and, and_true, true_and, not_true_eq_false, not_false_eq_true, nt_lef, nt_let, nt_ltf, nt_ltt, nt_eqf, z]
    · simp (disch := omega) only [tz_lit, nj_m1, ↓reduceIte, nj_cl, nj_ltt, nj_ltf, nj_let, nj_lef, nj_eqf, nj_lt, nj_le, nj_eq, nj_add, nj_mul, nj_mod, nj_and7, nj_div, tz_bI_some, tz_bV_some, or_false, false_or, or_self, and_false, false_and, and_true, true_and, not_true_eq_false, not_false_eq_true, nt_lef, nt_let, nt_ltf, nt_ltt, nt_eqf, e0 g hg]
  have e2 : ∀ g k u, g ≤ 6 → (k = 3 ∧ u = 1) ∨ (k = 5 ∧ u = 2) ∨ (k = 6 ∧ u = 4) → q_X12_isUnder_2 (tz_j g) (tz_j k) A = some (some (.int (if g = k ∨ g = u ∨ g = 0 then tz_j 1 else tz_j 0)), A) := by
    intro g k u hg hk
    rw [e_X12_isUnder_2, e_X12_above]
    by_cases z : g = k
    · simp (disch := omega) only [tz_lit, nj_m1, ↓reduceIte, nj_cl, nj_ltt, nj_ltf, nj_let, nj_lef, nj_eqf, nj_lt, nj_le, nj_eq, nj_add, nj_mul, nj_mod, nj_and7, nj_div, tz_bI_some, tz_bV_some, or_false, false_or, or_self, and_false, false_and, and_true, true_and, not_true_eq_false, not_false_eq_true, nt_lef, nt_let, nt_ltf, nt_ltt, nt_eqf, z, true_or]
    · rcases hk with hk | hk | hk
      · obtain ⟨rfl, rfl⟩ := hk
        simp (disch := omega) only [tz_lit, nj_m1, ↓reduceIte, nj_cl, nj_ltt, nj_ltf, nj_let, nj_lef, nj_eqf, nj_lt, nj_le, nj_eq, nj_add, nj_mul, nj_mod, nj_and7, nj_div, tz_bI_some, tz_bV_some, or_false, false_or, or_self, and_false, false_and, and_true, true_and, not_true_eq_false, not_false_eq_true, nt_lef, nt_let, nt_ltf, nt_ltt, nt_eqf, e1 g 1 hg (by omega) (by omega)]
      · obtain ⟨rfl, rfl⟩ := hk
        simp (disch := omega) only [tz_lit, nj_m1, ↓reduceIte, nj_cl, nj_ltt, nj_ltf, nj_let, nj_lef, nj_eqf, nj_lt, nj_le, nj_eq, nj_add, nj_mul, nj_mod, nj_and7, nj_div, tz_bI_some, tz_bV_some, or_false, false_or, or_self, and_false, false_and, and_true, true_and, not_true_eq_false, not_false_eq_true, nt_lef, nt_let, nt_ltf, nt_ltt, nt_eqf, e1 g 2 hg (by omega) (by omega)]
      · obtain ⟨rfl, rfl⟩ := hk
        simp (disch := omega) only [tz_lit, nj_m1, ↓reduceIte, nj_cl, nj_ltt, nj_ltf, nj_let, nj_lef, nj_eqf, nj_lt, nj_le, nj_eq, nj_add, nj_mul, nj_mod, nj_and7, nj_div, tz_bI_some, tz_bV_some, or_false, false_or, or_self, and_false, false_and, and_true, true_and, not_true_eq_false, not_false_eq_true, nt_lef, nt_let, nt_ltf, nt_ltt, nt_eqf, e1 g 4 hg (by omega) (by omega)]
  rw [e_X12_isUnder]
  unfold sp_un
  rcases hk2 with rfl | rfl | rfl | rfl | rfl | rfl | rfl
  · rw [e0 g hg]
    congr 5
    simp
  · rw [e1 g 1 hg (by omega) (by omega)]
    congr 5
    simp
  · rw [e1 g 2 hg (by omega) (by omega)]
    congr 5
    simp
  · rw [e2 g 3 1 hg (by omega)]
    congr 5
    simp [or_assoc, or_comm, or_left_comm]
  · rw [e1 g 4 hg (by omega) (by omega)]
    congr 5
    simp
  · rw [e2 g 5 2 hg (by omega)]
    congr 5
    simp [or_assoc, or_comm, or_left_comm]
  · rw [e2 g 6 4 hg (by omega)]
    congr 5
    simp [or_assoc, or_comm, or_left_comm]
theorem m_bec {h v : Nat} {S : tz_S} {A : tz_Mem} (c : rm_c S A) (W : sp_W1 S) (hh : h < S 1 0) (hv : v ≤ 9999) : f_X12_becomes (tz_j h) (tz_j v) A = some (some (.int (tz_j (sp_bec S h v))), A) := by
  have h8 := W.1
  have hk := W.2.2.2.1 h hh
  have eu := m_isUnder (A := A) hk.1 (show 2 ≤ 6 by omega)
  rw [e_X12_becomes]
  unfold sp_bec
  by_cases c2 : S 2 h = 2
  · rw [c2] at eu
    simp (disch := omega) only [tz_lit, nj_m1, ↓reduceIte, nj_cl, nj_ltt, nj_ltf, nj_let, nj_lef, nj_eqf, nj_lt, nj_le, nj_eq, nj_add, nj_mul, nj_mod, nj_and7, nj_div, tz_bI_some, tz_bV_some, or_false, false_or, or_self, and_false, false_and, and_true, true_and, not_true_eq_false, not_false_eq_true, nt_lef, nt_let, nt_ltf, nt_ltt, nt_eqf, cm_161 c, c2, eu, show sp_un 2 2 = true from rfl]
  by_cases c5 : S 2 h = 5
  · rw [c5] at eu
    simp (disch := omega) only [tz_lit, nj_m1, ↓reduceIte, nj_cl, nj_ltt, nj_ltf, nj_let, nj_lef, nj_eqf, nj_lt, nj_le, nj_eq, nj_add, nj_mul, nj_mod, nj_and7, nj_div, tz_bI_some, tz_bV_some, or_false, false_or, or_self, and_false, false_and, and_true, true_and, not_true_eq_false, not_false_eq_true, nt_lef, nt_let, nt_ltf, nt_ltt, nt_eqf, cm_161 c, cm_162 c, c5, eu, show sp_un 5 2 = true from rfl]
  have hu : sp_un (S 2 h) 2 = false := by
    unfold sp_un
    simp
    omega
  simp (disch := omega) only [tz_lit, nj_m1, ↓reduceIte, nj_cl, nj_ltt, nj_ltf, nj_let, nj_lef, nj_eqf, nj_lt, nj_le, nj_eq, nj_add, nj_mul, nj_mod, nj_and7, nj_div, tz_bI_some, tz_bV_some, or_false, false_or, or_self, and_false, false_and, and_true, true_and, not_true_eq_false, not_false_eq_true, nt_lef, nt_let, nt_ltf, nt_ltt, nt_eqf, cm_161 c, eu, hu, if_neg c2, if_neg c5, Bool.false_eq_true]
theorem m_tim {h g : Nat} {S : tz_S} {A : tz_Mem} (c : rm_c S A) (W : sp_W1 S) (hh : h < S 1 0) (hg : g ≤ 99) : f_X12_times (tz_j h) (tz_j g) A = some (some (.int (tz_j (sp_tim S h g))), A) := by
  have h8 := W.1
  have hk := W.2.2.2.1 h hh
  rw [e_X12_times]
  unfold sp_tim
  by_cases c1 : S 2 h = 1
  · simp (disch := omega) only [tz_lit, nj_m1, ↓reduceIte, nj_cl, nj_ltt, nj_ltf, nj_let, nj_lef, nj_eqf, nj_lt, nj_le, nj_eq, nj_add, nj_mul, nj_mod, nj_and7, nj_div, tz_bI_some, tz_bV_some, or_false, false_or, or_self, and_false, false_and, and_true, true_and, not_true_eq_false, not_false_eq_true, nt_lef, nt_let, nt_ltf, nt_ltt, nt_eqf, cm_161 c, c1]
  by_cases c2 : S 2 h = 2
  · simp (disch := omega) only [tz_lit, nj_m1, ↓reduceIte, nj_cl, nj_ltt, nj_ltf, nj_let, nj_lef, nj_eqf, nj_lt, nj_le, nj_eq, nj_add, nj_mul, nj_mod, nj_and7, nj_div, tz_bI_some, tz_bV_some, or_false, false_or, or_self, and_false, false_and, and_true, true_and, not_true_eq_false, not_false_eq_true, nt_lef, nt_let, nt_ltf, nt_ltt, nt_eqf, cm_161 c, c2]
  by_cases c3 : S 2 h = 3
  · simp (disch := omega) only [tz_lit, nj_m1, ↓reduceIte, nj_cl, nj_ltt, nj_ltf, nj_let, nj_lef, nj_eqf, nj_lt, nj_le, nj_eq, nj_add, nj_mul, nj_mod, nj_and7, nj_div, tz_bI_some, tz_bV_some, or_false, false_or, or_self, and_false, false_and, and_true, true_and, not_true_eq_false, not_false_eq_true, nt_lef, nt_let, nt_ltf, nt_ltt, nt_eqf, cm_161 c, cm_162 c, c3]
  by_cases c4 : S 2 h = 4
  · simp (disch := omega) only [tz_lit, nj_m1, ↓reduceIte, nj_cl, nj_ltt, nj_ltf, nj_let, nj_lef, nj_eqf, nj_lt, nj_le, nj_eq, nj_add, nj_mul, nj_mod, nj_and7, nj_div, tz_bI_some, tz_bV_some, or_false, false_or, or_self, and_false, false_and, and_true, true_and, not_true_eq_false, not_false_eq_true, nt_lef, nt_let, nt_ltf, nt_ltt, nt_eqf, cm_161 c, cm_162 c, c4]
    split <;> rfl
  by_cases c5 : S 2 h = 5
  · simp (disch := omega) only [tz_lit, nj_m1, ↓reduceIte, nj_cl, nj_ltt, nj_ltf, nj_let, nj_lef, nj_eqf, nj_lt, nj_le, nj_eq, nj_add, nj_mul, nj_mod, nj_and7, nj_div, tz_bI_some, tz_bV_some, or_false, false_or, or_self, and_false, false_and, and_true, true_and, not_true_eq_false, not_false_eq_true, nt_lef, nt_let, nt_ltf, nt_ltt, nt_eqf, cm_161 c, c5]
  by_cases c6 : S 2 h = 6
  · simp (disch := omega) only [tz_lit, nj_m1, ↓reduceIte, nj_cl, nj_ltt, nj_ltf, nj_let, nj_lef, nj_eqf, nj_lt, nj_le, nj_eq, nj_add, nj_mul, nj_mod, nj_and7, nj_div, tz_bI_some, tz_bV_some, or_false, false_or, or_self, and_false, false_and, and_true, true_and, not_true_eq_false, not_false_eq_true, nt_lef, nt_let, nt_ltf, nt_ltt, nt_eqf, cm_161 c, c6]
  simp (disch := omega) only [tz_lit, nj_m1, ↓reduceIte, nj_cl, nj_ltt, nj_ltf, nj_let, nj_lef, nj_eqf, nj_lt, nj_le, nj_eq, nj_add, nj_mul, nj_mod, nj_and7, nj_div, tz_bI_some, tz_bV_some, or_false, false_or, or_self, and_false, false_and, and_true, true_and, not_true_eq_false, not_false_eq_true, nt_lef, nt_let, nt_ltf, nt_ltt, nt_eqf, cm_161 c]
