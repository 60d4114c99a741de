/-! a hill, a letter more -/
def sp_addH (x y : Nat) (S : tz_S) : tz_S := tz_t (tz_t (tz_t (tz_t S 2 (S 1 0) x) 3 (S 1 0) y) 5 (S 1 0) 0) 1 0 (S 1 0 + 1)
theorem addH_g {x y k i : Nat} {S : tz_S} (h : (k ≠ 1 ∨ i ≠ 0) ∧ (k ≠ 2 ∨ i ≠ S 1 0) ∧ (k ≠ 3 ∨ i ≠ S 1 0) ∧ (k ≠ 5 ∨ i ≠ S 1 0)) : sp_addH x y S k i = S k i := by
  unfold sp_addH
  rw [tz_ta, if_neg (by omega), tz_ta, if_neg (by omega), tz_ta, if_neg (by omega), tz_ta, if_neg (by omega)]
theorem addH_1 {x y : Nat} {S : tz_S} : sp_addH x y S 1 0 = S 1 0 + 1 := tz_t1
theorem addH_2 {x y : Nat} {S : tz_S} : sp_addH x y S 2 (S 1 0) = x := by
  unfold sp_addH
  rw [tz_tk (by omega), tz_tk (by omega), tz_tk (by omega), tz_t1]
theorem addH_3 {x y : Nat} {S : tz_S} : sp_addH x y S 3 (S 1 0) = y := by
  unfold sp_addH
  rw [tz_tk (by omega), tz_tk (by omega), tz_t1]
theorem addH_5 {x y : Nat} {S : tz_S} : sp_addH x y S 5 (S 1 0) = 0 := by
  unfold sp_addH
  rw [tz_tk (by omega), tz_t1]
theorem addH_H {N x y : Nat} {S : tz_S} (H : sp_H N S) (hn : S 1 0 < 8) (hx : x ≤ 6) (hy : y ≤ 9) : sp_H N (sp_addH x y S) := by
  obtain ⟨⟨a1, a2, a3, a4, a5, a6, a7, a8, a9⟩, ⟨b1, b2, b3, b4, b5, b6, b7⟩, WE, h3, hT⟩ := H
  have g : ∀ k i, k ≠ 1 → k ≠ 2 → k ≠ 3 → k ≠ 5 → sp_addH x y S k i = S k i := fun k i _ _ _ _ => addH_g (by omega)
  have g5 : ∀ h, h ≠ S 1 0 → sp_addH x y S 5 h = S 5 h := fun h _ => addH_g (by omega)
  refine ⟨⟨?_, ?_, ?_, fun h hh => ?_, fun t ht => ?_, fun l hl => ?_, ?_, fun i j hi hj => ?_, ?_⟩, ⟨fun t ht => ?_, fun l hl => ?_, fun h hh => ?_, ?_, ?_, ?_, ?_⟩, we_mv WE (fun k i h1 h2 => g k i (by omega) (by omega) (by omega) (by omega)), ?_, ?_⟩
  · rw [addH_1]
    omega
  · rw [g 7 0 (by omega) (by omega) (by omega) (by omega)]
    exact a2
  · rw [g 15 0 (by omega) (by omega) (by omega) (by omega)]
    exact a3
  · rw [addH_1] at hh
    by_cases e : h = S 1 0
    · subst e
      rw [addH_2, addH_3]
      exact ⟨hx, hy⟩
    · rw [addH_g (by omega), addH_g (by omega)]
      exact a4 h (by omega)
  · rw [g 7 0 (by omega) (by omega) (by omega) (by omega)] at ht
    obtain ⟨c1, c2, c3, c4, c5, c6, c7, c8, c9⟩ := a5 t ht
    rw [g 8 t (by omega) (by omega) (by omega) (by omega), g 9 t (by omega) (by omega) (by omega) (by omega), g 10 t (by omega) (by omega) (by omega) (by omega), g 11 t (by omega) (by omega) (by omega) (by omega), addH_1]
    refine ⟨c1, c2, c3, c4, c5, c6, c7, c8, fun i hi => ?_⟩
    rw [g 12 _ (by omega) (by omega) (by omega) (by omega)]
    exact Nat.lt_succ_of_lt (c9 i hi)
  · rw [g 15 0 (by omega) (by omega) (by omega) (by omega)] at hl
    obtain ⟨c1, c2, c3⟩ := a6 l hl
    rw [g 17 l (by omega) (by omega) (by omega) (by omega), g 18 l (by omega) (by omega) (by omega) (by omega), g 19 l (by omega) (by omega) (by omega) (by omega), addH_1]
    exact ⟨Nat.lt_succ_of_lt c1, Nat.lt_succ_of_lt c2, c3⟩
  · rw [g 15 0 (by omega) (by omega) (by omega) (by omega)]
    intro i hi
    rw [g 22 _ (by omega) (by omega) (by omega) (by omega)]
    exact a7 i hi
  · rw [g 15 0 (by omega) (by omega) (by omega) (by omega)] at hj
    unfold sp_lt
    rw [g 22 _ (by omega) (by omega) (by omega) (by omega), g 22 _ (by omega) (by omega) (by omega) (by omega), g 19 _ (by omega) (by omega) (by omega) (by omega), g 19 _ (by omega) (by omega) (by omega) (by omega)]
    exact a8 i j hi hj
  · rw [g 15 0 (by omega) (by omega) (by omega) (by omega)]
    intro l hl
    obtain ⟨i, hi, e⟩ := a9 l hl
    exact ⟨i, hi, (g 22 _ (by omega) (by omega) (by omega) (by omega)).trans e⟩
  · rw [g 7 0 (by omega) (by omega) (by omega) (by omega)] at ht
    rw [g 13 _ (by omega) (by omega) (by omega) (by omega), g 11 _ (by omega) (by omega) (by omega) (by omega)]
    exact b1 t ht
  · rw [g 15 0 (by omega) (by omega) (by omega) (by omega)] at hl
    obtain ⟨c1, c2, c3, c4⟩ := b2 l hl
    rw [g 16 _ (by omega) (by omega) (by omega) (by omega), g 20 _ (by omega) (by omega) (by omega) (by omega), g 21 _ (by omega) (by omega) (by omega) (by omega), g 0 _ (by omega) (by omega) (by omega) (by omega)]
    refine ⟨c1, ?_, c3, c4⟩
    unfold sp_wh at c2 ⊢
    rw [addH_1, g 7 0 (by omega) (by omega) (by omega) (by omega)]
    omega
  · rw [addH_1] at hh
    rw [g 0 _ (by omega) (by omega) (by omega) (by omega)]
    by_cases e : h = S 1 0
    · subst e
      rw [addH_5]
      omega
    · rw [g5 h e]
      exact b3 h (by omega)
  · rw [addH_1, g 0 _ (by omega) (by omega) (by omega) (by omega)]
    show sp_sum (S 1 0) (sp_addH x y S) + sp_addH x y S 5 (S 1 0) = S 0 0
    rw [addH_5, sum_mv (S := S) (S 1 0) (fun h hh => g5 h (by omega))]
    omega
  · rw [g 0 _ (by omega) (by omega) (by omega) (by omega)]
    exact b5
  · rw [g 0 _ (by omega) (by omega) (by omega) (by omega)]
    exact b6
  · rw [g 0 _ (by omega) (by omega) (by omega) (by omega)]
    exact b7
  · rw [g 0 _ (by omega) (by omega) (by omega) (by omega)]
    exact h3
  · rw [g 0 _ (by omega) (by omega) (by omega) (by omega), g 0 _ (by omega) (by omega) (by omega) (by omega)]
    exact hT
theorem x_addH {b x y : Nat} {S : tz_S} {A : tz_Mem} (hb : tz_sky b) (r : rx b 99 S A) (W : sp_W1 S) (W2 : sp_W2 S) (hn : S 1 0 < 8) : ∃ A', f_X3_add b (tz_j x) (tz_j y) A = some (some (.int (tz_j (S 1 0))), A') ∧ rx b 99 (sp_addH x y S) A' ∧ tz_fr (rx_p b) A A' := by
  have hs := sky_lo hb
  have h4 := W.2.1
  obtain ⟨c, l0, k0, w0, e0⟩ := r
  have q1 := cx_1 c
  have c1 : rx_c b (tz_t (tz_t S 2 (S 1 0) x) 3 (S 1 0) y) (tz_s (tz_s A (b + 2) (S 1 0) (tz_j x)) (b + 3) (S 1 0) (tz_j y)) := rx_c_s (rx_c_s c)
  have c2 : rx_c b (tz_t (tz_t S 2 (S 1 0) x) 3 (S 1 0) y) (tz_s (tz_s (tz_s A (b + 2) (S 1 0) (tz_j x)) (b + 3) (S 1 0) (tz_j y)) (b + 4) (S 1 0) (tz_j 0)) := rx_c_mv c1 (fun _ _ _ => rfl) (fun k i hp => tz_gsk (by unfold rx_pl at hp; omega))
  have c3 : rx_c b (sp_addH x y S) (tz_s (tz_s (tz_s (tz_s (tz_s A (b + 2) (S 1 0) (tz_j x)) (b + 3) (S 1 0) (tz_j y)) (b + 4) (S 1 0) (tz_j 0)) (b + 5) (S 1 0) (tz_j 0)) (b + 1) 0 (tz_j (S 1 0 + 1))) := rx_c_s (rx_c_s c2)
  have e : ∀ k i, k ≠ b + 1 → k ≠ b + 2 → k ≠ b + 3 → k ≠ b + 4 → k ≠ b + 5 → tz_g (tz_s (tz_s (tz_s (tz_s (tz_s A (b + 2) (S 1 0) (tz_j x)) (b + 3) (S 1 0) (tz_j y)) (b + 4) (S 1 0) (tz_j 0)) (b + 5) (S 1 0) (tz_j 0)) (b + 1) 0 (tz_j (S 1 0 + 1))) k i = tz_g A k i := fun k i h1 h2 h3 h4 h5 => by rw [tz_gsk h1, tz_gsk h5, tz_gsk h4, tz_gsk h3, tz_gsk h2]
  have g : ∀ k i, k ≠ 1 → k ≠ 2 → k ≠ 3 → k ≠ 5 → sp_addH x y S k i = S k i := fun k i _ _ _ _ => addH_g (by omega)
  refine ⟨_, ?_, ⟨c3, fun h hh => ?_, rx_k_mv k0 (g 7 0 (by omega) (by omega) (by omega) (by omega)) (g 15 0 (by omega) (by omega) (by omega) (by omega)) (fun _ => g 20 _ (by omega) (by omega) (by omega) (by omega)) (fun t _ _ => e _ _ (by omega) (by omega) (by omega) (by omega) (by omega)), fun h hh j h1 h2 => ?_, rx_e_mv e0 (fun k i h1 h2 => g k i (by omega) (by omega) (by omega) (by omega)) rfl (fun k i h1 h2 => e k i (by omega) (by omega) (by omega) (by omega) (by omega))⟩, fr_s (fr_s (fr_s (fr_s (fr_s fr_rfl (Or.inl (by omega))) (Or.inl (by omega))) (Or.inl (by omega))) (Or.inl (by omega))) (Or.inl (by omega))⟩
  · rw [e_X3_add _ _ _ hb]
    simp (disch := omega) only [tz_lit, nj_m1, ↓reduceIte, nj_cl, nj_ltt, nj_ltf, nj_let, nj_lef, nj_eqf, nj_lt, nj_le, nj_eq, nj_add, nj_mul, nj_modx, nj_and7, nj_div, tz_bI_some, tz_bV_some, or_false, false_or, or_self, and_false, false_and, and_true, true_and, not_true_eq_false, not_false_eq_true, nt_lef, nt_let, nt_ltf, nt_ltt, nt_eqf, nj_m2, nj_m3, nj_m4, nj_m5, nj_m6, nj_m7, tz_bL_some, nj_sub, ng_ltt, ng_let, ng_gtf, ng_gef, q1, tz_gsk, tz_gs1]
  · rw [addH_1] at hh
    by_cases q : h = S 1 0
    · rw [q, tz_gsk (by omega), tz_gsk (by omega), tz_gs1]
      refine bt_congr bj_zero (fun l hl => ?_)
      symm
      rw [decide_eq_false_iff_not, g 15 0 (by omega) (by omega) (by omega) (by omega), g 20 _ (by omega) (by omega) (by omega) (by omega)]
      intro y
      have hv := (W2.2.1 l y.1).2.1
      unfold sp_wh at hv
      omega
    · rw [tz_gsk (by omega), tz_gsk (by omega), tz_gsi q, tz_gsk (by omega), tz_gsk (by omega)]
      refine bt_congr (l0 h (by omega)) (fun l hl => ?_)
      rw [g 15 0 (by omega) (by omega) (by omega) (by omega), g 20 _ (by omega) (by omega) (by omega) (by omega)]
  · rw [addH_1] at hh
    by_cases q : h = S 1 0
    · rw [q, addH_5] at h1
      omega
    · rw [addH_g (by omega)] at h1 h2
      rw [e _ _ (by omega) (by omega) (by omega) (by omega) (by omega), g _ _ (by omega) (by omega) (by omega) (by omega)]
      exact w0 h (by omega) j h1 h2
theorem rm_c_new {S S' : tz_S} {A A' : tz_Mem} (c : rm_c S A) (h : ∀ p q k i, rm_rel S' p q k i → (rm_rel S p q k i ∧ tz_g A' p q = tz_g A p q ∧ S' k i = S k i) ∨ tz_g A' p q = tz_j (S' k i)) : rm_c S' A' := fun p q k i hr => by
  rcases h p q k i hr with ⟨a, b, d⟩ | a
  · rw [b, d]
    exact c p q k i a
  · exact a
theorem m_addH {D : Nat → Int32} {x y : Nat} {S : tz_S} {A : tz_Mem} (r : rm D S A) (W : sp_W1 S) (hn : S 1 0 < 8) : ∃ A' D', f_X12_newHill (tz_j x) (tz_j y) A = some (some (.int (tz_j (S 1 0))), A') ∧ rm D' (sp_addH x y S) A' ∧ tz_fr mo_p A A' := by
  obtain ⟨c, w0, o0, s0, e0⟩ := r
  have q3 := cm_3 c
  have e : ∀ k i, (k ≠ 157 ∨ i ≠ 3) → (k ≠ 161 ∨ i ≠ S 1 0) → (k ≠ 162 ∨ i ≠ S 1 0) → (k ≠ 163 ∨ i ≠ S 1 0) → tz_g (tz_s (tz_s (tz_s (tz_s A 161 (S 1 0) (tz_j x)) 162 (S 1 0) (tz_j y)) 163 (S 1 0) (tz_j 0)) 157 3 (tz_j (S 1 0 + 1))) k i = tz_g A k i := fun k i h1 h2 h3 h4 => by
    rw [tz_gS, if_neg (by omega), tz_gS, if_neg (by omega), tz_gS, if_neg (by omega), tz_gS, if_neg (by omega)]
  have g : ∀ k i, k ≠ 1 → k ≠ 2 → k ≠ 3 → k ≠ 5 → sp_addH x y S k i = S k i := fun k i _ _ _ _ => addH_g (by omega)
  have g5 : ∀ h, h ≠ S 1 0 → sp_addH x y S 5 h = S 5 h := fun h _ => addH_g (by omega)
  refine ⟨tz_s (tz_s (tz_s (tz_s A 161 (S 1 0) (tz_j x)) 162 (S 1 0) (tz_j y)) 163 (S 1 0) (tz_j 0)) 157 3 (tz_j (S 1 0 + 1)), fun h => tz_g (tz_s (tz_s (tz_s (tz_s A 161 (S 1 0) (tz_j x)) 162 (S 1 0) (tz_j y)) 163 (S 1 0) (tz_j 0)) 157 3 (tz_j (S 1 0 + 1))) 182 h - tz_j (sp_addH x y S 5 h), ?_, ⟨rm_c_new c (fun p q k i hr => ?_), fun h hh => ?_, fun h hh => (Int32.sub_add_cancel _ _).symm, fun t ht => ?_, fun y => ?_, fun y => ?_⟩, fr_s (fr_s (fr_s (fr_s fr_rfl (by unfold mo_p; omega)) (by unfold mo_p; omega)) (by unfold mo_p; omega)) (by unfold mo_p; omega)⟩
  · rw [e_X12_newHill]
    simp (disch := omega) only [tz_lit, nj_m1, ↓reduceIte, nj_cl, nj_ltt, nj_ltf, nj_let, nj_lef, nj_eqf, nj_lt, nj_le, nj_eq, nj_add, nj_mul, nj_modx, nj_and7, nj_div, tz_bI_some, tz_bV_some, or_false, false_or, or_self, and_false, false_and, and_true, true_and, not_true_eq_false, not_false_eq_true, nt_lef, nt_let, nt_ltf, nt_ltt, nt_eqf, nj_m2, nj_m3, nj_m4, nj_m5, nj_m6, nj_m7, tz_bL_some, nj_sub, ng_ltt, ng_let, ng_gtf, ng_gef, q3, tz_gsk, tz_gs1]
  · rcases hr with ⟨rfl, rfl, h⟩ | ⟨rfl, rfl, h⟩ | ⟨rfl, hi, h⟩ | ⟨rfl, hi, h⟩ | ⟨rfl, rfl, rfl, h⟩ | ⟨rfl, hi, h⟩
    · rcases h with ⟨rfl, rfl⟩ | ⟨rfl, rfl⟩ | ⟨rfl, rfl⟩
      · refine Or.inr ?_
        rw [addH_1, tz_gs1]
      · exact Or.inl ⟨Or.inl ⟨rfl, rfl, Or.inr (Or.inl ⟨rfl, rfl⟩)⟩, e _ _ (by omega) (by omega) (by omega) (by omega), g _ _ (by omega) (by omega) (by omega) (by omega)⟩
      · exact Or.inl ⟨Or.inl ⟨rfl, rfl, Or.inr (Or.inr ⟨rfl, rfl⟩)⟩, e _ _ (by omega) (by omega) (by omega) (by omega), g _ _ (by omega) (by omega) (by omega) (by omega)⟩
    · exact Or.inl ⟨Or.inr (Or.inl ⟨rfl, rfl, h⟩), e _ _ (by omega) (by omega) (by omega) (by omega), g _ _ (by omega) (by omega) (by omega) (by omega)⟩
    · rw [addH_1] at hi
      by_cases z : q = S 1 0
      · refine Or.inr ?_
        rcases h with ⟨rfl, rfl⟩ | ⟨rfl, rfl⟩
        · rw [z, addH_2, tz_gsk (by omega), tz_gsk (by omega), tz_gsk (by omega), tz_gs1]
        · rw [z, addH_3, tz_gsk (by omega), tz_gsk (by omega), tz_gs1]
      · exact Or.inl ⟨Or.inr (Or.inr (Or.inl ⟨rfl, by omega, h⟩)), e _ _ (by omega) (by omega) (by omega) (by omega), addH_g (by omega)⟩
    · rw [g 7 0 (by omega) (by omega) (by omega) (by omega)] at hi
      exact Or.inl ⟨Or.inr (Or.inr (Or.inr (Or.inl ⟨rfl, hi, h⟩))), e _ _ (by omega) (by omega) (by omega) (by omega), g _ _ (by omega) (by omega) (by omega) (by omega)⟩
    · obtain ⟨t, j, ht, hj, ee⟩ := h
      rw [g 7 0 (by omega) (by omega) (by omega) (by omega)] at ht
      rw [g 11 _ (by omega) (by omega) (by omega) (by omega)] at hj
      exact Or.inl ⟨Or.inr (Or.inr (Or.inr (Or.inr (Or.inl ⟨rfl, rfl, rfl, t, j, ht, hj, ee⟩)))), e _ _ (by omega) (by omega) (by omega) (by omega), g _ _ (by omega) (by omega) (by omega) (by omega)⟩
    · rw [g 15 0 (by omega) (by omega) (by omega) (by omega)] at hi
      exact Or.inl ⟨Or.inr (Or.inr (Or.inr (Or.inr (Or.inr ⟨rfl, hi, h⟩)))), e _ _ (by omega) (by omega) (by omega) (by omega), g _ _ (by omega) (by omega) (by omega) (by omega)⟩
  · rw [addH_1] at hh
    by_cases z : h = S 1 0
    · have k0 : sp_kept (sp_addH x y S) h = 0 := by
        unfold sp_kept
        rw [z, addH_5, if_pos (by omega)]
      rw [k0]
      refine ⟨?_, fun i hi => absurd hi (Nat.not_lt_zero i)⟩
      rw [z, tz_gsk (by omega), tz_gs1]
    · have k0 : sp_kept (sp_addH x y S) h = sp_kept S h := by
        unfold sp_kept
        rw [g5 h z]
      obtain ⟨a, d⟩ := w0 h (by omega)
      rw [k0, e _ _ (by omega) (by omega) (by omega) (by omega)]
      refine ⟨a, fun i hi => ?_⟩
      rw [e _ _ (by omega) (by omega) (by omega) (by omega), g5 h z, g _ _ (by omega) (by omega) (by omega) (by omega)]
      exact d i hi
  · rw [e _ _ (by omega) (by omega) (by omega) (by omega), g _ _ (by omega) (by omega) (by omega) (by omega)]
    exact s0 t ht
  · rw [g _ _ (by omega) (by omega) (by omega) (by omega)] at y
    rw [e _ _ (by omega) (by omega) (by omega) (by omega), e _ _ (by omega) (by omega) (by omega) (by omega), g _ _ (by omega) (by omega) (by omega) (by omega), g _ _ (by omega) (by omega) (by omega) (by omega)]
    exact e0.1 y
  · rw [g _ _ (by omega) (by omega) (by omega) (by omega)] at y
    rw [e _ _ (by omega) (by omega) (by omega) (by omega)]
    exact e0.2 y
theorem x_isKind1 {m : Nat} {A : tz_Mem} (h : m < 7) : f_X11_isKind (tz_j m) A = some (some (.int (tz_j 1)), A) := by
  rw [e_X11_isKind]
  simp (disch := omega) only [tz_lit, nj_m1, ↓reduceIte, nj_cl, nj_ltt, nj_ltf, nj_let, nj_lef, nj_eqf, nj_lt, nj_le, nj_eq, nj_add, nj_mul, nj_modx, nj_and7, nj_div, tz_bI_some, tz_bV_some, or_false, false_or, or_self, and_false, false_and, and_true, true_and, not_true_eq_false, not_false_eq_true, nt_lef, nt_let, nt_ltf, nt_ltt, nt_eqf, nj_m2, nj_m3, nj_m4, nj_m5, nj_m6, nj_m7, tz_bL_some, nj_sub, ng_ltt, ng_let, ng_gtf, ng_gef]
theorem x_isKind0 {x : Int32} {A : tz_Mem} (h : x < tz_j 0 ∨ tz_j 7 ≤ x) : f_X11_isKind x A = some (some (.int (tz_j 0)), A) := by
  rw [e_X11_isKind]
  rcases h with h | h
  · simp (disch := omega) only [tz_lit, nj_m1, ↓reduceIte, nj_cl, nj_ltt, nj_ltf, nj_let, nj_lef, nj_eqf, nj_lt, nj_le, nj_eq, nj_add, nj_mul, nj_modx, nj_and7, nj_div, tz_bI_some, tz_bV_some, or_false, false_or, or_self, and_false, false_and, and_true, true_and, not_true_eq_false, not_false_eq_true, nt_lef, nt_let, nt_ltf, nt_ltt, nt_eqf, nj_m2, nj_m3, nj_m4, nj_m5, nj_m6, nj_m7, tz_bL_some, nj_sub, ng_ltt, ng_let, ng_gtf, ng_gef, ob_l h]
  · simp (disch := omega) only [tz_lit, nj_m1, ↓reduceIte, nj_cl, nj_ltt, nj_ltf, nj_let, nj_lef, nj_eqf, nj_lt, nj_le, nj_eq, nj_add, nj_mul, nj_modx, nj_and7, nj_div, tz_bI_some, tz_bV_some, or_false, false_or, or_self, and_false, false_and, and_true, true_and, not_true_eq_false, not_false_eq_true, nt_lef, nt_let, nt_ltf, nt_ltt, nt_eqf, nj_m2, nj_m3, nj_m4, nj_m5, nj_m6, nj_m7, tz_bL_some, nj_sub, ng_ltt, ng_let, ng_gtf, ng_gef, ob_h (show 7 < 2147483648 by omega) h]
theorem wi_ob {x : Int32} {a n : Nat} {A : tz_Mem} (hn : n + 1 < 2147483648) (ha : a < 2147483648) (h : x < tz_j 0 ∨ tz_j (n + 1) ≤ x) : f_X12_within x (tz_j a) (tz_j n) A = some (some (.int (tz_j 0)), A) := by
  rw [e_X12_within]
  rcases h with h | h
  · simp (disch := omega) only [tz_lit, nj_m1, ↓reduceIte, nj_cl, nj_ltt, nj_ltf, nj_let, nj_lef, nj_eqf, nj_lt, nj_le, nj_eq, nj_add, nj_mul, nj_modx, nj_and7, nj_div, tz_bI_some, tz_bV_some, or_false, false_or, or_self, and_false, false_and, and_true, true_and, not_true_eq_false, not_false_eq_true, nt_lef, nt_let, nt_ltf, nt_ltt, nt_eqf, nj_m2, nj_m3, nj_m4, nj_m5, nj_m6, nj_m7, tz_bL_some, nj_sub, ng_ltt, ng_let, ng_gtf, ng_gef, ob_l h]
  · have h1 := ob_h hn h
    by_cases q : a ≤ n + 1
    · simp (disch := omega) only [tz_lit, nj_m1, ↓reduceIte, nj_cl, nj_ltt, nj_ltf, nj_let, nj_lef, nj_eqf, nj_lt, nj_le, nj_eq, nj_add, nj_mul, nj_modx, nj_and7, nj_div, tz_bI_some, tz_bV_some, or_false, false_or, or_self, and_false, false_and, and_true, true_and, not_true_eq_false, not_false_eq_true, nt_lef, nt_let, nt_ltf, nt_ltt, nt_eqf, nj_m2, nj_m3, nj_m4, nj_m5, nj_m6, nj_m7, tz_bL_some, nj_sub, ng_ltt, ng_let, ng_gtf, ng_gef, h1.1 a q, h1.2 n (Nat.lt_succ_self n)]
    · rcases pr_tf (x < tz_j a) with y | y
      · simp (disch := omega) only [tz_lit, nj_m1, ↓reduceIte, nj_cl, nj_ltt, nj_ltf, nj_let, nj_lef, nj_eqf, nj_lt, nj_le, nj_eq, nj_add, nj_mul, nj_modx, nj_and7, nj_div, tz_bI_some, tz_bV_some, or_false, false_or, or_self, and_false, false_and, and_true, true_and, not_true_eq_false, not_false_eq_true, nt_lef, nt_let, nt_ltf, nt_ltt, nt_eqf, nj_m2, nj_m3, nj_m4, nj_m5, nj_m6, nj_m7, tz_bL_some, nj_sub, ng_ltt, ng_let, ng_gtf, ng_gef, y]
      · simp (disch := omega) only [tz_lit, nj_m1, ↓reduceIte, nj_cl, nj_ltt, nj_ltf, nj_let, nj_lef, nj_eqf, nj_lt, nj_le, nj_eq, nj_add, nj_mul, nj_modx, nj_and7, nj_div, tz_bI_some, tz_bV_some, or_false, false_or, or_self, and_false, false_and, and_true, true_and, not_true_eq_false, not_false_eq_true, nt_lef, nt_let, nt_ltf, nt_ltt, nt_eqf, nj_m2, nj_m3, nj_m4, nj_m5, nj_m6, nj_m7, tz_bL_some, nj_sub, ng_ltt, ng_let, ng_gtf, ng_gef, y, h1.2 n (Nat.lt_succ_self n)]
theorem p_hill (x1 x2 : Int32) : tz_twoI tz_J (f_X11_hill x1 x2) (f_X12_hill x1 x2) := by
  refine two_of (fun N S K U V A hN c ww => ?_)
  have W := ww.1.1
  have h8 := W.1
  have h4 := W.2.1
  have h12 := W.2.2.1
  rcases nj_three x1 7 (by omega) with ⟨x, hx, rfl⟩ | h
  · have a1 := fun A => x_isKind1 (A := A) hx
    have b1 : ∀ A, f_X12_within (tz_j x) (tz_j 0) (tz_j 6) A = some (some (.int (tz_j 1)), A) := fun A => by
      rw [m_within (by omega) (by omega) (by omega), if_pos ⟨by omega, by omega⟩]
    rcases nj_three x2 10 (by omega) with ⟨y, hy, rfl⟩ | h
    · have n1 : (tz_j y < tz_j 0) = False := nj_ltf (by omega) (by omega)
      have n2 : (tz_j y ≤ tz_j 9) = True := nj_let (by omega) (by omega)
      have b2 : ∀ A, f_X12_within (tz_j y) (tz_j 0) (tz_j 9) A = some (some (.int (tz_j 1)), A) := fun A => by
        rw [m_within (by omega) (by omega) (by omega), if_pos ⟨by omega, by omega⟩]
      by_cases z : S 1 0 < 8
      · have a2 : f_X3_isFull 30 A = some (some (.int (tz_j 0)), A) := by
          rw [e_X3_isFull _ h30]
          simp (disch := omega) only [tz_lit, nj_m1, ↓reduceIte, nj_cl, nj_ltt, nj_ltf, nj_let, nj_lef, nj_eqf, nj_lt, nj_le, nj_eq, nj_add, nj_mul, nj_modx, nj_and7, nj_div, tz_bI_some, tz_bV_some, or_false, false_or, or_self, and_false, false_and, and_true, true_and, not_true_eq_false, not_false_eq_true, nt_lef, nt_let, nt_ltf, nt_ltt, nt_eqf, nj_m2, nj_m3, nj_m4, nj_m5, nj_m6, nj_m7, tz_bL_some, nj_sub, ng_ltt, ng_let, ng_gtf, ng_gef, cx_1 c.1.1]
        obtain ⟨A1, f1, r1, g1⟩ := x_addH (x := x) (y := y) h30 c.1 W ww.1.2.1 z
        refine out_sky (v := tz_j (S 1 0)) (S' := sp_addH x y S) c ww (sp_H_mo (addH_H ww.1 z (by omega) (by omega)) (by omega)) ww.2.1 (by rw [addH_1]; omega) ⟨A1, ?_, r1, fx_mo (fx_fr g1) (fun k i h => by unfold rx_p at h; unfold th_p; omega)⟩ (fun A D m => ?_)
        · rw [e_X11_hill]
          simp only [tz_lit, nj_m1, nj_m2, nj_m3, nj_m4, nj_m5, nj_m6, nj_m7, ↓reduceIte, tz_bI_some, tz_bV_some, tz_bL_some, cj10, cj01, cjm0, eq_self, not_true_eq_false, not_false_eq_true, or_false, false_or, or_true, true_or, or_self, and_true, true_and, and_false, false_and, a1, n1, n2, a2, f1]
        · obtain ⟨A2, D', f2, r2, g2⟩ := m_addH (x := x) (y := y) m.1 W z
          refine ⟨A2, D', ?_, r2, fr_mo g2 (fun k i h => Or.inl h)⟩
          have q3 := cm_3 m.1.1
          have n3 : (tz_j (S 1 0) = tz_j 8) = False := nj_eqf (by omega) (by omega) (by omega)
          rw [e_X12_hill]
          simp only [tz_lit, nj_m1, nj_m2, nj_m3, nj_m4, nj_m5, nj_m6, nj_m7, ↓reduceIte, tz_bI_some, tz_bV_some, tz_bL_some, cj10, cj01, cjm0, eq_self, not_true_eq_false, not_false_eq_true, or_false, false_or, or_true, true_or, or_self, and_true, true_and, and_false, false_and, b1, b2, q3, n3, f2]
      · have a2 : f_X3_isFull 30 A = some (some (.int (tz_j 1)), A) := by
          rw [e_X3_isFull _ h30]
          simp (disch := omega) only [tz_lit, nj_m1, ↓reduceIte, nj_cl, nj_ltt, nj_ltf, nj_let, nj_lef, nj_eqf, nj_lt, nj_le, nj_eq, nj_add, nj_mul, nj_modx, nj_and7, nj_div, tz_bI_some, tz_bV_some, or_false, false_or, or_self, and_false, false_and, and_true, true_and, not_true_eq_false, not_false_eq_true, nt_lef, nt_let, nt_ltf, nt_ltt, nt_eqf, nj_m2, nj_m3, nj_m4, nj_m5, nj_m6, nj_m7, tz_bL_some, nj_sub, ng_ltt, ng_let, ng_gtf, ng_gef, cx_1 c.1.1]
        have e8 : S 1 0 = 8 := by omega
        refine out_ref (v := tz_j 4294967289) 7 (by omega) c ww ?_ (fun A D m => ?_)
        · rw [e_X11_hill]
          simp only [tz_lit, nj_m1, nj_m2, nj_m3, nj_m4, nj_m5, nj_m6, nj_m7, ↓reduceIte, tz_bI_some, tz_bV_some, tz_bL_some, cj10, cj01, cjm0, eq_self, not_true_eq_false, not_false_eq_true, or_false, false_or, or_true, true_or, or_self, and_true, true_and, and_false, false_and, a1, n1, n2, a2, cj10, x_ref1, x_ref2, x_ref3, x_ref4, x_ref5, x_ref6, x_ref7, e_X11_refuseLower]
        · have q3 := cm_3 m.1.1
          rw [e8] at q3
          rw [e_X12_hill]
          simp only [tz_lit, nj_m1, nj_m2, nj_m3, nj_m4, nj_m5, nj_m6, nj_m7, ↓reduceIte, tz_bI_some, tz_bV_some, tz_bL_some, cj10, cj01, cjm0, eq_self, not_true_eq_false, not_false_eq_true, or_false, false_or, or_true, true_or, or_self, and_true, true_and, and_false, false_and, b1, b2, q3, m_no1, m_no2, m_no3, m_no4, m_no5, m_no6, m_no7, e_X12_no10]
    · refine out_ref (v := tz_j 4294967290) 6 (by omega) c ww ?_ (fun A D m => ?_)
      · rw [e_X11_hill]
        rcases h with h | h
        · simp (disch := omega) only [tz_lit, nj_m1, nj_m2, nj_m3, nj_m4, nj_m5, nj_m6, nj_m7, ↓reduceIte, tz_bI_some, tz_bV_some, tz_bL_some, cj10, cj01, cjm0, eq_self, not_true_eq_false, not_false_eq_true, or_false, false_or, or_true, true_or, or_self, and_true, true_and, and_false, false_and, nj_eqf, nj_ltt, nj_ltf, nj_let, nj_lef, nj_cl, nt_lef, ng_ltt, ng_let, ng_gtf, ng_gef, a1, ob_l h, x_ref1, x_ref2, x_ref3, x_ref4, x_ref5, x_ref6, x_ref7, e_X11_refuseLower]
        · simp (disch := omega) only [tz_lit, nj_m1, nj_m2, nj_m3, nj_m4, nj_m5, nj_m6, nj_m7, ↓reduceIte, tz_bI_some, tz_bV_some, tz_bL_some, cj10, cj01, cjm0, eq_self, not_true_eq_false, not_false_eq_true, or_false, false_or, or_true, true_or, or_self, and_true, true_and, and_false, false_and, nj_eqf, nj_ltt, nj_ltf, nj_let, nj_lef, nj_cl, nt_lef, ng_ltt, ng_let, ng_gtf, ng_gef, a1, ob_h (show 10 < 2147483648 by omega) h, x_ref1, x_ref2, x_ref3, x_ref4, x_ref5, x_ref6, x_ref7, e_X11_refuseLower]
      · have b2 := wi_ob (A := A) (a := 0) (n := 9) (by omega) (by omega) h
        rw [e_X12_hill]
        simp only [tz_lit, nj_m1, nj_m2, nj_m3, nj_m4, nj_m5, nj_m6, nj_m7, ↓reduceIte, tz_bI_some, tz_bV_some, tz_bL_some, cj10, cj01, cjm0, eq_self, not_true_eq_false, not_false_eq_true, or_false, false_or, or_true, true_or, or_self, and_true, true_and, and_false, false_and, b1, b2, m_no1, m_no2, m_no3, m_no4, m_no5, m_no6, m_no7, e_X12_no10]
  · refine out_ref (v := tz_j 4294967295) 1 (by omega) c ww ?_ (fun A D m => ?_)
    · have a1 := x_isKind0 (A := A) h
      rw [e_X11_hill]
      simp only [tz_lit, nj_m1, nj_m2, nj_m3, nj_m4, nj_m5, nj_m6, nj_m7, ↓reduceIte, tz_bI_some, tz_bV_some, tz_bL_some, cj10, cj01, cjm0, eq_self, not_true_eq_false, not_false_eq_true, or_false, false_or, or_true, true_or, or_self, and_true, true_and, and_false, false_and, a1, x_ref1, x_ref2, x_ref3, x_ref4, x_ref5, x_ref6, x_ref7, e_X11_refuseLower]
    · have b1 := wi_ob (A := A) (a := 0) (n := 6) (by omega) (by omega) h
      rw [e_X12_hill]
      simp only [tz_lit, nj_m1, nj_m2, nj_m3, nj_m4, nj_m5, nj_m6, nj_m7, ↓reduceIte, tz_bI_some, tz_bV_some, tz_bL_some, cj10, cj01, cjm0, eq_self, not_true_eq_false, not_false_eq_true, or_false, false_or, or_true, true_or, or_self, and_true, true_and, and_false, false_and, b1, m_no1, m_no2, m_no3, m_no4, m_no5, m_no6, m_no7, e_X12_no10]
