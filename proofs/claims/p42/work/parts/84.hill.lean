/-! a hill, a letter more -/
def sp_addH (x y : Nat) (S : tz_S) : tz_S := tz_t (tz_t (tz_t (tz_t S 2 (S 1 0) x) 3 (S 1 0) y) 5 (S 1 0) 0) 1 0 (S 1 0 + 1)
theorem addH_g {x y k i : Nat} {S : tz_S} (h : (k ≠ 1 ∨ i ≠ 0) ∧ (k ≠ 2 ∨ i ≠ S 1 0) ∧ (k ≠ 3 ∨ i ≠ S 1 0) ∧ (k ≠ 5 ∨ i ≠ S 1 0)) : sp_addH x y S k i = S k i := by
  unfold sp_addH
  rw [tz_ta, if_neg (by omega), tz_ta, if_neg (by omega), tz_ta, if_neg (by omega), tz_ta, if_neg (by omega)]
theorem addH_1 {x y : Nat} {S : tz_S} : sp_addH x y S 1 0 = S 1 0 + 1 := tz_t1
theorem addH_2 {x y : Nat} {S : tz_S} : sp_addH x y S 2 (S 1 0) = x := by
  unfold sp_addH
  rw [tz_tk (by omega), tz_tk (by omega), tz_tk (by omega), tz_t1]
theorem addH_3 {x y : Nat} {S : tz_S} : sp_addH x y S 3 (S 1 0) = y := by
  unfold sp_addH
  rw [tz_tk (by omega), tz_tk (by omega), tz_t1]
theorem addH_5 {x y : Nat} {S : tz_S} : sp_addH x y S 5 (S 1 0) = 0 := by
  unfold sp_addH
  rw [tz_tk (by omega), tz_t1]
theorem addH_H {N x y : Nat} {S : tz_S} (H : sp_H N S) (hn : S 1 0 < 8) (hx : x ≤ 6) (hy : y ≤ 9) : sp_H N (sp_addH x y S) := by
  obtain ⟨⟨a1, a2, a3, a4, a5, a6, a7, a8, a9⟩, ⟨b1, b2, b3, b4, b5, b6, b7⟩, WE, h3, hT⟩ := H
  have g : ∀ k i, k ≠ 1 → k ≠ 2 → k ≠ 3 → k ≠ 5 → sp_addH x y S k i = S k i := fun k i _ _ _ _ => addH_g (by omega)
  have g5 : ∀ h, h ≠ S 1 0 → sp_addH x y S 5 h = S 5 h := fun h _ => addH_g (by omega)
  refine ⟨⟨?_, ?_, ?_, fun h hh => ?_, fun t ht => ?_, fun l hl => ?_, ?_, fun i j hi hj => ?_, ?_⟩, ⟨fun t ht => ?_, fun l hl => ?_, fun h hh => ?_, ?_, ?_, ?_, ?_⟩, we_mv WE (fun k i h1 h2 => g k i (by omega) (by omega) (by omega) (by omega)), ?_, ?_⟩
  · rw [addH_1]
    omega
  · rw [g 7 0 (by omega) (by omega) (by omega) (by omega)]
    exact a2
  · rw [g 15 0 (by omega) (by omega) (by omega) (by omega)]
    exact a3
  · rw [addH_1] at hh
    by_cases e : h = S 1 0
    · subst e
      rw [addH_2, addH_3]
      exact ⟨hx, hy⟩
    · rw [addH_g (by omega), addH_g (by omega)]
      exact a4 h (by omega)
  · rw [g 7 0 (by omega) (by omega) (by omega) (by omega)] at ht
    obtain ⟨c1, c2, c3, c4, c5, c6, c7, c8, c9⟩ := a5 t ht
    rw [g 8 t (by omega) (by omega) (by omega) (by omega), g 9 t (by omega) (by omega) (by omega) (by omega), g 10 t (by omega) (by omega) (by omega) (by omega), g 11 t (by omega) (by omega) (by omega) (by omega), addH_1]
    refine ⟨c1, c2, c3, c4, c5, c6, c7, c8, fun i hi => ?_⟩
    rw [g 12 _ (by omega) (by omega) (by omega) (by omega)]
    exact Nat.lt_succ_of_lt (c9 i hi)
  · rw [g 15 0 (by omega) (by omega) (by omega) (by omega)] at hl
    obtain ⟨c1, c2, c3⟩ := a6 l hl
    rw [g 17 l (by omega) (by omega) (by omega) (by omega), g 18 l (by omega) (by omega) (by omega) (by omega), g 19 l (by omega) (by omega) (by omega) (by omega), addH_1]
    exact ⟨Nat.lt_succ_of_lt c1, Nat.lt_succ_of_lt c2, c3⟩
  · rw [g 15 0 (by omega) (by omega) (by omega) (by omega)]
    intro i hi
    rw [g 22 _ (by omega) (by omega) (by omega) (by omega)]
    exact a7 i hi
  · rw [g 15 0 (by omega) (by omega) (by omega) (by omega)] at hj
    unfold sp_lt
    rw [g 22 _ (by omega) (by omega) (by omega) (by omega), g 22 _ (by omega) (by omega) (by omega) (by omega), g 19 _ (by omega) (by omega) (by omega) (by omega), g 19 _ (by omega) (by omega) (by omega) (by omega)]
    exact a8 i j hi hj
  · rw [g 15 0 (by omega) (by omega) (by omega) (by omega)]
    intro l hl
    obtain ⟨i, hi, e⟩ := a9 l hl
    exact ⟨i, hi, (g 22 _ (by omega) (by omega) (by omega) (by omega)).trans e⟩
  · rw [g 7 0 (by omega) (by omega) (by omega) (by omega)] at ht
    rw [g 13 _ (by omega) (by omega) (by omega) (by omega), g 11 _ (by omega) (by omega) (by omega) (by omega)]
    exact b1 t ht
  · rw [g 15 0 (by omega) (by omega) (by omega) (by omega)] at hl
    obtain ⟨c1, c2, c3, c4⟩ := b2 l hl
    rw [g 16 _ (by omega) (by omega) (by omega) (by omega), g 20 _ (by omega) (by omega) (by omega) (by omega), g 21 _ (by omega) (by omega) (by omega) (by omega), g 0 _ (by omega) (by omega) (by omega) (by omega)]
    refine ⟨c1, ?_, c3, c4⟩
    unfold sp_wh at c2 ⊢
    rw [addH_1, g 7 0 (by omega) (by omega) (by omega) (by omega)]
    omega
  · rw [addH_1] at hh
    rw [g 0 _ (by omega) (by omega) (by omega) (by omega)]
    by_cases e : h = S 1 0
    · subst e
      rw [addH_5]
      omega
    · rw [g5 h e]
      exact b3 h (by omega)
  · rw [addH_1, g 0 _ (by omega) (by omega) (by omega) (by omega)]
    show sp_sum (S 1 0) (sp_addH x y S) + sp_addH x y S 5 (S 1 0) = S 0 0
    rw [addH_5, sum_mv (S := S) (S 1 0) (fun h hh => g5 h (by omega))]
    omega
  · rw [g 0 _ (by omega) (by omega) (by omega) (by omega)]
    exact b5
  · rw [g 0 _ (by omega) (by omega) (by omega) (by omega)]
    exact b6
  · rw [g 0 _ (by omega) (by omega) (by omega) (by omega)]
    exact b7
  · rw [g 0 _ (by omega) (by omega) (by omega) (by omega)]
    exact h3
  · rw [g 0 _ (by omega) (by omega) (by omega) (by omega), g 0 _ (by omega) (by omega) (by omega) (by omega)]
    exact hT
theorem x_addH {b x y : Nat} {S : tz_S} {A : tz_Mem} (hb : tz_sky b) (r : rx b 99 S A) (W : sp_W1 S) (W2 : sp_W2 S) (hn : S 1 0 < 8) : ∃ A', f_X3_add b (tz_j x) (tz_j y) A = some (some (.int (tz_j (S 1 0))), A') ∧ rx b 99 (sp_addH x y S) A' ∧ tz_fr (rx_p b) A A' := by
  have hs := sky_lo hb
  have h4 := W.2.1
  obtain ⟨c, l0, k0, w0, e0⟩ := r
  have q1 := cx_1 c
  have c1 : rx_c b (tz_t (tz_t S 2 (S 1 0) x) 3 (S 1 0) y) (tz_s (tz_s A (b + 2) (S 1 0) (tz_j x)) (b + 3) (S 1 0) (tz_j y)) := rx_c_s (rx_c_s c)
  have c2 : rx_c b (tz_t (tz_t S 2 (S 1 0) x) 3 (S 1 0) y) (tz_s (tz_s (tz_s A (b + 2) (S 1 0) (tz_j x)) (b + 3) (S 1 0) (tz_j y)) (b + 4) (S 1 0) (tz_j 0)) := rx_c_mv c1 (fun _ _ _ => rfl) (fun k i hp => tz_gsk (by unfold rx_pl at hp; omega))
  have c3 : rx_c b (sp_addH x y S) (tz_s (tz_s (tz_s (tz_s (tz_s A (b + 2) (S 1 0) (tz_j x)) (b + 3) (S 1 0) (tz_j y)) (b + 4) (S 1 0) (tz_j 0)) (b + 5) (S 1 0) (tz_j 0)) (b + 1) 0 (tz_j (S 1 0 + 1))) := rx_c_s (rx_c_s c2)
  have e : ∀ k i, k ≠ b + 1 → k ≠ b + 2 → k ≠ b + 3 → k ≠ b + 4 → k ≠ b + 5 → tz_g (tz_s (tz_s (tz_s (tz_s (tz_s A (b + 2) (S 1 0) (tz_j x)) (b + 3) (S 1 0) (tz_j y)) (b + 4) (S 1 0) (tz_j 0)) (b + 5) (S 1 0) (tz_j 0)) (b + 1) 0 (tz_j (S 1 0 + 1))) k i = tz_g A k i := fun k i h1 h2 h3 h4 h5 => by rw [tz_gsk h1, tz_gsk h5, tz_gsk h4, tz_gsk h3, tz_gsk h2]
  have g : ∀ k i, k ≠ 1 → k ≠ 2 → k ≠ 3 → k ≠ 5 → sp_addH x y S k i = S k i := fun k i _ _ _ _ => addH_g (by omega)
  refine ⟨_, ?_, ⟨c3, fun h hh => ?_, rx_k_mv k0 (g 7 0 (by omega) (by omega) (by omega) (by omega)) (g 15 0 (by omega) (by omega) (by omega) (by omega)) (fun _ => g 20 _ (by omega) (by omega) (by omega) (by omega)) (fun t _ _ => e _ _ (by omega) (by omega) (by omega) (by omega) (by omega)), fun h hh j h1 h2 => ?_, rx_e_mv e0 (fun k i h1 h2 => g k i (by omega) (by omega) (by omega) (by omega)) rfl (fun k i h1 h2 => e k i (by omega) (by omega) (by omega) (by omega) (by omega))⟩, fr_s (fr_s (fr_s (fr_s (fr_s fr_rfl (Or.inl (by omega))) (Or.inl (by omega))) (Or.inl (by omega))) (Or.inl (by omega))) (Or.inl (by omega))⟩
  · rw [e_X3_add _ _ _ hb]
    simp (disch := omega) only [tz_lit, nj_m1, ↓reduceIte, nj_cl, nj_ltt, nj_ltf, nj_let, nj_lef, nj_eqf, nj_lt, nj_le, nj_eq, nj_add, nj_mul, nj_modx, nj_and7, nj_div, tz_bI_some, tz_bV_some, or_false, false_or, or_self, and_false, false_and, and_true, true_and, not_true_eq_false, not_false_eq_true, nt_lef, nt_let, nt_ltf, nt_ltt, nt_eqf, nj_m2, nj_m3, nj_m4, nj_m5, nj_m6, nj_m7, tz_bL_some, nj_sub, ng_ltt, ng_let, ng_gtf, ng_gef, q1, tz_gsk, tz_gs1]
  · rw [addH_1] at hh
    by_cases q : h = S 1 0
    · rw [q, tz_gsk (by omega), tz_gsk (by omega), tz_gs1]
      refine bt_congr bj_zero (fun l hl => ?_)
      symm
      rw [decide_eq_false_iff_not, g 15 0 (by omega) (by omega) (by omega) (by omega), g 20 _ (by omega) (by omega) (by omega) (by omega)]
      intro y
      have hv := (W2.2.1 l y.1).2.1
      unfold sp_wh at hv
      omega
    · rw [tz_gsk (by omega), tz_gsk (by omega), tz_gsi q, tz_gsk (by omega), tz_gsk (by omega)]
      refine bt_congr (l0 h (by omega)) (fun l hl => ?_)
      rw [g 15 0 (by omega) (by omega) (by omega) (by omega), g 20 _ (by omega) (by omega) (by omega) (by omega)]
  · rw [addH_1] at hh
    by_cases q : h = S 1 0
    · rw [q, addH_5] at h1
      omega
    · rw [addH_g (by omega)] at h1 h2
      rw [e _ _ (by omega) (by omega) (by omega) (by omega) (by omega), g _ _ (by omega) (by omega) (by omega) (by omega)]
      exact w0 h (by omega) j h1 h2
theorem x_isKind1 {m : Nat} {A : tz_Mem} (h : m < 7) : f_X11_isKind (tz_j m) A = some (some (.int (tz_j 1)), A) := by
  rw [e_X11_isKind]
  simp (disch := omega) only [tz_lit, nj_m1, ↓reduceIte, nj_cl, nj_ltt, nj_ltf, nj_let, nj_lef, nj_eqf, nj_lt, nj_le, nj_eq, nj_add, nj_mul, nj_modx, nj_and7, nj_div, tz_bI_some, tz_bV_some, or_false, false_or, or_self, and_false, false_and, and_true, true_and, not_true_eq_false, not_false_eq_true, nt_lef, nt_let, nt_ltf, nt_ltt, nt_eqf, nj_m2, nj_m3, nj_m4, nj_m5, nj_m6, nj_m7, tz_bL_some, nj_sub, ng_ltt, ng_let, ng_gtf, ng_gef]
theorem x_isKind0 {x : Int32} {A : tz_Mem} (h : x < tz_j 0 ∨ tz_j 7 ≤ x) : f_X11_isKind x A = some (some (.int (tz_j 0)), A) := by
  rw [e_X11_isKind]
  rcases h with h | h
  · simp (disch := omega) only [tz_lit, nj_m1, ↓reduceIte, nj_cl, nj_ltt, nj_ltf, nj_let, nj_lef, nj_eqf, nj_lt, nj_le, nj_eq, nj_add, nj_mul, nj_modx, nj_and7, nj_div, tz_bI_some, tz_bV_some, or_false, false_or, or_self, and_false, false_and, and_true, true_and, not_true_eq_false, not_false_eq_true, nt_lef, nt_let, nt_ltf, nt_ltt, nt_eqf, nj_m2, nj_m3, nj_m4, nj_m5, nj_m6, nj_m7, tz_bL_some, nj_sub, ng_ltt, ng_let, ng_gtf, ng_gef, ob_l h]
  · simp (disch := omega) only [tz_lit, nj_m1, ↓reduceIte, nj_cl, nj_ltt, nj_ltf, nj_let, nj_lef, nj_eqf, nj_lt, nj_le, nj_eq, nj_add, nj_mul, nj_modx, nj_and7, nj_div, tz_bI_some, tz_bV_some, or_false, false_or, or_self, and_false, false_and, and_true, true_and, not_true_eq_false, not_false_eq_true, nt_lef, nt_let, nt_ltf, nt_ltt, nt_eqf, nj_m2, nj_m3, nj_m4, nj_m5, nj_m6, nj_m7, tz_bL_some, nj_sub, ng_ltt, ng_let, ng_gtf, ng_gef, ob_h (show 7 < 2147483648 by omega) h]
