/-! dry hours -/
theorem nj_wr (n : Nat) : tz_j (n % 4294967296) = tz_j n := by
  show Int32.ofNat _ = Int32.ofNat _
  apply Int32.toBitVec_inj.mp
  show BitVec.ofNat 32 _ = BitVec.ofNat 32 _
  apply BitVec.eq_of_toNat_eq
  rw [BitVec.toNat_ofNat, BitVec.toNat_ofNat]
  omega
def sp_kd (k i : Nat) : Prop := sp_kp k i ∧ (k ≠ 0 ∨ (i ≠ 3 ∧ i ≠ 5))
theorem drw_5 {S : tz_S} : sp_drw S 0 5 = (S 0 5 * 1103515245 + 12345) % 4294967296 := by
  unfold sp_drw
  rw [tz_t1]
theorem drw_G {S : tz_S} (W : sp_W1 S) (W2 : sp_W2 S) (WE : sp_WE S) : sp_W1 (sp_drw S) ∧ sp_W2 (sp_drw S) ∧ sp_WE (sp_drw S) := by
  have g : ∀ k i, k ≠ 0 → sp_drw S k i = S k i := fun k i hk => tz_tk hk
  refine ⟨?_, ?_, we_mv WE (fun k i h1 h2 => g k i (by omega))⟩
  · unfold sp_W1 sp_lt at W ⊢
    simp only [g 1 _ (by omega), g 2 _ (by omega), g 3 _ (by omega), g 7 _ (by omega), g 8 _ (by omega), g 9 _ (by omega), g 10 _ (by omega), g 11 _ (by omega), g 12 _ (by omega), g 15 _ (by omega), g 17 _ (by omega), g 18 _ (by omega), g 19 _ (by omega), g 22 _ (by omega)]
    exact W
  · obtain ⟨a, b, c, d, e1, e2, e3⟩ := W2
    refine ⟨a, b, c, ?_, e1, ?_, e3⟩
    · exact (sum_mv (S := S) (S' := sp_drw S) (S 1 0) (fun _ _ => rfl)).trans d
    · rw [drw_5]
      exact Nat.mod_lt _ (by omega)
theorem dyL_G : ∀ k t c S, t + k = S 7 0 → sp_W1 S → sp_W2 S → sp_WE S → sp_W1 (sp_dyL k t c S).2 ∧ sp_W2 (sp_dyL k t c S).2 ∧ sp_WE (sp_dyL k t c S).2 ∧ S 0 0 ≤ (sp_dyL k t c S).2 0 0 ∧ (sp_dyL k t c S).2 0 0 ≤ S 0 0 + 132 * k ∧ (sp_dyL k t c S).1 ≤ c + k ∧ ∀ k' i', sp_kp k' i' → (k' ≠ 0 ∨ i' ≠ 5) → (sp_dyL k t c S).2 k' i' = S k' i' := by
  intro k
  induction k with
  | zero => exact fun t c S ht W W2 WE => ⟨W, W2, WE, Nat.le_refl _, Nat.le_refl _, Nat.le_refl _, fun _ _ _ _ => rfl⟩
  | succ k ih =>
    intro t c S ht W W2 WE
    obtain ⟨V1, V2, VE⟩ := drw_G W W2 WE
    have g : ∀ k' i', k' ≠ 0 ∨ i' ≠ 5 → sp_drw S k' i' = S k' i' := fun k' i' h => by
      unfold sp_drw
      rw [tz_ta, if_neg (by omega)]
    have g0 := g 0 0 (by omega)
    have g7 := g 7 0 (by omega)
    unfold sp_dyL
    by_cases c1 : S 0 3 % S 8 t = 0
    · rw [if_pos c1]
      by_cases c2 : sp_dr (tz_j (sp_drw S 0 5)) < tz_j (S 0 4)
      · rw [if_pos c2]
        obtain ⟨a1, a2, a3, a4, a5, a6, a7⟩ := ih (t + 1) (c + 1) (sp_drw S) (by omega) V1 V2 VE
        exact ⟨a1, a2, a3, by omega, by omega, by omega, fun k' i' h h' => (a7 k' i' h h').trans (g k' i' h')⟩
      · rw [if_neg c2]
        have gg := com_G (t := t) V1 V2 VE (by omega)
        obtain ⟨g1, g2, g3, g4, g5, g6⟩ := gg
        obtain ⟨a1, a2, a3, a4, a5, a6, a7⟩ := ih (t + 1) c (sp_com t (sp_drw S)) (by rw [g1 7 0 (by unfold sp_kp; omega)]; omega) g2 g3 g4
        exact ⟨a1, a2, a3, by omega, by omega, by omega, fun k' i' h h' => ((a7 k' i' h h').trans (g1 k' i' h)).trans (g k' i' h')⟩
    · rw [if_neg c1]
      obtain ⟨a1, a2, a3, a4, a5, a6, a7⟩ := ih (t + 1) c S (by omega) W W2 WE
      exact ⟨a1, a2, a3, a4, by omega, by omega, a7⟩
theorem dyL_c : ∀ k t c d S, sp_dyL k t (c + d) S = ((sp_dyL k t c S).1 + d, (sp_dyL k t c S).2) := by
  intro k
  induction k with
  | zero => exact fun t c d S => rfl
  | succ k ih =>
    intro t c d S
    unfold sp_dyL
    by_cases c1 : S 0 3 % S 8 t = 0
    · rw [if_pos c1, if_pos c1]
      by_cases c2 : sp_dr (tz_j (sp_drw S 0 5)) < tz_j (S 0 4)
      · rw [if_pos c2, if_pos c2, show c + d + 1 = c + 1 + d by omega]
        exact ih _ _ _ _
      · rw [if_neg c2, if_neg c2]
        exact ih _ _ _ _
    · rw [if_neg c1, if_neg c1]
      exact ih _ _ _ _
theorem dy_G {N : Nat} {S : tz_S} (H : sp_H N S) : sp_H (N + 1) (sp_dy S).2 ∧ (sp_dy S).2 0 3 = S 0 3 + 1 ∧ (sp_dy S).1 ≤ 4 ∧ ∀ k i, sp_kd k i → (sp_dy S).2 k i = S k i := by
  obtain ⟨W, W2, WE, hN, hT⟩ := H
  obtain ⟨a, b, c⟩ := tk0 W W2 WE
  have h4 := W.2.1
  obtain ⟨a1, a2, a3, a4, a5, a6, a7⟩ := dyL_G (S 7 0) 0 0 (tz_t S 0 3 (S 0 3 + 1)) (Nat.zero_add _) a b c
  have h2 : tz_t S 0 3 (S 0 3 + 1) 0 0 = S 0 0 := rfl
  rw [h2] at a4 a5
  have e3 : (sp_dy S).2 0 3 = S 0 3 + 1 := a7 0 3 (by unfold sp_kp; omega) (by omega)
  refine ⟨⟨a1, a2, a3, by omega, ?_⟩, e3, ?_, fun k i h => ?_⟩
  · have h5 : (sp_dy S).2 0 0 ≤ S 0 0 + 132 * S 7 0 := a5
    omega
  · have h6 : (sp_dy S).1 ≤ 0 + S 7 0 := a6
    omega
  · unfold sp_kd at h
    exact (a7 k i h.1 (by omega)).trans (by rw [tz_ta, if_neg (by omega)])
def sp_dg : Nat → Nat → tz_S → Nat × tz_S
  | 0, c, S => (c, S)
  | k + 1, c, S => sp_dg k (c + (sp_dy S).1) (sp_dy S).2
theorem dg_G {N : Nat} : ∀ n c S, sp_H N S → sp_H (N + n) (sp_dg n c S).2 ∧ (sp_dg n c S).1 ≤ c + 4 * n ∧ ∀ k i, sp_kd k i → (sp_dg n c S).2 k i = S k i := by
  intro n
  induction n generalizing N with
  | zero => exact fun c S H => ⟨H, Nat.le_refl _, fun _ _ _ => rfl⟩
  | succ n ih =>
    intro c S H
    obtain ⟨g1, g2, g3, g4⟩ := dy_G H
    obtain ⟨i1, i2, i3⟩ := ih (c + (sp_dy S).1) (sp_dy S).2 g1
    refine ⟨by rw [show N + (n + 1) = N + 1 + n from by omega]; exact i1, ?_, fun k i h => (i3 k i h).trans (g4 k i h)⟩
    show (sp_dg n (c + (sp_dy S).1) (sp_dy S).2).1 ≤ _
    omega
theorem x_drw {b : Nat} {S : tz_S} {A : tz_Mem} (hb : tz_sky b) (r : rx b 99 S A) : f_X9_drawBelow100 b A = some (some (.int (sp_dr (tz_j (sp_drw S 0 5)))), tz_s A (b + 0) 5 (tz_j (sp_drw S 0 5))) ∧ rx b 99 (sp_drw S) (tz_s A (b + 0) 5 (tz_j (sp_drw S 0 5))) := by
  have e5 : tz_g A b 5 = tz_j (S 0 5) := r.1 0 5 (by unfold rx_pl; omega)
  have e1 : tz_j (S 0 5) * tz_j 1103515245 + tz_j 12345 = tz_j (sp_drw S 0 5) := by
    rw [drw_5, nj_wr, nj_mul, nj_add]
  have h := rx_s (k := 0) (i := 5) (v := (S 0 5 * 1103515245 + 12345) % 4294967296) hb (by omega) (by omega) (by omega) (by omega) (by omega) (by omega) (by omega) (by omega) (by omega) r
  refine ⟨?_, by rw [drw_5]; exact h⟩
  rw [e_X9_drawBelow100 _ hb]
  unfold sp_dr
  simp only [tz_lit, e5, e1, tz_gs1, Nat.add_zero]
theorem x_dyL {b : Nat} (hb : tz_sky b) : ∀ k t c S A, t + k = S 7 0 → rx b 99 S A → sp_W1 S → sp_W2 S → sp_WE S → S 0 0 + 132 * k < 2147483648 → S 0 3 < 2147483648 → ∃ A', q_X9_tickDry_14 b (tz_j c) (tz_j t) A = some (some (.int (tz_j (sp_dyL k t c S).1)), A') ∧ rx b 99 (sp_dyL k t c S).2 A' ∧ tz_fr (rx_p b) A A' := by
  intro k
  induction k with
  | zero =>
    intro t c S A ht r W W2 WE hT h3
    have cc := r.1
    have h4 := W.2.1
    have q7 := cx_7 cc
    refine ⟨A, ?_, r, fr_rfl⟩
    have n1 : (tz_j (S 7 0) ≤ tz_j t) = True := nj_let (by omega) (by omega)
    rw [e_X9_tickDry_14 _ _ _ hb]
    simp only [tz_lit, nj_m1, nj_m2, nj_m3, nj_m4, nj_m5, nj_m6, nj_m7, ↓reduceIte, tz_bI_some, tz_bV_some, tz_bL_some, cj10, cj01, cjm0, eq_self, not_true_eq_false, not_false_eq_true, or_false, false_or, or_true, true_or, or_self, and_true, true_and, and_false, false_and, q7, n1]
    rfl
  | succ k ih =>
    intro t c S A ht r W W2 WE hT h3
    have cc := r.1
    have h4 := W.2.1
    have ht0 : t < S 7 0 := by omega
    have q7 := cx_7 cc
    have q3 := cx_0_3 cc
    have n1 : (tz_j (S 7 0) ≤ tz_j t) = False := nj_lef (by omega) (by omega)
    have a1 : tz_j t + tz_j 1 = tz_j (t + 1) := nj_add
    have a2 : tz_j c + tz_j 1 = tz_j (c + 1) := nj_add
    have e0 := x_turn (x := 0) hb cc W ht0 h3
    obtain ⟨V1, V2, VE⟩ := drw_G W W2 WE
    obtain ⟨f1, r1⟩ := x_drw hb r
    have q4 : tz_g (tz_s A (b + 0) 5 (tz_j (sp_drw S 0 5))) b 4 = tz_j (S 0 4) := (tz_gsi (k := b) (by omega)).trans (cc 0 4 (by unfold rx_pl; omega))
    have fr1 : tz_fr (rx_p b) A (tz_s A (b + 0) 5 (tz_j (sp_drw S 0 5))) := fr_s fr_rfl (Or.inl (by omega))
    unfold sp_dyL
    by_cases c1 : S 0 3 % S 8 t = 0
    · rw [if_pos c1]
      rw [if_pos c1] at e0
      by_cases c2 : sp_dr (tz_j (sp_drw S 0 5)) < tz_j (S 0 4)
      · rw [if_pos c2]
        obtain ⟨A', e, r', f'⟩ := ih (t + 1) (c + 1) (sp_drw S) _ (by rw [show sp_drw S 7 0 = S 7 0 from rfl]; omega) r1 V1 V2 VE (by rw [show sp_drw S 0 0 = S 0 0 from rfl]; omega) h3
        refine ⟨A', ?_, r', fr_tr fr1 f'⟩
        have c2' := eq_true c2
        rw [e_X9_tickDry_14 _ _ _ hb]
        simp only [tz_lit, nj_m1, nj_m2, nj_m3, nj_m4, nj_m5, nj_m6, nj_m7, ↓reduceIte, tz_bI_some, tz_bV_some, tz_bL_some, cj10, cj01, cjm0, eq_self, not_true_eq_false, not_false_eq_true, or_false, false_or, or_true, true_or, or_self, and_true, true_and, and_false, false_and, q7, q3, n1, a1, a2, e0, f1, q4, c2', e]
      · rw [if_neg c2]
        obtain ⟨A1, e1, r2, f1'⟩ := x_com (t := t) hb r1 V1 V2 VE ht0 (by rw [show sp_drw S 0 0 = S 0 0 from rfl]; omega) h3
        obtain ⟨g1, g2, g3, g4, g5, g6⟩ := com_G (t := t) V1 V2 VE ht0
        rw [show sp_drw S 0 0 = S 0 0 from rfl] at g6
        obtain ⟨A', e, r', f'⟩ := ih (t + 1) c (sp_com t (sp_drw S)) A1 (by rw [g1 7 0 (by unfold sp_kp; omega), show sp_drw S 7 0 = S 7 0 from rfl]; omega) r2 g2 g3 g4 (by omega) (by rw [g1 0 3 (by unfold sp_kp; omega)]; exact h3)
        refine ⟨A', ?_, r', fr_tr fr1 (fr_tr f1' f')⟩
        have c2' := eq_false c2
        rw [e_X9_tickDry_14 _ _ _ hb]
        simp only [tz_lit, nj_m1, nj_m2, nj_m3, nj_m4, nj_m5, nj_m6, nj_m7, ↓reduceIte, tz_bI_some, tz_bV_some, tz_bL_some, cj10, cj01, cjm0, eq_self, not_true_eq_false, not_false_eq_true, or_false, false_or, or_true, true_or, or_self, and_true, true_and, and_false, false_and, q7, q3, n1, a1, a2, e0, f1, q4, c2', e1, e]
    · rw [if_neg c1]
      rw [if_neg c1] at e0
      obtain ⟨A', e, r', f'⟩ := ih (t + 1) c S A (by omega) r W W2 WE (by omega) h3
      refine ⟨A', ?_, r', f'⟩
      rw [e_X9_tickDry_14 _ _ _ hb]
      simp only [tz_lit, nj_m1, nj_m2, nj_m3, nj_m4, nj_m5, nj_m6, nj_m7, ↓reduceIte, tz_bI_some, tz_bV_some, tz_bL_some, cj10, cj01, cjm0, eq_self, not_true_eq_false, not_false_eq_true, or_false, false_or, or_true, true_or, or_self, and_true, true_and, and_false, false_and, q7, q3, n1, a1, a2, e0, e]
theorem x_dy {b N : Nat} {S : tz_S} {A : tz_Mem} (hb : tz_sky b) (hN : N ≤ 2000000) (r : rx b 99 S A) (H : sp_H N S) : ∃ A', f_X9_tickDry b A = some (some (.int (tz_j (sp_dy S).1)), A') ∧ rx b 99 (sp_dy S).2 A' ∧ tz_fr (rx_p b) A A' := by
  obtain ⟨W, W2, WE, h3, hT⟩ := H
  obtain ⟨a, b2, c⟩ := tk0 W W2 WE
  have h4 := W.2.1
  have hr : rx b 99 (tz_t S 0 3 (S 0 3 + 1)) (tz_s A (b + 0) 3 (tz_j (S 0 3 + 1))) := rx_s hb (by omega) (by omega) (by omega) (by omega) (by omega) (by omega) (by omega) (by omega) (by omega) r
  obtain ⟨A', e, r', f'⟩ := x_dyL hb (S 7 0) 0 0 (tz_t S 0 3 (S 0 3 + 1)) (tz_s A (b + 0) 3 (tz_j (S 0 3 + 1))) (Nat.zero_add _) hr a b2 c (by rw [show tz_t S 0 3 (S 0 3 + 1) 0 0 = S 0 0 from rfl]; omega) (by rw [show tz_t S 0 3 (S 0 3 + 1) 0 3 = S 0 3 + 1 from rfl]; omega)
  refine ⟨A', ?_, r', fr_tr (fr_s fr_rfl (Or.inl (by omega))) f'⟩
  have q3 := cx_0_3 r.1
  have a1 : tz_j (S 0 3) + tz_j 1 = tz_j (S 0 3 + 1) := nj_add
  rw [e_X9_tickDry _ hb]
  simp only [tz_lit, nj_m1, nj_m2, nj_m3, nj_m4, nj_m5, nj_m6, nj_m7, ↓reduceIte, tz_bI_some, tz_bV_some, tz_bL_some, cj10, cj01, cjm0, eq_self, not_true_eq_false, not_false_eq_true, or_false, false_or, or_true, true_or, or_self, and_true, true_and, and_false, false_and, q3, a1]
  exact e
theorem x_dg {b n : Nat} (hb : tz_sky b) (hb3 : b = 30) (hn : n ≤ 200) : ∀ k j c N S A, j + k = n → N + k ≤ 2000000 → rx b 99 S A → sp_H N S → ∃ A', q_X11_drought_23 (tz_j n) (tz_j c) (tz_j j) A = some (some (.int (tz_j (sp_dg k c S).1)), A') ∧ rx b 99 (sp_dg k c S).2 A' ∧ tz_fr (rx_p b) A A' := by
  subst hb3
  intro k
  induction k with
  | zero =>
    intro j c N S A hj hN r H
    refine ⟨A, ?_, r, fr_rfl⟩
    have n1 : (tz_j n ≤ tz_j j) = True := nj_let (by omega) (by omega)
    rw [e_X11_drought_23]
    simp only [tz_lit, nj_m1, nj_m2, nj_m3, nj_m4, nj_m5, nj_m6, nj_m7, ↓reduceIte, tz_bI_some, tz_bV_some, tz_bL_some, cj10, cj01, cjm0, eq_self, not_true_eq_false, not_false_eq_true, or_false, false_or, or_true, true_or, or_self, and_true, true_and, and_false, false_and, n1]
    rfl
  | succ k ih =>
    intro j c N S A hj hN r H
    have n1 : (tz_j n ≤ tz_j j) = False := nj_lef (by omega) (by omega)
    obtain ⟨A1, e1, r1, f1⟩ := x_dy hb (by omega) r H
    obtain ⟨A', e, r', f'⟩ := ih (j + 1) (c + (sp_dy S).1) (N + 1) _ A1 (by omega) (by omega) r1 (dy_G H).1
    have a1 : tz_j j + tz_j 1 = tz_j (j + 1) := nj_add
    have a2 : tz_j c + tz_j (sp_dy S).1 = tz_j (c + (sp_dy S).1) := nj_add
    refine ⟨A', ?_, r', fr_tr f1 f'⟩
    rw [e_X11_drought_23]
    simp only [tz_lit, nj_m1, nj_m2, nj_m3, nj_m4, nj_m5, nj_m6, nj_m7, ↓reduceIte, tz_bI_some, tz_bV_some, tz_bL_some, cj10, cj01, cjm0, eq_self, not_true_eq_false, not_false_eq_true, or_false, false_or, or_true, true_or, or_self, and_true, true_and, and_false, false_and, n1, e1, a1, a2]
    exact e
