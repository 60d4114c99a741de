/-! questions about hills, storms, letters; small changes -/
theorem cz_2 {S : tz_S} {A : tz_Mem} (c : rx_c 30 S A) {i : Nat} (hi : i < 8) : tz_g A 32 i = tz_j (S 2 i) := cx_2 c hi
theorem cz_3 {S : tz_S} {A : tz_Mem} (c : rx_c 30 S A) {i : Nat} (hi : i < 8) : tz_g A 33 i = tz_j (S 3 i) := cx_3 c hi
theorem cz_5 {S : tz_S} {A : tz_Mem} (c : rx_c 30 S A) {i : Nat} (hi : i < 8) : tz_g A 35 i = tz_j (S 5 i) := cx_5 c hi
theorem cz_8 {S : tz_S} {A : tz_Mem} (c : rx_c 30 S A) {i : Nat} (hi : i < 4) : tz_g A 38 i = tz_j (S 8 i) := cx_8 c hi
theorem cz_9 {S : tz_S} {A : tz_Mem} (c : rx_c 30 S A) {i : Nat} (hi : i < 4) : tz_g A 39 i = tz_j (S 9 i) := cx_9 c hi
theorem cz_10 {S : tz_S} {A : tz_Mem} (c : rx_c 30 S A) {i : Nat} (hi : i < 4) : tz_g A 40 i = tz_j (S 10 i) := cx_10 c hi
theorem cz_11 {S : tz_S} {A : tz_Mem} (c : rx_c 30 S A) {i : Nat} (hi : i < 4) : tz_g A 41 i = tz_j (S 11 i) := cx_11 c hi
theorem cz_12 {S : tz_S} {A : tz_Mem} (c : rx_c 30 S A) {i : Nat} (hi : i < 24) : tz_g A 42 i = tz_j (S 12 i) := cx_12 c hi
theorem cz_13 {S : tz_S} {A : tz_Mem} (c : rx_c 30 S A) {i : Nat} (hi : i < 4) : tz_g A 43 i = tz_j (S 13 i) := cx_13 c hi
theorem cz_16 {S : tz_S} {A : tz_Mem} (c : rx_c 30 S A) {i : Nat} (hi : i < 12) : tz_g A 46 i = tz_j (S 16 i) := cx_16 c hi
theorem cz_17 {S : tz_S} {A : tz_Mem} (c : rx_c 30 S A) {i : Nat} (hi : i < 12) : tz_g A 47 i = tz_j (S 17 i) := cx_17 c hi
theorem cz_18 {S : tz_S} {A : tz_Mem} (c : rx_c 30 S A) {i : Nat} (hi : i < 12) : tz_g A 48 i = tz_j (S 18 i) := cx_18 c hi
theorem cz_19 {S : tz_S} {A : tz_Mem} (c : rx_c 30 S A) {i : Nat} (hi : i < 12) : tz_g A 49 i = tz_j (S 19 i) := cx_19 c hi
theorem cz_20 {S : tz_S} {A : tz_Mem} (c : rx_c 30 S A) {i : Nat} (hi : i < 12) : tz_g A 50 i = tz_j (S 20 i) := cx_20 c hi
theorem cz_21 {S : tz_S} {A : tz_Mem} (c : rx_c 30 S A) {i : Nat} (hi : i < 12) : tz_g A 51 i = tz_j (S 21 i) := cx_21 c hi
theorem cz_22 {S : tz_S} {A : tz_Mem} (c : rx_c 30 S A) {i : Nat} (hi : i < 12) : tz_g A 52 i = tz_j (S 22 i) := cx_22 c hi
theorem cz_1 {S : tz_S} {A : tz_Mem} (c : rx_c 30 S A) : tz_g A 31 0 = tz_j (S 1 0) := cx_1 c
theorem cz_7 {S : tz_S} {A : tz_Mem} (c : rx_c 30 S A) : tz_g A 37 0 = tz_j (S 7 0) := cx_7 c
theorem cz_15 {S : tz_S} {A : tz_Mem} (c : rx_c 30 S A) : tz_g A 45 0 = tz_j (S 15 0) := cx_15 c
theorem cg_2 {S : tz_S} {A : tz_Mem} (c : rx_c 76 S A) {i : Nat} (hi : i < 8) : tz_g A 78 i = tz_j (S 2 i) := cx_2 c hi
theorem cg_3 {S : tz_S} {A : tz_Mem} (c : rx_c 76 S A) {i : Nat} (hi : i < 8) : tz_g A 79 i = tz_j (S 3 i) := cx_3 c hi
theorem cg_5 {S : tz_S} {A : tz_Mem} (c : rx_c 76 S A) {i : Nat} (hi : i < 8) : tz_g A 81 i = tz_j (S 5 i) := cx_5 c hi
theorem cg_8 {S : tz_S} {A : tz_Mem} (c : rx_c 76 S A) {i : Nat} (hi : i < 4) : tz_g A 84 i = tz_j (S 8 i) := cx_8 c hi
theorem cg_9 {S : tz_S} {A : tz_Mem} (c : rx_c 76 S A) {i : Nat} (hi : i < 4) : tz_g A 85 i = tz_j (S 9 i) := cx_9 c hi
theorem cg_10 {S : tz_S} {A : tz_Mem} (c : rx_c 76 S A) {i : Nat} (hi : i < 4) : tz_g A 86 i = tz_j (S 10 i) := cx_10 c hi
theorem cg_11 {S : tz_S} {A : tz_Mem} (c : rx_c 76 S A) {i : Nat} (hi : i < 4) : tz_g A 87 i = tz_j (S 11 i) := cx_11 c hi
theorem cg_12 {S : tz_S} {A : tz_Mem} (c : rx_c 76 S A) {i : Nat} (hi : i < 24) : tz_g A 88 i = tz_j (S 12 i) := cx_12 c hi
theorem cg_13 {S : tz_S} {A : tz_Mem} (c : rx_c 76 S A) {i : Nat} (hi : i < 4) : tz_g A 89 i = tz_j (S 13 i) := cx_13 c hi
theorem cg_16 {S : tz_S} {A : tz_Mem} (c : rx_c 76 S A) {i : Nat} (hi : i < 12) : tz_g A 92 i = tz_j (S 16 i) := cx_16 c hi
theorem cg_17 {S : tz_S} {A : tz_Mem} (c : rx_c 76 S A) {i : Nat} (hi : i < 12) : tz_g A 93 i = tz_j (S 17 i) := cx_17 c hi
theorem cg_18 {S : tz_S} {A : tz_Mem} (c : rx_c 76 S A) {i : Nat} (hi : i < 12) : tz_g A 94 i = tz_j (S 18 i) := cx_18 c hi
theorem cg_19 {S : tz_S} {A : tz_Mem} (c : rx_c 76 S A) {i : Nat} (hi : i < 12) : tz_g A 95 i = tz_j (S 19 i) := cx_19 c hi
theorem cg_20 {S : tz_S} {A : tz_Mem} (c : rx_c 76 S A) {i : Nat} (hi : i < 12) : tz_g A 96 i = tz_j (S 20 i) := cx_20 c hi
theorem cg_21 {S : tz_S} {A : tz_Mem} (c : rx_c 76 S A) {i : Nat} (hi : i < 12) : tz_g A 97 i = tz_j (S 21 i) := cx_21 c hi
theorem cg_22 {S : tz_S} {A : tz_Mem} (c : rx_c 76 S A) {i : Nat} (hi : i < 12) : tz_g A 98 i = tz_j (S 22 i) := cx_22 c hi
theorem cg_1 {S : tz_S} {A : tz_Mem} (c : rx_c 76 S A) : tz_g A 77 0 = tz_j (S 1 0) := cx_1 c
theorem cg_7 {S : tz_S} {A : tz_Mem} (c : rx_c 76 S A) : tz_g A 83 0 = tz_j (S 7 0) := cx_7 c
theorem cg_15 {S : tz_S} {A : tz_Mem} (c : rx_c 76 S A) : tz_g A 91 0 = tz_j (S 15 0) := cx_15 c

theorem x_allAtL {b h : Nat} {S : tz_S} {A : tz_Mem} (hb : tz_sky b) (c : rx_c b S A) (W : sp_W1 S) (W2 : sp_W2 S) (hh : h < 8) : ∀ k t y, t + k = S 7 0 → bt_is y (fun m => decide (m < t ∧ sp_at S m = h)) → ∃ z, q_X10_allAt_4 b (tz_j h) y (tz_j t) A = some (some (.int z), A) ∧ bt_is z (fun m => decide (m < S 7 0 ∧ sp_at S m = h)) := by
  have h4 := W.2.1
  have h8 := W.1
  intro k
  induction k with
  | zero =>
    intro l y hl hy
    rw [Nat.add_zero] at hl
    subst hl
    refine ⟨y, ?_, hy⟩
    rw [e_X10_allAt_4 _ _ _ _ hb]
    simp (disch := omega) only [tz_lit, nj_m1, ↓reduceIte, nj_cl, nj_ltt, nj_ltf, nj_let, nj_lef, nj_eqf, nj_lt, nj_le, nj_eq, nj_add, nj_mul, nj_modx, nj_and7, nj_div, tz_bI_some, tz_bV_some, or_false, false_or, or_self, and_false, false_and, and_true, true_and, not_true_eq_false, not_false_eq_true, nt_lef, nt_let, nt_ltf, nt_ltt, nt_eqf, nj_m2, nj_m3, nj_m4, nj_m5, nj_m6, nj_m7, tz_bL_some, nj_sub, ng_ltt, ng_let, ng_gtf, ng_gef, cx_7 c]
  | succ k ih =>
    intro l y hl hy
    have e0 := x_at hb c W W2 (show l < S 7 0 by omega)
    have hat := at_lt W W2 (show l < S 7 0 by omega)
    rw [e_X10_allAt_4 _ _ _ _ hb]
    by_cases z : sp_at S l = h
    · obtain ⟨v, e, hv⟩ := ih (l + 1) (y ||| (tz_j 1 <<< (tz_j l &&& tz_j 31))) (by omega) (bt_congr (bj_or (by omega) hy) (fun m _ => by
        by_cases x : m = l
        · subst x
          simp [z]
        · have x2 : ¬ l = m := fun q => x q.symm
          have x3 : (m < l + 1) = (m < l) := propext (by omega)
          simp [x2, x3]))
      refine ⟨v, ?_, hv⟩
      simp (disch := omega) only [tz_lit, nj_m1, ↓reduceIte, nj_cl, nj_ltt, nj_ltf, nj_let, nj_lef, nj_eqf, nj_lt, nj_le, nj_eq, nj_add, nj_mul, nj_modx, nj_and7, nj_div, tz_bI_some, tz_bV_some, or_false, false_or, or_self, and_false, false_and, and_true, true_and, not_true_eq_false, not_false_eq_true, nt_lef, nt_let, nt_ltf, nt_ltt, nt_eqf, nj_m2, nj_m3, nj_m4, nj_m5, nj_m6, nj_m7, tz_bL_some, nj_sub, ng_ltt, ng_let, ng_gtf, ng_gef, cx_7 c, e0, z]
      exact e
    · obtain ⟨v, e, hv⟩ := ih (l + 1) y (by omega) (bt_congr hy (fun m _ => by
        by_cases x : m = l
        · subst x
          simp [z]
        · have x3 : (m < l + 1) = (m < l) := propext (by omega)
          simp [x3]))
      refine ⟨v, ?_, hv⟩
      simp (disch := omega) only [tz_lit, nj_m1, ↓reduceIte, nj_cl, nj_ltt, nj_ltf, nj_let, nj_lef, nj_eqf, nj_lt, nj_le, nj_eq, nj_add, nj_mul, nj_modx, nj_and7, nj_div, tz_bI_some, tz_bV_some, or_false, false_or, or_self, and_false, false_and, and_true, true_and, not_true_eq_false, not_false_eq_true, nt_lef, nt_let, nt_ltf, nt_ltt, nt_eqf, nj_m2, nj_m3, nj_m4, nj_m5, nj_m6, nj_m7, tz_bL_some, nj_sub, ng_ltt, ng_let, ng_gtf, ng_gef, cx_7 c, e0]
      exact e
theorem m_at30 {S : tz_S} {A : tz_Mem} {h : Nat} (hh : h < S 1 0) (r : rx 30 99 S A) : bt_is (tz_g A 34 h) (fun l => decide (l < S 15 0 ∧ S 20 l = h)) := r.2.1 h hh
theorem m_in30 {S : tz_S} {A : tz_Mem} {t : Nat} (hh : t < S 7 0) (h4 : S 7 0 ≤ 4) (r : rx 30 99 S A) : bt_is (tz_g A 44 t) (fun l => decide (l < S 15 0 ∧ S 20 l = 100 + t)) := r.2.2.1 t hh (by omega)
