/-! questions about hills, storms, letters; small changes -/
theorem cz_2 {S : tz_S} {A : tz_Mem} (c : rx_c 30 S A) {i : Nat} (hi : i < 8) : tz_g A 32 i = tz_j (S 2 i) := cx_2 c hi
theorem cz_3 {S : tz_S} {A : tz_Mem} (c : rx_c 30 S A) {i : Nat} (hi : i < 8) : tz_g A 33 i = tz_j (S 3 i) := cx_3 c hi
theorem cz_5 {S : tz_S} {A : tz_Mem} (c : rx_c 30 S A) {i : Nat} (hi : i < 8) : tz_g A 35 i = tz_j (S 5 i) := cx_5 c hi
theorem cz_8 {S : tz_S} {A : tz_Mem} (c : rx_c 30 S A) {i : Nat} (hi : i < 4) : tz_g A 38 i = tz_j (S 8 i) := cx_8 c hi
theorem cz_9 {S : tz_S} {A : tz_Mem} (c : rx_c 30 S A) {i : Nat} (hi : i < 4) : tz_g A 39 i = tz_j (S 9 i) := cx_9 c hi
theorem cz_10 {S : tz_S} {A : tz_Mem} (c : rx_c 30 S A) {i : Nat} (hi : i < 4) : tz_g A 40 i = tz_j (S 10 i) := cx_10 c hi
theorem cz_11 {S : tz_S} {A : tz_Mem} (c : rx_c 30 S A) {i : Nat} (hi : i < 4) : tz_g A 41 i = tz_j (S 11 i) := cx_11 c hi
theorem cz_12 {S : tz_S} {A : tz_Mem} (c : rx_c 30 S A) {i : Nat} (hi : i < 24) : tz_g A 42 i = tz_j (S 12 i) := cx_12 c hi
theorem cz_13 {S : tz_S} {A : tz_Mem} (c : rx_c 30 S A) {i : Nat} (hi : i < 4) : tz_g A 43 i = tz_j (S 13 i) := cx_13 c hi
theorem cz_16 {S : tz_S} {A : tz_Mem} (c : rx_c 30 S A) {i : Nat} (hi : i < 12) : tz_g A 46 i = tz_j (S 16 i) := cx_16 c hi
theorem cz_17 {S : tz_S} {A : tz_Mem} (c : rx_c 30 S A) {i : Nat} (hi : i < 12) : tz_g A 47 i = tz_j (S 17 i) := cx_17 c hi
theorem cz_18 {S : tz_S} {A : tz_Mem} (c : rx_c 30 S A) {i : Nat} (hi : i < 12) : tz_g A 48 i = tz_j (S 18 i) := cx_18 c hi
theorem cz_19 {S : tz_S} {A : tz_Mem} (c : rx_c 30 S A) {i : Nat} (hi : i < 12) : tz_g A 49 i = tz_j (S 19 i) := cx_19 c hi
theorem cz_20 {S : tz_S} {A : tz_Mem} (c : rx_c 30 S A) {i : Nat} (hi : i < 12) : tz_g A 50 i = tz_j (S 20 i) := cx_20 c hi
theorem cz_21 {S : tz_S} {A : tz_Mem} (c : rx_c 30 S A) {i : Nat} (hi : i < 12) : tz_g A 51 i = tz_j (S 21 i) := cx_21 c hi
theorem cz_22 {S : tz_S} {A : tz_Mem} (c : rx_c 30 S A) {i : Nat} (hi : i < 12) : tz_g A 52 i = tz_j (S 22 i) := cx_22 c hi
theorem cz_1 {S : tz_S} {A : tz_Mem} (c : rx_c 30 S A) : tz_g A 31 0 = tz_j (S 1 0) := cx_1 c
theorem cz_7 {S : tz_S} {A : tz_Mem} (c : rx_c 30 S A) : tz_g A 37 0 = tz_j (S 7 0) := cx_7 c
theorem cz_15 {S : tz_S} {A : tz_Mem} (c : rx_c 30 S A) : tz_g A 45 0 = tz_j (S 15 0) := cx_15 c
theorem cg_2 {S : tz_S} {A : tz_Mem} (c : rx_c 76 S A) {i : Nat} (hi : i < 8) : tz_g A 78 i = tz_j (S 2 i) := cx_2 c hi
theorem cg_3 {S : tz_S} {A : tz_Mem} (c : rx_c 76 S A) {i : Nat} (hi : i < 8) : tz_g A 79 i = tz_j (S 3 i) := cx_3 c hi
theorem cg_5 {S : tz_S} {A : tz_Mem} (c : rx_c 76 S A) {i : Nat} (hi : i < 8) : tz_g A 81 i = tz_j (S 5 i) := cx_5 c hi
theorem cg_8 {S : tz_S} {A : tz_Mem} (c : rx_c 76 S A) {i : Nat} (hi : i < 4) : tz_g A 84 i = tz_j (S 8 i) := cx_8 c hi
theorem cg_9 {S : tz_S} {A : tz_Mem} (c : rx_c 76 S A) {i : Nat} (hi : i < 4) : tz_g A 85 i = tz_j (S 9 i) := cx_9 c hi
theorem cg_10 {S : tz_S} {A : tz_Mem} (c : rx_c 76 S A) {i : Nat} (hi : i < 4) : tz_g A 86 i = tz_j (S 10 i) := cx_10 c hi
theorem cg_11 {S : tz_S} {A : tz_Mem} (c : rx_c 76 S A) {i : Nat} (hi : i < 4) : tz_g A 87 i = tz_j (S 11 i) := cx_11 c hi
theorem cg_12 {S : tz_S} {A : tz_Mem} (c : rx_c 76 S A) {i : Nat} (hi : i < 24) : tz_g A 88 i = tz_j (S 12 i) := cx_12 c hi
theorem cg_13 {S : tz_S} {A : tz_Mem} (c : rx_c 76 S A) {i : Nat} (hi : i < 4) : tz_g A 89 i = tz_j (S 13 i) := cx_13 c hi
theorem cg_16 {S : tz_S} {A : tz_Mem} (c : rx_c 76 S A) {i : Nat} (hi : i < 12) : tz_g A 92 i = tz_j (S 16 i) := cx_16 c hi
theorem cg_17 {S : tz_S} {A : tz_Mem} (c : rx_c 76 S A) {i : Nat} (hi : i < 12) : tz_g A 93 i = tz_j (S 17 i) := cx_17 c hi
theorem cg_18 {S : tz_S} {A : tz_Mem} (c : rx_c 76 S A) {i : Nat} (hi : i < 12) : tz_g A 94 i = tz_j (S 18 i) := cx_18 c hi
theorem cg_19 {S : tz_S} {A : tz_Mem} (c : rx_c 76 S A) {i : Nat} (hi : i < 12) : tz_g A 95 i = tz_j (S 19 i) := cx_19 c hi
theorem cg_20 {S : tz_S} {A : tz_Mem} (c : rx_c 76 S A) {i : Nat} (hi : i < 12) : tz_g A 96 i = tz_j (S 20 i) := cx_20 c hi
theorem cg_21 {S : tz_S} {A : tz_Mem} (c : rx_c 76 S A) {i : Nat} (hi : i < 12) : tz_g A 97 i = tz_j (S 21 i) := cx_21 c hi
theorem cg_22 {S : tz_S} {A : tz_Mem} (c : rx_c 76 S A) {i : Nat} (hi : i < 12) : tz_g A 98 i = tz_j (S 22 i) := cx_22 c hi
theorem cg_1 {S : tz_S} {A : tz_Mem} (c : rx_c 76 S A) : tz_g A 77 0 = tz_j (S 1 0) := cx_1 c
theorem cg_7 {S : tz_S} {A : tz_Mem} (c : rx_c 76 S A) : tz_g A 83 0 = tz_j (S 7 0) := cx_7 c
theorem cg_15 {S : tz_S} {A : tz_Mem} (c : rx_c 76 S A) : tz_g A 91 0 = tz_j (S 15 0) := cx_15 c

theorem m_lyingL {S : tz_S} {A : tz_Mem} {p : Nat} (c : rm_c S A) (W : sp_W1 S) (W2 : sp_W2 S) (hp : p < 1000) : ∀ k l y, l + k = S 15 0 → bt_is y (fun m => decide (m < l ∧ S 20 m = p)) → ∃ z, q_X12_lying_4 (tz_j p) y (tz_j l) A = some (some (.int z), A) ∧ bt_is z (fun m => decide (m < S 15 0 ∧ S 20 m = p)) := by
  have h12 := W.2.2.1
  have h4 := W.2.1
  have h8 := W.1
  intro k
  induction k with
  | zero =>
    intro l y hl hy
    rw [Nat.add_zero] at hl
    subst hl
    refine ⟨y, ?_, hy⟩
    rw [e_X12_lying_4]
    simp (disch := omega) only [tz_lit, nj_m1, ↓reduceIte, nj_cl, nj_ltt, nj_ltf, nj_let, nj_lef, nj_eqf, nj_lt, nj_le, nj_eq, nj_add, nj_mul, nj_modx, nj_and7, nj_div, tz_bI_some, tz_bV_some, or_false, false_or, or_self, and_false, false_and, and_true, true_and, not_true_eq_false, not_false_eq_true, nt_lef, nt_let, nt_ltf, nt_ltt, nt_eqf, nj_m2, nj_m3, nj_m4, nj_m5, nj_m6, nj_m7, tz_bL_some, nj_sub, ng_ltt, ng_let, ng_gtf, ng_gef, cm_15 c]
  | succ k ih =>
    intro l y hl hy
    have hwl := (W2.2.1 l (by omega)).2.1
    unfold sp_wh at hwl
    rw [e_X12_lying_4]
    by_cases z : S 20 l = p
    · obtain ⟨v, e, hv⟩ := ih (l + 1) (y ||| (tz_j 1 <<< (tz_j l &&& tz_j 31))) (by omega) (bt_congr (bj_or (by omega) hy) (fun m _ => by
        by_cases x : m = l
        · subst x
          simp [z]
        · have x2 : ¬ l = m := fun q => x q.symm
          have x3 : (m < l + 1) = (m < l) := propext (by omega)
          simp [x2, x3]))
      refine ⟨v, ?_, hv⟩
      simp (disch := omega) only [tz_lit, nj_m1, ↓reduceIte, nj_cl, nj_ltt, nj_ltf, nj_let, nj_lef, nj_eqf, nj_lt, nj_le, nj_eq, nj_add, nj_mul, nj_modx, nj_and7, nj_div, tz_bI_some, tz_bV_some, or_false, false_or, or_self, and_false, false_and, and_true, true_and, not_true_eq_false, not_false_eq_true, nt_lef, nt_let, nt_ltf, nt_ltt, nt_eqf, nj_m2, nj_m3, nj_m4, nj_m5, nj_m6, nj_m7, tz_bL_some, nj_sub, ng_ltt, ng_let, ng_gtf, ng_gef, cm_15 c, cm_175 c, z]
      exact e
    · obtain ⟨v, e, hv⟩ := ih (l + 1) y (by omega) (bt_congr hy (fun m _ => by
        by_cases x : m = l
        · subst x
          simp [z]
        · have x3 : (m < l + 1) = (m < l) := propext (by omega)
          simp [x3]))
      refine ⟨v, ?_, hv⟩
      simp (disch := omega) only [tz_lit, nj_m1, ↓reduceIte, nj_cl, nj_ltt, nj_ltf, nj_let, nj_lef, nj_eqf, nj_lt, nj_le, nj_eq, nj_add, nj_mul, nj_modx, nj_and7, nj_div, tz_bI_some, tz_bV_some, or_false, false_or, or_self, and_false, false_and, and_true, true_and, not_true_eq_false, not_false_eq_true, nt_lef, nt_let, nt_ltf, nt_ltt, nt_eqf, nj_m2, nj_m3, nj_m4, nj_m5, nj_m6, nj_m7, tz_bL_some, nj_sub, ng_ltt, ng_let, ng_gtf, ng_gef, cm_15 c, cm_175 c]
      exact e
theorem m_lying {S : tz_S} {A : tz_Mem} {p : Nat} {x : Int32} (c : rm_c S A) (W : sp_W1 S) (W2 : sp_W2 S) (hp : p < 1000) (hx : bt_is x (fun m => decide (m < S 15 0 ∧ S 20 m = p))) : f_X12_lying (tz_j p) A = some (some (.int x), A) := by
  obtain ⟨z, e, hz⟩ := m_lyingL c W W2 hp (S 15 0) 0 (tz_j 0) (Nat.zero_add _) (bt_congr bj_zero (fun m _ => by simp))
  rw [e_X12_lying, bt_ext hx hz]
  exact e
theorem x_allAtL {b h : Nat} {S : tz_S} {A : tz_Mem} (hb : tz_sky b) (c : rx_c b S A) (W : sp_W1 S) (W2 : sp_W2 S) (hh : h < 8) : ∀ k t y, t + k = S 7 0 → bt_is y (fun m => decide (m < t ∧ sp_at S m = h)) → ∃ z, q_X10_allAt_4 b (tz_j h) y (tz_j t) A = some (some (.int z), A) ∧ bt_is z (fun m => decide (m < S 7 0 ∧ sp_at S m = h)) := by
  have h4 := W.2.1
  have h8 := W.1
  intro k
  induction k with
  | zero =>
    intro l y hl hy
    rw [Nat.add_zero] at hl
    subst hl
    refine ⟨y, ?_, hy⟩
    rw [e_X10_allAt_4 _ _ _ _ hb]
    simp (disch := omega) only [tz_lit, nj_m1, ↓reduceIte, nj_cl, nj_ltt, nj_ltf, nj_let, nj_lef, nj_eqf, nj_lt, nj_le, nj_eq, nj_add, nj_mul, nj_modx, nj_and7, nj_div, tz_bI_some, tz_bV_some, or_false, false_or, or_self, and_false, false_and, and_true, true_and, not_true_eq_false, not_false_eq_true, nt_lef, nt_let, nt_ltf, nt_ltt, nt_eqf, nj_m2, nj_m3, nj_m4, nj_m5, nj_m6, nj_m7, tz_bL_some, nj_sub, ng_ltt, ng_let, ng_gtf, ng_gef, cx_7 c]
  | succ k ih =>
    intro l y hl hy
    have e0 := x_at hb c W W2 (show l < S 7 0 by omega)
    have hat := at_lt W W2 (show l < S 7 0 by omega)
    rw [e_X10_allAt_4 _ _ _ _ hb]
    by_cases z : sp_at S l = h
    · obtain ⟨v, e, hv⟩ := ih (l + 1) (y ||| (tz_j 1 <<< (tz_j l &&& tz_j 31))) (by omega) (bt_congr (bj_or (by omega) hy) (fun m _ => by
        by_cases x : m = l
        · subst x
          simp [z]
        · have x2 : ¬ l = m := fun q => x q.symm
          have x3 : (m < l + 1) = (m < l) := propext (by omega)
          simp [x2, x3]))
      refine ⟨v, ?_, hv⟩
      simp (disch := omega) only [tz_lit, nj_m1, ↓reduceIte, nj_cl, nj_ltt, nj_ltf, nj_let, nj_lef, nj_eqf, nj_lt, nj_le, nj_eq, nj_add, nj_mul, nj_modx, nj_and7, nj_div, tz_bI_some, tz_bV_some, or_false, false_or, or_self, and_false, false_and, and_true, true_and, not_true_eq_false, not_false_eq_true, nt_lef, nt_let, nt_ltf, nt_ltt, nt_eqf, nj_m2, nj_m3, nj_m4, nj_m5, nj_m6, nj_m7, tz_bL_some, nj_sub, ng_ltt, ng_let, ng_gtf, ng_gef, cx_7 c, e0, z]
      exact e
    · obtain ⟨v, e, hv⟩ := ih (l + 1) y (by omega) (bt_congr hy (fun m _ => by
        by_cases x : m = l
        · subst x
          simp [z]
        · have x3 : (m < l + 1) = (m < l) := propext (by omega)
          simp [x3]))
      refine ⟨v, ?_, hv⟩
      simp (disch := omega) only [tz_lit, nj_m1, ↓reduceIte, nj_cl, nj_ltt, nj_ltf, nj_let, nj_lef, nj_eqf, nj_lt, nj_le, nj_eq, nj_add, nj_mul, nj_modx, nj_and7, nj_div, tz_bI_some, tz_bV_some, or_false, false_or, or_self, and_false, false_and, and_true, true_and, not_true_eq_false, not_false_eq_true, nt_lef, nt_let, nt_ltf, nt_ltt, nt_eqf, nj_m2, nj_m3, nj_m4, nj_m5, nj_m6, nj_m7, tz_bL_some, nj_sub, ng_ltt, ng_let, ng_gtf, ng_gef, cx_7 c, e0]
      exact e
theorem m_allAtL {h : Nat} {S : tz_S} {A : tz_Mem} (c : rm_c S A) (W : sp_W1 S) (W2 : sp_W2 S) (hh : h < 8) : ∀ k t y, t + k = S 7 0 → bt_is y (fun m => decide (m < t ∧ sp_at S m = h)) → ∃ z, q_X12_hillOf_75 (tz_j h) y (tz_j t) A = some (some (.int z), A) ∧ bt_is z (fun m => decide (m < S 7 0 ∧ sp_at S m = h)) := by
  have h4 := W.2.1
  have h8 := W.1
  intro k
  induction k with
  | zero =>
    intro l y hl hy
    rw [Nat.add_zero] at hl
    subst hl
    refine ⟨y, ?_, hy⟩
    rw [e_X12_hillOf_75]
    simp (disch := omega) only [tz_lit, nj_m1, ↓reduceIte, nj_cl, nj_ltt, nj_ltf, nj_let, nj_lef, nj_eqf, nj_lt, nj_le, nj_eq, nj_add, nj_mul, nj_modx, nj_and7, nj_div, tz_bI_some, tz_bV_some, or_false, false_or, or_self, and_false, false_and, and_true, true_and, not_true_eq_false, not_false_eq_true, nt_lef, nt_let, nt_ltf, nt_ltt, nt_eqf, nj_m2, nj_m3, nj_m4, nj_m5, nj_m6, nj_m7, tz_bL_some, nj_sub, ng_ltt, ng_let, ng_gtf, ng_gef, cm_8 c]
  | succ k ih =>
    intro l y hl hy
    have e0 := m_at c W W2 (show l < S 7 0 by omega)
    have hat := at_lt W W2 (show l < S 7 0 by omega)
    rw [e_X12_hillOf_75]
    by_cases z : sp_at S l = h
    · obtain ⟨v, e, hv⟩ := ih (l + 1) (y ||| (tz_j 1 <<< (tz_j l &&& tz_j 31))) (by omega) (bt_congr (bj_or (by omega) hy) (fun m _ => by
        by_cases x : m = l
        · subst x
          simp [z]
        · have x2 : ¬ l = m := fun q => x q.symm
          have x3 : (m < l + 1) = (m < l) := propext (by omega)
          simp [x2, x3]))
      refine ⟨v, ?_, hv⟩
      simp (disch := omega) only [tz_lit, nj_m1, ↓reduceIte, nj_cl, nj_ltt, nj_ltf, nj_let, nj_lef, nj_eqf, nj_lt, nj_le, nj_eq, nj_add, nj_mul, nj_modx, nj_and7, nj_div, tz_bI_some, tz_bV_some, or_false, false_or, or_self, and_false, false_and, and_true, true_and, not_true_eq_false, not_false_eq_true, nt_lef, nt_let, nt_ltf, nt_ltt, nt_eqf, nj_m2, nj_m3, nj_m4, nj_m5, nj_m6, nj_m7, tz_bL_some, nj_sub, ng_ltt, ng_let, ng_gtf, ng_gef, cm_8 c, e0, z]
      exact e
    · obtain ⟨v, e, hv⟩ := ih (l + 1) y (by omega) (bt_congr hy (fun m _ => by
        by_cases x : m = l
        · subst x
          simp [z]
        · have x3 : (m < l + 1) = (m < l) := propext (by omega)
          simp [x3]))
      refine ⟨v, ?_, hv⟩
      simp (disch := omega) only [tz_lit, nj_m1, ↓reduceIte, nj_cl, nj_ltt, nj_ltf, nj_let, nj_lef, nj_eqf, nj_lt, nj_le, nj_eq, nj_add, nj_mul, nj_modx, nj_and7, nj_div, tz_bI_some, tz_bV_some, or_false, false_or, or_self, and_false, false_and, and_true, true_and, not_true_eq_false, not_false_eq_true, nt_lef, nt_let, nt_ltf, nt_ltt, nt_eqf, nj_m2, nj_m3, nj_m4, nj_m5, nj_m6, nj_m7, tz_bL_some, nj_sub, ng_ltt, ng_let, ng_gtf, ng_gef, cm_8 c, e0]
      exact e
theorem m_at30 {S : tz_S} {A : tz_Mem} {h : Nat} (hh : h < S 1 0) (r : rx 30 99 S A) : bt_is (tz_g A 34 h) (fun l => decide (l < S 15 0 ∧ S 20 l = h)) := r.2.1 h hh
theorem m_in30 {S : tz_S} {A : tz_Mem} {t : Nat} (hh : t < S 7 0) (h4 : S 7 0 ≤ 4) (r : rx 30 99 S A) : bt_is (tz_g A 44 t) (fun l => decide (l < S 15 0 ∧ S 20 l = 100 + t)) := r.2.2.1 t hh (by omega)

theorem p_hillOf (x1 x2 : Int32) : tz_twoI tz_J (f_X11_hillOf x1 x2) (f_X12_hillOf x1 x2) := by
  refine two_of (fun N S K U V A hN c ww => ?_)
  have W := ww.1.1
  have W2 := ww.1.2.1
  have h8 := W.1
  have h4 := W.2.1
  have h12 := W.2.2.1
  have cc := c.1.1
  rcases nj_three x1 (S 1 0) (by omega) with ⟨h, hh, rfl⟩ | h
  · have e1 := x_hash1 (Or.inl rfl) cc hh (by omega)
    have e2 := fun {D} {A} (m : MX D S K U V A) => m_hash1 m.1.1 hh (by omega)
    rcases nj_three x2 4 (by omega) with ⟨u, hu, rfl⟩ | h2 | h2
    · rcases (show u = 0 ∨ u = 1 ∨ u = 2 ∨ u = 3 by omega) with rfl | rfl | rfl | rfl
      · refine out_pure (v := tz_j (S 2 h)) c ww ?_ (fun A D m => ?_)
        · rw [e_X11_hillOf]
          simp (disch := omega) only [tz_lit, nj_m1, ↓reduceIte, nj_cl, nj_ltt, nj_ltf, nj_let, nj_lef, nj_eqf, nj_lt, nj_le, nj_eq, nj_add, nj_mul, nj_modx, nj_and7, nj_div, tz_bI_some, tz_bV_some, or_false, false_or, or_self, and_false, false_and, and_true, true_and, not_true_eq_false, not_false_eq_true, nt_lef, nt_let, nt_ltf, nt_ltt, nt_eqf, nj_m2, nj_m3, nj_m4, nj_m5, nj_m6, nj_m7, tz_bL_some, nj_sub, ng_ltt, ng_let, ng_gtf, ng_gef, e1, cz_2 cc]
        · have mc := m.1.1
          rw [e_X12_hillOf]
          simp (disch := omega) only [tz_lit, nj_m1, ↓reduceIte, nj_cl, nj_ltt, nj_ltf, nj_let, nj_lef, nj_eqf, nj_lt, nj_le, nj_eq, nj_add, nj_mul, nj_modx, nj_and7, nj_div, tz_bI_some, tz_bV_some, or_false, false_or, or_self, and_false, false_and, and_true, true_and, not_true_eq_false, not_false_eq_true, nt_lef, nt_let, nt_ltf, nt_ltt, nt_eqf, nj_m2, nj_m3, nj_m4, nj_m5, nj_m6, nj_m7, tz_bL_some, nj_sub, ng_ltt, ng_let, ng_gtf, ng_gef, e2 m, e_X12_within, cm_161 mc]
      · refine out_pure (v := tz_j (S 3 h)) c ww ?_ (fun A D m => ?_)
        · rw [e_X11_hillOf]
          simp (disch := omega) only [tz_lit, nj_m1, ↓reduceIte, nj_cl, nj_ltt, nj_ltf, nj_let, nj_lef, nj_eqf, nj_lt, nj_le, nj_eq, nj_add, nj_mul, nj_modx, nj_and7, nj_div, tz_bI_some, tz_bV_some, or_false, false_or, or_self, and_false, false_and, and_true, true_and, not_true_eq_false, not_false_eq_true, nt_lef, nt_let, nt_ltf, nt_ltt, nt_eqf, nj_m2, nj_m3, nj_m4, nj_m5, nj_m6, nj_m7, tz_bL_some, nj_sub, ng_ltt, ng_let, ng_gtf, ng_gef, e1, cz_3 cc]
        · have mc := m.1.1
          rw [e_X12_hillOf]
          simp (disch := omega) only [tz_lit, nj_m1, ↓reduceIte, nj_cl, nj_ltt, nj_ltf, nj_let, nj_lef, nj_eqf, nj_lt, nj_le, nj_eq, nj_add, nj_mul, nj_modx, nj_and7, nj_div, tz_bI_some, tz_bV_some, or_false, false_or, or_self, and_false, false_and, and_true, true_and, not_true_eq_false, not_false_eq_true, nt_lef, nt_let, nt_ltf, nt_ltt, nt_eqf, nj_m2, nj_m3, nj_m4, nj_m5, nj_m6, nj_m7, tz_bL_some, nj_sub, ng_ltt, ng_let, ng_gtf, ng_gef, e2 m, e_X12_within, cm_162 mc]
      · refine out_pure (v := tz_g A 34 h) c ww ?_ (fun A' D m => ?_)
        · rw [e_X11_hillOf]
          simp (disch := omega) only [tz_lit, nj_m1, ↓reduceIte, nj_cl, nj_ltt, nj_ltf, nj_let, nj_lef, nj_eqf, nj_lt, nj_le, nj_eq, nj_add, nj_mul, nj_modx, nj_and7, nj_div, tz_bI_some, tz_bV_some, or_false, false_or, or_self, and_false, false_and, and_true, true_and, not_true_eq_false, not_false_eq_true, nt_lef, nt_let, nt_ltf, nt_ltt, nt_eqf, nj_m2, nj_m3, nj_m4, nj_m5, nj_m6, nj_m7, tz_bL_some, nj_sub, ng_ltt, ng_let, ng_gtf, ng_gef, e1]
        · have e3 := m_lying m.1.1 W W2 (show h < 1000 by omega) (m_at30 hh c.1)
          rw [e_X12_hillOf]
          simp (disch := omega) only [tz_lit, nj_m1, ↓reduceIte, nj_cl, nj_ltt, nj_ltf, nj_let, nj_lef, nj_eqf, nj_lt, nj_le, nj_eq, nj_add, nj_mul, nj_modx, nj_and7, nj_div, tz_bI_some, tz_bV_some, or_false, false_or, or_self, and_false, false_and, and_true, true_and, not_true_eq_false, not_false_eq_true, nt_lef, nt_let, nt_ltf, nt_ltt, nt_eqf, nj_m2, nj_m3, nj_m4, nj_m5, nj_m6, nj_m7, tz_bL_some, nj_sub, ng_ltt, ng_let, ng_gtf, ng_gef, e2 m, e_X12_within, e3]
      · obtain ⟨y, e3, hy⟩ := x_allAtL (b := 30) (Or.inl rfl) cc W W2 (show h < 8 by omega) (S 7 0) 0 (tz_j 0) (Nat.zero_add _) (bt_congr bj_zero (fun m _ => by simp))
        refine out_pure (v := y) c ww ?_ (fun A' D m => ?_)
        · rw [e_X11_hillOf]
          simp (disch := omega) only [tz_lit, nj_m1, ↓reduceIte, nj_cl, nj_ltt, nj_ltf, nj_let, nj_lef, nj_eqf, nj_lt, nj_le, nj_eq, nj_add, nj_mul, nj_modx, nj_and7, nj_div, tz_bI_some, tz_bV_some, or_false, false_or, or_self, and_false, false_and, and_true, true_and, not_true_eq_false, not_false_eq_true, nt_lef, nt_let, nt_ltf, nt_ltt, nt_eqf, nj_m2, nj_m3, nj_m4, nj_m5, nj_m6, nj_m7, tz_bL_some, nj_sub, ng_ltt, ng_let, ng_gtf, ng_gef, e1, e_X10_allAt _ _ (show tz_sky 30 from Or.inl rfl), e3]
        · obtain ⟨y2, e4, hy2⟩ := m_allAtL m.1.1 W W2 (show h < 8 by omega) (S 7 0) 0 (tz_j 0) (Nat.zero_add _) (bt_congr bj_zero (fun m _ => by simp))
          rw [bt_ext hy hy2, e_X12_hillOf]
          simp (disch := omega) only [tz_lit, nj_m1, ↓reduceIte, nj_cl, nj_ltt, nj_ltf, nj_let, nj_lef, nj_eqf, nj_lt, nj_le, nj_eq, nj_add, nj_mul, nj_modx, nj_and7, nj_div, tz_bI_some, tz_bV_some, or_false, false_or, or_self, and_false, false_and, and_true, true_and, not_true_eq_false, not_false_eq_true, nt_lef, nt_let, nt_ltf, nt_ltt, nt_eqf, nj_m2, nj_m3, nj_m4, nj_m5, nj_m6, nj_m7, tz_bL_some, nj_sub, ng_ltt, ng_let, ng_gtf, ng_gef, e2 m, e_X12_within, e4]

    · skip
      refine out_ref (v := tz_j 4294967291) 5 (by omega) c ww ?_ (fun A D m => ?_)
      · rw [e_X11_hillOf]
        simp (disch := omega) only [tz_lit, nj_m1, ↓reduceIte, nj_cl, nj_ltt, nj_ltf, nj_let, nj_lef, nj_eqf, nj_lt, nj_le, nj_eq, nj_add, nj_mul, nj_modx, nj_and7, nj_div, tz_bI_some, tz_bV_some, or_false, false_or, or_self, and_false, false_and, and_true, true_and, not_true_eq_false, not_false_eq_true, nt_lef, nt_let, nt_ltf, nt_ltt, nt_eqf, nj_m2, nj_m3, nj_m4, nj_m5, nj_m6, nj_m7, tz_bL_some, nj_sub, ng_ltt, ng_let, ng_gtf, ng_gef, e_X8_has, e_X8_holdsRow, e_X11_isKind, e_X11_isOneOfTwo, e_X11_isWord, x_ref1, x_ref2, x_ref3, x_ref4, x_ref5, x_ref6, x_ref7, e_X11_refuseLower, e1, ob_l h2]
      · rw [e_X12_hillOf]
        simp (disch := omega) only [tz_lit, nj_m1, ↓reduceIte, nj_cl, nj_ltt, nj_ltf, nj_let, nj_lef, nj_eqf, nj_lt, nj_le, nj_eq, nj_add, nj_mul, nj_modx, nj_and7, nj_div, tz_bI_some, tz_bV_some, or_false, false_or, or_self, and_false, false_and, and_true, true_and, not_true_eq_false, not_false_eq_true, nt_lef, nt_let, nt_ltf, nt_ltt, nt_eqf, nj_m2, nj_m3, nj_m4, nj_m5, nj_m6, nj_m7, tz_bL_some, nj_sub, ng_ltt, ng_let, ng_gtf, ng_gef, e_X12_within, e_X12_isRow, m_no1, m_no2, m_no3, m_no4, m_no5, m_no6, m_no7, e_X12_no10, e2 m, ob_l h2]

    · skip
      refine out_ref (v := tz_j 4294967291) 5 (by omega) c ww ?_ (fun A D m => ?_)
      · rw [e_X11_hillOf]
        simp (disch := omega) only [tz_lit, nj_m1, ↓reduceIte, nj_cl, nj_ltt, nj_ltf, nj_let, nj_lef, nj_eqf, nj_lt, nj_le, nj_eq, nj_add, nj_mul, nj_modx, nj_and7, nj_div, tz_bI_some, tz_bV_some, or_false, false_or, or_self, and_false, false_and, and_true, true_and, not_true_eq_false, not_false_eq_true, nt_lef, nt_let, nt_ltf, nt_ltt, nt_eqf, nj_m2, nj_m3, nj_m4, nj_m5, nj_m6, nj_m7, tz_bL_some, nj_sub, ng_ltt, ng_let, ng_gtf, ng_gef, e_X8_has, e_X8_holdsRow, e_X11_isKind, e_X11_isOneOfTwo, e_X11_isWord, x_ref1, x_ref2, x_ref3, x_ref4, x_ref5, x_ref6, x_ref7, e_X11_refuseLower, e1, ob_h (show 4 < 2147483648 by omega) h2]
      · rw [e_X12_hillOf]
        simp (disch := omega) only [tz_lit, nj_m1, ↓reduceIte, nj_cl, nj_ltt, nj_ltf, nj_let, nj_lef, nj_eqf, nj_lt, nj_le, nj_eq, nj_add, nj_mul, nj_modx, nj_and7, nj_div, tz_bI_some, tz_bV_some, or_false, false_or, or_self, and_false, false_and, and_true, true_and, not_true_eq_false, not_false_eq_true, nt_lef, nt_let, nt_ltf, nt_ltt, nt_eqf, nj_m2, nj_m3, nj_m4, nj_m5, nj_m6, nj_m7, tz_bL_some, nj_sub, ng_ltt, ng_let, ng_gtf, ng_gef, e_X12_within, e_X12_isRow, m_no1, m_no2, m_no3, m_no4, m_no5, m_no6, m_no7, e_X12_no10, e2 m, ob_h (show 4 < 2147483648 by omega) h2]

  · have e1 := x_hash0 (Or.inl rfl) cc h (by omega)
    have e2 := fun {D} {A} (m : MX D S K U V A) => m_hash0 m.1.1 h (by omega)
    refine out_ref (v := tz_j 4294967291) 5 (by omega) c ww ?_ (fun A D m => ?_)
    · rw [e_X11_hillOf]
      simp (disch := omega) only [tz_lit, nj_m1, ↓reduceIte, nj_cl, nj_ltt, nj_ltf, nj_let, nj_lef, nj_eqf, nj_lt, nj_le, nj_eq, nj_add, nj_mul, nj_modx, nj_and7, nj_div, tz_bI_some, tz_bV_some, or_false, false_or, or_self, and_false, false_and, and_true, true_and, not_true_eq_false, not_false_eq_true, nt_lef, nt_let, nt_ltf, nt_ltt, nt_eqf, nj_m2, nj_m3, nj_m4, nj_m5, nj_m6, nj_m7, tz_bL_some, nj_sub, ng_ltt, ng_let, ng_gtf, ng_gef, e_X8_has, e_X8_holdsRow, e_X11_isKind, e_X11_isOneOfTwo, e_X11_isWord, x_ref1, x_ref2, x_ref3, x_ref4, x_ref5, x_ref6, x_ref7, e_X11_refuseLower, e1]
    · rw [e_X12_hillOf]
      simp (disch := omega) only [tz_lit, nj_m1, ↓reduceIte, nj_cl, nj_ltt, nj_ltf, nj_let, nj_lef, nj_eqf, nj_lt, nj_le, nj_eq, nj_add, nj_mul, nj_modx, nj_and7, nj_div, tz_bI_some, tz_bV_some, or_false, false_or, or_self, and_false, false_and, and_true, true_and, not_true_eq_false, not_false_eq_true, nt_lef, nt_let, nt_ltf, nt_ltt, nt_eqf, nj_m2, nj_m3, nj_m4, nj_m5, nj_m6, nj_m7, tz_bL_some, nj_sub, ng_ltt, ng_let, ng_gtf, ng_gef, e_X12_within, e_X12_isRow, m_no1, m_no2, m_no3, m_no4, m_no5, m_no6, m_no7, e_X12_no10, e2 m]

theorem p_letterOf (x1 x2 : Int32) : tz_twoI tz_J (f_X11_letterOf x1 x2) (f_X12_letterOf x1 x2) := by
  refine two_of (fun N S K U V A hN c ww => ?_)
  have W := ww.1.1
  have W2 := ww.1.2.1
  have h8 := W.1
  have h4 := W.2.1
  have h12 := W.2.2.1
  have cc := c.1.1
  rcases nj_three x1 (S 15 0) (by omega) with ⟨l, hl, rfl⟩ | h
  · have e1 := x_hasl1 (Or.inl rfl) cc hl (by omega)
    have e2 := fun {D} {A} (m : MX D S K U V A) => m_hasl1 m.1.1 hl (by omega)
    rcases nj_three x2 6 (by omega) with ⟨u, hu, rfl⟩ | h2 | h2
    · rcases (show u = 0 ∨ u = 1 ∨ u = 2 ∨ u = 3 ∨ u = 4 ∨ u = 5 by omega) with rfl | rfl | rfl | rfl | rfl | rfl
      · refine out_pure (v := tz_j (S 16 l)) c ww ?_ (fun A D m => ?_)
        · rw [e_X11_letterOf]
          simp (disch := omega) only [tz_lit, nj_m1, ↓reduceIte, nj_cl, nj_ltt, nj_ltf, nj_let, nj_lef, nj_eqf, nj_lt, nj_le, nj_eq, nj_add, nj_mul, nj_modx, nj_and7, nj_div, tz_bI_some, tz_bV_some, or_false, false_or, or_self, and_false, false_and, and_true, true_and, not_true_eq_false, not_false_eq_true, nt_lef, nt_let, nt_ltf, nt_ltt, nt_eqf, nj_m2, nj_m3, nj_m4, nj_m5, nj_m6, nj_m7, tz_bL_some, nj_sub, ng_ltt, ng_let, ng_gtf, ng_gef, e1, cz_16 cc]
        · have mc := m.1.1
          rw [e_X12_letterOf]
          simp (disch := omega) only [tz_lit, nj_m1, ↓reduceIte, nj_cl, nj_ltt, nj_ltf, nj_let, nj_lef, nj_eqf, nj_lt, nj_le, nj_eq, nj_add, nj_mul, nj_modx, nj_and7, nj_div, tz_bI_some, tz_bV_some, or_false, false_or, or_self, and_false, false_and, and_true, true_and, not_true_eq_false, not_false_eq_true, nt_lef, nt_let, nt_ltf, nt_ltt, nt_eqf, nj_m2, nj_m3, nj_m4, nj_m5, nj_m6, nj_m7, tz_bL_some, nj_sub, ng_ltt, ng_let, ng_gtf, ng_gef, e2 m, cm_171 mc]
      · refine out_pure (v := tz_j (S 17 l)) c ww ?_ (fun A D m => ?_)
        · rw [e_X11_letterOf]
          simp (disch := omega) only [tz_lit, nj_m1, ↓reduceIte, nj_cl, nj_ltt, nj_ltf, nj_let, nj_lef, nj_eqf, nj_lt, nj_le, nj_eq, nj_add, nj_mul, nj_modx, nj_and7, nj_div, tz_bI_some, tz_bV_some, or_false, false_or, or_self, and_false, false_and, and_true, true_and, not_true_eq_false, not_false_eq_true, nt_lef, nt_let, nt_ltf, nt_ltt, nt_eqf, nj_m2, nj_m3, nj_m4, nj_m5, nj_m6, nj_m7, tz_bL_some, nj_sub, ng_ltt, ng_let, ng_gtf, ng_gef, e1, cz_17 cc]
        · have mc := m.1.1
          rw [e_X12_letterOf]
          simp (disch := omega) only [tz_lit, nj_m1, ↓reduceIte, nj_cl, nj_ltt, nj_ltf, nj_let, nj_lef, nj_eqf, nj_lt, nj_le, nj_eq, nj_add, nj_mul, nj_modx, nj_and7, nj_div, tz_bI_some, tz_bV_some, or_false, false_or, or_self, and_false, false_and, and_true, true_and, not_true_eq_false, not_false_eq_true, nt_lef, nt_let, nt_ltf, nt_ltt, nt_eqf, nj_m2, nj_m3, nj_m4, nj_m5, nj_m6, nj_m7, tz_bL_some, nj_sub, ng_ltt, ng_let, ng_gtf, ng_gef, e2 m, cm_172 mc]
      · refine out_pure (v := tz_j (S 18 l)) c ww ?_ (fun A D m => ?_)
        · rw [e_X11_letterOf]
          simp (disch := omega) only [tz_lit, nj_m1, ↓reduceIte, nj_cl, nj_ltt, nj_ltf, nj_let, nj_lef, nj_eqf, nj_lt, nj_le, nj_eq, nj_add, nj_mul, nj_modx, nj_and7, nj_div, tz_bI_some, tz_bV_some, or_false, false_or, or_self, and_false, false_and, and_true, true_and, not_true_eq_false, not_false_eq_true, nt_lef, nt_let, nt_ltf, nt_ltt, nt_eqf, nj_m2, nj_m3, nj_m4, nj_m5, nj_m6, nj_m7, tz_bL_some, nj_sub, ng_ltt, ng_let, ng_gtf, ng_gef, e1, cz_18 cc]
        · have mc := m.1.1
          rw [e_X12_letterOf]
          simp (disch := omega) only [tz_lit, nj_m1, ↓reduceIte, nj_cl, nj_ltt, nj_ltf, nj_let, nj_lef, nj_eqf, nj_lt, nj_le, nj_eq, nj_add, nj_mul, nj_modx, nj_and7, nj_div, tz_bI_some, tz_bV_some, or_false, false_or, or_self, and_false, false_and, and_true, true_and, not_true_eq_false, not_false_eq_true, nt_lef, nt_let, nt_ltf, nt_ltt, nt_eqf, nj_m2, nj_m3, nj_m4, nj_m5, nj_m6, nj_m7, tz_bL_some, nj_sub, ng_ltt, ng_let, ng_gtf, ng_gef, e2 m, cm_173 mc]
      · refine out_pure (v := tz_j (S 19 l)) c ww ?_ (fun A D m => ?_)
        · rw [e_X11_letterOf]
          simp (disch := omega) only [tz_lit, nj_m1, ↓reduceIte, nj_cl, nj_ltt, nj_ltf, nj_let, nj_lef, nj_eqf, nj_lt, nj_le, nj_eq, nj_add, nj_mul, nj_modx, nj_and7, nj_div, tz_bI_some, tz_bV_some, or_false, false_or, or_self, and_false, false_and, and_true, true_and, not_true_eq_false, not_false_eq_true, nt_lef, nt_let, nt_ltf, nt_ltt, nt_eqf, nj_m2, nj_m3, nj_m4, nj_m5, nj_m6, nj_m7, tz_bL_some, nj_sub, ng_ltt, ng_let, ng_gtf, ng_gef, e1, cz_19 cc]
        · have mc := m.1.1
          rw [e_X12_letterOf]
          simp (disch := omega) only [tz_lit, nj_m1, ↓reduceIte, nj_cl, nj_ltt, nj_ltf, nj_let, nj_lef, nj_eqf, nj_lt, nj_le, nj_eq, nj_add, nj_mul, nj_modx, nj_and7, nj_div, tz_bI_some, tz_bV_some, or_false, false_or, or_self, and_false, false_and, and_true, true_and, not_true_eq_false, not_false_eq_true, nt_lef, nt_let, nt_ltf, nt_ltt, nt_eqf, nj_m2, nj_m3, nj_m4, nj_m5, nj_m6, nj_m7, tz_bL_some, nj_sub, ng_ltt, ng_let, ng_gtf, ng_gef, e2 m, cm_174 mc]
      · refine out_pure (v := tz_j (S 20 l)) c ww ?_ (fun A D m => ?_)
        · rw [e_X11_letterOf]
          simp (disch := omega) only [tz_lit, nj_m1, ↓reduceIte, nj_cl, nj_ltt, nj_ltf, nj_let, nj_lef, nj_eqf, nj_lt, nj_le, nj_eq, nj_add, nj_mul, nj_modx, nj_and7, nj_div, tz_bI_some, tz_bV_some, or_false, false_or, or_self, and_false, false_and, and_true, true_and, not_true_eq_false, not_false_eq_true, nt_lef, nt_let, nt_ltf, nt_ltt, nt_eqf, nj_m2, nj_m3, nj_m4, nj_m5, nj_m6, nj_m7, tz_bL_some, nj_sub, ng_ltt, ng_let, ng_gtf, ng_gef, e1, cz_20 cc]
        · have mc := m.1.1
          rw [e_X12_letterOf]
          simp (disch := omega) only [tz_lit, nj_m1, ↓reduceIte, nj_cl, nj_ltt, nj_ltf, nj_let, nj_lef, nj_eqf, nj_lt, nj_le, nj_eq, nj_add, nj_mul, nj_modx, nj_and7, nj_div, tz_bI_some, tz_bV_some, or_false, false_or, or_self, and_false, false_and, and_true, true_and, not_true_eq_false, not_false_eq_true, nt_lef, nt_let, nt_ltf, nt_ltt, nt_eqf, nj_m2, nj_m3, nj_m4, nj_m5, nj_m6, nj_m7, tz_bL_some, nj_sub, ng_ltt, ng_let, ng_gtf, ng_gef, e2 m, cm_175 mc]
      · refine out_pure (v := tz_j (S 21 l)) c ww ?_ (fun A D m => ?_)
        · rw [e_X11_letterOf]
          simp (disch := omega) only [tz_lit, nj_m1, ↓reduceIte, nj_cl, nj_ltt, nj_ltf, nj_let, nj_lef, nj_eqf, nj_lt, nj_le, nj_eq, nj_add, nj_mul, nj_modx, nj_and7, nj_div, tz_bI_some, tz_bV_some, or_false, false_or, or_self, and_false, false_and, and_true, true_and, not_true_eq_false, not_false_eq_true, nt_lef, nt_let, nt_ltf, nt_ltt, nt_eqf, nj_m2, nj_m3, nj_m4, nj_m5, nj_m6, nj_m7, tz_bL_some, nj_sub, ng_ltt, ng_let, ng_gtf, ng_gef, e1, cz_21 cc]
        · have mc := m.1.1
          rw [e_X12_letterOf]
          simp (disch := omega) only [tz_lit, nj_m1, ↓reduceIte, nj_cl, nj_ltt, nj_ltf, nj_let, nj_lef, nj_eqf, nj_lt, nj_le, nj_eq, nj_add, nj_mul, nj_modx, nj_and7, nj_div, tz_bI_some, tz_bV_some, or_false, false_or, or_self, and_false, false_and, and_true, true_and, not_true_eq_false, not_false_eq_true, nt_lef, nt_let, nt_ltf, nt_ltt, nt_eqf, nj_m2, nj_m3, nj_m4, nj_m5, nj_m6, nj_m7, tz_bL_some, nj_sub, ng_ltt, ng_let, ng_gtf, ng_gef, e2 m, cm_176 mc]
    · skip
      refine out_ref (v := tz_j 4294967291) 5 (by omega) c ww ?_ (fun A D m => ?_)
      · rw [e_X11_letterOf]
        simp (disch := omega) only [tz_lit, nj_m1, ↓reduceIte, nj_cl, nj_ltt, nj_ltf, nj_let, nj_lef, nj_eqf, nj_lt, nj_le, nj_eq, nj_add, nj_mul, nj_modx, nj_and7, nj_div, tz_bI_some, tz_bV_some, or_false, false_or, or_self, and_false, false_and, and_true, true_and, not_true_eq_false, not_false_eq_true, nt_lef, nt_let, nt_ltf, nt_ltt, nt_eqf, nj_m2, nj_m3, nj_m4, nj_m5, nj_m6, nj_m7, tz_bL_some, nj_sub, ng_ltt, ng_let, ng_gtf, ng_gef, e_X8_has, e_X8_holdsRow, e_X11_isKind, e_X11_isOneOfTwo, e_X11_isWord, x_ref1, x_ref2, x_ref3, x_ref4, x_ref5, x_ref6, x_ref7, e_X11_refuseLower, e1, ob_l h2]
      · rw [e_X12_letterOf]
        simp (disch := omega) only [tz_lit, nj_m1, ↓reduceIte, nj_cl, nj_ltt, nj_ltf, nj_let, nj_lef, nj_eqf, nj_lt, nj_le, nj_eq, nj_add, nj_mul, nj_modx, nj_and7, nj_div, tz_bI_some, tz_bV_some, or_false, false_or, or_self, and_false, false_and, and_true, true_and, not_true_eq_false, not_false_eq_true, nt_lef, nt_let, nt_ltf, nt_ltt, nt_eqf, nj_m2, nj_m3, nj_m4, nj_m5, nj_m6, nj_m7, tz_bL_some, nj_sub, ng_ltt, ng_let, ng_gtf, ng_gef, e_X12_within, e_X12_isRow, m_no1, m_no2, m_no3, m_no4, m_no5, m_no6, m_no7, e_X12_no10, e2 m, ob_l h2]

    · skip
      refine out_ref (v := tz_j 4294967291) 5 (by omega) c ww ?_ (fun A D m => ?_)
      · rw [e_X11_letterOf]
        simp (disch := omega) only [tz_lit, nj_m1, ↓reduceIte, nj_cl, nj_ltt, nj_ltf, nj_let, nj_lef, nj_eqf, nj_lt, nj_le, nj_eq, nj_add, nj_mul, nj_modx, nj_and7, nj_div, tz_bI_some, tz_bV_some, or_false, false_or, or_self, and_false, false_and, and_true, true_and, not_true_eq_false, not_false_eq_true, nt_lef, nt_let, nt_ltf, nt_ltt, nt_eqf, nj_m2, nj_m3, nj_m4, nj_m5, nj_m6, nj_m7, tz_bL_some, nj_sub, ng_ltt, ng_let, ng_gtf, ng_gef, e_X8_has, e_X8_holdsRow, e_X11_isKind, e_X11_isOneOfTwo, e_X11_isWord, x_ref1, x_ref2, x_ref3, x_ref4, x_ref5, x_ref6, x_ref7, e_X11_refuseLower, e1, ob_h (show 6 < 2147483648 by omega) h2]
      · rw [e_X12_letterOf]
        simp (disch := omega) only [tz_lit, nj_m1, ↓reduceIte, nj_cl, nj_ltt, nj_ltf, nj_let, nj_lef, nj_eqf, nj_lt, nj_le, nj_eq, nj_add, nj_mul, nj_modx, nj_and7, nj_div, tz_bI_some, tz_bV_some, or_false, false_or, or_self, and_false, false_and, and_true, true_and, not_true_eq_false, not_false_eq_true, nt_lef, nt_let, nt_ltf, nt_ltt, nt_eqf, nj_m2, nj_m3, nj_m4, nj_m5, nj_m6, nj_m7, tz_bL_some, nj_sub, ng_ltt, ng_let, ng_gtf, ng_gef, e_X12_within, e_X12_isRow, m_no1, m_no2, m_no3, m_no4, m_no5, m_no6, m_no7, e_X12_no10, e2 m, ob_h (show 6 < 2147483648 by omega) h2]

  · have e1 := x_hasl0 (Or.inl rfl) cc h (by omega)
    have e2 := fun {D} {A} (m : MX D S K U V A) => m_hasl0 m.1.1 h (by omega)
    refine out_ref (v := tz_j 4294967291) 5 (by omega) c ww ?_ (fun A D m => ?_)
    · rw [e_X11_letterOf]
      simp (disch := omega) only [tz_lit, nj_m1, ↓reduceIte, nj_cl, nj_ltt, nj_ltf, nj_let, nj_lef, nj_eqf, nj_lt, nj_le, nj_eq, nj_add, nj_mul, nj_modx, nj_and7, nj_div, tz_bI_some, tz_bV_some, or_false, false_or, or_self, and_false, false_and, and_true, true_and, not_true_eq_false, not_false_eq_true, nt_lef, nt_let, nt_ltf, nt_ltt, nt_eqf, nj_m2, nj_m3, nj_m4, nj_m5, nj_m6, nj_m7, tz_bL_some, nj_sub, ng_ltt, ng_let, ng_gtf, ng_gef, e_X8_has, e_X8_holdsRow, e_X11_isKind, e_X11_isOneOfTwo, e_X11_isWord, x_ref1, x_ref2, x_ref3, x_ref4, x_ref5, x_ref6, x_ref7, e_X11_refuseLower, e1]
    · rw [e_X12_letterOf]
      simp (disch := omega) only [tz_lit, nj_m1, ↓reduceIte, nj_cl, nj_ltt, nj_ltf, nj_let, nj_lef, nj_eqf, nj_lt, nj_le, nj_eq, nj_add, nj_mul, nj_modx, nj_and7, nj_div, tz_bI_some, tz_bV_some, or_false, false_or, or_self, and_false, false_and, and_true, true_and, not_true_eq_false, not_false_eq_true, nt_lef, nt_let, nt_ltf, nt_ltt, nt_eqf, nj_m2, nj_m3, nj_m4, nj_m5, nj_m6, nj_m7, tz_bL_some, nj_sub, ng_ltt, ng_let, ng_gtf, ng_gef, e_X12_within, e_X12_isRow, m_no1, m_no2, m_no3, m_no4, m_no5, m_no6, m_no7, e_X12_no10, e2 m]

theorem p_stormOf (x1 x2 : Int32) : tz_twoI tz_J (f_X11_stormOf x1 x2) (f_X12_stormOf x1 x2) := by
  refine two_of (fun N S K U V A hN c ww => ?_)
  have W := ww.1.1
  have W2 := ww.1.2.1
  have h8 := W.1
  have h4 := W.2.1
  have h12 := W.2.2.1
  have cc := c.1.1
  rcases nj_three x1 (S 7 0) (by omega) with ⟨t, ht, rfl⟩ | h
  · have e1 := x_hast1 (Or.inl rfl) cc ht (by omega)
    have e2 := fun {D} {A} (m : MX D S K U V A) => m_hast1 m.1.1 ht (by omega)
    have ht2 := W.2.2.2.2.1 t ht
    rcases nj_three x2 16 (by omega) with ⟨u, hu, rfl⟩ | h2 | h2
    · rcases (show u = 0 ∨ u = 1 ∨ u = 2 ∨ u = 3 ∨ u = 4 ∨ u = 5 ∨ (6 ≤ u ∧ u < 10) ∨ 10 ≤ u by omega) with rfl | rfl | rfl | rfl | rfl | rfl | hq | hq
      · have e3 := x_at (b := 30) (Or.inl rfl) cc W W2 ht
        refine out_pure (v := tz_j (sp_at S t)) c ww ?_ (fun A D m => ?_)
        · rw [e_X11_stormOf]
          simp (disch := omega) only [tz_lit, nj_m1, ↓reduceIte, nj_cl, nj_ltt, nj_ltf, nj_let, nj_lef, nj_eqf, nj_lt, nj_le, nj_eq, nj_add, nj_mul, nj_modx, nj_and7, nj_div, tz_bI_some, tz_bV_some, or_false, false_or, or_self, and_false, false_and, and_true, true_and, not_true_eq_false, not_false_eq_true, nt_lef, nt_let, nt_ltf, nt_ltt, nt_eqf, nj_m2, nj_m3, nj_m4, nj_m5, nj_m6, nj_m7, tz_bL_some, nj_sub, ng_ltt, ng_let, ng_gtf, ng_gef, e1, e3]
        · have e4 := m_at m.1.1 W W2 ht
          rw [e_X12_stormOf]
          simp (disch := omega) only [tz_lit, nj_m1, ↓reduceIte, nj_cl, nj_ltt, nj_ltf, nj_let, nj_lef, nj_eqf, nj_lt, nj_le, nj_eq, nj_add, nj_mul, nj_modx, nj_and7, nj_div, tz_bI_some, tz_bV_some, or_false, false_or, or_self, and_false, false_and, and_true, true_and, not_true_eq_false, not_false_eq_true, nt_lef, nt_let, nt_ltf, nt_ltt, nt_eqf, nj_m2, nj_m3, nj_m4, nj_m5, nj_m6, nj_m7, tz_bL_some, nj_sub, ng_ltt, ng_let, ng_gtf, ng_gef, e2 m, e4]
      · refine out_pure (v := tz_j (S 8 t)) c ww ?_ (fun A D m => ?_)
        · rw [e_X11_stormOf]
          simp (disch := omega) only [tz_lit, nj_m1, ↓reduceIte, nj_cl, nj_ltt, nj_ltf, nj_let, nj_lef, nj_eqf, nj_lt, nj_le, nj_eq, nj_add, nj_mul, nj_modx, nj_and7, nj_div, tz_bI_some, tz_bV_some, or_false, false_or, or_self, and_false, false_and, and_true, true_and, not_true_eq_false, not_false_eq_true, nt_lef, nt_let, nt_ltf, nt_ltt, nt_eqf, nj_m2, nj_m3, nj_m4, nj_m5, nj_m6, nj_m7, tz_bL_some, nj_sub, ng_ltt, ng_let, ng_gtf, ng_gef, e1, cz_8 cc]
        · have mc := m.1.1
          rw [e_X12_stormOf]
          simp (disch := omega) only [tz_lit, nj_m1, ↓reduceIte, nj_cl, nj_ltt, nj_ltf, nj_let, nj_lef, nj_eqf, nj_lt, nj_le, nj_eq, nj_add, nj_mul, nj_modx, nj_and7, nj_div, tz_bI_some, tz_bV_some, or_false, false_or, or_self, and_false, false_and, and_true, true_and, not_true_eq_false, not_false_eq_true, nt_lef, nt_let, nt_ltf, nt_ltt, nt_eqf, nj_m2, nj_m3, nj_m4, nj_m5, nj_m6, nj_m7, tz_bL_some, nj_sub, ng_ltt, ng_let, ng_gtf, ng_gef, e2 m, cm_168 mc]
      · refine out_pure (v := tz_j (S 9 t)) c ww ?_ (fun A D m => ?_)
        · rw [e_X11_stormOf]
          simp (disch := omega) only [tz_lit, nj_m1, ↓reduceIte, nj_cl, nj_ltt, nj_ltf, nj_let, nj_lef, nj_eqf, nj_lt, nj_le, nj_eq, nj_add, nj_mul, nj_modx, nj_and7, nj_div, tz_bI_some, tz_bV_some, or_false, false_or, or_self, and_false, false_and, and_true, true_and, not_true_eq_false, not_false_eq_true, nt_lef, nt_let, nt_ltf, nt_ltt, nt_eqf, nj_m2, nj_m3, nj_m4, nj_m5, nj_m6, nj_m7, tz_bL_some, nj_sub, ng_ltt, ng_let, ng_gtf, ng_gef, e1, cz_9 cc]
        · have mc := m.1.1
          rw [e_X12_stormOf]
          simp (disch := omega) only [tz_lit, nj_m1, ↓reduceIte, nj_cl, nj_ltt, nj_ltf, nj_let, nj_lef, nj_eqf, nj_lt, nj_le, nj_eq, nj_add, nj_mul, nj_modx, nj_and7, nj_div, tz_bI_some, tz_bV_some, or_false, false_or, or_self, and_false, false_and, and_true, true_and, not_true_eq_false, not_false_eq_true, nt_lef, nt_let, nt_ltf, nt_ltt, nt_eqf, nj_m2, nj_m3, nj_m4, nj_m5, nj_m6, nj_m7, tz_bL_some, nj_sub, ng_ltt, ng_let, ng_gtf, ng_gef, e2 m, cm_169 mc]
      · refine out_pure (v := tz_j (S 10 t)) c ww ?_ (fun A D m => ?_)
        · rw [e_X11_stormOf]
          simp (disch := omega) only [tz_lit, nj_m1, ↓reduceIte, nj_cl, nj_ltt, nj_ltf, nj_let, nj_lef, nj_eqf, nj_lt, nj_le, nj_eq, nj_add, nj_mul, nj_modx, nj_and7, nj_div, tz_bI_some, tz_bV_some, or_false, false_or, or_self, and_false, false_and, and_true, true_and, not_true_eq_false, not_false_eq_true, nt_lef, nt_let, nt_ltf, nt_ltt, nt_eqf, nj_m2, nj_m3, nj_m4, nj_m5, nj_m6, nj_m7, tz_bL_some, nj_sub, ng_ltt, ng_let, ng_gtf, ng_gef, e1, cz_10 cc]
        · have mc := m.1.1
          rw [e_X12_stormOf]
          simp (disch := omega) only [tz_lit, nj_m1, ↓reduceIte, nj_cl, nj_ltt, nj_ltf, nj_let, nj_lef, nj_eqf, nj_lt, nj_le, nj_eq, nj_add, nj_mul, nj_modx, nj_and7, nj_div, tz_bI_some, tz_bV_some, or_false, false_or, or_self, and_false, false_and, and_true, true_and, not_true_eq_false, not_false_eq_true, nt_lef, nt_let, nt_ltf, nt_ltt, nt_eqf, nj_m2, nj_m3, nj_m4, nj_m5, nj_m6, nj_m7, tz_bL_some, nj_sub, ng_ltt, ng_let, ng_gtf, ng_gef, e2 m, cm_170 mc]
      · refine out_pure (v := tz_g A 44 t) c ww ?_ (fun A' D m => ?_)
        · rw [e_X11_stormOf]
          simp (disch := omega) only [tz_lit, nj_m1, ↓reduceIte, nj_cl, nj_ltt, nj_ltf, nj_let, nj_lef, nj_eqf, nj_lt, nj_le, nj_eq, nj_add, nj_mul, nj_modx, nj_and7, nj_div, tz_bI_some, tz_bV_some, or_false, false_or, or_self, and_false, false_and, and_true, true_and, not_true_eq_false, not_false_eq_true, nt_lef, nt_let, nt_ltf, nt_ltt, nt_eqf, nj_m2, nj_m3, nj_m4, nj_m5, nj_m6, nj_m7, tz_bL_some, nj_sub, ng_ltt, ng_let, ng_gtf, ng_gef, e1]
        · have e3 := m_lying m.1.1 W W2 (show 100 + t < 1000 by omega) (m_in30 ht h4 c.1)
          rw [e_X12_stormOf]
          simp (disch := omega) only [tz_lit, nj_m1, ↓reduceIte, nj_cl, nj_ltt, nj_ltf, nj_let, nj_lef, nj_eqf, nj_lt, nj_le, nj_eq, nj_add, nj_mul, nj_modx, nj_and7, nj_div, tz_bI_some, tz_bV_some, or_false, false_or, or_self, and_false, false_and, and_true, true_and, not_true_eq_false, not_false_eq_true, nt_lef, nt_let, nt_ltf, nt_ltt, nt_eqf, nj_m2, nj_m3, nj_m4, nj_m5, nj_m6, nj_m7, tz_bL_some, nj_sub, ng_ltt, ng_let, ng_gtf, ng_gef, e2 m, e3]
      · refine out_pure (v := tz_j (S 11 t)) c ww ?_ (fun A D m => ?_)
        · rw [e_X11_stormOf]
          simp (disch := omega) only [tz_lit, nj_m1, ↓reduceIte, nj_cl, nj_ltt, nj_ltf, nj_let, nj_lef, nj_eqf, nj_lt, nj_le, nj_eq, nj_add, nj_mul, nj_modx, nj_and7, nj_div, tz_bI_some, tz_bV_some, or_false, false_or, or_self, and_false, false_and, and_true, true_and, not_true_eq_false, not_false_eq_true, nt_lef, nt_let, nt_ltf, nt_ltt, nt_eqf, nj_m2, nj_m3, nj_m4, nj_m5, nj_m6, nj_m7, tz_bL_some, nj_sub, ng_ltt, ng_let, ng_gtf, ng_gef, e1, cz_11 cc]
        · have mc := m.1.1
          rw [e_X12_stormOf]
          simp (disch := omega) only [tz_lit, nj_m1, ↓reduceIte, nj_cl, nj_ltt, nj_ltf, nj_let, nj_lef, nj_eqf, nj_lt, nj_le, nj_eq, nj_add, nj_mul, nj_modx, nj_and7, nj_div, tz_bI_some, tz_bV_some, or_false, false_or, or_self, and_false, false_and, and_true, true_and, not_true_eq_false, not_false_eq_true, nt_lef, nt_let, nt_ltf, nt_ltt, nt_eqf, nj_m2, nj_m3, nj_m4, nj_m5, nj_m6, nj_m7, tz_bL_some, nj_sub, ng_ltt, ng_let, ng_gtf, ng_gef, e2 m, cm_165 mc]
      · refine out_ref (v := tz_j 4294967291) 5 (by omega) c ww ?_ (fun A D m => ?_)
        · rw [e_X11_stormOf]
          simp (disch := omega) only [tz_lit, nj_m1, ↓reduceIte, nj_cl, nj_ltt, nj_ltf, nj_let, nj_lef, nj_eqf, nj_lt, nj_le, nj_eq, nj_add, nj_mul, nj_modx, nj_and7, nj_div, tz_bI_some, tz_bV_some, or_false, false_or, or_self, and_false, false_and, and_true, true_and, not_true_eq_false, not_false_eq_true, nt_lef, nt_let, nt_ltf, nt_ltt, nt_eqf, nj_m2, nj_m3, nj_m4, nj_m5, nj_m6, nj_m7, tz_bL_some, nj_sub, ng_ltt, ng_let, ng_gtf, ng_gef, e1, e_X11_wayOf, x_ref1, x_ref2, x_ref3, x_ref4, x_ref5, x_ref6, x_ref7, e_X11_refuseLower]
        · have mc := m.1.1
          rw [e_X12_stormOf]
          simp (disch := omega) only [tz_lit, nj_m1, ↓reduceIte, nj_cl, nj_ltt, nj_ltf, nj_let, nj_lef, nj_eqf, nj_lt, nj_le, nj_eq, nj_add, nj_mul, nj_modx, nj_and7, nj_div, tz_bI_some, tz_bV_some, or_false, false_or, or_self, and_false, false_and, and_true, true_and, not_true_eq_false, not_false_eq_true, nt_lef, nt_let, nt_ltf, nt_ltt, nt_eqf, nj_m2, nj_m3, nj_m4, nj_m5, nj_m6, nj_m7, tz_bL_some, nj_sub, ng_ltt, ng_let, ng_gtf, ng_gef, e2 m, cm_165 mc, e_X12_within, m_no1, m_no2, m_no3, m_no4, m_no5, m_no6, m_no7, e_X12_no10]
      · by_cases z : u - 10 < S 11 t
        · refine out_pure (v := tz_j (S 12 (6 * t + (u - 10)))) c ww ?_ (fun A D m => ?_)
          · rw [e_X11_stormOf]
            simp (disch := omega) only [tz_lit, nj_m1, ↓reduceIte, nj_cl, nj_ltt, nj_ltf, nj_let, nj_lef, nj_eqf, nj_lt, nj_le, nj_eq, nj_add, nj_mul, nj_modx, nj_and7, nj_div, tz_bI_some, tz_bV_some, or_false, false_or, or_self, and_false, false_and, and_true, true_and, not_true_eq_false, not_false_eq_true, nt_lef, nt_let, nt_ltf, nt_ltt, nt_eqf, nj_m2, nj_m3, nj_m4, nj_m5, nj_m6, nj_m7, tz_bL_some, nj_sub, ng_ltt, ng_let, ng_gtf, ng_gef, e1, e_X11_wayOf, e_X10_wayHill _ _ _ (show tz_sky 30 from Or.inl rfl), cz_11 cc, cx_12 cc]
            rw [Nat.mul_comm]
          · have mc := m.1.1
            have e5 := cm_166 mc ht z
            rw [show 6 * t + (u - 10) = 6 * t + u - 10 by omega] at e5
            rw [e_X12_stormOf]
            simp (disch := omega) only [tz_lit, nj_m1, ↓reduceIte, nj_cl, nj_ltt, nj_ltf, nj_let, nj_lef, nj_eqf, nj_lt, nj_le, nj_eq, nj_add, nj_mul, nj_modx, nj_and7, nj_div, tz_bI_some, tz_bV_some, or_false, false_or, or_self, and_false, false_and, and_true, true_and, not_true_eq_false, not_false_eq_true, nt_lef, nt_let, nt_ltf, nt_ltt, nt_eqf, nj_m2, nj_m3, nj_m4, nj_m5, nj_m6, nj_m7, tz_bL_some, nj_sub, ng_ltt, ng_let, ng_gtf, ng_gef, e2 m, cm_165 mc, e_X12_within, e5]
            rw [show 6 * t + (u - 10) = 6 * t + u - 10 by omega]
        · refine out_ref (v := tz_j 4294967291) 5 (by omega) c ww ?_ (fun A D m => ?_)
          · rw [e_X11_stormOf]
            simp (disch := omega) only [tz_lit, nj_m1, ↓reduceIte, nj_cl, nj_ltt, nj_ltf, nj_let, nj_lef, nj_eqf, nj_lt, nj_le, nj_eq, nj_add, nj_mul, nj_modx, nj_and7, nj_div, tz_bI_some, tz_bV_some, or_false, false_or, or_self, and_false, false_and, and_true, true_and, not_true_eq_false, not_false_eq_true, nt_lef, nt_let, nt_ltf, nt_ltt, nt_eqf, nj_m2, nj_m3, nj_m4, nj_m5, nj_m6, nj_m7, tz_bL_some, nj_sub, ng_ltt, ng_let, ng_gtf, ng_gef, e1, e_X11_wayOf, cz_11 cc, x_ref1, x_ref2, x_ref3, x_ref4, x_ref5, x_ref6, x_ref7, e_X11_refuseLower]
          · have mc := m.1.1
            rw [e_X12_stormOf]
            simp (disch := omega) only [tz_lit, nj_m1, ↓reduceIte, nj_cl, nj_ltt, nj_ltf, nj_let, nj_lef, nj_eqf, nj_lt, nj_le, nj_eq, nj_add, nj_mul, nj_modx, nj_and7, nj_div, tz_bI_some, tz_bV_some, or_false, false_or, or_self, and_false, false_and, and_true, true_and, not_true_eq_false, not_false_eq_true, nt_lef, nt_let, nt_ltf, nt_ltt, nt_eqf, nj_m2, nj_m3, nj_m4, nj_m5, nj_m6, nj_m7, tz_bL_some, nj_sub, ng_ltt, ng_let, ng_gtf, ng_gef, e2 m, cm_165 mc, e_X12_within, m_no1, m_no2, m_no3, m_no4, m_no5, m_no6, m_no7, e_X12_no10]
    · refine out_ref (v := tz_j 4294967291) 5 (by omega) c ww ?_ (fun A D m => ?_)
      · rw [e_X11_stormOf]
        simp (disch := omega) only [tz_lit, nj_m1, ↓reduceIte, nj_cl, nj_ltt, nj_ltf, nj_let, nj_lef, nj_eqf, nj_lt, nj_le, nj_eq, nj_add, nj_mul, nj_modx, nj_and7, nj_div, tz_bI_some, tz_bV_some, or_false, false_or, or_self, and_false, false_and, and_true, true_and, not_true_eq_false, not_false_eq_true, nt_lef, nt_let, nt_ltf, nt_ltt, nt_eqf, nj_m2, nj_m3, nj_m4, nj_m5, nj_m6, nj_m7, tz_bL_some, nj_sub, ng_ltt, ng_let, ng_gtf, ng_gef, e1, e_X11_wayOf, ob_l h2, x_ref1, x_ref2, x_ref3, x_ref4, x_ref5, x_ref6, x_ref7, e_X11_refuseLower]
      · have mc := m.1.1
        rw [e_X12_stormOf]
        simp (disch := omega) only [tz_lit, nj_m1, ↓reduceIte, nj_cl, nj_ltt, nj_ltf, nj_let, nj_lef, nj_eqf, nj_lt, nj_le, nj_eq, nj_add, nj_mul, nj_modx, nj_and7, nj_div, tz_bI_some, tz_bV_some, or_false, false_or, or_self, and_false, false_and, and_true, true_and, not_true_eq_false, not_false_eq_true, nt_lef, nt_let, nt_ltf, nt_ltt, nt_eqf, nj_m2, nj_m3, nj_m4, nj_m5, nj_m6, nj_m7, tz_bL_some, nj_sub, ng_ltt, ng_let, ng_gtf, ng_gef, e2 m, cm_165 mc, e_X12_within, ob_l h2, m_no1, m_no2, m_no3, m_no4, m_no5, m_no6, m_no7, e_X12_no10]
    · refine out_ref (v := tz_j 4294967291) 5 (by omega) c ww ?_ (fun A D m => ?_)
      · rw [e_X11_stormOf]
        simp (disch := omega) only [tz_lit, nj_m1, ↓reduceIte, nj_cl, nj_ltt, nj_ltf, nj_let, nj_lef, nj_eqf, nj_lt, nj_le, nj_eq, nj_add, nj_mul, nj_modx, nj_and7, nj_div, tz_bI_some, tz_bV_some, or_false, false_or, or_self, and_false, false_and, and_true, true_and, not_true_eq_false, not_false_eq_true, nt_lef, nt_let, nt_ltf, nt_ltt, nt_eqf, nj_m2, nj_m3, nj_m4, nj_m5, nj_m6, nj_m7, tz_bL_some, nj_sub, ng_ltt, ng_let, ng_gtf, ng_gef, e1, e_X11_wayOf, ob_h (show 16 < 2147483648 by omega) h2, x_ref1, x_ref2, x_ref3, x_ref4, x_ref5, x_ref6, x_ref7, e_X11_refuseLower]
      · have mc := m.1.1
        rw [e_X12_stormOf]
        simp (disch := omega) only [tz_lit, nj_m1, ↓reduceIte, nj_cl, nj_ltt, nj_ltf, nj_let, nj_lef, nj_eqf, nj_lt, nj_le, nj_eq, nj_add, nj_mul, nj_modx, nj_and7, nj_div, tz_bI_some, tz_bV_some, or_false, false_or, or_self, and_false, false_and, and_true, true_and, not_true_eq_false, not_false_eq_true, nt_lef, nt_let, nt_ltf, nt_ltt, nt_eqf, nj_m2, nj_m3, nj_m4, nj_m5, nj_m6, nj_m7, tz_bL_some, nj_sub, ng_ltt, ng_let, ng_gtf, ng_gef, e2 m, cm_165 mc, e_X12_within, ob_h (show 16 < 2147483648 by omega) h2, m_no1, m_no2, m_no3, m_no4, m_no5, m_no6, m_no7, e_X12_no10]
  · have e1 := x_hast0 (Or.inl rfl) cc h (by omega)
    have e2 := fun {D} {A} (m : MX D S K U V A) => m_hast0 m.1.1 h (by omega)
    refine out_ref (v := tz_j 4294967291) 5 (by omega) c ww ?_ (fun A D m => ?_)
    · rw [e_X11_stormOf]
      rw [e1, tz_bI_some]
      simp (disch := omega) only [tz_lit, nj_m1, ↓reduceIte, nj_cl, nj_ltt, nj_ltf, nj_let, nj_lef, nj_eqf, nj_lt, nj_le, nj_eq, nj_add, nj_mul, nj_modx, nj_and7, nj_div, tz_bI_some, tz_bV_some, or_false, false_or, or_self, and_false, false_and, and_true, true_and, not_true_eq_false, not_false_eq_true, nt_lef, nt_let, nt_ltf, nt_ltt, nt_eqf, nj_m2, nj_m3, nj_m4, nj_m5, nj_m6, nj_m7, tz_bL_some, nj_sub, ng_ltt, ng_let, ng_gtf, ng_gef, e_X8_has, e_X8_holdsRow, e_X11_isKind, e_X11_isOneOfTwo, e_X11_isWord, x_ref1, x_ref2, x_ref3, x_ref4, x_ref5, x_ref6, x_ref7, e_X11_refuseLower]
    · rw [e_X12_stormOf]
      rw [e2 m, tz_bI_some]
      simp (disch := omega) only [tz_lit, nj_m1, ↓reduceIte, nj_cl, nj_ltt, nj_ltf, nj_let, nj_lef, nj_eqf, nj_lt, nj_le, nj_eq, nj_add, nj_mul, nj_modx, nj_and7, nj_div, tz_bI_some, tz_bV_some, or_false, false_or, or_self, and_false, false_and, and_true, true_and, not_true_eq_false, not_false_eq_true, nt_lef, nt_let, nt_ltf, nt_ltt, nt_eqf, nj_m2, nj_m3, nj_m4, nj_m5, nj_m6, nj_m7, tz_bL_some, nj_sub, ng_ltt, ng_let, ng_gtf, ng_gef, e_X12_within, e_X12_isRow, m_no1, m_no2, m_no3, m_no4, m_no5, m_no6, m_no7, e_X12_no10]

theorem p_heard (x1 x2 : Int32) : tz_twoI tz_J (f_X11_heard x1 x2) (f_X12_heard x1 x2) := by
  refine two_of (fun N S K U V A hN c ww => ?_)
  have W := ww.1.1
  have W2 := ww.1.2.1
  have h8 := W.1
  have h4 := W.2.1
  have h12 := W.2.2.1
  have cc := c.1.1
  rcases nj_three x1 (S 1 0) (by omega) with ⟨h, hh, rfl⟩ | h
  · have e1 := x_hash1 (Or.inl rfl) cc hh (by omega)
    have e2 := fun {D} {A} (m : MX D S K U V A) => m_hash1 m.1.1 hh (by omega)
    have hev := W2.2.2.1 h hh
    have hH := ww.1.2.2.2
    have hk8 : sp_kept S h ≤ 8 ∧ sp_kept S h ≤ S 5 h := by unfold sp_kept; split <;> omega
    have ek : (if 8 < S 5 h then tz_j 8 else tz_j (S 5 h)) = tz_j (sp_kept S h) := by
      unfold sp_kept
      by_cases z : S 5 h < 8
      · rw [if_pos z, if_neg (by omega)]
      · rw [if_neg z]
        split
        · rfl
        · rw [show S 5 h = 8 by omega]
    by_cases z : x2 = tz_j 4294967295
    · subst z
      refine out_pure (v := tz_j (sp_kept S h)) c ww ?_ (fun A D m => ?_)
      · rw [e_X11_heard]
        simp (disch := omega) only [tz_lit, nj_m1, ↓reduceIte, nj_cl, nj_ltt, nj_ltf, nj_let, nj_lef, nj_eqf, nj_lt, nj_le, nj_eq, nj_add, nj_mul, nj_modx, nj_and7, nj_div, tz_bI_some, tz_bV_some, or_false, false_or, or_self, and_false, false_and, and_true, true_and, not_true_eq_false, not_false_eq_true, nt_lef, nt_let, nt_ltf, nt_ltt, nt_eqf, nj_m2, nj_m3, nj_m4, nj_m5, nj_m6, nj_m7, tz_bL_some, nj_sub, ng_ltt, ng_let, ng_gtf, ng_gef, e1, e_X3_countKept _ _ (show tz_sky 30 from Or.inl rfl), cx_5 cc, ek]
      · have e3 := (m.1.2.1 h hh).1
        rw [e_X12_heard]
        simp (disch := omega) only [tz_lit, nj_m1, ↓reduceIte, nj_cl, nj_ltt, nj_ltf, nj_let, nj_lef, nj_eqf, nj_lt, nj_le, nj_eq, nj_add, nj_mul, nj_modx, nj_and7, nj_div, tz_bI_some, tz_bV_some, or_false, false_or, or_self, and_false, false_and, and_true, true_and, not_true_eq_false, not_false_eq_true, nt_lef, nt_let, nt_ltf, nt_ltt, nt_eqf, nj_m2, nj_m3, nj_m4, nj_m5, nj_m6, nj_m7, tz_bL_some, nj_sub, ng_ltt, ng_let, ng_gtf, ng_gef, e2 m, e3]
    · rcases nj_three x2 (sp_kept S h) (by omega) with ⟨i, hi, rfl⟩ | h2
      · have hw := c.1.2.2.2.1 h hh (S 5 h - sp_kept S h + i) (by omega) (by unfold sp_kept at hi ⊢; split <;> omega)
        refine out_pure (v := tz_j (S (100 + h) (S 5 h - sp_kept S h + i))) c ww ?_ (fun A D m => ?_)
        · have em : (S 5 h - sp_kept S h + i) % 8 < 8 := Nat.mod_lt _ (by omega)
          rw [e_X11_heard]
          simp (disch := omega) only [tz_lit, nj_m1, ↓reduceIte, nj_cl, nj_ltt, nj_ltf, nj_let, nj_lef, nj_eqf, nj_lt, nj_le, nj_eq, nj_add, nj_mul, nj_modx, nj_and7, nj_div, tz_bI_some, tz_bV_some, or_false, false_or, or_self, and_false, false_and, and_true, true_and, not_true_eq_false, not_false_eq_true, nt_lef, nt_let, nt_ltf, nt_ltt, nt_eqf, nj_m2, nj_m3, nj_m4, nj_m5, nj_m6, nj_m7, tz_bL_some, nj_sub, ng_ltt, ng_let, ng_gtf, ng_gef, e1, z, e_X3_keptWord _ _ _ (show tz_sky 30 from Or.inl rfl), e_X3_countKept _ _ (show tz_sky 30 from Or.inl rfl), cx_5 cc, ek, hw]
        · obtain ⟨e3, e4⟩ := m.1.2.1 h hh
          have e5 := e4 i hi
          have e6 := wi_i (A := A) (show sp_kept S h ≤ 1000 by omega) hi
          rw [e_X12_heard]
          simp only [tz_lit, e2 m, tz_bI_some]
          simp (disch := omega) only [tz_lit, nj_m1, ↓reduceIte, nj_cl, nj_ltt, nj_ltf, nj_let, nj_lef, nj_eqf, nj_lt, nj_le, nj_eq, nj_add, nj_mul, nj_modx, nj_and7, nj_div, tz_bI_some, tz_bV_some, or_false, false_or, or_self, and_false, false_and, and_true, true_and, not_true_eq_false, not_false_eq_true, nt_lef, nt_let, nt_ltf, nt_ltt, nt_eqf, nj_m2, nj_m3, nj_m4, nj_m5, nj_m6, nj_m7, tz_bL_some, ng_ltt, ng_let, ng_gtf, ng_gef, z, e3, e6, e5]
      · refine out_ref (v := tz_j 4294967291) 5 (by omega) c ww ?_ (fun A D m => ?_)
        · rw [e_X11_heard]
          rcases h2 with h2 | h2
          · simp (disch := omega) only [tz_lit, nj_m1, ↓reduceIte, nj_cl, nj_ltt, nj_ltf, nj_let, nj_lef, nj_eqf, nj_lt, nj_le, nj_eq, nj_add, nj_mul, nj_modx, nj_and7, nj_div, tz_bI_some, tz_bV_some, or_false, false_or, or_self, and_false, false_and, and_true, true_and, not_true_eq_false, not_false_eq_true, nt_lef, nt_let, nt_ltf, nt_ltt, nt_eqf, nj_m2, nj_m3, nj_m4, nj_m5, nj_m6, nj_m7, tz_bL_some, nj_sub, ng_ltt, ng_let, ng_gtf, ng_gef, e1, z, e_X3_countKept _ _ (show tz_sky 30 from Or.inl rfl), cx_5 cc, ek, ob_l h2, x_ref1, x_ref2, x_ref3, x_ref4, x_ref5, x_ref6, x_ref7, e_X11_refuseLower]
          · simp (disch := omega) only [tz_lit, nj_m1, ↓reduceIte, nj_cl, nj_ltt, nj_ltf, nj_let, nj_lef, nj_eqf, nj_lt, nj_le, nj_eq, nj_add, nj_mul, nj_modx, nj_and7, nj_div, tz_bI_some, tz_bV_some, or_false, false_or, or_self, and_false, false_and, and_true, true_and, not_true_eq_false, not_false_eq_true, nt_lef, nt_let, nt_ltf, nt_ltt, nt_eqf, nj_m2, nj_m3, nj_m4, nj_m5, nj_m6, nj_m7, tz_bL_some, nj_sub, ng_ltt, ng_let, ng_gtf, ng_gef, e1, z, e_X3_countKept _ _ (show tz_sky 30 from Or.inl rfl), cx_5 cc, ek, ob_h (show sp_kept S h < 2147483648 by omega) h2, x_ref1, x_ref2, x_ref3, x_ref4, x_ref5, x_ref6, x_ref7, e_X11_refuseLower]
        · obtain ⟨e3, e4⟩ := m.1.2.1 h hh
          have e6 := wi_o (A := A) (show sp_kept S h ≤ 1000 by omega) h2
          rw [e_X12_heard]
          simp (disch := omega) only [tz_lit, nj_m1, ↓reduceIte, nj_cl, nj_ltt, nj_ltf, nj_let, nj_lef, nj_eqf, nj_lt, nj_le, nj_eq, nj_add, nj_mul, nj_modx, nj_and7, nj_div, tz_bI_some, tz_bV_some, or_false, false_or, or_self, and_false, false_and, and_true, true_and, not_true_eq_false, not_false_eq_true, nt_lef, nt_let, nt_ltf, nt_ltt, nt_eqf, nj_m2, nj_m3, nj_m4, nj_m5, nj_m6, nj_m7, tz_bL_some, ng_ltt, ng_let, ng_gtf, ng_gef, e2 m, z, nj_m1, e3, e6, m_no1, m_no2, m_no3, m_no4, m_no5, m_no6, m_no7, e_X12_no10]
  · have e1 := x_hash0 (Or.inl rfl) cc h (by omega)
    have e2 := fun {D} {A} (m : MX D S K U V A) => m_hash0 m.1.1 h (by omega)
    refine out_ref (v := tz_j 4294967295) 1 (by omega) c ww ?_ (fun A D m => ?_)
    · rw [e_X11_heard]
      simp (disch := omega) only [tz_lit, nj_m1, ↓reduceIte, nj_cl, nj_ltt, nj_ltf, nj_let, nj_lef, nj_eqf, nj_lt, nj_le, nj_eq, nj_add, nj_mul, nj_modx, nj_and7, nj_div, tz_bI_some, tz_bV_some, or_false, false_or, or_self, and_false, false_and, and_true, true_and, not_true_eq_false, not_false_eq_true, nt_lef, nt_let, nt_ltf, nt_ltt, nt_eqf, nj_m2, nj_m3, nj_m4, nj_m5, nj_m6, nj_m7, tz_bL_some, nj_sub, ng_ltt, ng_let, ng_gtf, ng_gef, e_X8_has, e_X8_holdsRow, e_X11_isKind, e_X11_isOneOfTwo, e_X11_isWord, x_ref1, x_ref2, x_ref3, x_ref4, x_ref5, x_ref6, x_ref7, e_X11_refuseLower, e1]
    · rw [e_X12_heard]
      simp (disch := omega) only [tz_lit, nj_m1, ↓reduceIte, nj_cl, nj_ltt, nj_ltf, nj_let, nj_lef, nj_eqf, nj_lt, nj_le, nj_eq, nj_add, nj_mul, nj_modx, nj_and7, nj_div, tz_bI_some, tz_bV_some, or_false, false_or, or_self, and_false, false_and, and_true, true_and, not_true_eq_false, not_false_eq_true, nt_lef, nt_let, nt_ltf, nt_ltt, nt_eqf, nj_m2, nj_m3, nj_m4, nj_m5, nj_m6, nj_m7, tz_bL_some, nj_sub, ng_ltt, ng_let, ng_gtf, ng_gef, e_X12_within, e_X12_isRow, m_no1, m_no2, m_no3, m_no4, m_no5, m_no6, m_no7, e_X12_no10, e2 m]

theorem p_fault : tz_twoI tz_J (f_X11_fault ) (f_X12_fault ) := by
  refine two_of (fun N S K U V A hN c ww => ?_)
  exact out_pure (v := U 3 0) c ww (by rw [e_X11_fault, c.2.2.1.2.2.1]) (fun A D m => by rw [e_X12_fault, m.2.2.1.2.2.1])
theorem p_trace (x1 : Int32) : tz_twoI tz_J (f_X11_trace x1) (f_X12_trace x1) := by
  refine two_of (fun N S K U V A hN c ww => ?_)
  obtain ⟨n, hn, un⟩ := ww.2.2.2.2.2.2
  have q1 : tz_g A 148 0 = tz_j n := c.2.2.1.2.2.2.2.1.trans un
  have q2 := c.2.2.1.2.2.2.2.2
  have e1 : f_X0_countKept A = some (some (.int (tz_j (if 20 < n then 20 else n))), A) := by
    rw [e_X0_countKept, q1]
    by_cases z : 20 < n
    · simp (disch := omega) only [tz_lit, nj_m1, ↓reduceIte, nj_cl, nj_ltt, nj_ltf, nj_let, nj_lef, nj_eqf, nj_lt, nj_le, nj_eq, nj_add, nj_mul, nj_modx, nj_and7, nj_div, tz_bI_some, tz_bV_some, or_false, false_or, or_self, and_false, false_and, and_true, true_and, not_true_eq_false, not_false_eq_true, nt_lef, nt_let, nt_ltf, nt_ltt, nt_eqf, nj_m2, nj_m3, nj_m4, nj_m5, nj_m6, nj_m7, tz_bL_some, nj_sub, ng_ltt, ng_let, ng_gtf, ng_gef, z, if_pos z]
    · simp (disch := omega) only [tz_lit, nj_m1, ↓reduceIte, nj_cl, nj_ltt, nj_ltf, nj_let, nj_lef, nj_eqf, nj_lt, nj_le, nj_eq, nj_add, nj_mul, nj_modx, nj_and7, nj_div, tz_bI_some, tz_bV_some, or_false, false_or, or_self, and_false, false_and, and_true, true_and, not_true_eq_false, not_false_eq_true, nt_lef, nt_let, nt_ltf, nt_ltt, nt_eqf, nj_m2, nj_m3, nj_m4, nj_m5, nj_m6, nj_m7, tz_bL_some, nj_sub, ng_ltt, ng_let, ng_gtf, ng_gef, if_neg z]
  rcases nj_three x1 20 (by omega) with ⟨i, hi, rfl⟩ | h | h
  · by_cases z : i < n
    · refine out_pure (v := U 5 i) c ww ?_ (fun A D m => ?_)
      · have q3 := q2 i hi
        have hk : i < (if 20 < n then 20 else n) := by split <;> omega
        have hk2 : (if 20 < n then 20 else n) ≤ 20 := by split <;> omega
        generalize (if 20 < n then 20 else n) = kk at *
        rw [e_X11_trace]
        simp (disch := omega) only [tz_lit, nj_m1, ↓reduceIte, nj_cl, nj_ltt, nj_ltf, nj_let, nj_lef, nj_eqf, nj_lt, nj_le, nj_eq, nj_add, nj_mul, nj_modx, nj_and7, nj_div, tz_bI_some, tz_bV_some, or_false, false_or, or_self, and_false, false_and, and_true, true_and, not_true_eq_false, not_false_eq_true, nt_lef, nt_let, nt_ltf, nt_ltt, nt_eqf, nj_m2, nj_m3, nj_m4, nj_m5, nj_m6, nj_m7, tz_bL_some, nj_sub, ng_ltt, ng_let, ng_gtf, ng_gef, e1, q3]
      · have p1 : tz_g A 157 28 = tz_j n := m.2.2.1.2.2.2.2.1.trans un
        have p2 := m.2.2.1.2.2.2.2.2 i hi
        rw [e_X12_trace]
        simp (disch := omega) only [tz_lit, nj_m1, ↓reduceIte, nj_cl, nj_ltt, nj_ltf, nj_let, nj_lef, nj_eqf, nj_lt, nj_le, nj_eq, nj_add, nj_mul, nj_modx, nj_and7, nj_div, tz_bI_some, tz_bV_some, or_false, false_or, or_self, and_false, false_and, and_true, true_and, not_true_eq_false, not_false_eq_true, nt_lef, nt_let, nt_ltf, nt_ltt, nt_eqf, nj_m2, nj_m3, nj_m4, nj_m5, nj_m6, nj_m7, tz_bL_some, nj_sub, ng_ltt, ng_let, ng_gtf, ng_gef, p1, p2]
    · refine out_pure (v := tz_j 4294967295) c ww ?_ (fun A D m => ?_)
      · have hk : (if 20 < n then 20 else n) ≤ i := by split <;> omega
        generalize (if 20 < n then 20 else n) = kk at *
        rw [e_X11_trace]
        simp (disch := omega) only [tz_lit, nj_m1, ↓reduceIte, nj_cl, nj_ltt, nj_ltf, nj_let, nj_lef, nj_eqf, nj_lt, nj_le, nj_eq, nj_add, nj_mul, nj_modx, nj_and7, nj_div, tz_bI_some, tz_bV_some, or_false, false_or, or_self, and_false, false_and, and_true, true_and, not_true_eq_false, not_false_eq_true, nt_lef, nt_let, nt_ltf, nt_ltt, nt_eqf, nj_m2, nj_m3, nj_m4, nj_m5, nj_m6, nj_m7, tz_bL_some, nj_sub, ng_ltt, ng_let, ng_gtf, ng_gef, e1]
      · have p1 : tz_g A 157 28 = tz_j n := m.2.2.1.2.2.2.2.1.trans un
        rw [e_X12_trace]
        simp (disch := omega) only [tz_lit, nj_m1, ↓reduceIte, nj_cl, nj_ltt, nj_ltf, nj_let, nj_lef, nj_eqf, nj_lt, nj_le, nj_eq, nj_add, nj_mul, nj_modx, nj_and7, nj_div, tz_bI_some, tz_bV_some, or_false, false_or, or_self, and_false, false_and, and_true, true_and, not_true_eq_false, not_false_eq_true, nt_lef, nt_let, nt_ltf, nt_ltt, nt_eqf, nj_m2, nj_m3, nj_m4, nj_m5, nj_m6, nj_m7, tz_bL_some, nj_sub, ng_ltt, ng_let, ng_gtf, ng_gef, p1]
  · refine out_pure (v := tz_j 4294967295) c ww ?_ (fun A D m => ?_)
    · rw [e_X11_trace]
      simp (disch := omega) only [tz_lit, nj_m1, ↓reduceIte, nj_cl, nj_ltt, nj_ltf, nj_let, nj_lef, nj_eqf, nj_lt, nj_le, nj_eq, nj_add, nj_mul, nj_modx, nj_and7, nj_div, tz_bI_some, tz_bV_some, or_false, false_or, or_self, and_false, false_and, and_true, true_and, not_true_eq_false, not_false_eq_true, nt_lef, nt_let, nt_ltf, nt_ltt, nt_eqf, nj_m2, nj_m3, nj_m4, nj_m5, nj_m6, nj_m7, tz_bL_some, nj_sub, ng_ltt, ng_let, ng_gtf, ng_gef, ob_l h]
    · rw [e_X12_trace]
      simp (disch := omega) only [tz_lit, nj_m1, ↓reduceIte, nj_cl, nj_ltt, nj_ltf, nj_let, nj_lef, nj_eqf, nj_lt, nj_le, nj_eq, nj_add, nj_mul, nj_modx, nj_and7, nj_div, tz_bI_some, tz_bV_some, or_false, false_or, or_self, and_false, false_and, and_true, true_and, not_true_eq_false, not_false_eq_true, nt_lef, nt_let, nt_ltf, nt_ltt, nt_eqf, nj_m2, nj_m3, nj_m4, nj_m5, nj_m6, nj_m7, tz_bL_some, nj_sub, ng_ltt, ng_let, ng_gtf, ng_gef, ob_l h]
  · refine out_pure (v := tz_j 4294967295) c ww ?_ (fun A D m => ?_)
    · have hk : (if 20 < n then 20 else n) ≤ 20 := by split <;> omega
      generalize (if 20 < n then 20 else n) = kk at *
      rw [e_X11_trace]
      simp (disch := omega) only [tz_lit, nj_m1, ↓reduceIte, nj_cl, nj_ltt, nj_ltf, nj_let, nj_lef, nj_eqf, nj_lt, nj_le, nj_eq, nj_add, nj_mul, nj_modx, nj_and7, nj_div, tz_bI_some, tz_bV_some, or_false, false_or, or_self, and_false, false_and, and_true, true_and, not_true_eq_false, not_false_eq_true, nt_lef, nt_let, nt_ltf, nt_ltt, nt_eqf, nj_m2, nj_m3, nj_m4, nj_m5, nj_m6, nj_m7, tz_bL_some, nj_sub, ng_ltt, ng_let, ng_gtf, ng_gef, e1, ob_h (show 20 < 2147483648 by omega) h]
    · have p1 : tz_g A 157 28 = tz_j n := m.2.2.1.2.2.2.2.1.trans un
      rw [e_X12_trace]
      by_cases z : tz_j n ≤ x1
      · simp (disch := omega) only [tz_lit, nj_m1, ↓reduceIte, nj_cl, nj_ltt, nj_ltf, nj_let, nj_lef, nj_eqf, nj_lt, nj_le, nj_eq, nj_add, nj_mul, nj_modx, nj_and7, nj_div, tz_bI_some, tz_bV_some, or_false, false_or, or_self, and_false, false_and, and_true, true_and, not_true_eq_false, not_false_eq_true, nt_lef, nt_let, nt_ltf, nt_ltt, nt_eqf, nj_m2, nj_m3, nj_m4, nj_m5, nj_m6, nj_m7, tz_bL_some, nj_sub, ng_ltt, ng_let, ng_gtf, ng_gef, p1, if_pos z, ob_h (show 20 < 2147483648 by omega) h]
      · simp (disch := omega) only [tz_lit, nj_m1, ↓reduceIte, nj_cl, nj_ltt, nj_ltf, nj_let, nj_lef, nj_eqf, nj_lt, nj_le, nj_eq, nj_add, nj_mul, nj_modx, nj_and7, nj_div, tz_bI_some, tz_bV_some, or_false, false_or, or_self, and_false, false_and, and_true, true_and, not_true_eq_false, not_false_eq_true, nt_lef, nt_let, nt_ltf, nt_ltt, nt_eqf, nj_m2, nj_m3, nj_m4, nj_m5, nj_m6, nj_m7, tz_bL_some, nj_sub, ng_ltt, ng_let, ng_gtf, ng_gef, p1, if_neg z, ob_h (show 20 < 2147483648 by omega) h]

