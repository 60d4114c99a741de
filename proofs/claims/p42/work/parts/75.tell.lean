/-! says, dry, seed, status, burn -/
theorem bc_ex (x : Int32) : ∃ v, ∀ A, f_J6_bitCount x A = some (some (.int v), A) := ⟨_, e_J6_bitCount x⟩
def ch_p (k _i : Nat) : Prop := (30 ≤ k ∧ k < 53) ∨ th_p k 0 ∨ (122 ≤ k ∧ k < 148)
/-- dry, seed -/
theorem H_0i {N i v : Nat} {S : tz_S} (H : sp_H N S) (hi : (i = 4 ∧ v ≤ 100) ∨ (i = 5 ∧ v < 4294967296)) : sp_H N (tz_t S 0 i v) := by
  obtain ⟨W, W2, WE, h3, hT⟩ := H
  have g : ∀ k j, k ≠ 0 → tz_t S 0 i v k j = S k j := fun k j hk => tz_tk hk
  have g0 : ∀ j, j ≠ i → tz_t S 0 i v 0 j = S 0 j := fun j hj => tz_ti hj
  have g1 : tz_t S 0 i v 0 i = v := tz_t1
  refine ⟨?_, ?_, we_mv WE (fun k j h1 h2 => g k j (by omega)), by rw [g0 3 (by omega)]; exact h3, by rw [g0 3 (by omega), g0 0 (by omega)]; exact hT⟩
  · unfold sp_W1 sp_lt at W ⊢
    simp only [g 1 _ (by omega), g 2 _ (by omega), g 3 _ (by omega), g 7 _ (by omega), g 8 _ (by omega), g 9 _ (by omega), g 10 _ (by omega), g 11 _ (by omega), g 12 _ (by omega), g 15 _ (by omega), g 17 _ (by omega), g 18 _ (by omega), g 19 _ (by omega), g 22 _ (by omega)]
    exact W
  · obtain ⟨a, b, c, d, e1, e2, e3⟩ := W2
    refine ⟨a, fun l hl => ?_, fun h hh => ?_, ?_, ?_, ?_, ?_⟩
    · obtain ⟨b1, b2, b3, b4⟩ := b l hl
      rw [g0 3 (by omega)]
      exact ⟨b1, b2, b3, b4⟩
    · rw [g0 0 (by omega)]
      exact c h hh
    · rw [g0 0 (by omega)]
      exact (sum_mv (S := S) (S' := tz_t S 0 i v) (S 1 0) (fun _ _ => rfl)).trans d
    · rcases hi with ⟨rfl, hv⟩ | ⟨rfl, hv⟩
      · rw [g1]
        exact hv
      · rw [g0 4 (by omega)]
        exact e1
    · rcases hi with ⟨rfl, hv⟩ | ⟨rfl, hv⟩
      · rw [g0 5 (by omega)]
        exact e2
      · rw [g1]
        exact hv
    · rw [g0 6 (by omega)]
      exact e3

def sp_cw (p : Nat) : Nat → tz_S → Nat
  | 0, _ => 0
  | n + 1, S => sp_cw p n S + (if S 20 n = p then 1 else 0)
theorem cw_le {p : Nat} {S : tz_S} : ∀ n, sp_cw p n S ≤ n := by
  intro n
  induction n with
  | zero => exact Nat.le_refl 0
  | succ n ih =>
    show sp_cw p n S + (if S 20 n = p then 1 else 0) ≤ n + 1
    split <;> omega
theorem cw_s {p n : Nat} {S : tz_S} : sp_cw p (n + 1) S = sp_cw p n S + (if S 20 n = p then 1 else 0) := rfl
theorem x_cwL {b p : Nat} {S : tz_S} {A : tz_Mem} (hb : tz_sky b) (c : rx_c b S A) (W : sp_W1 S) (W2 : sp_W2 S) (hp : p < 1000) : ∀ k l, l + k = S 15 0 → q_X4_countWhere_4 b (tz_j p) (tz_j (sp_cw p l S)) (tz_j l) A = some (some (.int (tz_j (sp_cw p (S 15 0) S))), A) := by
  have h12 := W.2.2.1
  have h8 := W.1
  have h4 := W.2.1
  intro k
  induction k with
  | zero =>
    intro l hl
    rw [Nat.add_zero] at hl
    subst hl
    rw [e_X4_countWhere_4 _ _ _ _ hb]
    simp (disch := omega) only [tz_lit, nj_m1, ↓reduceIte, nj_cl, nj_ltt, nj_ltf, nj_let, nj_lef, nj_eqf, nj_lt, nj_le, nj_eq, nj_add, nj_mul, nj_modx, nj_and7, nj_div, tz_bI_some, tz_bV_some, or_false, false_or, or_self, and_false, false_and, and_true, true_and, not_true_eq_false, not_false_eq_true, nt_lef, nt_let, nt_ltf, nt_ltt, nt_eqf, nj_m2, nj_m3, nj_m4, nj_m5, nj_m6, nj_m7, tz_bL_some, nj_sub, ng_ltt, ng_let, ng_gtf, ng_gef, cx_15 c]
  | succ k ih =>
    intro l hl
    have hwl := (W2.2.1 l (by omega)).2.1
    unfold sp_wh at hwl
    have e := ih (l + 1) (by omega)
    rw [cw_s] at e
    rw [e_X4_countWhere_4 _ _ _ _ hb]
    by_cases z : S 20 l = p
    · rw [if_pos z] at e
      simp (disch := omega) only [tz_lit, nj_m1, ↓reduceIte, nj_cl, nj_ltt, nj_ltf, nj_let, nj_lef, nj_eqf, nj_lt, nj_le, nj_eq, nj_add, nj_mul, nj_modx, nj_and7, nj_div, tz_bI_some, tz_bV_some, or_false, false_or, or_self, and_false, false_and, and_true, true_and, not_true_eq_false, not_false_eq_true, nt_lef, nt_let, nt_ltf, nt_ltt, nt_eqf, nj_m2, nj_m3, nj_m4, nj_m5, nj_m6, nj_m7, tz_bL_some, nj_sub, ng_ltt, ng_let, ng_gtf, ng_gef, cx_15 c, cx_20 c, z]
      exact e
    · rw [if_neg z] at e
      simp (disch := omega) only [tz_lit, nj_m1, ↓reduceIte, nj_cl, nj_ltt, nj_ltf, nj_let, nj_lef, nj_eqf, nj_lt, nj_le, nj_eq, nj_add, nj_mul, nj_modx, nj_and7, nj_div, tz_bI_some, tz_bV_some, or_false, false_or, or_self, and_false, false_and, and_true, true_and, not_true_eq_false, not_false_eq_true, nt_lef, nt_let, nt_ltf, nt_ltt, nt_eqf, nj_m2, nj_m3, nj_m4, nj_m5, nj_m6, nj_m7, tz_bL_some, nj_sub, ng_ltt, ng_let, ng_gtf, ng_gef, cx_15 c, cx_20 c, if_neg z, z]
      exact e
theorem x_cw {b p : Nat} {S : tz_S} {A : tz_Mem} (hb : tz_sky b) (c : rx_c b S A) (W : sp_W1 S) (W2 : sp_W2 S) (hp : p < 1000) : f_X4_countWhere b (tz_j p) A = some (some (.int (tz_j (sp_cw p (S 15 0) S))), A) := by
  rw [e_X4_countWhere _ _ hb]
  exact x_cwL hb c W W2 hp (S 15 0) 0 (Nat.zero_add _)
theorem sum_le {S : tz_S} : ∀ n m, n ≤ m → sp_sum n S ≤ sp_sum m S := by
  intro n m h
  induction m with
  | zero =>
    rw [show n = 0 by omega]
    exact Nat.le_refl _
  | succ m ih =>
    by_cases z : n = m + 1
    · rw [z]
      exact Nat.le_refl _
    · have := ih (by omega)
      show sp_sum n S ≤ sp_sum m S + S 5 m
      omega
theorem x_everL {b : Nat} {S : tz_S} {A : tz_Mem} (hb : tz_sky b) (c : rx_c b S A) (W : sp_W1 S) (W2 : sp_W2 S) (hT : S 0 0 < 2147483648) : ∀ k l, l + k = S 1 0 → q_X3_countEver_4 b (tz_j (sp_sum l S)) (tz_j l) A = some (some (.int (tz_j (S 0 0))), A) := by
  have h8 := W.1
  intro k
  induction k with
  | zero =>
    intro l hl
    rw [Nat.add_zero] at hl
    subst hl
    rw [e_X3_countEver_4 _ _ _ hb, W2.2.2.2.1]
    simp (disch := omega) only [tz_lit, nj_m1, ↓reduceIte, nj_cl, nj_ltt, nj_ltf, nj_let, nj_lef, nj_eqf, nj_lt, nj_le, nj_eq, nj_add, nj_mul, nj_modx, nj_and7, nj_div, tz_bI_some, tz_bV_some, or_false, false_or, or_self, and_false, false_and, and_true, true_and, not_true_eq_false, not_false_eq_true, nt_lef, nt_let, nt_ltf, nt_ltt, nt_eqf, nj_m2, nj_m3, nj_m4, nj_m5, nj_m6, nj_m7, tz_bL_some, nj_sub, ng_ltt, ng_let, ng_gtf, ng_gef, cx_1 c]
  | succ k ih =>
    intro l hl
    have e := ih (l + 1) (by omega)
    rw [show sp_sum (l + 1) S = sp_sum l S + S 5 l from rfl] at e
    have hs := sum_le (S := S) (l + 1) (S 1 0) (by omega)
    rw [e_X3_countEver_4 _ _ _ hb]
    simp (disch := omega) only [tz_lit, nj_m1, ↓reduceIte, nj_cl, nj_ltt, nj_ltf, nj_let, nj_lef, nj_eqf, nj_lt, nj_le, nj_eq, nj_add, nj_mul, nj_modx, nj_and7, nj_div, tz_bI_some, tz_bV_some, or_false, false_or, or_self, and_false, false_and, and_true, true_and, not_true_eq_false, not_false_eq_true, nt_lef, nt_let, nt_ltf, nt_ltt, nt_eqf, nj_m2, nj_m3, nj_m4, nj_m5, nj_m6, nj_m7, tz_bL_some, nj_sub, ng_ltt, ng_let, ng_gtf, ng_gef, cx_1 c, cx_5 c]
    exact e
theorem x_ever {b : Nat} {S : tz_S} {A : tz_Mem} (hb : tz_sky b) (c : rx_c b S A) (W : sp_W1 S) (W2 : sp_W2 S) (hT : S 0 0 < 2147483648) : f_X3_countEver b A = some (some (.int (tz_j (S 0 0))), A) := by
  rw [e_X3_countEver _ hb]
  exact x_everL hb c W W2 hT (S 1 0) 0 (Nat.zero_add _)
