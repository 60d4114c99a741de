/-! numbers of a text -/
abbrev isd (x : Int32) : Prop := ¬ x < tz_j 48 ∧ ¬ tz_j 57 < x
def dv (x : Int32) : Nat := x.toNatClampNeg - 48
theorem isd_d {x : Int32} (h : isd x) : ∃ d, d ≤ 9 ∧ x = tz_j (48 + d) ∧ dv x = d := by
  rcases nj_three x 58 (by omega) with ⟨m, hm, rfl⟩ | h2 | h2
  · have h1 : ¬ m < 48 := fun q => h.1 (by rw [nj_lt (by omega) (by omega)]; exact q)
    refine ⟨m - 48, (by omega), by rw [show 48 + (m - 48) = m by omega], ?_⟩
    unfold dv
    rw [nj_cl (by omega)]
  · exact absurd (of_eq_true ((ob_l h2).2.2 48 (by omega)).2.2.1) h.1
  · exact absurd (of_eq_true ((ob_h (by omega) h2).2 57 (by omega)).2.1) h.2
def nu_l (T : Nat → Int32) (L : Nat) : Nat → Nat → Nat → Nat × Nat
  | 0, p, v => (p, v)
  | k + 1, p, v => if isd (sg T L p) then nu_l T L k (p + 1) (10 * v + dv (sg T L p)) else (p, v)
theorem nu_lt {T : Nat → Int32} {L p : Nat} (h : isd (sg T L p)) : p < L := by
  by_cases z : p < L
  · exact z
  · rw [sg_e (by omega)] at h
    exact absurd (by decide) h.1
theorem nu_g {T : Nat → Int32} {L : Nat} : ∀ k p v, p ≤ L → p ≤ (nu_l T L k p v).1 ∧ (nu_l T L k p v).1 ≤ L ∧ (nu_l T L k p v).2 + 1 ≤ (v + 1) * 10 ^ ((nu_l T L k p v).1 - p) ∧ (nu_l T L k p v).1 ≤ p + k := by
  intro k
  induction k with
  | zero =>
    intro p v h
    show p ≤ p ∧ p ≤ L ∧ v + 1 ≤ (v + 1) * 10 ^ (p - p) ∧ p ≤ p + 0
    rw [Nat.sub_self]
    omega
  | succ k ih =>
    intro p v h
    have es : nu_l T L (k + 1) p v = if isd (sg T L p) then nu_l T L k (p + 1) (10 * v + dv (sg T L p)) else (p, v) := rfl
    rw [es]
    by_cases z : isd (sg T L p)
    · rw [if_pos z]
      obtain ⟨d, hd, _, e⟩ := isd_d z
      rw [e]
      obtain ⟨a, b, c, f⟩ := ih (p + 1) (10 * v + d) (nu_lt z)
      generalize nu_l T L k (p + 1) (10 * v + d) = g at *
      refine ⟨(by omega), b, ?_, (by omega)⟩
      rw [show g.1 - p = (g.1 - (p + 1)) + 1 by omega, Nat.pow_succ, Nat.mul_comm (10 ^ _) 10, ← Nat.mul_assoc]
      exact Nat.le_trans c (Nat.mul_le_mul_right _ (by omega))
    · rw [if_neg z]
      show p ≤ p ∧ p ≤ L ∧ v + 1 ≤ (v + 1) * 10 ^ (p - p) ∧ p ≤ p + (k + 1)
      rw [Nat.sub_self]
      omega
/-- the number at a place: its value, the place behind, whether it may be; where it can't stand -/
def nu_v (T : Nat → Int32) (L p : Nat) : Nat := (nu_l T L 4 (p + 1) 0).2
def nu_p (T : Nat → Int32) (L p : Nat) : Nat := (nu_l T L 4 (p + 1) 0).1
abbrev nu_ok (T : Nat → Int32) (L p lo h1 : Nat) : Prop := sg T L p = tz_j 32 ∧ nu_p T L p ≠ p + 1 ∧ lo ≤ nu_v T L p ∧ nu_v T L p < h1
def nu_f (T : Nat → Int32) (L p : Nat) : Nat := if sg T L p = tz_j 32 then p + 1 else p
theorem nu_b {T : Nat → Int32} {L p lo h1 : Nat} (h : nu_ok T L p lo h1) : p + 2 ≤ nu_p T L p ∧ nu_p T L p ≤ L ∧ (10 ≤ nu_v T L p → p + 3 ≤ nu_p T L p) := by
  have hp := sg_lt (by omega) h.1
  obtain ⟨a, b, c, _⟩ := nu_g (T := T) (L := L) 4 (p + 1) 0 (by omega)
  have e := h.2.1
  unfold nu_p nu_v at *
  generalize nu_l T L 4 (p + 1) 0 = g at *
  refine ⟨(by omega), b, fun q => ?_⟩
  by_cases z : g.1 = p + 2
  · rw [z, show p + 2 - (p + 1) = 1 by omega] at c
    omega
  · omega
theorem nu_fl {T : Nat → Int32} {L p : Nat} (hp : p ≤ L) : nu_f T L p ≤ L := by
  unfold nu_f
  by_cases z : sg T L p = tz_j 32
  · rw [if_pos z]
    exact sg_lt (by omega) z
  · rw [if_neg z]
    exact hp
theorem r_dg {T : Nat → Int32} {L p : Nat} {S : tz_S} {A : tz_Mem} (hL : L ≤ 160) (hp : p ≤ L) (r : XRd T L p S A) : f_X7_digitStands A = some (some (.int (if isd (sg T L p) then tz_j 1 else tz_j 0)), A) := by
  obtain ⟨a, b, q4, q5, e⟩ := r
  rw [e_X7_digitStands]
  by_cases z : L ≤ p
  · have n1 : (tz_j L ≤ tz_j p) = True := nj_let z (by omega)
    rw [if_neg (fun h => absurd (nu_lt h) (by omega))]
    simp only [tz_lit, nj_m1, nj_m2, nj_m3, nj_m4, nj_m5, nj_m6, nj_m7, ↓reduceIte, tz_bI_some, tz_bV_some, tz_bL_some, cj10, cj01, cjm0, eq_self, not_true_eq_false, not_false_eq_true, or_false, false_or, or_true, true_or, or_self, and_true, true_and, and_false, false_and, q4, q5, n1]
  · have n1 : (tz_j L ≤ tz_j p) = False := nj_lef (by omega) (by omega)
    have n3 := nj_ix8 (s := p) (n := 160) (by omega) (by omega)
    have c1 : (tz_j p).toNatClampNeg = p := nj_cl (by omega)
    have k := e p (by omega)
    rw [sg_i (by omega)]
    by_cases y : T p < tz_j 48
    · rw [if_neg (c := isd (T p)) (fun h => h.1 y)]
      simp only [tz_lit, nj_m1, nj_m2, nj_m3, nj_m4, nj_m5, nj_m6, nj_m7, ↓reduceIte, tz_bI_some, tz_bV_some, tz_bL_some, cj10, cj01, cjm0, eq_self, not_true_eq_false, not_false_eq_true, or_false, false_or, or_true, true_or, or_self, and_true, true_and, and_false, false_and, q4, q5, n1, n3, c1, k, y]
    · by_cases x : tz_j 57 < T p
      · rw [if_neg (c := isd (T p)) (fun h => h.2 x)]
        simp only [tz_lit, nj_m1, nj_m2, nj_m3, nj_m4, nj_m5, nj_m6, nj_m7, ↓reduceIte, tz_bI_some, tz_bV_some, tz_bL_some, cj10, cj01, cjm0, eq_self, not_true_eq_false, not_false_eq_true, or_false, false_or, or_true, true_or, or_self, and_true, true_and, and_false, false_and, q4, q5, n1, n3, c1, k, y, x]
      · rw [if_pos (c := isd (T p)) ⟨y, x⟩]
        simp only [tz_lit, nj_m1, nj_m2, nj_m3, nj_m4, nj_m5, nj_m6, nj_m7, ↓reduceIte, tz_bI_some, tz_bV_some, tz_bL_some, cj10, cj01, cjm0, eq_self, not_true_eq_false, not_false_eq_true, or_false, false_or, or_true, true_or, or_self, and_true, true_and, and_false, false_and, q4, q5, n1, n3, c1, k, y, x]
theorem r_52 {T : Nat → Int32} {L p0 lo h1 : Nat} {hi : Int32} {S : tz_S} (hL : L ≤ 160) (hp0 : p0 ≤ L) (hlo : lo < 10000) (hh : ∀ v, v < 10000 → (tz_j v ≤ hi) = (v < h1)) : ∀ k i p v A, i + k = 4 → p ≤ L → XRd T L p S A → tz_g A 122 6 = tz_j p0 → (v + 1) * 10 ^ k ≤ 10000 → ((nu_l T L k p v).1 ≠ p0 ∧ lo ≤ (nu_l T L k p v).2 ∧ (nu_l T L k p v).2 < h1 → ∃ A', q_X7_readNumber_52 (tz_j lo) hi (tz_j v) (tz_j i) A = some (some (.int (tz_j (nu_l T L k p v).2)), A') ∧ XRd T L (nu_l T L k p v).1 S A' ∧ tz_g A' 122 6 = tz_j p0 ∧ tz_fr r2_p A A') ∧ (¬ ((nu_l T L k p v).1 ≠ p0 ∧ lo ≤ (nu_l T L k p v).2 ∧ (nu_l T L k p v).2 < h1) → ∃ A', q_X7_readNumber_52 (tz_j lo) hi (tz_j v) (tz_j i) A = some (some (.int (tz_j 4294967295)), A') ∧ tz_g A' 122 0 = tz_j p0 ∧ tz_fr r2_p A A') := by
  -- the end: by place and value
  have fin : ∀ (p v : Nat) (A : tz_Mem), p ≤ L → v < 10000 → XRd T L p S A → tz_g A 122 6 = tz_j p0 → (p ≠ p0 ∧ lo ≤ v ∧ v < h1 → (if tz_g A 122 5 = tz_g A 122 6 then some (some (.int (tz_j 4294967295)), tz_s A 122 0 (tz_g A 122 6)) else if tz_j v < tz_j lo then some (some (.int (tz_j 4294967295)), tz_s A 122 0 (tz_g A 122 6)) else if tz_j v ≤ hi then some (some (.int (tz_j v)), A) else some (some (.int (tz_j 4294967295)), tz_s A 122 0 (tz_g A 122 6)) : tz_X) = some (some (.int (tz_j v)), A)) ∧ (¬ (p ≠ p0 ∧ lo ≤ v ∧ v < h1) → (if tz_g A 122 5 = tz_g A 122 6 then some (some (.int (tz_j 4294967295)), tz_s A 122 0 (tz_g A 122 6)) else if tz_j v < tz_j lo then some (some (.int (tz_j 4294967295)), tz_s A 122 0 (tz_g A 122 6)) else if tz_j v ≤ hi then some (some (.int (tz_j v)), A) else some (some (.int (tz_j 4294967295)), tz_s A 122 0 (tz_g A 122 6)) : tz_X) = some (some (.int (tz_j 4294967295)), tz_s A 122 0 (tz_j p0))) := by
    intro p v A hp hv r q6
    have q5 := r.2.2.2.1
    have m1 : (tz_j p = tz_j p0) = (p = p0) := nj_eq (by omega) (by omega)
    have m2 : (tz_j v < tz_j lo) = (v < lo) := nj_lt (by omega) (by omega)
    have m3 := hh v hv
    simp only [q5, q6, m1, m2, m3]
    refine ⟨fun h => ?_, fun h => ?_⟩
    · rw [if_neg h.1, if_neg (by omega), if_pos h.2.2]
    · by_cases a : p = p0
      · rw [if_pos a]
      · rw [if_neg a]
        by_cases b : v < lo
        · rw [if_pos b]
        · rw [if_neg b, if_neg (fun c => h ⟨a, (by omega), c⟩)]
  intro k
  induction k with
  | zero =>
    intro i p v A hi hp r q6 hv
    obtain rfl : i = 4 := by omega
    have n1 : (tz_j 4 ≤ tz_j 4) = True := nj_let (Nat.le_refl _) (by omega)
    have f := fin p v A hp (by omega) r q6
    have e : nu_l T L 0 p v = (p, v) := rfl
    rw [e]
    refine ⟨fun h => ⟨A, ?_, r, q6, fr_rfl⟩, fun h => ⟨tz_s A 122 0 (tz_j p0), ?_, tz_gs1, fr_s fr_rfl ⟨rfl, Or.inl rfl⟩⟩⟩
    · rw [e_X7_readNumber_52]
      simp only [tz_lit, nj_m1, nj_m2, nj_m3, nj_m4, nj_m5, nj_m6, nj_m7, ↓reduceIte, tz_bI_some, tz_bV_some, tz_bL_some, cj10, cj01, cjm0, eq_self, not_true_eq_false, not_false_eq_true, or_false, false_or, or_true, true_or, or_self, and_true, true_and, and_false, false_and, n1]
      exact f.1 h
    · rw [e_X7_readNumber_52]
      simp only [tz_lit, nj_m1, nj_m2, nj_m3, nj_m4, nj_m5, nj_m6, nj_m7, ↓reduceIte, tz_bI_some, tz_bV_some, tz_bL_some, cj10, cj01, cjm0, eq_self, not_true_eq_false, not_false_eq_true, or_false, false_or, or_true, true_or, or_self, and_true, true_and, and_false, false_and, n1]
      exact f.2 h
  | succ k ih =>
    intro i p v A hi hp r q6 hv
    have hv9 : v < 10000 := by
      have : (v + 1) * 1 ≤ (v + 1) * 10 ^ (k + 1) := Nat.mul_le_mul_left _ (Nat.one_le_pow _ _ (by omega))
      omega
    have n1 : (tz_j 4 ≤ tz_j i) = False := nj_lef (by omega) (by omega)
    have a3 : tz_j i + tz_j 1 = tz_j (i + 1) := nj_add
    have ed := r_dg hL hp r
    have es : nu_l T L (k + 1) p v = if isd (sg T L p) then nu_l T L k (p + 1) (10 * v + dv (sg T L p)) else (p, v) := rfl
    rw [es]
    by_cases z : isd (sg T L p)
    · rw [if_pos z] at ed ⊢
      have hlt := nu_lt z
      obtain ⟨d, hd, ex, e⟩ := isd_d z
      rw [e]
      have q5 := r.2.2.2.1
      have k1 := r.2.2.2.2 p hlt
      rw [sg_i hlt] at ex
      rw [ex] at k1
      have n3 := nj_ix8 (s := p) (n := 160) (by omega) (by omega)
      have c1 : (tz_j p).toNatClampNeg = p := nj_cl (by omega)
      have a5 : tz_j p + tz_j 1 = tz_j (p + 1) := nj_add
      have a6 : tz_j v * tz_j 10 + tz_j (48 + d) - tz_j 48 = tz_j (10 * v + d) := by
        rw [nj_mul, nj_add, nj_sub (by omega), show v * 10 + (48 + d) - 48 = 10 * v + d by omega]
      have f1 : tz_fr r2_p A (tz_s A 122 5 (tz_j (p + 1))) := fr_s fr_rfl ⟨rfl, Or.inr (Or.inl rfl)⟩
      have r1 : XRd T L (p + 1) S (tz_s A 122 5 (tz_j (p + 1))) := XRd_mv r f1 ((tz_gsi (by omega)).trans r.2.1) tz_gs1
      have hv2 : (10 * v + d + 1) * 10 ^ k ≤ 10000 := by
        refine Nat.le_trans (Nat.mul_le_mul_right _ (show 10 * v + d + 1 ≤ (v + 1) * 10 by omega)) ?_
        rw [Nat.mul_assoc, Nat.mul_comm 10, ← Nat.pow_succ]
        exact hv
      obtain ⟨i1, i2⟩ := ih (i + 1) (p + 1) (10 * v + d) (tz_s A 122 5 (tz_j (p + 1))) (by omega) hlt r1 ((tz_gsi (by omega)).trans q6) hv2
      refine ⟨fun h => ?_, fun h => ?_⟩
      · obtain ⟨A', e1, r', q', f'⟩ := i1 h
        refine ⟨A', ?_, r', q', fr_tr f1 f'⟩
        rw [e_X7_readNumber_52]
        simp only [tz_lit, nj_m1, nj_m2, nj_m3, nj_m4, nj_m5, nj_m6, nj_m7, ↓reduceIte, tz_bI_some, tz_bV_some, tz_bL_some, cj10, cj01, cjm0, eq_self, not_true_eq_false, not_false_eq_true, or_false, false_or, or_true, true_or, or_self, and_true, true_and, and_false, false_and, n1, ed, q5, n3, c1, k1, a6, a3, a5]
        exact e1
      · obtain ⟨A', e1, q', f'⟩ := i2 h
        refine ⟨A', ?_, q', fr_tr f1 f'⟩
        rw [e_X7_readNumber_52]
        simp only [tz_lit, nj_m1, nj_m2, nj_m3, nj_m4, nj_m5, nj_m6, nj_m7, ↓reduceIte, tz_bI_some, tz_bV_some, tz_bL_some, cj10, cj01, cjm0, eq_self, not_true_eq_false, not_false_eq_true, or_false, false_or, or_true, true_or, or_self, and_true, true_and, and_false, false_and, n1, ed, q5, n3, c1, k1, a6, a3, a5]
        exact e1
    · rw [if_neg z] at ed ⊢
      have f := fin p v A hp hv9 r q6
      refine ⟨fun h => ⟨A, ?_, r, q6, fr_rfl⟩, fun h => ⟨tz_s A 122 0 (tz_j p0), ?_, tz_gs1, fr_s fr_rfl ⟨rfl, Or.inl rfl⟩⟩⟩
      · rw [e_X7_readNumber_52]
        simp only [tz_lit, nj_m1, nj_m2, nj_m3, nj_m4, nj_m5, nj_m6, nj_m7, ↓reduceIte, tz_bI_some, tz_bV_some, tz_bL_some, cj10, cj01, cjm0, eq_self, not_true_eq_false, not_false_eq_true, or_false, false_or, or_true, true_or, or_self, and_true, true_and, and_false, false_and, n1, ed]
        exact f.1 h
      · rw [e_X7_readNumber_52]
        simp only [tz_lit, nj_m1, nj_m2, nj_m3, nj_m4, nj_m5, nj_m6, nj_m7, ↓reduceIte, tz_bI_some, tz_bV_some, tz_bL_some, cj10, cj01, cjm0, eq_self, not_true_eq_false, not_false_eq_true, or_false, false_or, or_true, true_or, or_self, and_true, true_and, and_false, false_and, n1, ed]
        exact f.2 h
theorem r_no {T : Nat → Int32} {L p lo h1 : Nat} {hi : Int32} {S : tz_S} {A : tz_Mem} (hL : L ≤ 160) (hp : p ≤ L) (hlo : lo < 10000) (hh : ∀ v, v < 10000 → (tz_j v ≤ hi) = (v < h1)) (r : XRd T L p S A) : (nu_ok T L p lo h1 → ∃ A', f_X7_readNumber (tz_j lo) hi A = some (some (.int (tz_j (nu_v T L p))), A') ∧ XRd T L (nu_p T L p) S A' ∧ tz_g A' 122 6 = tz_j (p + 1) ∧ tz_fr r2_p A A') ∧ (¬ nu_ok T L p lo h1 → ∃ A', f_X7_readNumber (tz_j lo) hi A = some (some (.int (tz_j 4294967295)), A') ∧ tz_g A' 122 0 = tz_j (nu_f T L p) ∧ tz_fr r2_p A A') := by
  have es := r_st (c := 32) hL hp (by omega) r
  have q0 := r.2.1
  have q5 := r.2.2.2.1
  have a3 : tz_j p + tz_j 1 = tz_j (p + 1) := nj_add
  by_cases z : sg T L p = tz_j 32
  · have hlt := sg_lt (by omega) z
    rw [if_pos z] at es
    have f1 : tz_fr r2_p A (tz_s (tz_s A 122 5 (tz_j (p + 1))) 122 6 (tz_j (p + 1))) := fr_s (fr_s fr_rfl ⟨rfl, Or.inr (Or.inl rfl)⟩) ⟨rfl, Or.inr (Or.inr rfl)⟩
    have r1 : XRd T L (p + 1) S (tz_s (tz_s A 122 5 (tz_j (p + 1))) 122 6 (tz_j (p + 1))) := XRd_mv r f1 ((tz_gsi (by omega)).trans ((tz_gsi (by omega)).trans q0)) ((tz_gsi (by omega)).trans tz_gs1)
    obtain ⟨i1, i2⟩ := r_52 (lo := lo) hL (show p + 1 ≤ L by omega) hlo hh 4 0 (p + 1) 0 _ rfl hlt r1 tz_gs1 (by omega)
    refine ⟨fun h => ?_, fun h => ?_⟩
    · obtain ⟨A', e1, r', q', f'⟩ := i1 h.2
      refine ⟨A', ?_, r', q', fr_tr f1 f'⟩
      rw [e_X7_readNumber]
      simp only [tz_lit, nj_m1, nj_m2, nj_m3, nj_m4, nj_m5, nj_m6, nj_m7, ↓reduceIte, tz_bI_some, tz_bV_some, tz_bL_some, cj10, cj01, cjm0, eq_self, not_true_eq_false, not_false_eq_true, or_false, false_or, or_true, true_or, or_self, and_true, true_and, and_false, false_and, q0, es, q5, a3, tz_gs1]
      exact e1
    · obtain ⟨A', e1, q', f'⟩ := i2 (fun y => h ⟨z, y⟩)
      refine ⟨A', ?_, ?_, fr_tr f1 f'⟩
      · rw [e_X7_readNumber]
        simp only [tz_lit, nj_m1, nj_m2, nj_m3, nj_m4, nj_m5, nj_m6, nj_m7, ↓reduceIte, tz_bI_some, tz_bV_some, tz_bL_some, cj10, cj01, cjm0, eq_self, not_true_eq_false, not_false_eq_true, or_false, false_or, or_true, true_or, or_self, and_true, true_and, and_false, false_and, q0, es, q5, a3, tz_gs1]
        exact e1
      · rw [q']
        unfold nu_f
        rw [if_pos z]
  · rw [if_neg z] at es
    refine ⟨fun h => absurd h.1 z, fun _ => ⟨tz_s A 122 0 (tz_j p), ?_, ?_, fr_s fr_rfl ⟨rfl, Or.inl rfl⟩⟩⟩
    · rw [e_X7_readNumber]
      simp only [tz_lit, nj_m1, nj_m2, nj_m3, nj_m4, nj_m5, nj_m6, nj_m7, ↓reduceIte, tz_bI_some, tz_bV_some, tz_bL_some, cj10, cj01, cjm0, eq_self, not_true_eq_false, not_false_eq_true, or_false, false_or, or_true, true_or, or_self, and_true, true_and, and_false, false_and, q0, es, q5]
    · rw [tz_gs1]
      unfold nu_f
      rw [if_neg z]
theorem r_noF {f : Nat} {lo hi : Int32} {A : tz_Mem} (hf : f ≤ 200) (h : tz_g A 122 0 = tz_j f) : f_X7_readNumber lo hi A = some (some (.int (tz_j 4294967295)), A) := by
  have n1 : (tz_j f = tz_j 4294967295) = False := nj_eqf (by omega) (by omega) (by omega)
  rw [e_X7_readNumber]
  simp only [tz_lit, nj_m1, nj_m2, nj_m3, nj_m4, nj_m5, nj_m6, nj_m7, ↓reduceIte, tz_bI_some, tz_bV_some, tz_bL_some, cj10, cj01, cjm0, eq_self, not_true_eq_false, not_false_eq_true, or_false, false_or, or_true, true_or, or_self, and_true, true_and, and_false, false_and, h, n1]
theorem hi_k {n : Nat} (hn : n < 10000) : ∀ v, v < 10000 → (tz_j v ≤ tz_j n) = (v < n + 1) := fun v hv => by
  rw [nj_le (by omega) (by omega)]
  exact propext (by omega)
theorem hi_c {n : Nat} (hn : n < 100) : ∀ v, v < 10000 → (tz_j v ≤ tz_j n - tz_j 1) = (v < n) := fun v hv => by
  by_cases z : n = 0
  · subst z
    have e : tz_j 0 - tz_j 1 = tz_j 4294967295 := by decide
    rw [e, ng_gef (by omega) (by omega) (by omega)]
    exact (eq_false (by omega)).symm
  · rw [nj_sub (by omega), nj_le (by omega) (by omega)]
    exact propext (by omega)
/-- the model's -/
theorem t_20 {D : Nat → Int32} {T : Nat → Int32} {L s p0 lo h1 x : Nat} {hi : Int32} {S : tz_S} (hL : L ≤ 160) (hs : s < 8) (hx : x < 10) (hp0 : p0 ≤ L) (hlo : lo < 10000) (hh : ∀ v, v < 10000 → (tz_j v ≤ hi) = (v < h1)) : ∀ k i p v A, i + k = 4 → p = p0 + i → p ≤ L → MRd D T L s p S A → (v + 1) * 10 ^ k ≤ 10000 → ((nu_l T L k p v).1 ≠ p0 ∧ lo ≤ (nu_l T L k p v).2 ∧ (nu_l T L k p v).2 < h1 → ∃ A', q_X12_number_20 (tz_j x) (tz_j lo) hi (tz_j p0) (tz_j v) A = some (some (.int (tz_j 1)), A') ∧ MRd D T L s (nu_l T L k p v).1 S A' ∧ tz_g A' 183 x = tz_j (nu_l T L k p v).2 ∧ tz_fr (fun k i => (k = 157 ∧ i = 40) ∨ (k = 183 ∧ i = x)) A A') ∧ (¬ ((nu_l T L k p v).1 ≠ p0 ∧ lo ≤ (nu_l T L k p v).2 ∧ (nu_l T L k p v).2 < h1) → ∃ A', q_X12_number_20 (tz_j x) (tz_j lo) hi (tz_j p0) (tz_j v) A = some (some (.int (tz_j 0)), A') ∧ tz_g A' 157 40 = tz_j p0 ∧ tz_fr t2_p A A') := by
  have nx := nj_ix8 (s := x) (n := 10) hx (by omega)
  have cx : (tz_j x).toNatClampNeg = x := nj_cl (by omega)
  -- the end
  have fin : ∀ (p v : Nat) (A : tz_Mem), p ≤ L → v < 10000 → MRd D T L s p S A → ((p ≠ p0 ∧ lo ≤ v ∧ v < h1 → (if ¬ tz_g A 157 40 = tz_j p0 then tz_bI (f_X12_within (tz_j v) (tz_j lo) hi (tz_s A 183 x (tz_j v))) (fun y1 A1 => if ¬ y1 = tz_j 0 then (if y1 = tz_j 0 ∨ y1 = tz_j 1 then some (some (.int y1), A1) else none) else (if y1 = tz_j 0 ∨ y1 = tz_j 1 then some (some (.int y1), tz_s A1 157 40 (tz_j p0)) else none)) else some (some (.int (tz_j 0)), A) : tz_X) = some (some (.int (tz_j 1)), tz_s A 183 x (tz_j v))) ∧ (¬ (p ≠ p0 ∧ lo ≤ v ∧ v < h1) → ∃ A', (if ¬ tz_g A 157 40 = tz_j p0 then tz_bI (f_X12_within (tz_j v) (tz_j lo) hi (tz_s A 183 x (tz_j v))) (fun y1 A1 => if ¬ y1 = tz_j 0 then (if y1 = tz_j 0 ∨ y1 = tz_j 1 then some (some (.int y1), A1) else none) else (if y1 = tz_j 0 ∨ y1 = tz_j 1 then some (some (.int y1), tz_s A1 157 40 (tz_j p0)) else none)) else some (some (.int (tz_j 0)), A) : tz_X) = some (some (.int (tz_j 0)), A') ∧ tz_g A' 157 40 = tz_j p0 ∧ tz_fr t2_p A A')) := by
    intro p v A hp hv r
    have q40 := r.2.2.1
    have hiv : (hi < tz_j v) = ¬ (v < h1) := by
      rw [← hh v hv, i32_le, Classical.not_not]
    have n2 := nj_lt (a := v) (b := lo) (by omega) (by omega)
    refine ⟨fun h => ?_, fun h => ?_⟩
    · have n1 : (tz_j p = tz_j p0) = False := nj_eqf h.1 (by omega) (by omega)
      have ew : f_X12_within (tz_j v) (tz_j lo) hi (tz_s A 183 x (tz_j v)) = some (some (.int (tz_j 1)), tz_s A 183 x (tz_j v)) := by
        have n3 : (tz_j lo ≤ tz_j v) = True := nj_let h.2.1 (by omega)
        have n4 : (tz_j v < tz_j lo) = False := nj_ltf h.2.1 (by omega)
        have n5 : (hi < tz_j v) = False := by rw [hiv]; exact eq_false (fun q => q h.2.2)
        have n6 : (tz_j v ≤ hi) = True := by rw [hh v hv]; exact eq_true h.2.2
        rw [e_X12_within]
        simp only [tz_lit, nj_m1, nj_m2, nj_m3, nj_m4, nj_m5, nj_m6, nj_m7, ↓reduceIte, tz_bI_some, tz_bV_some, tz_bL_some, cj10, cj01, cjm0, eq_self, not_true_eq_false, not_false_eq_true, or_false, false_or, or_true, true_or, or_self, and_true, true_and, and_false, false_and, n3, n4, n5, n6]
      simp only [tz_lit, nj_m1, nj_m2, nj_m3, nj_m4, nj_m5, nj_m6, nj_m7, ↓reduceIte, tz_bI_some, tz_bV_some, tz_bL_some, cj10, cj01, cjm0, eq_self, not_true_eq_false, not_false_eq_true, or_false, false_or, or_true, true_or, or_self, and_true, true_and, and_false, false_and, q40, n1, ew]
    · by_cases a : p = p0
      · have n1 : (tz_j p = tz_j p0) = True := nj_eqt a
        refine ⟨A, ?_, by rw [q40, a], fr_rfl⟩
        simp only [tz_lit, nj_m1, nj_m2, nj_m3, nj_m4, nj_m5, nj_m6, nj_m7, ↓reduceIte, tz_bI_some, tz_bV_some, tz_bL_some, cj10, cj01, cjm0, eq_self, not_true_eq_false, not_false_eq_true, or_false, false_or, or_true, true_or, or_self, and_true, true_and, and_false, false_and, q40, n1]
      · have n1 : (tz_j p = tz_j p0) = False := nj_eqf a (by omega) (by omega)
        have ew : f_X12_within (tz_j v) (tz_j lo) hi (tz_s A 183 x (tz_j v)) = some (some (.int (tz_j 0)), tz_s A 183 x (tz_j v)) := by
          rw [e_X12_within]
          by_cases b : v < lo
          · have n3 : (tz_j lo ≤ tz_j v) = False := nj_lef b (by omega)
            have n4 : (tz_j v < tz_j lo) = True := nj_ltt b (by omega)
            simp only [tz_lit, nj_m1, nj_m2, nj_m3, nj_m4, nj_m5, nj_m6, nj_m7, ↓reduceIte, tz_bI_some, tz_bV_some, tz_bL_some, cj10, cj01, cjm0, eq_self, not_true_eq_false, not_false_eq_true, or_false, false_or, or_true, true_or, or_self, and_true, true_and, and_false, false_and, n3, n4]
          · have n3 : (tz_j lo ≤ tz_j v) = True := nj_let (by omega) (by omega)
            have n4 : (tz_j v < tz_j lo) = False := nj_ltf (by omega) (by omega)
            have hn : ¬ v < h1 := fun c => h ⟨a, (by omega), c⟩
            have n5 : (hi < tz_j v) = True := by rw [hiv]; exact eq_true hn
            have n6 : (tz_j v ≤ hi) = False := by rw [hh v hv]; exact eq_false hn
            simp only [tz_lit, nj_m1, nj_m2, nj_m3, nj_m4, nj_m5, nj_m6, nj_m7, ↓reduceIte, tz_bI_some, tz_bV_some, tz_bL_some, cj10, cj01, cjm0, eq_self, not_true_eq_false, not_false_eq_true, or_false, false_or, or_true, true_or, or_self, and_true, true_and, and_false, false_and, n3, n4, n5, n6]
        refine ⟨tz_s (tz_s A 183 x (tz_j v)) 157 40 (tz_j p0), ?_, tz_gs1, fr_s (fr_s fr_rfl (Or.inr rfl)) (Or.inl ⟨rfl, rfl⟩)⟩
        simp only [tz_lit, nj_m1, nj_m2, nj_m3, nj_m4, nj_m5, nj_m6, nj_m7, ↓reduceIte, tz_bI_some, tz_bV_some, tz_bL_some, cj10, cj01, cjm0, eq_self, not_true_eq_false, not_false_eq_true, or_false, false_or, or_true, true_or, or_self, and_true, true_and, and_false, false_and, q40, n1, ew]
  have good : ∀ (p v : Nat) (A : tz_Mem), MRd D T L s p S A → MRd D T L s p S (tz_s A 183 x (tz_j v)) ∧ tz_g (tz_s A 183 x (tz_j v)) 183 x = tz_j v ∧ tz_fr (fun k i => (k = 157 ∧ i = 40) ∨ (k = 183 ∧ i = x)) A (tz_s A 183 x (tz_j v)) := fun p v A r => ⟨MRd_mv r (fr_s fr_rfl (Or.inr rfl)) ((tz_gsk (by omega)).trans r.2.2.1), tz_gs1, fr_s fr_rfl (Or.inr ⟨rfl, rfl⟩)⟩
  intro k
  induction k with
  | zero =>
    intro i p v A hik hpi hp r hv
    have n1 : (tz_j 4 ≤ tz_g A 157 40 - tz_j p0) = True := by
      rw [r.2.2.1, nj_sub (by omega)]
      exact nj_let (by omega) (by omega)
    have f := fin p v A hp (by omega) r
    have e : nu_l T L 0 p v = (p, v) := rfl
    rw [e]
    refine ⟨fun h => ⟨_, ?_, good p v A r⟩, fun h => ?_⟩
    · rw [e_X12_number_20]
      simp only [tz_lit, nj_m1, nj_m2, nj_m3, nj_m4, nj_m5, nj_m6, nj_m7, ↓reduceIte, tz_bI_some, tz_bV_some, tz_bL_some, cj10, cj01, cjm0, eq_self, not_true_eq_false, not_false_eq_true, or_false, false_or, or_true, true_or, or_self, and_true, true_and, and_false, false_and, n1, nx, cx]
      exact f.1 h
    · obtain ⟨A', e1, q', f'⟩ := f.2 h
      refine ⟨A', ?_, q', f'⟩
      rw [e_X12_number_20]
      simp only [tz_lit, nj_m1, nj_m2, nj_m3, nj_m4, nj_m5, nj_m6, nj_m7, ↓reduceIte, tz_bI_some, tz_bV_some, tz_bL_some, cj10, cj01, cjm0, eq_self, not_true_eq_false, not_false_eq_true, or_false, false_or, or_true, true_or, or_self, and_true, true_and, and_false, false_and, n1, nx, cx]
      exact e1
  | succ k ih =>
    intro i p v A hik hpi hp r hv
    have hv9 : v < 10000 := by
      have : (v + 1) * 1 ≤ (v + 1) * 10 ^ (k + 1) := Nat.mul_le_mul_left _ (Nat.one_le_pow _ _ (by omega))
      omega
    have n1 : (tz_j 4 ≤ tz_g A 157 40 - tz_j p0) = False := by
      rw [r.2.2.1, nj_sub (by omega)]
      exact nj_lef (by omega) (by omega)
    have ed := t_sg hL hs hp r
    have es : nu_l T L (k + 1) p v = if isd (sg T L p) then nu_l T L k (p + 1) (10 * v + dv (sg T L p)) else (p, v) := rfl
    rw [es]
    by_cases z : isd (sg T L p)
    · rw [if_pos z]
      have hlt := nu_lt z
      obtain ⟨d, hd, ex, e⟩ := isd_d z
      rw [e]
      have n2 : (tz_j (48 + d) < tz_j 48) = False := nj_ltf (by omega) (by omega)
      have n3 : (tz_j 57 < tz_j (48 + d)) = False := nj_ltf (by omega) (by omega)
      rw [ex] at ed
      have q40 := r.2.2.1
      rw [q40] at n1
      have a5 : tz_j p + tz_j 1 = tz_j (p + 1) := nj_add
      have a6 : tz_j 10 * tz_j v + tz_j (48 + d) - tz_j 48 = tz_j (10 * v + d) := by
        rw [nj_mul, nj_add, nj_sub (by omega), show 10 * v + (48 + d) - 48 = 10 * v + d by omega]
      have f1 : tz_fr t2_p A (tz_s A 157 40 (tz_j (p + 1))) := fr_s fr_rfl (Or.inl ⟨rfl, rfl⟩)
      have r1 : MRd D T L s (p + 1) S (tz_s A 157 40 (tz_j (p + 1))) := MRd_mv r f1 tz_gs1
      have hv2 : (10 * v + d + 1) * 10 ^ k ≤ 10000 := by
        refine Nat.le_trans (Nat.mul_le_mul_right _ (show 10 * v + d + 1 ≤ (v + 1) * 10 by omega)) ?_
        rw [Nat.mul_assoc, Nat.mul_comm 10, ← Nat.pow_succ]
        exact hv
      obtain ⟨i1, i2⟩ := ih (i + 1) (p + 1) (10 * v + d) (tz_s A 157 40 (tz_j (p + 1))) (by omega) (by omega) hlt r1 hv2
      refine ⟨fun h => ?_, fun h => ?_⟩
      · obtain ⟨A', e1, r', q', f'⟩ := i1 h
        refine ⟨A', ?_, r', q', fr_tr (fr_s fr_rfl (Or.inl ⟨rfl, rfl⟩)) f'⟩
        rw [e_X12_number_20]
        simp only [tz_lit, nj_m1, nj_m2, nj_m3, nj_m4, nj_m5, nj_m6, nj_m7, ↓reduceIte, tz_bI_some, tz_bV_some, tz_bL_some, cj10, cj01, cjm0, eq_self, not_true_eq_false, not_false_eq_true, or_false, false_or, or_true, true_or, or_self, and_true, true_and, and_false, false_and, n1, ed, n2, n3, a6, q40, a5]
        exact e1
      · obtain ⟨A', e1, q', f'⟩ := i2 h
        refine ⟨A', ?_, q', fr_tr f1 f'⟩
        rw [e_X12_number_20]
        simp only [tz_lit, nj_m1, nj_m2, nj_m3, nj_m4, nj_m5, nj_m6, nj_m7, ↓reduceIte, tz_bI_some, tz_bV_some, tz_bL_some, cj10, cj01, cjm0, eq_self, not_true_eq_false, not_false_eq_true, or_false, false_or, or_true, true_or, or_self, and_true, true_and, and_false, false_and, n1, ed, n2, n3, a6, q40, a5]
        exact e1
    · rw [if_neg z]
      have f := fin p v A hp hv9 r
      have ex : q_X12_number_20 (tz_j x) (tz_j lo) hi (tz_j p0) (tz_j v) A = (if ¬ tz_g A 157 40 = tz_j p0 then tz_bI (f_X12_within (tz_j v) (tz_j lo) hi (tz_s A 183 x (tz_j v))) (fun y1 A1 => if ¬ y1 = tz_j 0 then (if y1 = tz_j 0 ∨ y1 = tz_j 1 then some (some (.int y1), A1) else none) else (if y1 = tz_j 0 ∨ y1 = tz_j 1 then some (some (.int y1), tz_s A1 157 40 (tz_j p0)) else none)) else some (some (.int (tz_j 0)), A) : tz_X) := by
        rw [e_X12_number_20]
        by_cases y : sg T L p < tz_j 48
        · simp only [tz_lit, nj_m1, nj_m2, nj_m3, nj_m4, nj_m5, nj_m6, nj_m7, ↓reduceIte, tz_bI_some, tz_bV_some, tz_bL_some, cj10, cj01, cjm0, eq_self, not_true_eq_false, not_false_eq_true, or_false, false_or, or_true, true_or, or_self, and_true, true_and, and_false, false_and, n1, ed, y, nx, cx]
          rfl
        · have y2 : tz_j 57 < sg T L p := by
            exact Classical.byContradiction (fun c => z ⟨y, c⟩)
          simp only [tz_lit, nj_m1, nj_m2, nj_m3, nj_m4, nj_m5, nj_m6, nj_m7, ↓reduceIte, tz_bI_some, tz_bV_some, tz_bL_some, cj10, cj01, cjm0, eq_self, not_true_eq_false, not_false_eq_true, or_false, false_or, or_true, true_or, or_self, and_true, true_and, and_false, false_and, n1, ed, y, y2, nx, cx]
          rfl
      refine ⟨fun h => ⟨_, ?_, good p v A r⟩, fun h => ?_⟩
      · rw [ex]
        exact f.1 h
      · obtain ⟨A', e1, q', f'⟩ := f.2 h
        exact ⟨A', ex.trans e1, q', f'⟩
theorem t_no {D : Nat → Int32} {T : Nat → Int32} {L s p lo h1 x : Nat} {hi : Int32} {S : tz_S} {A : tz_Mem} (hL : L ≤ 160) (hs : s < 8) (hx : x < 10) (hp : p ≤ L) (hlo : lo < 10000) (hh : ∀ v, v < 10000 → (tz_j v ≤ hi) = (v < h1)) (r : MRd D T L s p S A) : (nu_ok T L p lo h1 → ∃ A', f_X12_number (tz_j x) (tz_j lo) hi A = some (some (.int (tz_j 1)), A') ∧ MRd D T L s (nu_p T L p) S A' ∧ tz_g A' 183 x = tz_j (nu_v T L p) ∧ tz_fr (fun k i => (k = 157 ∧ i = 40) ∨ (k = 183 ∧ i = x)) A A') ∧ (¬ nu_ok T L p lo h1 → ∃ A', f_X12_number (tz_j x) (tz_j lo) hi A = some (some (.int (tz_j 0)), A') ∧ tz_g A' 157 40 = tz_j (nu_f T L p) ∧ tz_fr t2_p A A') := by
  obtain ⟨i1, i2⟩ := t_is (c := 32) hL hs hp r
  by_cases z : sg T L p = tz_j 32
  · obtain ⟨e1, r1⟩ := i1 z
    have hlt := sg_lt (by omega) z
    obtain ⟨j1, j2⟩ := t_20 (x := x) (lo := lo) hL hs hx (show p + 1 ≤ L by omega) hlo hh 4 0 (p + 1) 0 _ rfl rfl hlt r1 (by omega)
    have f1 : tz_fr (fun k i => (k = 157 ∧ i = 40) ∨ (k = 183 ∧ i = x)) A (tz_s A 157 40 (tz_j (p + 1))) := fr_s fr_rfl (Or.inl ⟨rfl, rfl⟩)
    refine ⟨fun h => ?_, fun h => ?_⟩
    · obtain ⟨A', e, r', q', f'⟩ := j1 h.2
      refine ⟨A', ?_, r', q', fr_tr f1 f'⟩
      rw [e_X12_number]
      simp only [tz_lit, nj_m1, nj_m2, nj_m3, nj_m4, nj_m5, nj_m6, nj_m7, ↓reduceIte, tz_bI_some, tz_bV_some, tz_bL_some, cj10, cj01, cjm0, eq_self, not_true_eq_false, not_false_eq_true, or_false, false_or, or_true, true_or, or_self, and_true, true_and, and_false, false_and, e1, tz_gs1]
      exact e
    · obtain ⟨A', e, q', f'⟩ := j2 (fun y => h ⟨z, y⟩)
      refine ⟨A', ?_, ?_, fr_tr (fr_s fr_rfl (Or.inl ⟨rfl, rfl⟩)) f'⟩
      · rw [e_X12_number]
        simp only [tz_lit, nj_m1, nj_m2, nj_m3, nj_m4, nj_m5, nj_m6, nj_m7, ↓reduceIte, tz_bI_some, tz_bV_some, tz_bL_some, cj10, cj01, cjm0, eq_self, not_true_eq_false, not_false_eq_true, or_false, false_or, or_true, true_or, or_self, and_true, true_and, and_false, false_and, e1, tz_gs1]
        exact e
      · rw [q']
        unfold nu_f
        rw [if_pos z]
  · have e1 := i2 z
    refine ⟨fun h => absurd h.1 z, fun _ => ⟨A, ?_, ?_, fr_rfl⟩⟩
    · rw [e_X12_number]
      simp only [tz_lit, nj_m1, nj_m2, nj_m3, nj_m4, nj_m5, nj_m6, nj_m7, ↓reduceIte, tz_bI_some, tz_bV_some, tz_bL_some, cj10, cj01, cjm0, eq_self, not_true_eq_false, not_false_eq_true, or_false, false_or, or_true, true_or, or_self, and_true, true_and, and_false, false_and, e1]
    · rw [r.2.2.1]
      unfold nu_f
      rw [if_neg z]
theorem tx_t2 {x k i : Nat} (h : (k = 157 ∧ i = 40) ∨ (k = 183 ∧ i = x)) : t2_p k i := by
  unfold t2_p
  omega
