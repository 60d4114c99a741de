/-! loudest, drought, first heard -/
theorem tz_grr {A : tz_Mem} {k i v : Nat} : tz_gr (tz_sr A k i v) k i = v := if_pos ⟨rfl, rfl⟩
noncomputable def bcv (x : Int32) : Int32 := Classical.choose (bc_ex x)
theorem bcv_s (x : Int32) (A : tz_Mem) : f_J6_bitCount x A = some (some (.int (bcv x)), A) := Classical.choose_spec (bc_ex x) A
theorem i32_le (y z : Int32) : (y ≤ z) = ¬ (z < y) := propext (by
  rw [Int32.le_iff_toInt_le, Int32.lt_iff_toInt_lt]
  omega)
def sp_ld (f : Nat → Int32) : Nat → Nat → Int32 → Int32 → Int32
  | 0, _, best, _ => best
  | k + 1, h, best, most => if most < f h then sp_ld f k (h + 1) (tz_j h) (f h) else sp_ld f k (h + 1) best most
theorem x_ldL {S : tz_S} {A : tz_Mem} {u : Nat} (hu : u < 2) (h8 : S 1 0 ≤ 8) (q31 : tz_g A 31 0 = tz_j (S 1 0)) {f : Nat → Int32} (hf : ∀ h, h < 8 → f h = if u = 0 then tz_g A 81 h - tz_g A 35 h else bcv (tz_g A 80 h)) : ∀ k h best most, h + k = S 1 0 → q_X11_loudest_72 (tz_j u) best most (tz_j h) A = some (some (.int (sp_ld f k h best most)), A) := by
  intro k
  induction k with
  | zero =>
    intro h best most hh
    have n1 : (tz_j (S 1 0) ≤ tz_j h) = True := nj_let (by omega) (by omega)
    rw [e_X11_loudest_72]
    simp only [tz_lit, nj_m1, nj_m2, nj_m3, nj_m4, nj_m5, nj_m6, nj_m7, ↓reduceIte, tz_bI_some, tz_bV_some, tz_bL_some, cj10, cj01, cjm0, eq_self, not_true_eq_false, not_false_eq_true, or_false, false_or, or_true, true_or, or_self, and_true, true_and, and_false, false_and, q31, n1]
    rfl
  | succ k ih =>
    intro h best most hh
    have n1 : (tz_j (S 1 0) ≤ tz_j h) = False := nj_lef (by omega) (by omega)
    have hcl : (tz_j h).toNatClampNeg = h := nj_cl (by omega)
    have n3 : (tz_j h < tz_j 0 ∨ 8 ≤ h) = False := by
      have := nj_ix (l := h) (n := 8) (by omega) (by omega)
      rw [nj_cl (by omega)] at this
      exact this
    have hfh := hf h (by omega)
    rw [e_X11_loudest_72]
    show _ = some (some (Value.int (if most < f h then sp_ld f k (h + 1) (tz_j h) (f h) else sp_ld f k (h + 1) best most)), A)
    rcases (show u = 0 ∨ u = 1 by omega) with rfl | rfl
    · rw [if_pos rfl] at hfh
      have n4 := i32_le (tz_g A 81 h - tz_g A 35 h) most
      rw [← hfh] at n4
      by_cases z : most < f h
      · rw [if_pos (c := most < f h) z]
        simp only [tz_lit, nj_m1, nj_m2, nj_m3, nj_m4, nj_m5, nj_m6, nj_m7, ↓reduceIte, tz_bI_some, tz_bV_some, tz_bL_some, cj10, cj01, cjm0, eq_self, not_true_eq_false, not_false_eq_true, or_false, false_or, or_true, true_or, or_self, and_true, true_and, and_false, false_and, q31, n1, hcl, n3, ← hfh, n4, z, nj_add]
        exact ih (h + 1) _ _ (by omega)
      · rw [if_neg (c := most < f h) z]
        simp only [tz_lit, nj_m1, nj_m2, nj_m3, nj_m4, nj_m5, nj_m6, nj_m7, ↓reduceIte, tz_bI_some, tz_bV_some, tz_bL_some, cj10, cj01, cjm0, eq_self, not_true_eq_false, not_false_eq_true, or_false, false_or, or_true, true_or, or_self, and_true, true_and, and_false, false_and, q31, n1, hcl, n3, ← hfh, n4, z, nj_add]
        exact ih (h + 1) _ _ (by omega)
    · rw [if_neg (by omega)] at hfh
      have eb := bcv_s (tz_g A 80 h) A
      rw [← hfh] at eb
      have n4 := i32_le (f h) most
      by_cases z : most < f h
      · rw [if_pos (c := most < f h) z]
        simp only [tz_lit, nj_m1, nj_m2, nj_m3, nj_m4, nj_m5, nj_m6, nj_m7, ↓reduceIte, tz_bI_some, tz_bV_some, tz_bL_some, cj10, cj01, cjm0, eq_self, not_true_eq_false, not_false_eq_true, or_false, false_or, or_true, true_or, or_self, and_true, true_and, and_false, false_and, q31, n1, hcl, n3, eb, n4, z, nj_add]
        exact ih (h + 1) _ _ (by omega)
      · rw [if_neg (c := most < f h) z]
        simp only [tz_lit, nj_m1, nj_m2, nj_m3, nj_m4, nj_m5, nj_m6, nj_m7, ↓reduceIte, tz_bI_some, tz_bV_some, tz_bL_some, cj10, cj01, cjm0, eq_self, not_true_eq_false, not_false_eq_true, or_false, false_or, or_true, true_or, or_self, and_true, true_and, and_false, false_and, q31, n1, hcl, n3, eb, n4, z, nj_add]
        exact ih (h + 1) _ _ (by omega)
/-- hours till a word is heard -/
def sp_fh : Nat → tz_S → tz_S
  | 0, S => S
  | k + 1, S => if S 201 0 = 4294967295 then sp_fh k (sp_tk S) else S
def sp_fs (x : Nat) (S : tz_S) : tz_S := tz_t (tz_t (tz_t S 200 0 1) 201 0 4294967295) 201 1 x
theorem fs_get {x : Nat} {S : tz_S} {k i : Nat} (h : k < 200) : sp_fs x S k i = S k i := by
  show tz_t (tz_t (tz_t S 200 0 1) 201 0 4294967295) 201 1 x k i = _
  rw [tz_tk (by omega), tz_tk (by omega), tz_tk (by omega)]
theorem H_ear {N : Nat} {S S' : tz_S} (H : sp_H N S) (e : ∀ k i, k < 200 → S' k i = S k i) (WE : sp_WE S') : sp_H N S' := by
  obtain ⟨W, W2, _, h3, hT⟩ := H
  refine ⟨?_, ?_, WE, by rw [e 0 3 (by omega)]; exact h3, by rw [e 0 3 (by omega), e 0 0 (by omega)]; exact hT⟩
  · unfold sp_W1 sp_lt at W ⊢
    simp only [e 1 _ (by omega), e 2 _ (by omega), e 3 _ (by omega), e 7 _ (by omega), e 8 _ (by omega), e 9 _ (by omega), e 10 _ (by omega), e 11 _ (by omega), e 12 _ (by omega), e 15 _ (by omega), e 17 _ (by omega), e 18 _ (by omega), e 19 _ (by omega), e 22 _ (by omega)]
    exact W
  · unfold sp_W2 sp_wh at W2 ⊢
    rw [sum_mv (S := S) (S' := S') (S' 1 0) (fun h _ => e 5 h (by omega))]
    simp only [e 0 _ (by omega), e 1 _ (by omega), e 5 _ (by omega), e 7 _ (by omega), e 11 _ (by omega), e 13 _ (by omega), e 15 _ (by omega), e 16 _ (by omega), e 20 _ (by omega), e 21 _ (by omega)]
    exact W2
theorem fs_H {N x : Nat} {S : tz_S} (H : sp_H N S) (hx : x ≤ 9999) : sp_H N (sp_fs x S) := by
  have e200 : sp_fs x S 200 0 = 1 := rfl
  refine H_ear H (fun k i h => fs_get h) ⟨by rw [e200]; omega, fun _ => ⟨?_, Or.inl rfl⟩, fun q => ?_, fun q => ?_⟩
  · show x ≤ 9999
    exact hx
  · rw [e200] at q
    omega
  · rw [e200] at q
    omega
theorem x_fhL {u : Nat} (hu : u < 2) : ∀ k i N S A, i + k = 500 → N + k ≤ 2000000 → rx 76 99 S A → sp_H N S → S 200 0 = 1 → ∃ A', q_X11_firstHeard_60 (tz_j u) (tz_j i) A = some (some (.int (if u = 0 then tz_j (sp_fh k S 201 0) else if sp_fh k S 201 0 = 4294967295 then tz_j 4294967295 else tz_j (sp_fh k S 0 3))), A') ∧ tz_fr (rx_p 76) A A' := by
  have fin : ∀ (N : Nat) (S : tz_S) (A : tz_Mem), rx 76 99 S A → sp_H N S → S 200 0 = 1 → (if tz_j u = tz_j 0 then some (some (.int (tz_g A 150 0)), A) else if ¬ tz_g A 150 0 = tz_j 4294967295 then some (some (.int (tz_g A 76 3)), A) else some (some (.int (tz_g A 150 0)), A) : tz_X) = some (some (.int (if u = 0 then tz_j (S 201 0) else if S 201 0 = 4294967295 then tz_j 4294967295 else tz_j (S 0 3))), A) := by
    intro N S A r H h1
    have q150 : tz_g A 150 0 = tz_j (S 201 0) := (r.2.2.2.2.2.1 h1).1
    have q3 : tz_g A 76 3 = tz_j (S 0 3) := cx_0_3 r.1
    have hb := (H.2.2.1.2.1 h1).2
    rcases (show u = 0 ∨ u = 1 by omega) with rfl | rfl
    · simp only [tz_lit, nj_m1, nj_m2, nj_m3, nj_m4, nj_m5, nj_m6, nj_m7, ↓reduceIte, tz_bI_some, tz_bV_some, tz_bL_some, cj10, cj01, cjm0, eq_self, not_true_eq_false, not_false_eq_true, or_false, false_or, or_true, true_or, or_self, and_true, true_and, and_false, false_and, q150]
    · by_cases z : S 201 0 = 4294967295
      · simp only [tz_lit, nj_m1, nj_m2, nj_m3, nj_m4, nj_m5, nj_m6, nj_m7, ↓reduceIte, tz_bI_some, tz_bV_some, tz_bL_some, cj10, cj01, cjm0, eq_self, not_true_eq_false, not_false_eq_true, or_false, false_or, or_true, true_or, or_self, and_true, true_and, and_false, false_and, q150, z, show (1 = 0) = False from eq_false (by omega)]
      · have n1 : (tz_j (S 201 0) = tz_j 4294967295) = False := nj_eqf z (by omega) (by omega)
        simp only [tz_lit, nj_m1, nj_m2, nj_m3, nj_m4, nj_m5, nj_m6, nj_m7, ↓reduceIte, tz_bI_some, tz_bV_some, tz_bL_some, cj10, cj01, cjm0, eq_self, not_true_eq_false, not_false_eq_true, or_false, false_or, or_true, true_or, or_self, and_true, true_and, and_false, false_and, q150, q3, n1, z, show (1 = 0) = False from eq_false (by omega)]
  intro k
  induction k with
  | zero =>
    intro i N S A hi hN r H h1
    obtain rfl : i = 500 := by omega
    have n1 : (tz_j 500 ≤ tz_j 500) = True := nj_let (by omega) (by omega)
    refine ⟨A, ?_, fr_rfl⟩
    rw [e_X11_firstHeard_60]
    simp only [tz_lit, nj_m1, nj_m2, nj_m3, nj_m4, nj_m5, nj_m6, nj_m7, ↓reduceIte, tz_bI_some, tz_bV_some, tz_bL_some, cj10, cj01, cjm0, eq_self, not_true_eq_false, not_false_eq_true, or_false, false_or, or_true, true_or, or_self, and_true, true_and, and_false, false_and, n1]
    exact fin N S A r H h1
  | succ k ih =>
    intro i N S A hi hN r H h1
    have n1 : (tz_j 500 ≤ tz_j i) = False := nj_lef (by omega) (by omega)
    have q150 : tz_g A 150 0 = tz_j (S 201 0) := (r.2.2.2.2.2.1 h1).1
    have hb := (H.2.2.1.2.1 h1).2
    rw [e_X11_firstHeard_60]
    have es : sp_fh (k + 1) S = if S 201 0 = 4294967295 then sp_fh k (sp_tk S) else S := rfl
    rw [es]
    by_cases z : S 201 0 = 4294967295
    · rw [if_pos (c := S 201 0 = 4294967295) z]
      rw [z] at q150
      obtain ⟨A1, e1, r1, f1⟩ := x_tk h76 (by omega) r H
      obtain ⟨g1, g2, g3⟩ := tk_G H
      obtain ⟨A', e, f'⟩ := ih (i + 1) (N + 1) _ A1 (by omega) (by omega) r1 g1 (by rw [g3 200 0 (by unfold sp_kp; omega) (by omega)]; exact h1)
      refine ⟨A', ?_, fr_tr f1 f'⟩
      simp only [tz_lit, nj_m1, nj_m2, nj_m3, nj_m4, nj_m5, nj_m6, nj_m7, ↓reduceIte, tz_bI_some, tz_bV_some, tz_bL_some, cj10, cj01, cjm0, eq_self, not_true_eq_false, not_false_eq_true, or_false, false_or, or_true, true_or, or_self, and_true, true_and, and_false, false_and, n1, q150, e1, nj_add]
      exact e
    · have n2 : (tz_j (S 201 0) = tz_j 4294967295) = False := nj_eqf z (by omega) (by omega)
      rw [if_neg (c := S 201 0 = 4294967295) z]
      refine ⟨A, ?_, fr_rfl⟩
      have := fin N S A r H h1
      rw [q150] at this
      simp only [tz_lit, nj_m1, nj_m2, nj_m3, nj_m4, nj_m5, nj_m6, nj_m7, ↓reduceIte, tz_bI_some, tz_bV_some, tz_bL_some, cj10, cj01, cjm0, eq_self, not_true_eq_false, not_false_eq_true, or_false, false_or, or_true, true_or, or_self, and_true, true_and, and_false, false_and, n1, q150, n2]
      simp only [tz_lit, nj_m1, nj_m2, nj_m3, nj_m4, nj_m5, nj_m6, nj_m7, ↓reduceIte, tz_bI_some, tz_bV_some, tz_bL_some, cj10, cj01, cjm0, eq_self, not_true_eq_false, not_false_eq_true, or_false, false_or, or_true, true_or, or_self, and_true, true_and, and_false, false_and, n2] at this
      exact this
