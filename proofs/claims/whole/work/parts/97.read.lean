/-! texts: signs, words, numbers, on both sides -/
/-- the sign at a place, -1 behind the end -/
def sg (T : Nat → Int32) (L at' : Nat) : Int32 := if L ≤ at' then tz_j 4294967295 else T at'
theorem sg_e {T : Nat → Int32} {L p : Nat} (h : L ≤ p) : sg T L p = tz_j 4294967295 := if_pos h
theorem sg_i {T : Nat → Int32} {L p : Nat} (h : p < L) : sg T L p = T p := if_neg (by omega)
theorem sg_lt {T : Nat → Int32} {L p c : Nat} (hc : c < 2147483648) (h : sg T L p = tz_j c) : p < L := by
  by_cases z : p < L
  · exact z
  · rw [sg_e (by omega)] at h
    exact absurd (nj_inj (by omega) (by omega) h) (by omega)
def XRd (T : Nat → Int32) (L p : Nat) (S : tz_S) (A : tz_Mem) : Prop := rx 124 99 S A ∧ tz_g A 122 0 = tz_j 4294967295 ∧ tz_g A 122 4 = tz_j L ∧ tz_g A 122 5 = tz_j p ∧ (∀ j, j < L → tz_g A 123 j = T j)
def MRd (D : Nat → Int32) (T : Nat → Int32) (L s p : Nat) (S : tz_S) (A : tz_Mem) : Prop := rm D S A ∧ tz_g A 157 39 = tz_j s ∧ tz_g A 157 40 = tz_j p ∧ tz_g A 159 s = tz_j L ∧ (∀ j, j < L → Int64.toInt32 (tz_gl A 160 (160 * s + j)) = T j)
def ry_p (k _i : Nat) : Prop := k = 122 ∨ (124 ≤ k ∧ k < 148) ∨ (150 ≤ k ∧ k < 155)
def ty_p (k i : Nat) : Prop := mo_p k i ∨ (k = 157 ∧ (i = 39 ∨ i = 40)) ∨ k = 183
def r2_p (k i : Nat) : Prop := k = 122 ∧ (i = 0 ∨ i = 5 ∨ i = 6)
def t2_p (k i : Nat) : Prop := (k = 157 ∧ i = 40) ∨ k = 183
theorem r2_ry {k i : Nat} (h : r2_p k i) : ry_p k i := Or.inl h.1
theorem t2_ty {k i : Nat} (h : t2_p k i) : ty_p k i := by
  unfold t2_p at h
  unfold ty_p
  omega
theorem XRd_mv {T : Nat → Int32} {L p p' : Nat} {S : tz_S} {A A' : tz_Mem} (r : XRd T L p S A) (f : tz_fr r2_p A A') (h0 : tz_g A' 122 0 = tz_j 4294967295) (h5 : tz_g A' 122 5 = tz_j p') : XRd T L p' S A' := by
  obtain ⟨a, b, c, d, e⟩ := r
  refine ⟨rx_mv a (fun k i h1 h2 => f.2.2 k i (by unfold r2_p; omega)) (fr_gr f) (Or.inr (fun k i h1 h2 => f.2.2 k i (by unfold r2_p; omega))), h0, by rw [f.2.2 122 4 (by unfold r2_p; omega)]; exact c, h5, fun j hj => by rw [f.2.2 123 j (by unfold r2_p; omega)]; exact e j hj⟩
theorem MRd_mv {D : Nat → Int32} {T : Nat → Int32} {L s p p' : Nat} {S : tz_S} {A A' : tz_Mem} (r : MRd D T L s p S A) (f : tz_fr t2_p A A') (h5 : tz_g A' 157 40 = tz_j p') : MRd D T L s p' S A' := by
  obtain ⟨a, b, c, d, e⟩ := r
  refine ⟨rm_A a (fun k i h => f.2.2 k i (by unfold t2_p; omega)), by rw [f.2.2 157 39 (by unfold t2_p; omega)]; exact b, h5, by rw [f.2.2 159 s (by unfold t2_p; omega)]; exact d, fun j hj => by rw [fr_gl f]; exact e j hj⟩
/-- class: the sign at the place -/
theorem r_st {T : Nat → Int32} {L p c : Nat} {S : tz_S} {A : tz_Mem} (hL : L ≤ 160) (hp : p ≤ L) (hc : c < 1000) (r : XRd T L p S A) : f_X7_stands (tz_j c) A = some (some (.int (if sg T L p = tz_j c then tz_j 1 else tz_j 0)), A) := by
  obtain ⟨a, b, q4, q5, e⟩ := r
  rw [e_X7_stands]
  by_cases z : L ≤ p
  · have n1 : (tz_j L ≤ tz_j p) = True := nj_let z (by omega)
    rw [sg_e z, if_neg (fun h => absurd (nj_inj (by omega) (by omega) h) (by omega))]
    simp only [tz_lit, nj_m1, nj_m2, nj_m3, nj_m4, nj_m5, nj_m6, nj_m7, ↓reduceIte, tz_bI_some, tz_bV_some, tz_bL_some, cj10, cj01, cjm0, eq_self, not_true_eq_false, not_false_eq_true, or_false, false_or, or_true, true_or, or_self, and_true, true_and, and_false, false_and, q4, q5, n1]
  · have n1 : (tz_j L ≤ tz_j p) = False := nj_lef (by omega) (by omega)
    have n3 := nj_ix8 (s := p) (n := 160) (by omega) (by omega)
    have c1 : (tz_j p).toNatClampNeg = p := nj_cl (by omega)
    rw [sg_i (by omega)]
    have k := e p (by omega)
    by_cases y : T p = tz_j c
    · simp only [tz_lit, nj_m1, nj_m2, nj_m3, nj_m4, nj_m5, nj_m6, nj_m7, ↓reduceIte, tz_bI_some, tz_bV_some, tz_bL_some, cj10, cj01, cjm0, eq_self, not_true_eq_false, not_false_eq_true, or_false, false_or, or_true, true_or, or_self, and_true, true_and, and_false, false_and, q4, q5, n1, n3, c1, k, y]
    · simp only [tz_lit, nj_m1, nj_m2, nj_m3, nj_m4, nj_m5, nj_m6, nj_m7, ↓reduceIte, tz_bI_some, tz_bV_some, tz_bL_some, cj10, cj01, cjm0, eq_self, not_true_eq_false, not_false_eq_true, or_false, false_or, or_true, true_or, or_self, and_true, true_and, and_false, false_and, q4, q5, n1, n3, c1, k, y]
theorem t_sg {D : Nat → Int32} {T : Nat → Int32} {L s p : Nat} {S : tz_S} {A : tz_Mem} (hL : L ≤ 160) (hs : s < 8) (hp : p ≤ L) (r : MRd D T L s p S A) : f_X12_sign A = some (some (.int (sg T L p)), A) := by
  obtain ⟨a, q39, q40, q159, e⟩ := r
  have n2 := nj_ix8 (s := s) (n := 8) hs (by omega)
  have c2 : (tz_j s).toNatClampNeg = s := nj_cl (by omega)
  rw [e_X12_sign]
  by_cases z : L ≤ p
  · have n1 : (tz_j L ≤ tz_j p) = True := nj_let z (by omega)
    rw [sg_e z]
    simp only [tz_lit, nj_m1, nj_m2, nj_m3, nj_m4, nj_m5, nj_m6, nj_m7, ↓reduceIte, tz_bI_some, tz_bV_some, tz_bL_some, cj10, cj01, cjm0, eq_self, not_true_eq_false, not_false_eq_true, or_false, false_or, or_true, true_or, or_self, and_true, true_and, and_false, false_and, q39, q40, q159, n2, c2, n1]
  · have n1 : (tz_j L ≤ tz_j p) = False := nj_lef (by omega) (by omega)
    have m1 : tz_j 160 * tz_j s + tz_j p = tz_j (160 * s + p) := by rw [nj_mul, nj_add]
    have n3 := nj_ix8 (s := 160 * s + p) (n := 1280) (by omega) (by omega)
    have c1 : (tz_j (160 * s + p)).toNatClampNeg = 160 * s + p := nj_cl (by omega)
    rw [sg_i (by omega)]
    have k := e p (by omega)
    simp only [tz_lit, nj_m1, nj_m2, nj_m3, nj_m4, nj_m5, nj_m6, nj_m7, ↓reduceIte, tz_bI_some, tz_bV_some, tz_bL_some, cj10, cj01, cjm0, eq_self, not_true_eq_false, not_false_eq_true, or_false, false_or, or_true, true_or, or_self, and_true, true_and, and_false, false_and, q39, q40, q159, n2, c2, n1, m1, n3, c1, k]
theorem t_is {D : Nat → Int32} {T : Nat → Int32} {L s p c : Nat} {S : tz_S} {A : tz_Mem} (hL : L ≤ 160) (hs : s < 8) (hp : p ≤ L) (r : MRd D T L s p S A) : (sg T L p = tz_j c → f_X12_is (tz_j c) A = some (some (.int (tz_j 1)), tz_s A 157 40 (tz_j (p + 1))) ∧ MRd D T L s (p + 1) S (tz_s A 157 40 (tz_j (p + 1)))) ∧ (sg T L p ≠ tz_j c → f_X12_is (tz_j c) A = some (some (.int (tz_j 0)), A)) := by
  have e1 := t_sg hL hs hp r
  have q40 := r.2.2.1
  have a3 : tz_j p + tz_j 1 = tz_j (p + 1) := nj_add
  refine ⟨fun z => ⟨?_, MRd_mv r (fr_s fr_rfl (Or.inl ⟨rfl, rfl⟩)) tz_gs1⟩, fun z => ?_⟩
  · rw [e_X12_is]
    simp only [tz_lit, nj_m1, nj_m2, nj_m3, nj_m4, nj_m5, nj_m6, nj_m7, ↓reduceIte, tz_bI_some, tz_bV_some, tz_bL_some, cj10, cj01, cjm0, eq_self, not_true_eq_false, not_false_eq_true, or_false, false_or, or_true, true_or, or_self, and_true, true_and, and_false, false_and, e1, z, q40, a3]
  · rw [e_X12_is]
    simp only [tz_lit, nj_m1, nj_m2, nj_m3, nj_m4, nj_m5, nj_m6, nj_m7, ↓reduceIte, tz_bI_some, tz_bV_some, tz_bL_some, cj10, cj01, cjm0, eq_self, not_true_eq_false, not_false_eq_true, or_false, false_or, or_true, true_or, or_self, and_true, true_and, and_false, false_and, e1, z]
/-- the words -/
def wd_c (w i : Nat) : Nat := if w = 5 then (if i = 0 then 104 else if i = 1 then 105 else 108) else if w = 6 then (if i = 0 then 115 else if i = 1 then 116 else if i = 2 then 111 else if i = 3 then 114 else 109) else if w = 7 then (if i = 0 then 108 else if i = 1 then 101 else if i = 2 then 116 else if i = 3 then 116 else if i = 4 then 101 else 114) else if w = 8 then (if i = 0 then 104 else if i = 1 then 111 else if i = 2 then 117 else 114) else if w = 9 then (if i = 0 then 98 else if i = 1 then 117 else if i = 2 then 114 else 110) else (if i = 0 then 111 else if i = 1 then 117 else 114)
def wd_n (w : Nat) : Nat := if w = 6 then 5 else if w = 7 then 6 else if w = 10 then 3 else 4
theorem wd_b (w i : Nat) : wd_c w i < 128 := by
  unfold wd_c
  repeat' split
  all_goals omega
/-- how many signs are as the word has them -/
def wd_s (T : Nat → Int32) (L w p : Nat) : Nat → Nat → Nat
  | 0, i => i
  | k + 1, i => if sg T L (p + i) = tz_j (wd_c w i) then wd_s T L w p k (i + 1) else i
theorem wd_le {T : Nat → Int32} {L w p : Nat} : ∀ k i, i ≤ wd_s T L w p k i ∧ wd_s T L w p k i ≤ i + k := by
  intro k
  induction k with
  | zero => exact fun i => ⟨Nat.le_refl _, Nat.le_refl _⟩
  | succ k ih =>
    intro i
    show i ≤ (if sg T L (p + i) = tz_j (wd_c w i) then wd_s T L w p k (i + 1) else i) ∧ (if sg T L (p + i) = tz_j (wd_c w i) then wd_s T L w p k (i + 1) else i) ≤ i + (k + 1)
    have := ih (i + 1)
    split <;> omega
theorem wd_pl {T : Nat → Int32} {L w p : Nat} : ∀ k i, p + i ≤ L → p + wd_s T L w p k i ≤ L := by
  intro k
  induction k with
  | zero => exact fun i h => h
  | succ k ih =>
    intro i h
    show p + (if sg T L (p + i) = tz_j (wd_c w i) then wd_s T L w p k (i + 1) else i) ≤ L
    by_cases z : sg T L (p + i) = tz_j (wd_c w i)
    · rw [if_pos z]
      have := wd_b w i
      have := sg_lt (by omega) z
      exact ih (i + 1) (by omega)
    · rw [if_neg z]
      exact h
/-- a full word's signs -/
theorem wd_f {T : Nat → Int32} {L w p : Nat} : ∀ k i, wd_s T L w p k i = i + k → ∀ j, i ≤ j → j < i + k → sg T L (p + j) = tz_j (wd_c w j) := by
  intro k
  induction k with
  | zero => exact fun i _ j h1 h2 => by omega
  | succ k ih =>
    intro i h j h1 h2
    have h' : (if sg T L (p + i) = tz_j (wd_c w i) then wd_s T L w p k (i + 1) else i) = i + (k + 1) := h
    by_cases z : sg T L (p + i) = tz_j (wd_c w i)
    · rw [if_pos z] at h'
      by_cases y : j = i
      · rw [y]
        exact z
      · exact ih (i + 1) (by omega) j (by omega) (by omega)
    · rw [if_neg z] at h'
      omega
theorem wd_0 {T : Nat → Int32} {L w p k : Nat} (h : sg T L p ≠ tz_j (wd_c w 0)) : wd_s T L w p k 0 = 0 := by
  cases k with
  | zero => rfl
  | succ k => exact if_neg h
theorem wd_our {T : Nat → Int32} {L p : Nat} : ∀ k i, wd_s T L 8 p k (i + 1) = 1 + wd_s T L 10 (p + 1) k i := by
  intro k
  induction k with
  | zero => exact fun i => by show i + 1 = 1 + i; omega
  | succ k ih =>
    intro i
    show (if sg T L (p + (i + 1)) = tz_j (wd_c 8 (i + 1)) then wd_s T L 8 p k (i + 2) else i + 1) = 1 + (if sg T L (p + 1 + i) = tz_j (wd_c 10 i) then wd_s T L 10 (p + 1) k (i + 1) else i)
    have e : wd_c 8 (i + 1) = wd_c 10 i := by
      unfold wd_c
      simp only [Nat.reduceEqDiff, ↓reduceIte]
    rw [e, show p + (i + 1) = p + 1 + i by omega]
    split
    · exact ih (i + 1)
    · omega
theorem r_ln5 (A : tz_Mem) : f_J0_length_s5 A = some (some (.int (tz_j 4)), A) := by
  rw [e_J0_length_s5, e_J0_coder_s5]
  rfl
theorem r_ch5 (A : tz_Mem) : ∀ i, i < 4 → f_J0_charAt_s5 (tz_j i) A = some (some (.int (tz_j (wd_c 5 i))), A) := by
  intro i hi
  have n1 : (tz_j i < tz_j 0) = False := nj_ltf (by omega) (by omega)
  have n2 : (tz_j i < tz_j 4) = True := nj_ltt (by omega) (by omega)
  have n3 : (4 ≤ i) = False := eq_false (by omega)
  have c1 : (tz_j i).toNatClampNeg = i := nj_cl (by omega)
  rw [e_J0_charAt_s5, e_J0_isLatin1_s5]
  simp only [tz_bI_some, tz_bV_some, tz_lit, cj10, ↓reduceIte]
  rw [e_J1_charAt_s11, e_J0_checkIndex, e_J3_checkIndex]
  simp only [tz_bI_some, tz_bV_some, tz_lit, ↓reduceIte, n1, n2, n3, c1, or_self]
  have hc : i = 0 ∨ i = 1 ∨ i = 2 ∨ i = 3 := by omega
  rcases hc with rfl | rfl | rfl | rfl <;> rfl
theorem t_wd5 {D : Nat → Int32} {T : Nat → Int32} {L s p : Nat} {S : tz_S} (hL : L ≤ 160) (hs : s < 8) : ∀ k i A, i + k = 4 → p + i ≤ L → MRd D T L s (p + i) S A → ∃ A', q_X12_word_s5_2 (tz_j i) A = some (some (.int (if wd_s T L 5 p k i = 4 then tz_j 1 else tz_j 0)), A') ∧ MRd D T L s (p + wd_s T L 5 p k i) S A' ∧ tz_fr t2_p A A' := by
  intro k
  induction k with
  | zero =>
    intro i A hi hp r
    obtain rfl : i = 4 := by omega
    have n1 : (tz_j 4 ≤ tz_j 4) = True := nj_let (Nat.le_refl _) (by omega)
    refine ⟨A, ?_, r, fr_rfl⟩
    rw [e_X12_word_s5_2]
    simp only [tz_lit, nj_m1, nj_m2, nj_m3, nj_m4, nj_m5, nj_m6, nj_m7, ↓reduceIte, tz_bI_some, tz_bV_some, tz_bL_some, cj10, cj01, cjm0, eq_self, not_true_eq_false, not_false_eq_true, or_false, false_or, or_true, true_or, or_self, and_true, true_and, and_false, false_and, r_ln5, n1, show wd_s T L 5 p 0 4 = 4 from rfl]
  | succ k ih =>
    intro i A hi hp r
    have n1 : (tz_j 4 ≤ tz_j i) = False := nj_lef (by omega) (by omega)
    have ec := r_ch5 A i (by omega)
    have a3 : tz_j i + tz_j 1 = tz_j (i + 1) := nj_add
    have es : wd_s T L 5 p (k + 1) i = if sg T L (p + i) = tz_j (wd_c 5 i) then wd_s T L 5 p k (i + 1) else i := rfl
    obtain ⟨i1, i2⟩ := t_is (c := wd_c 5 i) hL hs hp r
    have hb := wd_b 5 i
    rw [es, e_X12_word_s5_2]
    by_cases z : sg T L (p + i) = tz_j (wd_c 5 i)
    · rw [if_pos z]
      obtain ⟨e1, r1⟩ := i1 z
      have hlt := sg_lt (by omega) z
      obtain ⟨A', e, r', f⟩ := ih (i + 1) _ (by omega) (by omega) r1
      refine ⟨A', ?_, r', fr_tr (fr_s fr_rfl (Or.inl ⟨rfl, rfl⟩)) f⟩
      simp only [tz_lit, nj_m1, nj_m2, nj_m3, nj_m4, nj_m5, nj_m6, nj_m7, ↓reduceIte, tz_bI_some, tz_bV_some, tz_bL_some, cj10, cj01, cjm0, eq_self, not_true_eq_false, not_false_eq_true, or_false, false_or, or_true, true_or, or_self, and_true, true_and, and_false, false_and, r_ln5, n1, ec, e1, a3]
      exact e
    · rw [if_neg z]
      have e1 := i2 z
      refine ⟨A, ?_, r, fr_rfl⟩
      simp only [tz_lit, nj_m1, nj_m2, nj_m3, nj_m4, nj_m5, nj_m6, nj_m7, ↓reduceIte, tz_bI_some, tz_bV_some, tz_bL_some, cj10, cj01, cjm0, eq_self, not_true_eq_false, not_false_eq_true, or_false, false_or, or_true, true_or, or_self, and_true, true_and, and_false, false_and, r_ln5, n1, ec, e1, show (i = 4) = False from eq_false (by omega)]
theorem r_cs5 {T : Nat → Int32} {L p : Nat} {S : tz_S} {A : tz_Mem} (hL : L ≤ 160) (hp : p ≤ L) (r : XRd T L p S A) : ∀ k i, i + k = 4 → q_X7_countSame_s5_2 (tz_j i) A = some (some (.int (tz_j (wd_s T L 5 p k i))), A) := by
  obtain ⟨a, b, q4, q5, e⟩ := r
  intro k
  induction k with
  | zero =>
    intro i hi
    obtain rfl : i = 4 := by omega
    have n1 : (tz_j 4 ≤ tz_j 4) = True := nj_let (Nat.le_refl _) (by omega)
    rw [e_X7_countSame_s5_2]
    simp only [tz_lit, nj_m1, nj_m2, nj_m3, nj_m4, nj_m5, nj_m6, nj_m7, ↓reduceIte, tz_bI_some, tz_bV_some, tz_bL_some, cj10, cj01, cjm0, eq_self, not_true_eq_false, not_false_eq_true, or_false, false_or, or_true, true_or, or_self, and_true, true_and, and_false, false_and, r_ln5, n1]
    rfl
  | succ k ih =>
    intro i hi
    have n1 : (tz_j 4 ≤ tz_j i) = False := nj_lef (by omega) (by omega)
    have ec := r_ch5 A i (by omega)
    have a3 : tz_j i + tz_j 1 = tz_j (i + 1) := nj_add
    have a4 : tz_j p + tz_j i = tz_j (p + i) := nj_add
    have es : wd_s T L 5 p (k + 1) i = if sg T L (p + i) = tz_j (wd_c 5 i) then wd_s T L 5 p k (i + 1) else i := rfl
    have hb := wd_b 5 i
    rw [es, e_X7_countSame_s5_2]
    by_cases y : L ≤ p + i
    · have n2 : (tz_j L ≤ tz_j (p + i)) = True := nj_let y (by omega)
      rw [sg_e y, if_neg (fun h => absurd (nj_inj (by omega) (by omega) h) (by omega))]
      simp only [tz_lit, nj_m1, nj_m2, nj_m3, nj_m4, nj_m5, nj_m6, nj_m7, ↓reduceIte, tz_bI_some, tz_bV_some, tz_bL_some, cj10, cj01, cjm0, eq_self, not_true_eq_false, not_false_eq_true, or_false, false_or, or_true, true_or, or_self, and_true, true_and, and_false, false_and, r_ln5, n1, q4, q5, a4, n2]
    · have n2 : (tz_j L ≤ tz_j (p + i)) = False := nj_lef (by omega) (by omega)
      have n3 := nj_ix8 (s := p + i) (n := 160) (by omega) (by omega)
      have c1 : (tz_j (p + i)).toNatClampNeg = p + i := nj_cl (by omega)
      have k1 := e (p + i) (by omega)
      rw [sg_i (by omega)]
      by_cases z : T (p + i) = tz_j (wd_c 5 i)
      · rw [if_pos z]
        simp only [tz_lit, nj_m1, nj_m2, nj_m3, nj_m4, nj_m5, nj_m6, nj_m7, ↓reduceIte, tz_bI_some, tz_bV_some, tz_bL_some, cj10, cj01, cjm0, eq_self, not_true_eq_false, not_false_eq_true, or_false, false_or, or_true, true_or, or_self, and_true, true_and, and_false, false_and, r_ln5, n1, q4, q5, a4, n2, n3, c1, ec, k1, z, a3]
        exact ih (i + 1) (by omega)
      · rw [if_neg z]
        simp only [tz_lit, nj_m1, nj_m2, nj_m3, nj_m4, nj_m5, nj_m6, nj_m7, ↓reduceIte, tz_bI_some, tz_bV_some, tz_bL_some, cj10, cj01, cjm0, eq_self, not_true_eq_false, not_false_eq_true, or_false, false_or, or_true, true_or, or_self, and_true, true_and, and_false, false_and, r_ln5, n1, q4, q5, a4, n2, n3, c1, ec, k1, z]
theorem r_ln6 (A : tz_Mem) : f_J0_length_s6 A = some (some (.int (tz_j 5)), A) := by
  rw [e_J0_length_s6, e_J0_coder_s6]
  rfl
theorem r_ch6 (A : tz_Mem) : ∀ i, i < 5 → f_J0_charAt_s6 (tz_j i) A = some (some (.int (tz_j (wd_c 6 i))), A) := by
  intro i hi
  have n1 : (tz_j i < tz_j 0) = False := nj_ltf (by omega) (by omega)
  have n2 : (tz_j i < tz_j 5) = True := nj_ltt (by omega) (by omega)
  have n3 : (5 ≤ i) = False := eq_false (by omega)
  have c1 : (tz_j i).toNatClampNeg = i := nj_cl (by omega)
  rw [e_J0_charAt_s6, e_J0_isLatin1_s6]
  simp only [tz_bI_some, tz_bV_some, tz_lit, cj10, ↓reduceIte]
  rw [e_J1_charAt_s12, e_J0_checkIndex, e_J3_checkIndex]
  simp only [tz_bI_some, tz_bV_some, tz_lit, ↓reduceIte, n1, n2, n3, c1, or_self]
  have hc : i = 0 ∨ i = 1 ∨ i = 2 ∨ i = 3 ∨ i = 4 := by omega
  rcases hc with rfl | rfl | rfl | rfl | rfl <;> rfl
theorem t_wd6 {D : Nat → Int32} {T : Nat → Int32} {L s p : Nat} {S : tz_S} (hL : L ≤ 160) (hs : s < 8) : ∀ k i A, i + k = 5 → p + i ≤ L → MRd D T L s (p + i) S A → ∃ A', q_X12_word_s6_2 (tz_j i) A = some (some (.int (if wd_s T L 6 p k i = 5 then tz_j 1 else tz_j 0)), A') ∧ MRd D T L s (p + wd_s T L 6 p k i) S A' ∧ tz_fr t2_p A A' := by
  intro k
  induction k with
  | zero =>
    intro i A hi hp r
    obtain rfl : i = 5 := by omega
    have n1 : (tz_j 5 ≤ tz_j 5) = True := nj_let (Nat.le_refl _) (by omega)
    refine ⟨A, ?_, r, fr_rfl⟩
    rw [e_X12_word_s6_2]
    simp only [tz_lit, nj_m1, nj_m2, nj_m3, nj_m4, nj_m5, nj_m6, nj_m7, ↓reduceIte, tz_bI_some, tz_bV_some, tz_bL_some, cj10, cj01, cjm0, eq_self, not_true_eq_false, not_false_eq_true, or_false, false_or, or_true, true_or, or_self, and_true, true_and, and_false, false_and, r_ln6, n1, show wd_s T L 6 p 0 5 = 5 from rfl]
  | succ k ih =>
    intro i A hi hp r
    have n1 : (tz_j 5 ≤ tz_j i) = False := nj_lef (by omega) (by omega)
    have ec := r_ch6 A i (by omega)
    have a3 : tz_j i + tz_j 1 = tz_j (i + 1) := nj_add
    have es : wd_s T L 6 p (k + 1) i = if sg T L (p + i) = tz_j (wd_c 6 i) then wd_s T L 6 p k (i + 1) else i := rfl
    obtain ⟨i1, i2⟩ := t_is (c := wd_c 6 i) hL hs hp r
    have hb := wd_b 6 i
    rw [es, e_X12_word_s6_2]
    by_cases z : sg T L (p + i) = tz_j (wd_c 6 i)
    · rw [if_pos z]
      obtain ⟨e1, r1⟩ := i1 z
      have hlt := sg_lt (by omega) z
      obtain ⟨A', e, r', f⟩ := ih (i + 1) _ (by omega) (by omega) r1
      refine ⟨A', ?_, r', fr_tr (fr_s fr_rfl (Or.inl ⟨rfl, rfl⟩)) f⟩
      simp only [tz_lit, nj_m1, nj_m2, nj_m3, nj_m4, nj_m5, nj_m6, nj_m7, ↓reduceIte, tz_bI_some, tz_bV_some, tz_bL_some, cj10, cj01, cjm0, eq_self, not_true_eq_false, not_false_eq_true, or_false, false_or, or_true, true_or, or_self, and_true, true_and, and_false, false_and, r_ln6, n1, ec, e1, a3]
      exact e
    · rw [if_neg z]
      have e1 := i2 z
      refine ⟨A, ?_, r, fr_rfl⟩
      simp only [tz_lit, nj_m1, nj_m2, nj_m3, nj_m4, nj_m5, nj_m6, nj_m7, ↓reduceIte, tz_bI_some, tz_bV_some, tz_bL_some, cj10, cj01, cjm0, eq_self, not_true_eq_false, not_false_eq_true, or_false, false_or, or_true, true_or, or_self, and_true, true_and, and_false, false_and, r_ln6, n1, ec, e1, show (i = 5) = False from eq_false (by omega)]
theorem r_cs6 {T : Nat → Int32} {L p : Nat} {S : tz_S} {A : tz_Mem} (hL : L ≤ 160) (hp : p ≤ L) (r : XRd T L p S A) : ∀ k i, i + k = 5 → q_X7_countSame_s6_2 (tz_j i) A = some (some (.int (tz_j (wd_s T L 6 p k i))), A) := by
  obtain ⟨a, b, q4, q5, e⟩ := r
  intro k
  induction k with
  | zero =>
    intro i hi
    obtain rfl : i = 5 := by omega
    have n1 : (tz_j 5 ≤ tz_j 5) = True := nj_let (Nat.le_refl _) (by omega)
    rw [e_X7_countSame_s6_2]
    simp only [tz_lit, nj_m1, nj_m2, nj_m3, nj_m4, nj_m5, nj_m6, nj_m7, ↓reduceIte, tz_bI_some, tz_bV_some, tz_bL_some, cj10, cj01, cjm0, eq_self, not_true_eq_false, not_false_eq_true, or_false, false_or, or_true, true_or, or_self, and_true, true_and, and_false, false_and, r_ln6, n1]
    rfl
  | succ k ih =>
    intro i hi
    have n1 : (tz_j 5 ≤ tz_j i) = False := nj_lef (by omega) (by omega)
    have ec := r_ch6 A i (by omega)
    have a3 : tz_j i + tz_j 1 = tz_j (i + 1) := nj_add
    have a4 : tz_j p + tz_j i = tz_j (p + i) := nj_add
    have es : wd_s T L 6 p (k + 1) i = if sg T L (p + i) = tz_j (wd_c 6 i) then wd_s T L 6 p k (i + 1) else i := rfl
    have hb := wd_b 6 i
    rw [es, e_X7_countSame_s6_2]
    by_cases y : L ≤ p + i
    · have n2 : (tz_j L ≤ tz_j (p + i)) = True := nj_let y (by omega)
      rw [sg_e y, if_neg (fun h => absurd (nj_inj (by omega) (by omega) h) (by omega))]
      simp only [tz_lit, nj_m1, nj_m2, nj_m3, nj_m4, nj_m5, nj_m6, nj_m7, ↓reduceIte, tz_bI_some, tz_bV_some, tz_bL_some, cj10, cj01, cjm0, eq_self, not_true_eq_false, not_false_eq_true, or_false, false_or, or_true, true_or, or_self, and_true, true_and, and_false, false_and, r_ln6, n1, q4, q5, a4, n2]
    · have n2 : (tz_j L ≤ tz_j (p + i)) = False := nj_lef (by omega) (by omega)
      have n3 := nj_ix8 (s := p + i) (n := 160) (by omega) (by omega)
      have c1 : (tz_j (p + i)).toNatClampNeg = p + i := nj_cl (by omega)
      have k1 := e (p + i) (by omega)
      rw [sg_i (by omega)]
      by_cases z : T (p + i) = tz_j (wd_c 6 i)
      · rw [if_pos z]
        simp only [tz_lit, nj_m1, nj_m2, nj_m3, nj_m4, nj_m5, nj_m6, nj_m7, ↓reduceIte, tz_bI_some, tz_bV_some, tz_bL_some, cj10, cj01, cjm0, eq_self, not_true_eq_false, not_false_eq_true, or_false, false_or, or_true, true_or, or_self, and_true, true_and, and_false, false_and, r_ln6, n1, q4, q5, a4, n2, n3, c1, ec, k1, z, a3]
        exact ih (i + 1) (by omega)
      · rw [if_neg z]
        simp only [tz_lit, nj_m1, nj_m2, nj_m3, nj_m4, nj_m5, nj_m6, nj_m7, ↓reduceIte, tz_bI_some, tz_bV_some, tz_bL_some, cj10, cj01, cjm0, eq_self, not_true_eq_false, not_false_eq_true, or_false, false_or, or_true, true_or, or_self, and_true, true_and, and_false, false_and, r_ln6, n1, q4, q5, a4, n2, n3, c1, ec, k1, z]
theorem r_ln7 (A : tz_Mem) : f_J0_length_s7 A = some (some (.int (tz_j 6)), A) := by
  rw [e_J0_length_s7, e_J0_coder_s7]
  rfl
theorem r_ch7 (A : tz_Mem) : ∀ i, i < 6 → f_J0_charAt_s7 (tz_j i) A = some (some (.int (tz_j (wd_c 7 i))), A) := by
  intro i hi
  have n1 : (tz_j i < tz_j 0) = False := nj_ltf (by omega) (by omega)
  have n2 : (tz_j i < tz_j 6) = True := nj_ltt (by omega) (by omega)
  have n3 : (6 ≤ i) = False := eq_false (by omega)
  have c1 : (tz_j i).toNatClampNeg = i := nj_cl (by omega)
  rw [e_J0_charAt_s7, e_J0_isLatin1_s7]
  simp only [tz_bI_some, tz_bV_some, tz_lit, cj10, ↓reduceIte]
  rw [e_J1_charAt_s13, e_J0_checkIndex, e_J3_checkIndex]
  simp only [tz_bI_some, tz_bV_some, tz_lit, ↓reduceIte, n1, n2, n3, c1, or_self]
  have hc : i = 0 ∨ i = 1 ∨ i = 2 ∨ i = 3 ∨ i = 4 ∨ i = 5 := by omega
  rcases hc with rfl | rfl | rfl | rfl | rfl | rfl <;> rfl
theorem t_wd7 {D : Nat → Int32} {T : Nat → Int32} {L s p : Nat} {S : tz_S} (hL : L ≤ 160) (hs : s < 8) : ∀ k i A, i + k = 6 → p + i ≤ L → MRd D T L s (p + i) S A → ∃ A', q_X12_word_s7_2 (tz_j i) A = some (some (.int (if wd_s T L 7 p k i = 6 then tz_j 1 else tz_j 0)), A') ∧ MRd D T L s (p + wd_s T L 7 p k i) S A' ∧ tz_fr t2_p A A' := by
  intro k
  induction k with
  | zero =>
    intro i A hi hp r
    obtain rfl : i = 6 := by omega
    have n1 : (tz_j 6 ≤ tz_j 6) = True := nj_let (Nat.le_refl _) (by omega)
    refine ⟨A, ?_, r, fr_rfl⟩
    rw [e_X12_word_s7_2]
    simp only [tz_lit, nj_m1, nj_m2, nj_m3, nj_m4, nj_m5, nj_m6, nj_m7, ↓reduceIte, tz_bI_some, tz_bV_some, tz_bL_some, cj10, cj01, cjm0, eq_self, not_true_eq_false, not_false_eq_true, or_false, false_or, or_true, true_or, or_self, and_true, true_and, and_false, false_and, r_ln7, n1, show wd_s T L 7 p 0 6 = 6 from rfl]
  | succ k ih =>
    intro i A hi hp r
    have n1 : (tz_j 6 ≤ tz_j i) = False := nj_lef (by omega) (by omega)
    have ec := r_ch7 A i (by omega)
    have a3 : tz_j i + tz_j 1 = tz_j (i + 1) := nj_add
    have es : wd_s T L 7 p (k + 1) i = if sg T L (p + i) = tz_j (wd_c 7 i) then wd_s T L 7 p k (i + 1) else i := rfl
    obtain ⟨i1, i2⟩ := t_is (c := wd_c 7 i) hL hs hp r
    have hb := wd_b 7 i
    rw [es, e_X12_word_s7_2]
    by_cases z : sg T L (p + i) = tz_j (wd_c 7 i)
    · rw [if_pos z]
      obtain ⟨e1, r1⟩ := i1 z
      have hlt := sg_lt (by omega) z
      obtain ⟨A', e, r', f⟩ := ih (i + 1) _ (by omega) (by omega) r1
      refine ⟨A', ?_, r', fr_tr (fr_s fr_rfl (Or.inl ⟨rfl, rfl⟩)) f⟩
      simp only [tz_lit, nj_m1, nj_m2, nj_m3, nj_m4, nj_m5, nj_m6, nj_m7, ↓reduceIte, tz_bI_some, tz_bV_some, tz_bL_some, cj10, cj01, cjm0, eq_self, not_true_eq_false, not_false_eq_true, or_false, false_or, or_true, true_or, or_self, and_true, true_and, and_false, false_and, r_ln7, n1, ec, e1, a3]
      exact e
    · rw [if_neg z]
      have e1 := i2 z
      refine ⟨A, ?_, r, fr_rfl⟩
      simp only [tz_lit, nj_m1, nj_m2, nj_m3, nj_m4, nj_m5, nj_m6, nj_m7, ↓reduceIte, tz_bI_some, tz_bV_some, tz_bL_some, cj10, cj01, cjm0, eq_self, not_true_eq_false, not_false_eq_true, or_false, false_or, or_true, true_or, or_self, and_true, true_and, and_false, false_and, r_ln7, n1, ec, e1, show (i = 6) = False from eq_false (by omega)]
theorem r_cs7 {T : Nat → Int32} {L p : Nat} {S : tz_S} {A : tz_Mem} (hL : L ≤ 160) (hp : p ≤ L) (r : XRd T L p S A) : ∀ k i, i + k = 6 → q_X7_countSame_s7_2 (tz_j i) A = some (some (.int (tz_j (wd_s T L 7 p k i))), A) := by
  obtain ⟨a, b, q4, q5, e⟩ := r
  intro k
  induction k with
  | zero =>
    intro i hi
    obtain rfl : i = 6 := by omega
    have n1 : (tz_j 6 ≤ tz_j 6) = True := nj_let (Nat.le_refl _) (by omega)
    rw [e_X7_countSame_s7_2]
    simp only [tz_lit, nj_m1, nj_m2, nj_m3, nj_m4, nj_m5, nj_m6, nj_m7, ↓reduceIte, tz_bI_some, tz_bV_some, tz_bL_some, cj10, cj01, cjm0, eq_self, not_true_eq_false, not_false_eq_true, or_false, false_or, or_true, true_or, or_self, and_true, true_and, and_false, false_and, r_ln7, n1]
    rfl
  | succ k ih =>
    intro i hi
    have n1 : (tz_j 6 ≤ tz_j i) = False := nj_lef (by omega) (by omega)
    have ec := r_ch7 A i (by omega)
    have a3 : tz_j i + tz_j 1 = tz_j (i + 1) := nj_add
    have a4 : tz_j p + tz_j i = tz_j (p + i) := nj_add
    have es : wd_s T L 7 p (k + 1) i = if sg T L (p + i) = tz_j (wd_c 7 i) then wd_s T L 7 p k (i + 1) else i := rfl
    have hb := wd_b 7 i
    rw [es, e_X7_countSame_s7_2]
    by_cases y : L ≤ p + i
    · have n2 : (tz_j L ≤ tz_j (p + i)) = True := nj_let y (by omega)
      rw [sg_e y, if_neg (fun h => absurd (nj_inj (by omega) (by omega) h) (by omega))]
      simp only [tz_lit, nj_m1, nj_m2, nj_m3, nj_m4, nj_m5, nj_m6, nj_m7, ↓reduceIte, tz_bI_some, tz_bV_some, tz_bL_some, cj10, cj01, cjm0, eq_self, not_true_eq_false, not_false_eq_true, or_false, false_or, or_true, true_or, or_self, and_true, true_and, and_false, false_and, r_ln7, n1, q4, q5, a4, n2]
    · have n2 : (tz_j L ≤ tz_j (p + i)) = False := nj_lef (by omega) (by omega)
      have n3 := nj_ix8 (s := p + i) (n := 160) (by omega) (by omega)
      have c1 : (tz_j (p + i)).toNatClampNeg = p + i := nj_cl (by omega)
      have k1 := e (p + i) (by omega)
      rw [sg_i (by omega)]
      by_cases z : T (p + i) = tz_j (wd_c 7 i)
      · rw [if_pos z]
        simp only [tz_lit, nj_m1, nj_m2, nj_m3, nj_m4, nj_m5, nj_m6, nj_m7, ↓reduceIte, tz_bI_some, tz_bV_some, tz_bL_some, cj10, cj01, cjm0, eq_self, not_true_eq_false, not_false_eq_true, or_false, false_or, or_true, true_or, or_self, and_true, true_and, and_false, false_and, r_ln7, n1, q4, q5, a4, n2, n3, c1, ec, k1, z, a3]
        exact ih (i + 1) (by omega)
      · rw [if_neg z]
        simp only [tz_lit, nj_m1, nj_m2, nj_m3, nj_m4, nj_m5, nj_m6, nj_m7, ↓reduceIte, tz_bI_some, tz_bV_some, tz_bL_some, cj10, cj01, cjm0, eq_self, not_true_eq_false, not_false_eq_true, or_false, false_or, or_true, true_or, or_self, and_true, true_and, and_false, false_and, r_ln7, n1, q4, q5, a4, n2, n3, c1, ec, k1, z]
theorem r_ln8 (A : tz_Mem) : f_J0_length_s8 A = some (some (.int (tz_j 4)), A) := by
  rw [e_J0_length_s8, e_J0_coder_s8]
  rfl
theorem r_ch8 (A : tz_Mem) : ∀ i, i < 4 → f_J0_charAt_s8 (tz_j i) A = some (some (.int (tz_j (wd_c 8 i))), A) := by
  intro i hi
  have n1 : (tz_j i < tz_j 0) = False := nj_ltf (by omega) (by omega)
  have n2 : (tz_j i < tz_j 4) = True := nj_ltt (by omega) (by omega)
  have n3 : (4 ≤ i) = False := eq_false (by omega)
  have c1 : (tz_j i).toNatClampNeg = i := nj_cl (by omega)
  rw [e_J0_charAt_s8, e_J0_isLatin1_s8]
  simp only [tz_bI_some, tz_bV_some, tz_lit, cj10, ↓reduceIte]
  rw [e_J1_charAt_s14, e_J0_checkIndex, e_J3_checkIndex]
  simp only [tz_bI_some, tz_bV_some, tz_lit, ↓reduceIte, n1, n2, n3, c1, or_self]
  have hc : i = 0 ∨ i = 1 ∨ i = 2 ∨ i = 3 := by omega
  rcases hc with rfl | rfl | rfl | rfl <;> rfl
theorem r_cs8 {T : Nat → Int32} {L p : Nat} {S : tz_S} {A : tz_Mem} (hL : L ≤ 160) (hp : p ≤ L) (r : XRd T L p S A) : ∀ k i, i + k = 4 → q_X7_countSame_s8_2 (tz_j i) A = some (some (.int (tz_j (wd_s T L 8 p k i))), A) := by
  obtain ⟨a, b, q4, q5, e⟩ := r
  intro k
  induction k with
  | zero =>
    intro i hi
    obtain rfl : i = 4 := by omega
    have n1 : (tz_j 4 ≤ tz_j 4) = True := nj_let (Nat.le_refl _) (by omega)
    rw [e_X7_countSame_s8_2]
    simp only [tz_lit, nj_m1, nj_m2, nj_m3, nj_m4, nj_m5, nj_m6, nj_m7, ↓reduceIte, tz_bI_some, tz_bV_some, tz_bL_some, cj10, cj01, cjm0, eq_self, not_true_eq_false, not_false_eq_true, or_false, false_or, or_true, true_or, or_self, and_true, true_and, and_false, false_and, r_ln8, n1]
    rfl
  | succ k ih =>
    intro i hi
    have n1 : (tz_j 4 ≤ tz_j i) = False := nj_lef (by omega) (by omega)
    have ec := r_ch8 A i (by omega)
    have a3 : tz_j i + tz_j 1 = tz_j (i + 1) := nj_add
    have a4 : tz_j p + tz_j i = tz_j (p + i) := nj_add
    have es : wd_s T L 8 p (k + 1) i = if sg T L (p + i) = tz_j (wd_c 8 i) then wd_s T L 8 p k (i + 1) else i := rfl
    have hb := wd_b 8 i
    rw [es, e_X7_countSame_s8_2]
    by_cases y : L ≤ p + i
    · have n2 : (tz_j L ≤ tz_j (p + i)) = True := nj_let y (by omega)
      rw [sg_e y, if_neg (fun h => absurd (nj_inj (by omega) (by omega) h) (by omega))]
      simp only [tz_lit, nj_m1, nj_m2, nj_m3, nj_m4, nj_m5, nj_m6, nj_m7, ↓reduceIte, tz_bI_some, tz_bV_some, tz_bL_some, cj10, cj01, cjm0, eq_self, not_true_eq_false, not_false_eq_true, or_false, false_or, or_true, true_or, or_self, and_true, true_and, and_false, false_and, r_ln8, n1, q4, q5, a4, n2]
    · have n2 : (tz_j L ≤ tz_j (p + i)) = False := nj_lef (by omega) (by omega)
      have n3 := nj_ix8 (s := p + i) (n := 160) (by omega) (by omega)
      have c1 : (tz_j (p + i)).toNatClampNeg = p + i := nj_cl (by omega)
      have k1 := e (p + i) (by omega)
      rw [sg_i (by omega)]
      by_cases z : T (p + i) = tz_j (wd_c 8 i)
      · rw [if_pos z]
        simp only [tz_lit, nj_m1, nj_m2, nj_m3, nj_m4, nj_m5, nj_m6, nj_m7, ↓reduceIte, tz_bI_some, tz_bV_some, tz_bL_some, cj10, cj01, cjm0, eq_self, not_true_eq_false, not_false_eq_true, or_false, false_or, or_true, true_or, or_self, and_true, true_and, and_false, false_and, r_ln8, n1, q4, q5, a4, n2, n3, c1, ec, k1, z, a3]
        exact ih (i + 1) (by omega)
      · rw [if_neg z]
        simp only [tz_lit, nj_m1, nj_m2, nj_m3, nj_m4, nj_m5, nj_m6, nj_m7, ↓reduceIte, tz_bI_some, tz_bV_some, tz_bL_some, cj10, cj01, cjm0, eq_self, not_true_eq_false, not_false_eq_true, or_false, false_or, or_true, true_or, or_self, and_true, true_and, and_false, false_and, r_ln8, n1, q4, q5, a4, n2, n3, c1, ec, k1, z]
theorem r_ln9 (A : tz_Mem) : f_J0_length_s9 A = some (some (.int (tz_j 4)), A) := by
  rw [e_J0_length_s9, e_J0_coder_s9]
  rfl
theorem r_ch9 (A : tz_Mem) : ∀ i, i < 4 → f_J0_charAt_s9 (tz_j i) A = some (some (.int (tz_j (wd_c 9 i))), A) := by
  intro i hi
  have n1 : (tz_j i < tz_j 0) = False := nj_ltf (by omega) (by omega)
  have n2 : (tz_j i < tz_j 4) = True := nj_ltt (by omega) (by omega)
  have n3 : (4 ≤ i) = False := eq_false (by omega)
  have c1 : (tz_j i).toNatClampNeg = i := nj_cl (by omega)
  rw [e_J0_charAt_s9, e_J0_isLatin1_s9]
  simp only [tz_bI_some, tz_bV_some, tz_lit, cj10, ↓reduceIte]
  rw [e_J1_charAt_s15, e_J0_checkIndex, e_J3_checkIndex]
  simp only [tz_bI_some, tz_bV_some, tz_lit, ↓reduceIte, n1, n2, n3, c1, or_self]
  have hc : i = 0 ∨ i = 1 ∨ i = 2 ∨ i = 3 := by omega
  rcases hc with rfl | rfl | rfl | rfl <;> rfl
theorem t_wd9 {D : Nat → Int32} {T : Nat → Int32} {L s p : Nat} {S : tz_S} (hL : L ≤ 160) (hs : s < 8) : ∀ k i A, i + k = 4 → p + i ≤ L → MRd D T L s (p + i) S A → ∃ A', q_X12_word_s9_2 (tz_j i) A = some (some (.int (if wd_s T L 9 p k i = 4 then tz_j 1 else tz_j 0)), A') ∧ MRd D T L s (p + wd_s T L 9 p k i) S A' ∧ tz_fr t2_p A A' := by
  intro k
  induction k with
  | zero =>
    intro i A hi hp r
    obtain rfl : i = 4 := by omega
    have n1 : (tz_j 4 ≤ tz_j 4) = True := nj_let (Nat.le_refl _) (by omega)
    refine ⟨A, ?_, r, fr_rfl⟩
    rw [e_X12_word_s9_2]
    simp only [tz_lit, nj_m1, nj_m2, nj_m3, nj_m4, nj_m5, nj_m6, nj_m7, ↓reduceIte, tz_bI_some, tz_bV_some, tz_bL_some, cj10, cj01, cjm0, eq_self, not_true_eq_false, not_false_eq_true, or_false, false_or, or_true, true_or, or_self, and_true, true_and, and_false, false_and, r_ln9, n1, show wd_s T L 9 p 0 4 = 4 from rfl]
  | succ k ih =>
    intro i A hi hp r
    have n1 : (tz_j 4 ≤ tz_j i) = False := nj_lef (by omega) (by omega)
    have ec := r_ch9 A i (by omega)
    have a3 : tz_j i + tz_j 1 = tz_j (i + 1) := nj_add
    have es : wd_s T L 9 p (k + 1) i = if sg T L (p + i) = tz_j (wd_c 9 i) then wd_s T L 9 p k (i + 1) else i := rfl
    obtain ⟨i1, i2⟩ := t_is (c := wd_c 9 i) hL hs hp r
    have hb := wd_b 9 i
    rw [es, e_X12_word_s9_2]
    by_cases z : sg T L (p + i) = tz_j (wd_c 9 i)
    · rw [if_pos z]
      obtain ⟨e1, r1⟩ := i1 z
      have hlt := sg_lt (by omega) z
      obtain ⟨A', e, r', f⟩ := ih (i + 1) _ (by omega) (by omega) r1
      refine ⟨A', ?_, r', fr_tr (fr_s fr_rfl (Or.inl ⟨rfl, rfl⟩)) f⟩
      simp only [tz_lit, nj_m1, nj_m2, nj_m3, nj_m4, nj_m5, nj_m6, nj_m7, ↓reduceIte, tz_bI_some, tz_bV_some, tz_bL_some, cj10, cj01, cjm0, eq_self, not_true_eq_false, not_false_eq_true, or_false, false_or, or_true, true_or, or_self, and_true, true_and, and_false, false_and, r_ln9, n1, ec, e1, a3]
      exact e
    · rw [if_neg z]
      have e1 := i2 z
      refine ⟨A, ?_, r, fr_rfl⟩
      simp only [tz_lit, nj_m1, nj_m2, nj_m3, nj_m4, nj_m5, nj_m6, nj_m7, ↓reduceIte, tz_bI_some, tz_bV_some, tz_bL_some, cj10, cj01, cjm0, eq_self, not_true_eq_false, not_false_eq_true, or_false, false_or, or_true, true_or, or_self, and_true, true_and, and_false, false_and, r_ln9, n1, ec, e1, show (i = 4) = False from eq_false (by omega)]
theorem r_cs9 {T : Nat → Int32} {L p : Nat} {S : tz_S} {A : tz_Mem} (hL : L ≤ 160) (hp : p ≤ L) (r : XRd T L p S A) : ∀ k i, i + k = 4 → q_X7_countSame_s9_2 (tz_j i) A = some (some (.int (tz_j (wd_s T L 9 p k i))), A) := by
  obtain ⟨a, b, q4, q5, e⟩ := r
  intro k
  induction k with
  | zero =>
    intro i hi
    obtain rfl : i = 4 := by omega
    have n1 : (tz_j 4 ≤ tz_j 4) = True := nj_let (Nat.le_refl _) (by omega)
    rw [e_X7_countSame_s9_2]
    simp only [tz_lit, nj_m1, nj_m2, nj_m3, nj_m4, nj_m5, nj_m6, nj_m7, ↓reduceIte, tz_bI_some, tz_bV_some, tz_bL_some, cj10, cj01, cjm0, eq_self, not_true_eq_false, not_false_eq_true, or_false, false_or, or_true, true_or, or_self, and_true, true_and, and_false, false_and, r_ln9, n1]
    rfl
  | succ k ih =>
    intro i hi
    have n1 : (tz_j 4 ≤ tz_j i) = False := nj_lef (by omega) (by omega)
    have ec := r_ch9 A i (by omega)
    have a3 : tz_j i + tz_j 1 = tz_j (i + 1) := nj_add
    have a4 : tz_j p + tz_j i = tz_j (p + i) := nj_add
    have es : wd_s T L 9 p (k + 1) i = if sg T L (p + i) = tz_j (wd_c 9 i) then wd_s T L 9 p k (i + 1) else i := rfl
    have hb := wd_b 9 i
    rw [es, e_X7_countSame_s9_2]
    by_cases y : L ≤ p + i
    · have n2 : (tz_j L ≤ tz_j (p + i)) = True := nj_let y (by omega)
      rw [sg_e y, if_neg (fun h => absurd (nj_inj (by omega) (by omega) h) (by omega))]
      simp only [tz_lit, nj_m1, nj_m2, nj_m3, nj_m4, nj_m5, nj_m6, nj_m7, ↓reduceIte, tz_bI_some, tz_bV_some, tz_bL_some, cj10, cj01, cjm0, eq_self, not_true_eq_false, not_false_eq_true, or_false, false_or, or_true, true_or, or_self, and_true, true_and, and_false, false_and, r_ln9, n1, q4, q5, a4, n2]
    · have n2 : (tz_j L ≤ tz_j (p + i)) = False := nj_lef (by omega) (by omega)
      have n3 := nj_ix8 (s := p + i) (n := 160) (by omega) (by omega)
      have c1 : (tz_j (p + i)).toNatClampNeg = p + i := nj_cl (by omega)
      have k1 := e (p + i) (by omega)
      rw [sg_i (by omega)]
      by_cases z : T (p + i) = tz_j (wd_c 9 i)
      · rw [if_pos z]
        simp only [tz_lit, nj_m1, nj_m2, nj_m3, nj_m4, nj_m5, nj_m6, nj_m7, ↓reduceIte, tz_bI_some, tz_bV_some, tz_bL_some, cj10, cj01, cjm0, eq_self, not_true_eq_false, not_false_eq_true, or_false, false_or, or_true, true_or, or_self, and_true, true_and, and_false, false_and, r_ln9, n1, q4, q5, a4, n2, n3, c1, ec, k1, z, a3]
        exact ih (i + 1) (by omega)
      · rw [if_neg z]
        simp only [tz_lit, nj_m1, nj_m2, nj_m3, nj_m4, nj_m5, nj_m6, nj_m7, ↓reduceIte, tz_bI_some, tz_bV_some, tz_bL_some, cj10, cj01, cjm0, eq_self, not_true_eq_false, not_false_eq_true, or_false, false_or, or_true, true_or, or_self, and_true, true_and, and_false, false_and, r_ln9, n1, q4, q5, a4, n2, n3, c1, ec, k1, z]
theorem r_ln10 (A : tz_Mem) : f_J0_length_s10 A = some (some (.int (tz_j 3)), A) := by
  rw [e_J0_length_s10, e_J0_coder_s10]
  rfl
theorem r_ch10 (A : tz_Mem) : ∀ i, i < 3 → f_J0_charAt_s10 (tz_j i) A = some (some (.int (tz_j (wd_c 10 i))), A) := by
  intro i hi
  have n1 : (tz_j i < tz_j 0) = False := nj_ltf (by omega) (by omega)
  have n2 : (tz_j i < tz_j 3) = True := nj_ltt (by omega) (by omega)
  have n3 : (3 ≤ i) = False := eq_false (by omega)
  have c1 : (tz_j i).toNatClampNeg = i := nj_cl (by omega)
  rw [e_J0_charAt_s10, e_J0_isLatin1_s10]
  simp only [tz_bI_some, tz_bV_some, tz_lit, cj10, ↓reduceIte]
  rw [e_J1_charAt_s16, e_J0_checkIndex, e_J3_checkIndex]
  simp only [tz_bI_some, tz_bV_some, tz_lit, ↓reduceIte, n1, n2, n3, c1, or_self]
  have hc : i = 0 ∨ i = 1 ∨ i = 2 := by omega
  rcases hc with rfl | rfl | rfl <;> rfl
theorem t_wd10 {D : Nat → Int32} {T : Nat → Int32} {L s p : Nat} {S : tz_S} (hL : L ≤ 160) (hs : s < 8) : ∀ k i A, i + k = 3 → p + i ≤ L → MRd D T L s (p + i) S A → ∃ A', q_X12_word_s10_2 (tz_j i) A = some (some (.int (if wd_s T L 10 p k i = 3 then tz_j 1 else tz_j 0)), A') ∧ MRd D T L s (p + wd_s T L 10 p k i) S A' ∧ tz_fr t2_p A A' := by
  intro k
  induction k with
  | zero =>
    intro i A hi hp r
    obtain rfl : i = 3 := by omega
    have n1 : (tz_j 3 ≤ tz_j 3) = True := nj_let (Nat.le_refl _) (by omega)
    refine ⟨A, ?_, r, fr_rfl⟩
    rw [e_X12_word_s10_2]
    simp only [tz_lit, nj_m1, nj_m2, nj_m3, nj_m4, nj_m5, nj_m6, nj_m7, ↓reduceIte, tz_bI_some, tz_bV_some, tz_bL_some, cj10, cj01, cjm0, eq_self, not_true_eq_false, not_false_eq_true, or_false, false_or, or_true, true_or, or_self, and_true, true_and, and_false, false_and, r_ln10, n1, show wd_s T L 10 p 0 3 = 3 from rfl]
  | succ k ih =>
    intro i A hi hp r
    have n1 : (tz_j 3 ≤ tz_j i) = False := nj_lef (by omega) (by omega)
    have ec := r_ch10 A i (by omega)
    have a3 : tz_j i + tz_j 1 = tz_j (i + 1) := nj_add
    have es : wd_s T L 10 p (k + 1) i = if sg T L (p + i) = tz_j (wd_c 10 i) then wd_s T L 10 p k (i + 1) else i := rfl
    obtain ⟨i1, i2⟩ := t_is (c := wd_c 10 i) hL hs hp r
    have hb := wd_b 10 i
    rw [es, e_X12_word_s10_2]
    by_cases z : sg T L (p + i) = tz_j (wd_c 10 i)
    · rw [if_pos z]
      obtain ⟨e1, r1⟩ := i1 z
      have hlt := sg_lt (by omega) z
      obtain ⟨A', e, r', f⟩ := ih (i + 1) _ (by omega) (by omega) r1
      refine ⟨A', ?_, r', fr_tr (fr_s fr_rfl (Or.inl ⟨rfl, rfl⟩)) f⟩
      simp only [tz_lit, nj_m1, nj_m2, nj_m3, nj_m4, nj_m5, nj_m6, nj_m7, ↓reduceIte, tz_bI_some, tz_bV_some, tz_bL_some, cj10, cj01, cjm0, eq_self, not_true_eq_false, not_false_eq_true, or_false, false_or, or_true, true_or, or_self, and_true, true_and, and_false, false_and, r_ln10, n1, ec, e1, a3]
      exact e
    · rw [if_neg z]
      have e1 := i2 z
      refine ⟨A, ?_, r, fr_rfl⟩
      simp only [tz_lit, nj_m1, nj_m2, nj_m3, nj_m4, nj_m5, nj_m6, nj_m7, ↓reduceIte, tz_bI_some, tz_bV_some, tz_bL_some, cj10, cj01, cjm0, eq_self, not_true_eq_false, not_false_eq_true, or_false, false_or, or_true, true_or, or_self, and_true, true_and, and_false, false_and, r_ln10, n1, ec, e1, show (i = 3) = False from eq_false (by omega)]
theorem mx_e {a b : Nat} (ha : a < 1000) (hb : b < 1000) : (if tz_j a < tz_j b then tz_j b else tz_j a) = tz_j (max a b) := by
  by_cases z : a < b
  · rw [if_pos (by rw [nj_lt (by omega) (by omega)]; exact z), show max a b = b by omega]
  · rw [if_neg (by rw [nj_lt (by omega) (by omega)]; exact z), show max a b = a by omega]
def wd_a (T : Nat → Int32) (L p w : Nat) : Nat := wd_s T L w p (wd_n w) 0
theorem wd_al {T : Nat → Int32} {L p w : Nat} : wd_a T L p w ≤ wd_n w := by
  have := (wd_le (T := T) (L := L) (w := w) (p := p) (wd_n w) 0).2
  unfold wd_a
  omega
theorem wd_n6 (w : Nat) : wd_n w ≤ 6 := by
  unfold wd_n
  repeat' split
  all_goals omega
theorem r_rw4 {T : Nat → Int32} {L p m : Nat} {S : tz_S} {A : tz_Mem} (hL : L ≤ 160) (hp : p ≤ L) (hm : m ≤ 6) (r : XRd T L p S A) : (wd_a T L p 9 = 4 → q_X7_readWord_4 (tz_j m) (tz_j 4) A = some (some (.int (tz_j 4)), tz_s A 122 5 (tz_j (p + 4)))) ∧ (wd_a T L p 9 ≠ 4 → q_X7_readWord_4 (tz_j m) (tz_j 4) A = q_X7_readWord_4 (tz_j (max m (wd_a T L p 9))) (tz_j 5) A) := by
  have e1 := r_cs9 hL hp r 4 0 (by omega)
  have ea : wd_s T L 9 p 4 0 = wd_a T L p 9 := rfl
  rw [ea] at e1
  have hle : wd_a T L p 9 ≤ 4 := wd_al
  have e2 : f_X7_countSame_s9 A = some (some (.int (tz_j (wd_a T L p 9))), A) := by
    rw [e_X7_countSame_s9]
    exact e1
  have q5 := r.2.2.2.1
  have n1 : (tz_j 5 ≤ tz_j 4) = False := nj_lef (by omega) (by omega)
  rw [e_X7_readWord_4 (tz_j m) (tz_j 4)]
  refine ⟨fun z => ?_, fun z => ?_⟩
  · have n2 : (tz_j (wd_a T L p 9) = tz_j 4) = True := nj_eqt z
    have a4 : tz_j p + tz_j (wd_a T L p 9) = tz_j (p + 4) := by rw [nj_add, z]
    simp (disch := omega) only [tz_lit, nj_m1, nj_m2, nj_m3, nj_m4, nj_m5, nj_m6, nj_m7, ↓reduceIte, tz_bI_some, tz_bV_some, tz_bL_some, cj10, cj01, cjm0, eq_self, not_true_eq_false, not_false_eq_true, or_false, false_or, or_true, true_or, or_self, and_true, true_and, and_false, false_and, nj_eqf, nj_ltt, nj_ltf, nj_let, nj_lef, nj_cl, nt_lef, ng_ltt, ng_let, ng_gtf, ng_gef, n1, e2, r_ln9, n2, q5, a4]
  · have n2 : (tz_j (wd_a T L p 9) = tz_j 4) = False := nj_eqf z (by omega) (by omega)
    have a4 := mx_e (a := m) (b := wd_a T L p 9) (by omega) (by omega)
    have a5 : tz_j 4 + tz_j 1 = tz_j 5 := nj_add
    simp (disch := omega) only [tz_lit, nj_m1, nj_m2, nj_m3, nj_m4, nj_m5, nj_m6, nj_m7, ↓reduceIte, tz_bI_some, tz_bV_some, tz_bL_some, cj10, cj01, cjm0, eq_self, not_true_eq_false, not_false_eq_true, or_false, false_or, or_true, true_or, or_self, and_true, true_and, and_false, false_and, nj_eqf, nj_ltt, nj_ltf, nj_let, nj_lef, nj_cl, nt_lef, ng_ltt, ng_let, ng_gtf, ng_gef, n1, e2, r_ln9, n2, a4, a5]
theorem r_rw3 {T : Nat → Int32} {L p m : Nat} {S : tz_S} {A : tz_Mem} (hL : L ≤ 160) (hp : p ≤ L) (hm : m ≤ 6) (r : XRd T L p S A) : (wd_a T L p 8 = 4 → q_X7_readWord_4 (tz_j m) (tz_j 3) A = some (some (.int (tz_j 3)), tz_s A 122 5 (tz_j (p + 4)))) ∧ (wd_a T L p 8 ≠ 4 → q_X7_readWord_4 (tz_j m) (tz_j 3) A = q_X7_readWord_4 (tz_j (max m (wd_a T L p 8))) (tz_j 4) A) := by
  have e1 := r_cs8 hL hp r 4 0 (by omega)
  have ea : wd_s T L 8 p 4 0 = wd_a T L p 8 := rfl
  rw [ea] at e1
  have hle : wd_a T L p 8 ≤ 4 := wd_al
  have e2 : f_X7_countSame_s8 A = some (some (.int (tz_j (wd_a T L p 8))), A) := by
    rw [e_X7_countSame_s8]
    exact e1
  have q5 := r.2.2.2.1
  have n1 : (tz_j 5 ≤ tz_j 3) = False := nj_lef (by omega) (by omega)
  rw [e_X7_readWord_4 (tz_j m) (tz_j 3)]
  refine ⟨fun z => ?_, fun z => ?_⟩
  · have n2 : (tz_j (wd_a T L p 8) = tz_j 4) = True := nj_eqt z
    have a4 : tz_j p + tz_j (wd_a T L p 8) = tz_j (p + 4) := by rw [nj_add, z]
    simp (disch := omega) only [tz_lit, nj_m1, nj_m2, nj_m3, nj_m4, nj_m5, nj_m6, nj_m7, ↓reduceIte, tz_bI_some, tz_bV_some, tz_bL_some, cj10, cj01, cjm0, eq_self, not_true_eq_false, not_false_eq_true, or_false, false_or, or_true, true_or, or_self, and_true, true_and, and_false, false_and, nj_eqf, nj_ltt, nj_ltf, nj_let, nj_lef, nj_cl, nt_lef, ng_ltt, ng_let, ng_gtf, ng_gef, n1, e2, r_ln8, n2, q5, a4]
  · have n2 : (tz_j (wd_a T L p 8) = tz_j 4) = False := nj_eqf z (by omega) (by omega)
    have a4 := mx_e (a := m) (b := wd_a T L p 8) (by omega) (by omega)
    have a5 : tz_j 3 + tz_j 1 = tz_j 4 := nj_add
    simp (disch := omega) only [tz_lit, nj_m1, nj_m2, nj_m3, nj_m4, nj_m5, nj_m6, nj_m7, ↓reduceIte, tz_bI_some, tz_bV_some, tz_bL_some, cj10, cj01, cjm0, eq_self, not_true_eq_false, not_false_eq_true, or_false, false_or, or_true, true_or, or_self, and_true, true_and, and_false, false_and, nj_eqf, nj_ltt, nj_ltf, nj_let, nj_lef, nj_cl, nt_lef, ng_ltt, ng_let, ng_gtf, ng_gef, n1, e2, r_ln8, n2, a4, a5]
theorem r_rw2 {T : Nat → Int32} {L p m : Nat} {S : tz_S} {A : tz_Mem} (hL : L ≤ 160) (hp : p ≤ L) (hm : m ≤ 6) (r : XRd T L p S A) : (wd_a T L p 7 = 6 → q_X7_readWord_4 (tz_j m) (tz_j 2) A = some (some (.int (tz_j 2)), tz_s A 122 5 (tz_j (p + 6)))) ∧ (wd_a T L p 7 ≠ 6 → q_X7_readWord_4 (tz_j m) (tz_j 2) A = q_X7_readWord_4 (tz_j (max m (wd_a T L p 7))) (tz_j 3) A) := by
  have e1 := r_cs7 hL hp r 6 0 (by omega)
  have ea : wd_s T L 7 p 6 0 = wd_a T L p 7 := rfl
  rw [ea] at e1
  have hle : wd_a T L p 7 ≤ 6 := wd_al
  have e2 : f_X7_countSame_s7 A = some (some (.int (tz_j (wd_a T L p 7))), A) := by
    rw [e_X7_countSame_s7]
    exact e1
  have q5 := r.2.2.2.1
  have n1 : (tz_j 5 ≤ tz_j 2) = False := nj_lef (by omega) (by omega)
  rw [e_X7_readWord_4 (tz_j m) (tz_j 2)]
  refine ⟨fun z => ?_, fun z => ?_⟩
  · have n2 : (tz_j (wd_a T L p 7) = tz_j 6) = True := nj_eqt z
    have a4 : tz_j p + tz_j (wd_a T L p 7) = tz_j (p + 6) := by rw [nj_add, z]
    simp (disch := omega) only [tz_lit, nj_m1, nj_m2, nj_m3, nj_m4, nj_m5, nj_m6, nj_m7, ↓reduceIte, tz_bI_some, tz_bV_some, tz_bL_some, cj10, cj01, cjm0, eq_self, not_true_eq_false, not_false_eq_true, or_false, false_or, or_true, true_or, or_self, and_true, true_and, and_false, false_and, nj_eqf, nj_ltt, nj_ltf, nj_let, nj_lef, nj_cl, nt_lef, ng_ltt, ng_let, ng_gtf, ng_gef, n1, e2, r_ln7, n2, q5, a4]
  · have n2 : (tz_j (wd_a T L p 7) = tz_j 6) = False := nj_eqf z (by omega) (by omega)
    have a4 := mx_e (a := m) (b := wd_a T L p 7) (by omega) (by omega)
    have a5 : tz_j 2 + tz_j 1 = tz_j 3 := nj_add
    simp (disch := omega) only [tz_lit, nj_m1, nj_m2, nj_m3, nj_m4, nj_m5, nj_m6, nj_m7, ↓reduceIte, tz_bI_some, tz_bV_some, tz_bL_some, cj10, cj01, cjm0, eq_self, not_true_eq_false, not_false_eq_true, or_false, false_or, or_true, true_or, or_self, and_true, true_and, and_false, false_and, nj_eqf, nj_ltt, nj_ltf, nj_let, nj_lef, nj_cl, nt_lef, ng_ltt, ng_let, ng_gtf, ng_gef, n1, e2, r_ln7, n2, a4, a5]
theorem r_rw1 {T : Nat → Int32} {L p m : Nat} {S : tz_S} {A : tz_Mem} (hL : L ≤ 160) (hp : p ≤ L) (hm : m ≤ 6) (r : XRd T L p S A) : (wd_a T L p 6 = 5 → q_X7_readWord_4 (tz_j m) (tz_j 1) A = some (some (.int (tz_j 1)), tz_s A 122 5 (tz_j (p + 5)))) ∧ (wd_a T L p 6 ≠ 5 → q_X7_readWord_4 (tz_j m) (tz_j 1) A = q_X7_readWord_4 (tz_j (max m (wd_a T L p 6))) (tz_j 2) A) := by
  have e1 := r_cs6 hL hp r 5 0 (by omega)
  have ea : wd_s T L 6 p 5 0 = wd_a T L p 6 := rfl
  rw [ea] at e1
  have hle : wd_a T L p 6 ≤ 5 := wd_al
  have e2 : f_X7_countSame_s6 A = some (some (.int (tz_j (wd_a T L p 6))), A) := by
    rw [e_X7_countSame_s6]
    exact e1
  have q5 := r.2.2.2.1
  have n1 : (tz_j 5 ≤ tz_j 1) = False := nj_lef (by omega) (by omega)
  rw [e_X7_readWord_4 (tz_j m) (tz_j 1)]
  refine ⟨fun z => ?_, fun z => ?_⟩
  · have n2 : (tz_j (wd_a T L p 6) = tz_j 5) = True := nj_eqt z
    have a4 : tz_j p + tz_j (wd_a T L p 6) = tz_j (p + 5) := by rw [nj_add, z]
    simp (disch := omega) only [tz_lit, nj_m1, nj_m2, nj_m3, nj_m4, nj_m5, nj_m6, nj_m7, ↓reduceIte, tz_bI_some, tz_bV_some, tz_bL_some, cj10, cj01, cjm0, eq_self, not_true_eq_false, not_false_eq_true, or_false, false_or, or_true, true_or, or_self, and_true, true_and, and_false, false_and, nj_eqf, nj_ltt, nj_ltf, nj_let, nj_lef, nj_cl, nt_lef, ng_ltt, ng_let, ng_gtf, ng_gef, n1, e2, r_ln6, n2, q5, a4]
  · have n2 : (tz_j (wd_a T L p 6) = tz_j 5) = False := nj_eqf z (by omega) (by omega)
    have a4 := mx_e (a := m) (b := wd_a T L p 6) (by omega) (by omega)
    have a5 : tz_j 1 + tz_j 1 = tz_j 2 := nj_add
    simp (disch := omega) only [tz_lit, nj_m1, nj_m2, nj_m3, nj_m4, nj_m5, nj_m6, nj_m7, ↓reduceIte, tz_bI_some, tz_bV_some, tz_bL_some, cj10, cj01, cjm0, eq_self, not_true_eq_false, not_false_eq_true, or_false, false_or, or_true, true_or, or_self, and_true, true_and, and_false, false_and, nj_eqf, nj_ltt, nj_ltf, nj_let, nj_lef, nj_cl, nt_lef, ng_ltt, ng_let, ng_gtf, ng_gef, n1, e2, r_ln6, n2, a4, a5]
theorem r_rw0 {T : Nat → Int32} {L p m : Nat} {S : tz_S} {A : tz_Mem} (hL : L ≤ 160) (hp : p ≤ L) (hm : m ≤ 6) (r : XRd T L p S A) : (wd_a T L p 5 = 4 → q_X7_readWord_4 (tz_j m) (tz_j 0) A = some (some (.int (tz_j 0)), tz_s A 122 5 (tz_j (p + 4)))) ∧ (wd_a T L p 5 ≠ 4 → q_X7_readWord_4 (tz_j m) (tz_j 0) A = q_X7_readWord_4 (tz_j (max m (wd_a T L p 5))) (tz_j 1) A) := by
  have e1 := r_cs5 hL hp r 4 0 (by omega)
  have ea : wd_s T L 5 p 4 0 = wd_a T L p 5 := rfl
  rw [ea] at e1
  have hle : wd_a T L p 5 ≤ 4 := wd_al
  have e2 : f_X7_countSame_s5 A = some (some (.int (tz_j (wd_a T L p 5))), A) := by
    rw [e_X7_countSame_s5]
    exact e1
  have q5 := r.2.2.2.1
  have n1 : (tz_j 5 ≤ tz_j 0) = False := nj_lef (by omega) (by omega)
  rw [e_X7_readWord_4 (tz_j m) (tz_j 0)]
  refine ⟨fun z => ?_, fun z => ?_⟩
  · have n2 : (tz_j (wd_a T L p 5) = tz_j 4) = True := nj_eqt z
    have a4 : tz_j p + tz_j (wd_a T L p 5) = tz_j (p + 4) := by rw [nj_add, z]
    simp (disch := omega) only [tz_lit, nj_m1, nj_m2, nj_m3, nj_m4, nj_m5, nj_m6, nj_m7, ↓reduceIte, tz_bI_some, tz_bV_some, tz_bL_some, cj10, cj01, cjm0, eq_self, not_true_eq_false, not_false_eq_true, or_false, false_or, or_true, true_or, or_self, and_true, true_and, and_false, false_and, nj_eqf, nj_ltt, nj_ltf, nj_let, nj_lef, nj_cl, nt_lef, ng_ltt, ng_let, ng_gtf, ng_gef, n1, e2, r_ln5, n2, q5, a4]
  · have n2 : (tz_j (wd_a T L p 5) = tz_j 4) = False := nj_eqf z (by omega) (by omega)
    have a4 := mx_e (a := m) (b := wd_a T L p 5) (by omega) (by omega)
    have a5 : tz_j 0 + tz_j 1 = tz_j 1 := nj_add
    simp (disch := omega) only [tz_lit, nj_m1, nj_m2, nj_m3, nj_m4, nj_m5, nj_m6, nj_m7, ↓reduceIte, tz_bI_some, tz_bV_some, tz_bL_some, cj10, cj01, cjm0, eq_self, not_true_eq_false, not_false_eq_true, or_false, false_or, or_true, true_or, or_self, and_true, true_and, and_false, false_and, nj_eqf, nj_ltt, nj_ltf, nj_let, nj_lef, nj_cl, nt_lef, ng_ltt, ng_let, ng_gtf, ng_gef, n1, e2, r_ln5, n2, a4, a5]
theorem r_rw5 {T : Nat → Int32} {L p m : Nat} {S : tz_S} {A : tz_Mem} (hL : L ≤ 160) (hp : p ≤ L) (hm : m ≤ 6) (r : XRd T L p S A) : q_X7_readWord_4 (tz_j m) (tz_j 5) A = some (some (.int (tz_j 4294967295)), tz_s A 122 0 (tz_j (p + m))) := by
  have q5 := r.2.2.2.1
  have n1 : (tz_j 5 ≤ tz_j 5) = True := nj_let (Nat.le_refl _) (by omega)
  have a4 : tz_j p + tz_j m = tz_j (p + m) := nj_add
  rw [e_X7_readWord_4]
  simp only [tz_lit, nj_m1, nj_m2, nj_m3, nj_m4, nj_m5, nj_m6, nj_m7, ↓reduceIte, tz_bI_some, tz_bV_some, tz_bL_some, cj10, cj01, cjm0, eq_self, not_true_eq_false, not_false_eq_true, or_false, false_or, or_true, true_or, or_self, and_true, true_and, and_false, false_and, n1, q5, a4]
