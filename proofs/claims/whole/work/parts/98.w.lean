/-! item storm: its way, hill by hill -/
theorem XRd_147 {T : Nat → Int32} {L p j : Nat} {v : Int32} {S : tz_S} {A : tz_Mem} (r : XRd T L p S A) : XRd T L p S (tz_s A 147 j v) := by
  obtain ⟨a, b, c, d, e⟩ := r
  exact ⟨rx_mv a (fun k i h1 h2 => tz_gsk (by omega)) rfl (Or.inr (fun k i h1 h2 => tz_gsk (by omega))), (tz_gsk (by omega)).trans b, (tz_gsk (by omega)).trans c, (tz_gsk (by omega)).trans d, fun j hj => (tz_gsk (by omega)).trans (e j hj)⟩
theorem ry_147 {A : tz_Mem} {j : Nat} {v : Int32} : tz_fx ry_p A (tz_s A 147 j v) := fx_s fx_rfl (by unfold ry_p; omega)
def wy_F (T : Nat → Int32) (L s p n fd : Nat) (S : tz_S) (wy : Nat → Nat) : Prop := ∃ f, f ≤ L ∧ (∀ A, XRd T L p S A → tz_g A 122 6 = tz_j fd → (∀ j, j < n → tz_g A 147 j = tz_j (wy j)) → ∃ y A', q_X7_readWay_4 (tz_j n) (tz_j (wy (n - 1))) A = some (some (.int y), A') ∧ tz_g A' 122 0 = tz_j f ∧ tz_fx ry_p A A') ∧ ∀ D B z2, MRd D T L s p S B → (∀ j, j < n → tz_g B 183 (3 + j) = tz_j (wy j)) → (2 ≤ n → z2 = tz_j fd) → ∃ B', q_X12_ways_24 (tz_j n) z2 B = some (some (.int (tz_j 0)), B') ∧ tz_g B' 157 40 = tz_j f ∧ tz_fr t2_p B B'
def wy_G (T : Nat → Int32) (L s p n fd : Nat) (S : tz_S) (wy : Nat → Nat) : Prop := ∃ (n' : Nat) (wy' : Nat → Nat) (q : Nat), p ≤ q ∧ q ≤ L ∧ 2 ≤ n' ∧ n' ≤ 6 ∧ (∀ j, j < n' → wy' j < S 1 0) ∧ (∀ A, XRd T L p S A → tz_g A 122 6 = tz_j fd → (∀ j, j < n → tz_g A 147 j = tz_j (wy j)) → ∃ A', q_X7_readWay_4 (tz_j n) (tz_j (wy (n - 1))) A = some (some (.int (tz_j n')), A') ∧ XRd T L q S A' ∧ (∀ j, j < n' → tz_g A' 147 j = tz_j (wy' j)) ∧ tz_fx ry_p A A') ∧ ∀ D B z2, MRd D T L s p S B → (∀ j, j < n → tz_g B 183 (3 + j) = tz_j (wy j)) → (2 ≤ n → z2 = tz_j fd) → ∃ B', q_X12_ways_24 (tz_j n) z2 B = q_X12_ways_108 (tz_j n') (tz_j 0) (tz_s B' 165 (S 7 0) (tz_j n')) ∧ MRd D T L s q S B' ∧ (∀ j, j < n' → tz_g B' 183 (3 + j) = tz_j (wy' j)) ∧ (∀ j, j < 3 → tz_g B' 183 j = tz_g B 183 j) ∧ tz_fr t2_p B B'
theorem wy_exit {T : Nat → Int32} {L s p n fd : Nat} {S : tz_S} {wy : Nat → Nat} (hL : L ≤ 160) (hs : s < 8) (hp : p ≤ L) (hfd : fd ≤ L) (W : sp_W1 S) (h7 : S 7 0 < 4) (h2 : 2 ≤ n) (h6 : n ≤ 6) (hwy : ∀ j, j < n → wy j < S 1 0) (he : n = 6 ∨ sg T L p ≠ tz_j 32) : wy_F T L s p n fd S wy ∨ wy_G T L s p n fd S wy := by
  have w1 := W.1
  have n1 : (tz_j n < tz_j 2) = False := nj_ltf (by omega) (by omega)
  have hl := hwy (n - 1) (by omega)
  have h0 := hwy 0 (by omega)
  have a1 : tz_j 2 + tz_j n = tz_j (2 + n) := nj_add
  have n3 := nj_ix8 (s := 2 + n) (n := 10) (by omega) (by omega)
  have c1 : (tz_j (2 + n)).toNatClampNeg = 2 + n := nj_cl (by omega)
  have n4 := nj_ix8 (s := S 7 0) (n := 4) (by omega) (by omega)
  have c4 : (tz_j (S 7 0)).toNatClampNeg = S 7 0 := nj_cl (by omega)
  have z03 : (tz_j 3 < tz_j 0 ∨ 10 ≤ 3) = False := nj_ix8 (s := 3) (n := 10) (by omega) (by omega)
  have z00 : (tz_j 0 < tz_j 0 ∨ 6 ≤ 0) = False := nj_ix8 (s := 0) (n := 6) (by omega) (by omega)
  -- the class's end, the model's
  have cx : ∀ A, XRd T L p S A → tz_g A 122 6 = tz_j fd → (∀ j, j < n → tz_g A 147 j = tz_j (wy j)) → q_X7_readWay_4 (tz_j n) (tz_j (wy (n - 1))) A = if wy (n - 1) = wy 0 then some (some (.int (tz_j n)), tz_s A 122 0 (tz_j fd)) else some (some (.int (tz_j n)), A) := by
    intro A r q6 q147
    have q0 := r.2.1
    have k0 := q147 0 (by omega)
    have est := r_st (c := 32) hL hp (by omega) r
    rw [e_X7_readWay_4]
    by_cases y : wy (n - 1) = wy 0
    · have n5 : (tz_j (wy (n - 1)) = tz_j (wy 0)) = True := nj_eqt y
      rw [if_pos y]
      rcases he with h | h
      · have n2 : (tz_j 6 ≤ tz_j n) = True := nj_let (by omega) (by omega)
        simp only [tz_lit, nj_m1, nj_m2, nj_m3, nj_m4, nj_m5, nj_m6, nj_m7, ↓reduceIte, tz_bI_some, tz_bV_some, tz_bL_some, cj10, cj01, cjm0, eq_self, not_true_eq_false, not_false_eq_true, or_false, false_or, or_true, true_or, or_self, and_true, true_and, and_false, false_and, q0, n1, n2, z00, k0, n5, q6]
      · rw [if_neg h] at est
        by_cases h' : n = 6
        · have n2 : (tz_j 6 ≤ tz_j n) = True := nj_let (by omega) (by omega)
          simp only [tz_lit, nj_m1, nj_m2, nj_m3, nj_m4, nj_m5, nj_m6, nj_m7, ↓reduceIte, tz_bI_some, tz_bV_some, tz_bL_some, cj10, cj01, cjm0, eq_self, not_true_eq_false, not_false_eq_true, or_false, false_or, or_true, true_or, or_self, and_true, true_and, and_false, false_and, q0, n1, n2, z00, k0, n5, q6]
        · have n2 : (tz_j 6 ≤ tz_j n) = False := nj_lef (by omega) (by omega)
          simp only [tz_lit, nj_m1, nj_m2, nj_m3, nj_m4, nj_m5, nj_m6, nj_m7, ↓reduceIte, tz_bI_some, tz_bV_some, tz_bL_some, cj10, cj01, cjm0, eq_self, not_true_eq_false, not_false_eq_true, or_false, false_or, or_true, true_or, or_self, and_true, true_and, and_false, false_and, q0, n1, n2, z00, k0, n5, q6, est]
    · have n5 : (tz_j (wy (n - 1)) = tz_j (wy 0)) = False := nj_eqf y (by omega) (by omega)
      rw [if_neg y]
      rcases he with h | h
      · have n2 : (tz_j 6 ≤ tz_j n) = True := nj_let (by omega) (by omega)
        simp only [tz_lit, nj_m1, nj_m2, nj_m3, nj_m4, nj_m5, nj_m6, nj_m7, ↓reduceIte, tz_bI_some, tz_bV_some, tz_bL_some, cj10, cj01, cjm0, eq_self, not_true_eq_false, not_false_eq_true, or_false, false_or, or_true, true_or, or_self, and_true, true_and, and_false, false_and, q0, n1, n2, z00, k0, n5, q6]
      · rw [if_neg h] at est
        by_cases h' : n = 6
        · have n2 : (tz_j 6 ≤ tz_j n) = True := nj_let (by omega) (by omega)
          simp only [tz_lit, nj_m1, nj_m2, nj_m3, nj_m4, nj_m5, nj_m6, nj_m7, ↓reduceIte, tz_bI_some, tz_bV_some, tz_bL_some, cj10, cj01, cjm0, eq_self, not_true_eq_false, not_false_eq_true, or_false, false_or, or_true, true_or, or_self, and_true, true_and, and_false, false_and, q0, n1, n2, z00, k0, n5, q6]
        · have n2 : (tz_j 6 ≤ tz_j n) = False := nj_lef (by omega) (by omega)
          simp only [tz_lit, nj_m1, nj_m2, nj_m3, nj_m4, nj_m5, nj_m6, nj_m7, ↓reduceIte, tz_bI_some, tz_bV_some, tz_bL_some, cj10, cj01, cjm0, eq_self, not_true_eq_false, not_false_eq_true, or_false, false_or, or_true, true_or, or_self, and_true, true_and, and_false, false_and, q0, n1, n2, z00, k0, n5, q6, est]
  have mx : ∀ D B, MRd D T L s p S B → (∀ j, j < n → tz_g B 183 (3 + j) = tz_j (wy j)) → q_X12_ways_24 (tz_j n) (tz_j fd) B = if wy (n - 1) = wy 0 then some (some (.int (tz_j 0)), tz_s B 157 40 (tz_j fd)) else q_X12_ways_108 (tz_j n) (tz_j 0) (tz_s B 165 (S 7 0) (tz_j n)) := by
    intro D B r q183
    have k8 : tz_g B 157 8 = tz_j (S 7 0) := cm_8 r.1.1
    have kl : tz_g B 183 (2 + n) = tz_j (wy (n - 1)) := by
      have := q183 (n - 1) (by omega)
      rw [show 3 + (n - 1) = 2 + n by omega] at this
      exact this
    have k0 : tz_g B 183 3 = tz_j (wy 0) := q183 0 (by omega)
    have est := t_sg hL hs hp r
    rw [e_X12_ways_24]
    by_cases y : wy (n - 1) = wy 0
    · have n5 : (tz_j (wy (n - 1)) = tz_j (wy 0)) = True := nj_eqt y
      rw [if_pos y]
      by_cases h' : n = 6
      · have n2 : (tz_j 6 ≤ tz_j n) = True := nj_let (by omega) (by omega)
        simp only [tz_lit, nj_m1, nj_m2, nj_m3, nj_m4, nj_m5, nj_m6, nj_m7, ↓reduceIte, tz_bI_some, tz_bV_some, tz_bL_some, cj10, cj01, cjm0, eq_self, not_true_eq_false, not_false_eq_true, or_false, false_or, or_true, true_or, or_self, and_true, true_and, and_false, false_and, n1, n2, a1, n3, c1, z03, kl, k0, n5]
      · have n2 : (tz_j 6 ≤ tz_j n) = False := nj_lef (by omega) (by omega)
        have n6 := eq_false (he.resolve_left h')
        simp only [tz_lit, nj_m1, nj_m2, nj_m3, nj_m4, nj_m5, nj_m6, nj_m7, ↓reduceIte, tz_bI_some, tz_bV_some, tz_bL_some, cj10, cj01, cjm0, eq_self, not_true_eq_false, not_false_eq_true, or_false, false_or, or_true, true_or, or_self, and_true, true_and, and_false, false_and, n1, n2, est, n6, a1, n3, c1, z03, kl, k0, n5]
    · have n5 : (tz_j (wy (n - 1)) = tz_j (wy 0)) = False := nj_eqf y (by omega) (by omega)
      rw [if_neg y]
      by_cases h' : n = 6
      · have n2 : (tz_j 6 ≤ tz_j n) = True := nj_let (by omega) (by omega)
        simp only [tz_lit, nj_m1, nj_m2, nj_m3, nj_m4, nj_m5, nj_m6, nj_m7, ↓reduceIte, tz_bI_some, tz_bV_some, tz_bL_some, cj10, cj01, cjm0, eq_self, not_true_eq_false, not_false_eq_true, or_false, false_or, or_true, true_or, or_self, and_true, true_and, and_false, false_and, n1, n2, a1, n3, c1, z03, kl, k0, n5, k8, n4, c4]
      · have n2 : (tz_j 6 ≤ tz_j n) = False := nj_lef (by omega) (by omega)
        have n6 := eq_false (he.resolve_left h')
        simp only [tz_lit, nj_m1, nj_m2, nj_m3, nj_m4, nj_m5, nj_m6, nj_m7, ↓reduceIte, tz_bI_some, tz_bV_some, tz_bL_some, cj10, cj01, cjm0, eq_self, not_true_eq_false, not_false_eq_true, or_false, false_or, or_true, true_or, or_self, and_true, true_and, and_false, false_and, n1, n2, est, n6, a1, n3, c1, z03, kl, k0, n5, k8, n4, c4]
  by_cases y : wy (n - 1) = wy 0
  · refine Or.inl ⟨fd, hfd, fun A r q6 q147 => ⟨_, _, (cx A r q6 q147).trans (if_pos y), tz_gs1, sk_2 (fr_s fr_rfl ⟨rfl, Or.inl rfl⟩)⟩, fun D B z2 r q183 hz => ⟨tz_s B 157 40 (tz_j fd), by rw [hz h2]; exact (mx D B r q183).trans (if_pos y), tz_gs1, fr_s fr_rfl (Or.inl ⟨rfl, rfl⟩)⟩⟩
  · refine Or.inr ⟨n, wy, p, Nat.le_refl _, hp, h2, h6, hwy, fun A r q6 q147 => ⟨A, (cx A r q6 q147).trans (if_neg y), r, q147, fx_rfl⟩, fun D B z2 r q183 hz => ⟨B, by rw [hz h2]; exact (mx D B r q183).trans (if_neg y), r, q183, fun _ _ => rfl, fr_rfl⟩⟩
def wy_up (wy : Nat → Nat) (n v j : Nat) : Nat := if j = n then v else wy j
theorem wy_u1 {wy : Nat → Nat} {n v : Nat} : wy_up wy n v n = v := if_pos rfl
theorem wy_u2 {wy : Nat → Nat} {n v j : Nat} (h : ¬ j = n) : wy_up wy n v j = wy j := if_neg h
theorem wy_step {T : Nat → Int32} {L s p n fd : Nat} {S : tz_S} {wy : Nat → Nat} (hL : L ≤ 160) (hs : s < 8) (hp : p ≤ L) (W : sp_W1 S) (h1 : 1 ≤ n) (h6 : n < 6) (hwy : ∀ j, j < n → wy j < S 1 0) (hc : n < 2 ∨ sg T L p = tz_j 32) (ih : ∀ p' fd' wy', p ≤ p' → p' ≤ L → fd' ≤ L → (∀ j, j < n + 1 → wy' j < S 1 0) → wy_F T L s p' (n + 1) fd' S wy' ∨ wy_G T L s p' (n + 1) fd' S wy') : wy_F T L s p n fd S wy ∨ wy_G T L s p n fd S wy := by
  have w1 := W.1
  have hl := hwy (n - 1) (by omega)
  have a1 : tz_j n + tz_j 1 = tz_j (n + 1) := nj_add
  have a2 : tz_j 3 + tz_j n = tz_j (3 + n) := nj_add
  have a5 : tz_j 2 + tz_j n = tz_j (2 + n) := nj_add
  have a3 : tz_j p + tz_j 1 = tz_j (p + 1) := nj_add
  have n3 := nj_ix8 (s := n) (n := 6) (by omega) (by omega)
  have c1 : (tz_j n).toNatClampNeg = n := nj_cl (by omega)
  -- both sides read a hill
  have cx : ∀ A, XRd T L p S A → q_X7_readWay_4 (tz_j n) (tz_j (wy (n - 1))) A = tz_bI (f_X7_readHillNumber A) (fun y1 A1 => if ¬ tz_g A1 122 0 = tz_j 4294967295 then q_X7_readWay_4 (tz_j (n + 1)) y1 (tz_s A1 147 n y1) else if ¬ y1 = tz_j (wy (n - 1)) then q_X7_readWay_4 (tz_j (n + 1)) y1 (tz_s A1 147 n y1) else q_X7_readWay_4 (tz_j (n + 1)) y1 (tz_s (tz_s A1 122 0 (tz_g A1 122 6)) 147 n y1)) := by
    intro A r
    have q0 := r.2.1
    rw [e_X7_readWay_4]
    by_cases h2 : n < 2
    · have n1 : (tz_j n < tz_j 2) = True := nj_ltt (by omega) (by omega)
      simp only [tz_lit, nj_m1, nj_m2, nj_m3, nj_m4, nj_m5, nj_m6, nj_m7, ↓reduceIte, tz_bI_some, tz_bV_some, tz_bL_some, cj10, cj01, cjm0, eq_self, not_true_eq_false, not_false_eq_true, or_false, false_or, or_true, true_or, or_self, and_true, true_and, and_false, false_and, q0, n1, n3, c1, a1]
    · have n1 : (tz_j n < tz_j 2) = False := nj_ltf (by omega) (by omega)
      have n2 : (tz_j 6 ≤ tz_j n) = False := nj_lef (by omega) (by omega)
      have est := r_st (c := 32) hL hp (by omega) r
      rw [if_pos (hc.resolve_left h2)] at est
      simp only [tz_lit, nj_m1, nj_m2, nj_m3, nj_m4, nj_m5, nj_m6, nj_m7, ↓reduceIte, tz_bI_some, tz_bV_some, tz_bL_some, cj10, cj01, cjm0, eq_self, not_true_eq_false, not_false_eq_true, or_false, false_or, or_true, true_or, or_self, and_true, true_and, and_false, false_and, q0, n1, n2, est, n3, c1, a1]
  have mx : ∀ D B z2, MRd D T L s p S B → q_X12_ways_24 (tz_j n) z2 B = tz_bI (f_X12_hillBut (tz_j (3 + n)) (tz_j (2 + n)) B) (fun y1 A1 => if ¬ y1 = tz_j 0 then q_X12_ways_24 (tz_j (n + 1)) (tz_j (p + 1)) A1 else some (some (.int (tz_j 0)), A1)) := by
    intro D B z2 r
    have q40 := r.2.2.1
    rw [e_X12_ways_24]
    by_cases h2 : n < 2
    · have n1 : (tz_j n < tz_j 2) = True := nj_ltt (by omega) (by omega)
      simp only [tz_lit, nj_m1, nj_m2, nj_m3, nj_m4, nj_m5, nj_m6, nj_m7, ↓reduceIte, tz_bI_some, tz_bV_some, tz_bL_some, cj10, cj01, cjm0, eq_self, not_true_eq_false, not_false_eq_true, or_false, false_or, or_true, true_or, or_self, and_true, true_and, and_false, false_and, n1, a2, a5, q40, a3, a1]
    · have n1 : (tz_j n < tz_j 2) = False := nj_ltf (by omega) (by omega)
      have n2 : (tz_j 6 ≤ tz_j n) = False := nj_lef (by omega) (by omega)
      have est := t_sg hL hs hp r
      rw [hc.resolve_left h2] at est
      simp only [tz_lit, nj_m1, nj_m2, nj_m3, nj_m4, nj_m5, nj_m6, nj_m7, ↓reduceIte, tz_bI_some, tz_bV_some, tz_bL_some, cj10, cj01, cjm0, eq_self, not_true_eq_false, not_false_eq_true, or_false, false_or, or_true, true_or, or_self, and_true, true_and, and_false, false_and, n1, n2, est, a2, a5, q40, a3, a1]
  -- behind a fault the class only counts on
  have cf : ∀ A f y, f ≤ 200 → tz_g A 122 0 = tz_j f → ∀ z, q_X7_readWay_4 z y A = some (some (.int z), A) := by
    intro A f y hf q0 z
    have n1 : (tz_j f = tz_j 4294967295) = False := nj_eqf (by omega) (by omega) (by omega)
    rw [e_X7_readWay_4]
    simp only [tz_lit, nj_m1, nj_m2, nj_m3, nj_m4, nj_m5, nj_m6, nj_m7, ↓reduceIte, tz_bI_some, tz_bV_some, tz_bL_some, cj10, cj01, cjm0, eq_self, not_true_eq_false, not_false_eq_true, or_false, false_or, or_true, true_or, or_self, and_true, true_and, and_false, false_and, q0, n1]
  by_cases o : nu_ok T L p 0 (S 1 0)
  · have b := nu_b o
    have hv := o.2.2.2
    have hlt := sg_lt (by omega) o.1
    by_cases y : nu_v T L p = wy (n - 1)
    · refine Or.inl ⟨p + 1, hlt, fun A r q6 q147 => ?_, fun D B z2 r q183 hz => ?_⟩
      · obtain ⟨A1, e1, r1, q1, f1⟩ := (r_hn hL hp W r).1 o
        have q0 := r1.2.1
        have n5 : (tz_j (nu_v T L p) = tz_j (wy (n - 1))) = True := nj_eqt y
        have qs : tz_g (tz_s (tz_s A1 122 0 (tz_j (p + 1))) 147 n (tz_j (nu_v T L p))) 122 0 = tz_j (p + 1) := (tz_gsk (by omega)).trans tz_gs1
        refine ⟨tz_j (n + 1), tz_s (tz_s A1 122 0 (tz_j (p + 1))) 147 n (tz_j (nu_v T L p)), ?_, qs, fx_s (fx_s (sk_2 f1) (Or.inl rfl)) (by unfold ry_p; omega)⟩
        rw [cx A r]
        simp only [tz_lit, nj_m1, nj_m2, nj_m3, nj_m4, nj_m5, nj_m6, nj_m7, ↓reduceIte, tz_bI_some, tz_bV_some, tz_bL_some, cj10, cj01, cjm0, eq_self, not_true_eq_false, not_false_eq_true, or_false, false_or, or_true, true_or, or_self, and_true, true_and, and_false, false_and, e1, q0, n5, q1]
        exact cf _ (p + 1) _ (by omega) qs _
      · have kl : tz_g B 183 (2 + n) = tz_j (wy (n - 1)) := by
          have := q183 (n - 1) (by omega)
          rw [show 3 + (n - 1) = 2 + n by omega] at this
          exact this
        obtain ⟨B1, d1, v1, g1⟩ := (t_hb (x := 3 + n) (y := 2 + n) hL hs (by omega) (by omega) (by omega) hp W r kl (by omega)).2.1 ⟨o, y⟩
        refine ⟨B1, ?_, v1, g1⟩
        rw [mx D B z2 r]
        simp only [tz_lit, nj_m1, nj_m2, nj_m3, nj_m4, nj_m5, nj_m6, nj_m7, ↓reduceIte, tz_bI_some, tz_bV_some, tz_bL_some, cj10, cj01, cjm0, eq_self, not_true_eq_false, not_false_eq_true, or_false, false_or, or_true, true_or, or_self, and_true, true_and, and_false, false_and, d1]
    · rcases ih (nu_p T L p) (p + 1) (wy_up wy n (nu_v T L p)) (by omega) b.2.1 hlt (fun j hj => by
        by_cases z : j = n
        · rw [z, wy_u1]
          exact hv
        · rw [wy_u2 z]
          exact hwy j (by omega)) with ⟨f, hf, ca, ma⟩ | ⟨n', wy', q, hq1, hq2, hn2, hn6, hw', ca, ma⟩
      · have cl : ∀ A, XRd T L p S A → (∀ j, j < n → tz_g A 147 j = tz_j (wy j)) → ∃ y' A', q_X7_readWay_4 (tz_j n) (tz_j (wy (n - 1))) A = some (some (.int y'), A') ∧ tz_g A' 122 0 = tz_j f ∧ tz_fx ry_p A A' := by
          intro A r q147
          obtain ⟨A1, e1, r1, q1, f1⟩ := (r_hn hL hp W r).1 o
          have q0 := r1.2.1
          have n5 : (tz_j (nu_v T L p) = tz_j (wy (n - 1))) = False := nj_eqf y (by omega) (by omega)
          obtain ⟨y', A', e, q', f'⟩ := ca (tz_s A1 147 n (tz_j (nu_v T L p))) (XRd_147 r1) ((tz_gsk (by omega)).trans q1) (fun j hj => by
            by_cases z : j = n
            · rw [z, wy_u1, tz_gs1]
            · rw [wy_u2 z, tz_gsi z, f1.2.2 147 j (by unfold r2_p; omega)]
              exact q147 j (by omega))
          refine ⟨y', A', ?_, q', fx_tr (sk_2 f1) (fx_tr ry_147 f')⟩
          rw [cx A r]
          simp only [tz_lit, nj_m1, nj_m2, nj_m3, nj_m4, nj_m5, nj_m6, nj_m7, ↓reduceIte, tz_bI_some, tz_bV_some, tz_bL_some, cj10, cj01, cjm0, eq_self, not_true_eq_false, not_false_eq_true, or_false, false_or, or_true, true_or, or_self, and_true, true_and, and_false, false_and, e1, q0, n5]
          rw [Nat.add_sub_cancel, wy_u1] at e
          exact e
        refine Or.inl ⟨f, hf, fun A r q6 q147 => cl A r q147, fun D B z2 r q183 hz => ?_⟩
        have kl : tz_g B 183 (2 + n) = tz_j (wy (n - 1)) := by
          have := q183 (n - 1) (by omega)
          rw [show 3 + (n - 1) = 2 + n by omega] at this
          exact this
        obtain ⟨B1, d1, t1, v1, g1⟩ := (t_hb (x := 3 + n) (y := 2 + n) hL hs (by omega) (by omega) (by omega) hp W r kl (by omega)).1 ⟨o, y⟩
        obtain ⟨B', e, q', f'⟩ := ma D B1 (tz_j (p + 1)) t1 (fun j hj => by
          by_cases z : j = n
          · rw [z, wy_u1]
            exact v1
          · rw [wy_u2 z, g1.2.2 183 (3 + j) (by omega)]
            exact q183 j (by omega)) (fun _ => rfl)
        refine ⟨B', ?_, q', fr_tr (fr_mo g1 (fun k i => tx_t2)) f'⟩
        rw [mx D B z2 r]
        simp only [tz_lit, nj_m1, nj_m2, nj_m3, nj_m4, nj_m5, nj_m6, nj_m7, ↓reduceIte, tz_bI_some, tz_bV_some, tz_bL_some, cj10, cj01, cjm0, eq_self, not_true_eq_false, not_false_eq_true, or_false, false_or, or_true, true_or, or_self, and_true, true_and, and_false, false_and, d1]
        exact e
      · refine Or.inr ⟨n', wy', q, (by omega), hq2, hn2, hn6, hw', fun A r q6 q147 => ?_, fun D B z2 r q183 hz => ?_⟩
        · obtain ⟨A1, e1, r1, q1, f1⟩ := (r_hn hL hp W r).1 o
          have q0 := r1.2.1
          have n5 : (tz_j (nu_v T L p) = tz_j (wy (n - 1))) = False := nj_eqf y (by omega) (by omega)
          obtain ⟨A', e, r', k', f'⟩ := ca (tz_s A1 147 n (tz_j (nu_v T L p))) (XRd_147 r1) ((tz_gsk (by omega)).trans q1) (fun j hj => by
            by_cases z : j = n
            · rw [z, wy_u1, tz_gs1]
            · rw [wy_u2 z, tz_gsi z, f1.2.2 147 j (by unfold r2_p; omega)]
              exact q147 j (by omega))
          refine ⟨A', ?_, r', k', fx_tr (sk_2 f1) (fx_tr ry_147 f')⟩
          rw [cx A r]
          simp only [tz_lit, nj_m1, nj_m2, nj_m3, nj_m4, nj_m5, nj_m6, nj_m7, ↓reduceIte, tz_bI_some, tz_bV_some, tz_bL_some, cj10, cj01, cjm0, eq_self, not_true_eq_false, not_false_eq_true, or_false, false_or, or_true, true_or, or_self, and_true, true_and, and_false, false_and, e1, q0, n5]
          rw [Nat.add_sub_cancel, wy_u1] at e
          exact e
        · have kl : tz_g B 183 (2 + n) = tz_j (wy (n - 1)) := by
            have := q183 (n - 1) (by omega)
            rw [show 3 + (n - 1) = 2 + n by omega] at this
            exact this
          obtain ⟨B1, d1, t1, v1, g1⟩ := (t_hb (x := 3 + n) (y := 2 + n) hL hs (by omega) (by omega) (by omega) hp W r kl (by omega)).1 ⟨o, y⟩
          obtain ⟨B', e, r', k', l', f'⟩ := ma D B1 (tz_j (p + 1)) t1 (fun j hj => by
            by_cases z : j = n
            · rw [z, wy_u1]
              exact v1
            · rw [wy_u2 z, g1.2.2 183 (3 + j) (by omega)]
              exact q183 j (by omega)) (fun _ => rfl)
          refine ⟨B', ?_, r', k', fun j hj => (l' j hj).trans (g1.2.2 183 j (by omega)), fr_tr (fr_mo g1 (fun k i => tx_t2)) f'⟩
          rw [mx D B z2 r]
          simp only [tz_lit, nj_m1, nj_m2, nj_m3, nj_m4, nj_m5, nj_m6, nj_m7, ↓reduceIte, tz_bI_some, tz_bV_some, tz_bL_some, cj10, cj01, cjm0, eq_self, not_true_eq_false, not_false_eq_true, or_false, false_or, or_true, true_or, or_self, and_true, true_and, and_false, false_and, d1]
          exact e
  · refine Or.inl ⟨nu_f T L p, nu_fl hp, fun A r q6 q147 => ?_, fun D B z2 r q183 hz => ?_⟩
    · obtain ⟨A1, e1, q1, f1⟩ := (r_hn hL hp W r).2 o
      have hf := nu_fl (T := T) hp
      have n2 : (tz_j (nu_f T L p) = tz_j 4294967295) = False := nj_eqf (by omega) (by omega) (by omega)
      have qs : tz_g (tz_s A1 147 n (tz_j 4294967295)) 122 0 = tz_j (nu_f T L p) := (tz_gsk (by omega)).trans q1
      refine ⟨tz_j (n + 1), tz_s A1 147 n (tz_j 4294967295), ?_, qs, fx_tr (sk_2 f1) ry_147⟩
      rw [cx A r]
      simp only [tz_lit, nj_m1, nj_m2, nj_m3, nj_m4, nj_m5, nj_m6, nj_m7, ↓reduceIte, tz_bI_some, tz_bV_some, tz_bL_some, cj10, cj01, cjm0, eq_self, not_true_eq_false, not_false_eq_true, or_false, false_or, or_true, true_or, or_self, and_true, true_and, and_false, false_and, e1, q1, n2]
      exact cf _ (nu_f T L p) _ (by omega) qs _
    · have kl : tz_g B 183 (2 + n) = tz_j (wy (n - 1)) := by
        have := q183 (n - 1) (by omega)
        rw [show 3 + (n - 1) = 2 + n by omega] at this
        exact this
      obtain ⟨B1, d1, v1, g1⟩ := (t_hb (x := 3 + n) (y := 2 + n) hL hs (by omega) (by omega) (by omega) hp W r kl (by omega)).2.2 o
      refine ⟨B1, ?_, v1, g1⟩
      rw [mx D B z2 r]
      simp only [tz_lit, nj_m1, nj_m2, nj_m3, nj_m4, nj_m5, nj_m6, nj_m7, ↓reduceIte, tz_bI_some, tz_bV_some, tz_bL_some, cj10, cj01, cjm0, eq_self, not_true_eq_false, not_false_eq_true, or_false, false_or, or_true, true_or, or_self, and_true, true_and, and_false, false_and, d1]
theorem wy_all {T : Nat → Int32} {L s : Nat} {S : tz_S} (hL : L ≤ 160) (hs : s < 8) (W : sp_W1 S) (h7 : S 7 0 < 4) : ∀ k n p fd wy, n + k = 6 → 1 ≤ n → p ≤ L → fd ≤ L → (∀ j, j < n → wy j < S 1 0) → wy_F T L s p n fd S wy ∨ wy_G T L s p n fd S wy := by
  intro k
  induction k with
  | zero =>
    intro n p fd wy hn h1 hp hfd hwy
    exact wy_exit hL hs hp hfd W h7 (by omega) (by omega) hwy (Or.inl (by omega))
  | succ k ih =>
    intro n p fd wy hn h1 hp hfd hwy
    by_cases hc : n < 2 ∨ sg T L p = tz_j 32
    · exact wy_step hL hs hp W h1 (by omega) hwy hc (fun p' fd' wy' _ h2 h3 h4 => ih (n + 1) p' fd' wy' (by omega) (by omega) h2 h3 h4)
    · exact wy_exit hL hs hp hfd W h7 (by omega) (by omega) hwy (Or.inr (fun q => hc (Or.inr q)))
theorem t_108 {n nT : Nat} (hn : n ≤ 6) (hT : nT < 4) : ∀ k i A, i + k = n → tz_g A 157 8 = tz_j nT → ∃ A', q_X12_ways_108 (tz_j n) (tz_j i) A = some (some (.int (tz_j 1)), A') ∧ (∀ j, i ≤ j → j < n → tz_g A' 166 (6 * nT + j) = tz_g A 183 (3 + j)) ∧ tz_fr (fun k i' => k = 166 ∧ 6 * nT + i ≤ i') A A' := by
  intro k
  induction k with
  | zero =>
    intro i A hi q8
    have n1 : (tz_j n ≤ tz_j i) = True := nj_let (by omega) (by omega)
    refine ⟨A, ?_, fun j h1 h2 => by omega, fr_rfl⟩
    rw [e_X12_ways_108]
    simp only [tz_lit, nj_m1, nj_m2, nj_m3, nj_m4, nj_m5, nj_m6, nj_m7, ↓reduceIte, tz_bI_some, tz_bV_some, tz_bL_some, cj10, cj01, cjm0, eq_self, not_true_eq_false, not_false_eq_true, or_false, false_or, or_true, true_or, or_self, and_true, true_and, and_false, false_and, n1]
  | succ k ih =>
    intro i A hi q8
    have n1 : (tz_j n ≤ tz_j i) = False := nj_lef (by omega) (by omega)
    have a1 : tz_j 3 + tz_j i = tz_j (3 + i) := nj_add
    have a2 : tz_j 6 * tz_j nT + tz_j i = tz_j (6 * nT + i) := by rw [nj_mul, nj_add]
    have a3 : tz_j i + tz_j 1 = tz_j (i + 1) := nj_add
    have n3 := nj_ix8 (s := 3 + i) (n := 10) (by omega) (by omega)
    have c1 : (tz_j (3 + i)).toNatClampNeg = 3 + i := nj_cl (by omega)
    have n4 := nj_ix8 (s := 6 * nT + i) (n := 24) (by omega) (by omega)
    have c2 : (tz_j (6 * nT + i)).toNatClampNeg = 6 * nT + i := nj_cl (by omega)
    obtain ⟨A', e, g, f⟩ := ih (i + 1) (tz_s A 166 (6 * nT + i) (tz_g A 183 (3 + i))) (by omega) ((tz_gsk (by omega)).trans q8)
    refine ⟨A', ?_, fun j h1 h2 => ?_, fr_tr (fr_s fr_rfl ⟨rfl, Nat.le_refl _⟩) (fr_mo f (fun k i' h => ⟨h.1, by have := h.2; omega⟩))⟩
    · rw [e_X12_ways_108]
      simp only [tz_lit, nj_m1, nj_m2, nj_m3, nj_m4, nj_m5, nj_m6, nj_m7, ↓reduceIte, tz_bI_some, tz_bV_some, tz_bL_some, cj10, cj01, cjm0, eq_self, not_true_eq_false, not_false_eq_true, or_false, false_or, or_true, true_or, or_self, and_true, true_and, and_false, false_and, n1, q8, a1, a2, a3, n3, c1, n4, c2, e]
    · by_cases z : j = i
      · rw [z, f.2.2 166 (6 * nT + i) (fun q => by have := q.2; omega), tz_gs1]
      · rw [g j (by omega) h2, tz_gsk (by omega)]
theorem it_storm {T : Nat → Int32} {L s N p : Nat} {S : tz_S} (hL : L ≤ 160) (hs : s < 8) (hp : p ≤ L) (H : sp_H N S) (hst : sp_st S) (hw : wd_a T L p 6 = 5) : it_R T L s N p S := by
  have W := H.1
  have W2 := H.2.1
  have w1 := W.1
  have w4 := W.2.1
  have w12 := W.2.2.1
  have hp4 : p + 5 ≤ L := by
    have := wd_pa (T := T) (L := L) (p := p) (w := 6) hp
    omega
  have s0 : sg T L p = tz_j 115 := wd_af (w := 6) hw 0 (by decide)
  have h5 : wd_a T L p 5 ≠ 4 := by rw [wd_a0 (by rw [s0]; exact tz_ne (b := 104) (by omega) (by omega) (by omega))]; omega
  have mw : ∀ D B, MRd D T L s p S B → ∃ B1, (S 7 0 < 4 → f_X12_item B = tz_bI (f_X12_number (tz_j 0) (tz_j 1) (tz_j 9) B1) (fun y3 A3 => if y3 = tz_j 0 then some (some (.int (tz_j 0)), A3) else tz_bI (f_X12_number (tz_j 1) (tz_j 1) (tz_j 99) A3) (fun y4 A4 => if y4 = tz_j 0 then some (some (.int (tz_j 0)), A4) else tz_bI (f_X12_number (tz_j 2) (tz_j 1) (tz_j 9) A4) (fun y5 A5 => if y5 = tz_j 0 then some (some (.int (tz_j 0)), A5) else tz_bI (f_X12_ways A5) (fun y6 A6 => if ¬ y6 = tz_j 0 then tz_bI (f_X12_newStorm (tz_g A6 183 0) (tz_g A6 183 1) (tz_g A6 183 2) A6) (fun y7 A7 => some (some (.int (tz_j 1)), A7)) else some (some (.int (tz_j 0)), A6)))))) ∧ (¬ S 7 0 < 4 → f_X12_item B = some (some (.int (tz_j 0)), tz_s B1 157 40 (tz_j p))) ∧ MRd D T L s (p + 5) S B1 ∧ tz_fr t2_p B B1 := by
    intro D B r
    have es := t_sg hL hs hp r
    rw [s0] at es
    have k8 : tz_g B 157 8 = tz_j (S 7 0) := cm_8 r.1.1
    obtain ⟨B1, e, e', r', f⟩ := (t_u6 hL hs hp r).2 hw
    refine ⟨B1, fun z => ?_, fun z => ?_, r', f⟩
    · have n8 : (tz_j 4 ≤ tz_j (S 7 0)) = False := nj_lef (by omega) (by omega)
      rw [mi_115 es]
      simp (disch := omega) only [tz_lit, nj_m1, nj_m2, nj_m3, nj_m4, nj_m5, nj_m6, nj_m7, ↓reduceIte, tz_bI_some, tz_bV_some, tz_bL_some, cj10, cj01, cjm0, eq_self, not_true_eq_false, not_false_eq_true, or_false, false_or, or_true, true_or, or_self, and_true, true_and, and_false, false_and, nj_eqf, nj_ltt, nj_ltf, nj_let, nj_lef, nj_cl, nt_lef, ng_ltt, ng_let, ng_gtf, ng_gef, k8, n8, e']
      try rfl
    · have n8 : (tz_j 4 ≤ tz_j (S 7 0)) = True := nj_let (by omega) (by omega)
      rw [mi_115 es]
      simp (disch := omega) only [tz_lit, nj_m1, nj_m2, nj_m3, nj_m4, nj_m5, nj_m6, nj_m7, ↓reduceIte, tz_bI_some, tz_bV_some, tz_bL_some, cj10, cj01, cjm0, eq_self, not_true_eq_false, not_false_eq_true, or_false, false_or, or_true, true_or, or_self, and_true, true_and, and_false, false_and, nj_eqf, nj_ltt, nj_ltf, nj_let, nj_lef, nj_cl, nt_lef, ng_ltt, ng_let, ng_gtf, ng_gef, k8, n8, e]
  have word : ∀ A, XRd T L p S A → f_X7_readWord A = some (some (.int (tz_j 1)), tz_s A 122 5 (tz_j (p + 5))) ∧ XRd T L (p + 5) S (tz_s A 122 5 (tz_j (p + 5))) ∧ tz_fr r2_p A (tz_s A 122 5 (tz_j (p + 5))) := fun A r => r_w6 hL hp r h5 hw
  have go : ∀ A A1 A', f_X7_readWord A = some (some (.int (tz_j 1)), A1) → XRd T L (p + 5) S A1 → S 7 0 < 4 → f_X7_readStorm A1 = some (none, A') → f_X7_readItem A = some (none, A') := fun A A1 A' e0 r0 full er => r_go e0 r0 (by have := (r_rm r0 W).2.1; rw [if_pos full] at this; exact this) (by omega) (fun h => by omega) (fun _ => er) (fun h => by omega) (fun h => by omega) (fun h => by omega)
  -- behind a fault: the way is not read
  have wf : ∀ A f, f ≤ 200 → tz_g A 122 0 = tz_j f → f_X7_readWay A = some (some (.int (tz_j 0)), A) := by
    intro A f hf q0
    have n1 : (tz_j f = tz_j 4294967295) = False := nj_eqf (by omega) (by omega) (by omega)
    rw [e_X7_readWay]
    simp only [tz_lit, nj_m1, nj_m2, nj_m3, nj_m4, nj_m5, nj_m6, nj_m7, ↓reduceIte, tz_bI_some, tz_bV_some, tz_bL_some, cj10, cj01, cjm0, eq_self, not_true_eq_false, not_false_eq_true, or_false, false_or, or_true, true_or, or_self, and_true, true_and, and_false, false_and]
    rw [e_X7_readWay_4]
    simp only [tz_lit, nj_m1, nj_m2, nj_m3, nj_m4, nj_m5, nj_m6, nj_m7, ↓reduceIte, tz_bI_some, tz_bV_some, tz_bL_some, cj10, cj01, cjm0, eq_self, not_true_eq_false, not_false_eq_true, or_false, false_or, or_true, true_or, or_self, and_true, true_and, and_false, false_and, q0, n1]
  by_cases full : S 7 0 < 4
  · by_cases o1 : nu_ok T L (p + 5) 1 10
    · have b1 := nu_b o1
      by_cases o2 : nu_ok T L (nu_p T L (p + 5)) 1 100
      · have b2 := nu_b o2
        by_cases o3 : nu_ok T L (nu_p T L (nu_p T L (p + 5))) 1 10
        · have b3 := nu_b o3
          by_cases o4 : nu_ok T L (nu_p T L (nu_p T L (nu_p T L (p + 5)))) 0 (S 1 0)
          · have b4 := nu_b o4
            have hv4 := o4.2.2.2
            have hlt := sg_lt (by omega) o4.1
            have first : ∀ A, XRd T L (nu_p T L (nu_p T L (nu_p T L (p + 5)))) S A → ∃ A1, f_X7_readWay A = q_X7_readWay_4 (tz_j 1) (tz_j (nu_v T L (nu_p T L (nu_p T L (nu_p T L (p + 5)))))) A1 ∧ XRd T L (nu_p T L (nu_p T L (nu_p T L (nu_p T L (p + 5))))) S A1 ∧ tz_g A1 122 6 = tz_j ((nu_p T L (nu_p T L (nu_p T L (p + 5)))) + 1) ∧ (∀ j, j < 1 → tz_g A1 147 j = tz_j (nu_v T L (nu_p T L (nu_p T L (nu_p T L (p + 5)))))) ∧ tz_fx ry_p A A1 := by
              intro A r
              obtain ⟨A1, e1, r1, q1, f1⟩ := (r_hn hL b3.2.1 W r).1 o4
              have q0 := r.2.1
              have q0' := r1.2.1
              have n1 : (tz_j 0 < tz_j 2) = True := nj_ltt (by omega) (by omega)
              have n2 : (tz_j (nu_v T L (nu_p T L (nu_p T L (nu_p T L (p + 5))))) = tz_j 4294967295) = False := nj_eqf (by omega) (by omega) (by omega)
              have n3 := nj_ix8 (s := 0) (n := 6) (by omega) (by omega)
              have c1 : (tz_j 0).toNatClampNeg = 0 := nj_cl (by omega)
              have a1 : tz_j 0 + tz_j 1 = tz_j 1 := nj_add
              refine ⟨tz_s A1 147 0 (tz_j (nu_v T L (nu_p T L (nu_p T L (nu_p T L (p + 5)))))), ?_, XRd_147 r1, (tz_gsk (by omega)).trans q1, fun j hj => ?_, fx_tr (sk_2 f1) ry_147⟩
              · rw [e_X7_readWay]
                simp only [tz_lit, nj_m1, nj_m2, nj_m3, nj_m4, nj_m5, nj_m6, nj_m7, ↓reduceIte, tz_bI_some, tz_bV_some, tz_bL_some, cj10, cj01, cjm0, eq_self, not_true_eq_false, not_false_eq_true, or_false, false_or, or_true, true_or, or_self, and_true, true_and, and_false, false_and]
                rw [e_X7_readWay_4 (tz_j 0)]
                simp only [tz_lit, nj_m1, nj_m2, nj_m3, nj_m4, nj_m5, nj_m6, nj_m7, ↓reduceIte, tz_bI_some, tz_bV_some, tz_bL_some, cj10, cj01, cjm0, eq_self, not_true_eq_false, not_false_eq_true, or_false, false_or, or_true, true_or, or_self, and_true, true_and, and_false, false_and, q0, n1, e1, q0', n2, n3, c1, a1]
              · rw [show j = 0 by omega, tz_gs1]
            have firstm : ∀ D B, MRd D T L s (nu_p T L (nu_p T L (nu_p T L (p + 5)))) S B → ∃ B1, f_X12_ways B = q_X12_ways_24 (tz_j 1) (tz_g B1 157 40) B1 ∧ MRd D T L s (nu_p T L (nu_p T L (nu_p T L (nu_p T L (p + 5))))) S B1 ∧ (∀ j, j < 1 → tz_g B1 183 (3 + j) = tz_j (nu_v T L (nu_p T L (nu_p T L (nu_p T L (p + 5)))))) ∧ (∀ j, j < 3 → tz_g B1 183 j = tz_g B 183 j) ∧ tz_fr t2_p B B1 := by
              intro D B r
              have k3 : tz_g B 157 3 = tz_j (S 1 0) := cm_3 r.1.1
              obtain ⟨B1, d1, t1, v1, g1⟩ := (t_no (x := 3) (lo := 0) (h1 := S 1 0) (hi := tz_j (S 1 0) - tz_j 1) hL hs (by omega) b3.2.1 (by omega) (hi_c (by omega)) r).1 o4
              refine ⟨B1, ?_, t1, fun j hj => by rw [show 3 + j = 3 by omega]; exact v1, fun j hj => g1.2.2 183 j (by omega), fr_mo g1 (fun k i => tx_t2)⟩
              rw [e_X12_ways]
              simp only [tz_lit, nj_m1, nj_m2, nj_m3, nj_m4, nj_m5, nj_m6, nj_m7, ↓reduceIte, tz_bI_some, tz_bV_some, tz_bL_some, cj10, cj01, cjm0, eq_self, not_true_eq_false, not_false_eq_true, or_false, false_or, or_true, true_or, or_self, and_true, true_and, and_false, false_and, k3, d1]
            rcases wy_all (T := T) (s := s) hL hs W full 5 1 (nu_p T L (nu_p T L (nu_p T L (nu_p T L (p + 5))))) ((nu_p T L (nu_p T L (nu_p T L (p + 5)))) + 1) (fun _ => (nu_v T L (nu_p T L (nu_p T L (nu_p T L (p + 5)))))) rfl (by omega) b4.2.1 hlt (fun _ _ => hv4) with ⟨f, hf, ca, ma⟩ | ⟨n', wy', q, hq1, hq2, hn2, hn6, hw', ca, ma⟩
            · refine Or.inl ⟨f, hf, fun A r => ?_, fun D B r => ?_⟩
              · obtain ⟨e0, r0, f0⟩ := word A r
                obtain ⟨A1, e1, r1, q1, f1⟩ := (r_no (lo := 1) (h1 := 10) hL hp4 (by omega) (hi_k (n := 9) (by omega)) r0).1 o1
                obtain ⟨A2, e2, r2, q2, f2⟩ := (r_no (lo := 1) (h1 := 100) hL b1.2.1 (by omega) (hi_k (n := 99) (by omega)) r1).1 o2
                obtain ⟨A3, e3, r3, q3, f3⟩ := (r_no (lo := 1) (h1 := 10) hL b2.2.1 (by omega) (hi_k (n := 9) (by omega)) r2).1 o3
                obtain ⟨A4, e4, r4, q4, k4, f4⟩ := first A3 r3
                obtain ⟨y, A5, e5, q5, f5⟩ := ca A4 r4 q4 k4
                have n2 : (tz_j f = tz_j 4294967295) = False := nj_eqf (by omega) (by omega) (by omega)
                have ew := e4.trans e5
                refine ⟨A5, go A _ _ e0 r0 full ?_, q5, fx_tr (sk_2 f0) (fx_tr (sk_2 f1) (fx_tr (sk_2 f2) (fx_tr (sk_2 f3) (fx_tr f4 f5))))⟩
                rw [e_X7_readStorm]
                simp only [tz_lit, nj_m1, nj_m2, nj_m3, nj_m4, nj_m5, nj_m6, nj_m7, ↓reduceIte, tz_bI_some, tz_bV_some, tz_bL_some, cj10, cj01, cjm0, eq_self, not_true_eq_false, not_false_eq_true, or_false, false_or, or_true, true_or, or_self, and_true, true_and, and_false, false_and, e1, e2, e3, ew, q5, n2]
              · obtain ⟨B1, m1, _, t1, g1⟩ := mw D B r
                obtain ⟨B2, d2, t2, v2, g2⟩ := (t_no (x := 0) (lo := 1) (h1 := 10) hL hs (by omega) hp4 (by omega) (hi_k (n := 9) (by omega)) t1).1 o1
                obtain ⟨B3, d3, t3, v3, g3⟩ := (t_no (x := 1) (lo := 1) (h1 := 100) hL hs (by omega) b1.2.1 (by omega) (hi_k (n := 99) (by omega)) t2).1 o2
                obtain ⟨B4, d4, t4, v4, g4⟩ := (t_no (x := 2) (lo := 1) (h1 := 10) hL hs (by omega) b2.2.1 (by omega) (hi_k (n := 9) (by omega)) t3).1 o3
                obtain ⟨B5, d5, t5, k5, l5, g5⟩ := firstm D B4 t4
                obtain ⟨B6, d6, q6, g6⟩ := ma D B5 (tz_g B5 157 40) t5 k5 (fun h => by omega)
                have dw := d5.trans d6
                refine ⟨B6, ?_, q6, fr_tr g1 (fr_tr (fr_mo g2 (fun k i => tx_t2)) (fr_tr (fr_mo g3 (fun k i => tx_t2)) (fr_tr (fr_mo g4 (fun k i => tx_t2)) (fr_tr g5 g6))))⟩
                rw [m1 full]
                simp only [tz_lit, nj_m1, nj_m2, nj_m3, nj_m4, nj_m5, nj_m6, nj_m7, ↓reduceIte, tz_bI_some, tz_bV_some, tz_bL_some, cj10, cj01, cjm0, eq_self, not_true_eq_false, not_false_eq_true, or_false, false_or, or_true, true_or, or_self, and_true, true_and, and_false, false_and, d2, d3, d4, dw]
            · refine Or.inr ⟨sp_addT n' (nu_v T L (p + 5)) (nu_v T L (nu_p T L (p + 5))) (nu_v T L (nu_p T L (nu_p T L (p + 5)))) wy' S, q, 0, (by omega), hq2, (by omega), addT_H H full ⟨hn2, hn6⟩ ⟨o1.2.2.1, by have := o1.2.2.2; omega⟩ ⟨o2.2.2.1, by have := o2.2.2.2; omega⟩ ⟨o3.2.2.1, by have := o3.2.2.2; omega⟩ hw', ⟨(addT_g (by omega)).trans hst.1, (addT_g (by omega)).trans hst.2⟩, Nat.le_of_eq (addT_g (by omega)).symm, fun A r => ?_, fun D B r => ?_⟩
              · obtain ⟨e0, r0, f0⟩ := word A r
                obtain ⟨A1, e1, r1, q1, f1⟩ := (r_no (lo := 1) (h1 := 10) hL hp4 (by omega) (hi_k (n := 9) (by omega)) r0).1 o1
                obtain ⟨A2, e2, r2, q2, f2⟩ := (r_no (lo := 1) (h1 := 100) hL b1.2.1 (by omega) (hi_k (n := 99) (by omega)) r1).1 o2
                obtain ⟨A3, e3, r3, q3, f3⟩ := (r_no (lo := 1) (h1 := 10) hL b2.2.1 (by omega) (hi_k (n := 9) (by omega)) r2).1 o3
                obtain ⟨A4, e4, r4, q4, k4, f4⟩ := first A3 r3
                obtain ⟨A5, e5, r5, k5, f5⟩ := ca A4 r4 q4 k4
                obtain ⟨A6, e6, x6, f6⟩ := x_addT147 (len := n') (p := (nu_v T L (p + 5))) (fo := (nu_v T L (nu_p T L (p + 5)))) (ro := (nu_v T L (nu_p T L (nu_p T L (p + 5))))) (wy := wy') h124 r5.1 W W2 full hn6 k5
                have q0 := r5.2.1
                have ew := e4.trans e5
                have f6' : tz_fx (fun k _ => (124 ≤ k ∧ k < 148) ∨ (150 ≤ k ∧ k < 155)) A5 A6 := fx_mo f6 (fun k i h => by unfold bc_p at h; omega)
                refine ⟨A6, go A _ _ e0 r0 full ?_, XRd_sky r5 x6 f6', fx_tr (sk_2 f0) (fx_tr (sk_2 f1) (fx_tr (sk_2 f2) (fx_tr (sk_2 f3) (fx_tr f4 (fx_tr f5 (sk_y f6'))))))⟩
                rw [e_X7_readStorm]
                simp only [tz_lit, nj_m1, nj_m2, nj_m3, nj_m4, nj_m5, nj_m6, nj_m7, ↓reduceIte, tz_bI_some, tz_bV_some, tz_bL_some, cj10, cj01, cjm0, eq_self, not_true_eq_false, not_false_eq_true, or_false, false_or, or_true, true_or, or_self, and_true, true_and, and_false, false_and, e1, e2, e3, ew, q0, e6]
              · obtain ⟨B1, m1, _, t1, g1⟩ := mw D B r
                obtain ⟨B2, d2, t2, v2, g2⟩ := (t_no (x := 0) (lo := 1) (h1 := 10) hL hs (by omega) hp4 (by omega) (hi_k (n := 9) (by omega)) t1).1 o1
                obtain ⟨B3, d3, t3, v3, g3⟩ := (t_no (x := 1) (lo := 1) (h1 := 100) hL hs (by omega) b1.2.1 (by omega) (hi_k (n := 99) (by omega)) t2).1 o2
                obtain ⟨B4, d4, t4, v4, g4⟩ := (t_no (x := 2) (lo := 1) (h1 := 10) hL hs (by omega) b2.2.1 (by omega) (hi_k (n := 9) (by omega)) t3).1 o3
                obtain ⟨B5, d5, t5, k5, l5, g5⟩ := firstm D B4 t4
                obtain ⟨B6, d6, t6, k6, l6, g6⟩ := ma D B5 (tz_g B5 157 40) t5 k5 (fun h => by omega)
                have k8 : tz_g (tz_s B6 165 (S 7 0) (tz_j n')) 157 8 = tz_j (S 7 0) := (tz_gsk (by omega)).trans (cm_8 t6.1.1)
                obtain ⟨B7, d7, k7, g7⟩ := t_108 (n := n') (nT := S 7 0) hn6 full n' 0 (tz_s B6 165 (S 7 0) (tz_j n')) (by omega) k8
                obtain ⟨B8, d8, x8, g8⟩ := m_addT (len := n') (p := (nu_v T L (p + 5))) (fo := (nu_v T L (nu_p T L (p + 5)))) (ro := (nu_v T L (nu_p T L (nu_p T L (p + 5))))) (wy := wy') (A2 := B7) t6.1 full ((g7.2.2 165 (S 7 0) (fun h => by have := h.1; omega)).trans tz_gs1) (fun j hj => by
                  rw [k7 j (Nat.zero_le _) hj, tz_gsk (by omega)]
                  exact k6 j hj) (fun k i h1 h2 => (g7.2.2 k i (fun h => h2 ⟨h.1, by have := h.2; omega⟩)).trans (by rw [tz_gS, if_neg h1])) W
                have u : ∀ j, j < 3 → tz_g B7 183 j = tz_g B4 183 j := fun j hj => (g7.2.2 183 j (fun h => by have := h.1; omega)).trans ((tz_gsk (by omega)).trans ((l6 j hj).trans (l5 j hj)))
                have u0 : tz_g B7 183 0 = tz_j (nu_v T L (p + 5)) := (u 0 (by omega)).trans ((g4.2.2 183 0 (by omega)).trans ((g3.2.2 183 0 (by omega)).trans v2))
                have u1 : tz_g B7 183 1 = tz_j (nu_v T L (nu_p T L (p + 5))) := (u 1 (by omega)).trans ((g4.2.2 183 1 (by omega)).trans v3)
                have u2 : tz_g B7 183 2 = tz_j (nu_v T L (nu_p T L (nu_p T L (p + 5)))) := (u 2 (by omega)).trans v4
                have dw := d5.trans (d6.trans d7)
                have f68 : tz_fr mo_p B6 B8 := fr_tr (fr_s fr_rfl (by unfold mo_p; omega)) (fr_tr (fr_mo g7 (fun k i h => by have := h.1; unfold mo_p; omega)) g8)
                refine ⟨D, B8, ?_, MRd_sky t6 x8 f68, fr_tr (fr_mo (fr_tr g1 (fr_tr (fr_mo g2 (fun k i => tx_t2)) (fr_tr (fr_mo g3 (fun k i => tx_t2)) (fr_tr (fr_mo g4 (fun k i => tx_t2)) (fr_tr g5 g6))))) (fun k i => t2_ty)) (fr_mo f68 (fun k i h => Or.inl h))⟩
                rw [m1 full]
                simp only [tz_lit, nj_m1, nj_m2, nj_m3, nj_m4, nj_m5, nj_m6, nj_m7, ↓reduceIte, tz_bI_some, tz_bV_some, tz_bL_some, cj10, cj01, cjm0, eq_self, not_true_eq_false, not_false_eq_true, or_false, false_or, or_true, true_or, or_self, and_true, true_and, and_false, false_and, d2, d3, d4, dw, u0, u1, u2, d8]
          · refine Or.inl ⟨nu_f T L (nu_p T L (nu_p T L (nu_p T L (p + 5)))), nu_fl b3.2.1, fun A r => ?_, fun D B r => ?_⟩
            · obtain ⟨e0, r0, f0⟩ := word A r
              obtain ⟨A1, e1, r1, q1, f1⟩ := (r_no (lo := 1) (h1 := 10) hL hp4 (by omega) (hi_k (n := 9) (by omega)) r0).1 o1
              obtain ⟨A2, e2, r2, q2, f2⟩ := (r_no (lo := 1) (h1 := 100) hL b1.2.1 (by omega) (hi_k (n := 99) (by omega)) r1).1 o2
              obtain ⟨A3, e3, r3, q3, f3⟩ := (r_no (lo := 1) (h1 := 10) hL b2.2.1 (by omega) (hi_k (n := 9) (by omega)) r2).1 o3
              obtain ⟨A4, e4, q4, f4⟩ := (r_hn hL b3.2.1 W r3).2 o4
              have hf := nu_fl (T := T) b3.2.1
              have n2 : (tz_j (nu_f T L (nu_p T L (nu_p T L (nu_p T L (p + 5))))) = tz_j 4294967295) = False := nj_eqf (by omega) (by omega) (by omega)
              have q0 := r3.2.1
              have n1 : (tz_j 0 < tz_j 2) = True := nj_ltt (by omega) (by omega)
              have n3 := nj_ix8 (s := 0) (n := 6) (by omega) (by omega)
              have c1 : (tz_j 0).toNatClampNeg = 0 := nj_cl (by omega)
              have a1 : tz_j 0 + tz_j 1 = tz_j 1 := nj_add
              have qs : tz_g (tz_s A4 147 0 (tz_j 4294967295)) 122 0 = tz_j (nu_f T L (nu_p T L (nu_p T L (nu_p T L (p + 5))))) := (tz_gsk (by omega)).trans q4
              have ew : f_X7_readWay A3 = some (some (.int (tz_j 1)), tz_s A4 147 0 (tz_j 4294967295)) := by
                rw [e_X7_readWay]
                simp only [tz_lit, nj_m1, nj_m2, nj_m3, nj_m4, nj_m5, nj_m6, nj_m7, ↓reduceIte, tz_bI_some, tz_bV_some, tz_bL_some, cj10, cj01, cjm0, eq_self, not_true_eq_false, not_false_eq_true, or_false, false_or, or_true, true_or, or_self, and_true, true_and, and_false, false_and]
                rw [e_X7_readWay_4 (tz_j 0)]
                simp only [tz_lit, nj_m1, nj_m2, nj_m3, nj_m4, nj_m5, nj_m6, nj_m7, ↓reduceIte, tz_bI_some, tz_bV_some, tz_bL_some, cj10, cj01, cjm0, eq_self, not_true_eq_false, not_false_eq_true, or_false, false_or, or_true, true_or, or_self, and_true, true_and, and_false, false_and, q0, n1, e4, q4, n2, n3, c1, a1]
                rw [e_X7_readWay_4]
                simp only [tz_lit, nj_m1, nj_m2, nj_m3, nj_m4, nj_m5, nj_m6, nj_m7, ↓reduceIte, tz_bI_some, tz_bV_some, tz_bL_some, cj10, cj01, cjm0, eq_self, not_true_eq_false, not_false_eq_true, or_false, false_or, or_true, true_or, or_self, and_true, true_and, and_false, false_and, qs, n2]
              refine ⟨tz_s A4 147 0 (tz_j 4294967295), go A _ _ e0 r0 full ?_, qs, fx_tr (sk_2 f0) (fx_tr (sk_2 f1) (fx_tr (sk_2 f2) (fx_tr (sk_2 f3) (fx_tr (sk_2 f4) ry_147))))⟩
              rw [e_X7_readStorm]
              simp only [tz_lit, nj_m1, nj_m2, nj_m3, nj_m4, nj_m5, nj_m6, nj_m7, ↓reduceIte, tz_bI_some, tz_bV_some, tz_bL_some, cj10, cj01, cjm0, eq_self, not_true_eq_false, not_false_eq_true, or_false, false_or, or_true, true_or, or_self, and_true, true_and, and_false, false_and, e1, e2, e3, ew, qs, n2]
            · obtain ⟨B1, m1, _, t1, g1⟩ := mw D B r
              obtain ⟨B2, d2, t2, v2, g2⟩ := (t_no (x := 0) (lo := 1) (h1 := 10) hL hs (by omega) hp4 (by omega) (hi_k (n := 9) (by omega)) t1).1 o1
              obtain ⟨B3, d3, t3, v3, g3⟩ := (t_no (x := 1) (lo := 1) (h1 := 100) hL hs (by omega) b1.2.1 (by omega) (hi_k (n := 99) (by omega)) t2).1 o2
              obtain ⟨B4, d4, t4, v4, g4⟩ := (t_no (x := 2) (lo := 1) (h1 := 10) hL hs (by omega) b2.2.1 (by omega) (hi_k (n := 9) (by omega)) t3).1 o3
              have k3 : tz_g B4 157 3 = tz_j (S 1 0) := cm_3 t4.1.1
              obtain ⟨B5, d5, v5, g5⟩ := (t_no (x := 3) (lo := 0) (h1 := S 1 0) (hi := tz_j (S 1 0) - tz_j 1) hL hs (by omega) b3.2.1 (by omega) (hi_c (by omega)) t4).2 o4
              have dw : f_X12_ways B4 = some (some (.int (tz_j 0)), B5) := by
                rw [e_X12_ways]
                simp only [tz_lit, nj_m1, nj_m2, nj_m3, nj_m4, nj_m5, nj_m6, nj_m7, ↓reduceIte, tz_bI_some, tz_bV_some, tz_bL_some, cj10, cj01, cjm0, eq_self, not_true_eq_false, not_false_eq_true, or_false, false_or, or_true, true_or, or_self, and_true, true_and, and_false, false_and, k3, d5]
              refine ⟨B5, ?_, v5, fr_tr g1 (fr_tr (fr_mo g2 (fun k i => tx_t2)) (fr_tr (fr_mo g3 (fun k i => tx_t2)) (fr_tr (fr_mo g4 (fun k i => tx_t2)) (g5))))⟩
              rw [m1 full]
              simp only [tz_lit, nj_m1, nj_m2, nj_m3, nj_m4, nj_m5, nj_m6, nj_m7, ↓reduceIte, tz_bI_some, tz_bV_some, tz_bL_some, cj10, cj01, cjm0, eq_self, not_true_eq_false, not_false_eq_true, or_false, false_or, or_true, true_or, or_self, and_true, true_and, and_false, false_and, d2, d3, d4, dw]
        · skip
          refine Or.inl ⟨nu_f T L (nu_p T L (nu_p T L (p + 5))), nu_fl b2.2.1, fun A r => ?_, fun D B r => ?_⟩
          · obtain ⟨e0, r0, f0⟩ := word A r
            obtain ⟨A1, e1, r1, q1, f1⟩ := (r_no (lo := 1) (h1 := 10) hL hp4 (by omega) (hi_k (n := 9) (by omega)) r0).1 o1
            obtain ⟨A2, e2, r2, q2, f2⟩ := (r_no (lo := 1) (h1 := 100) hL b1.2.1 (by omega) (hi_k (n := 99) (by omega)) r1).1 o2
            obtain ⟨A3, e3, q3, f3⟩ := (r_no (lo := 1) (h1 := 10) hL b2.2.1 (by omega) (hi_k (n := 9) (by omega)) r2).2 o3
            have hf := nu_fl (T := T) b2.2.1
            have n2 : (tz_j (nu_f T L (nu_p T L (nu_p T L (p + 5)))) = tz_j 4294967295) = False := nj_eqf (by omega) (by omega) (by omega)
            have ew := wf _ _ (show nu_f T L (nu_p T L (nu_p T L (p + 5))) ≤ 200 by omega) q3
            refine ⟨A3, go A _ _ e0 r0 full ?_, q3, fx_tr (sk_2 f0) (fx_tr (sk_2 f1) (fx_tr (sk_2 f2) (sk_2 f3)))⟩
            rw [e_X7_readStorm]
            simp only [tz_lit, nj_m1, nj_m2, nj_m3, nj_m4, nj_m5, nj_m6, nj_m7, ↓reduceIte, tz_bI_some, tz_bV_some, tz_bL_some, cj10, cj01, cjm0, eq_self, not_true_eq_false, not_false_eq_true, or_false, false_or, or_true, true_or, or_self, and_true, true_and, and_false, false_and, e1, e2, e3, ew, q3, n2]
          · obtain ⟨B1, m1, _, t1, g1⟩ := mw D B r
            obtain ⟨B2, d2, t2, v2, g2⟩ := (t_no (x := 0) (lo := 1) (h1 := 10) hL hs (by omega) hp4 (by omega) (hi_k (n := 9) (by omega)) t1).1 o1
            obtain ⟨B3, d3, t3, v3, g3⟩ := (t_no (x := 1) (lo := 1) (h1 := 100) hL hs (by omega) b1.2.1 (by omega) (hi_k (n := 99) (by omega)) t2).1 o2
            obtain ⟨B4, d4, v4, g4⟩ := (t_no (x := 2) (lo := 1) (h1 := 10) hL hs (by omega) b2.2.1 (by omega) (hi_k (n := 9) (by omega)) t3).2 o3
            refine ⟨B4, ?_, v4, fr_tr g1 (fr_tr (fr_mo g2 (fun k i => tx_t2)) (fr_tr (fr_mo g3 (fun k i => tx_t2)) (g4)))⟩
            rw [m1 full]
            simp only [tz_lit, nj_m1, nj_m2, nj_m3, nj_m4, nj_m5, nj_m6, nj_m7, ↓reduceIte, tz_bI_some, tz_bV_some, tz_bL_some, cj10, cj01, cjm0, eq_self, not_true_eq_false, not_false_eq_true, or_false, false_or, or_true, true_or, or_self, and_true, true_and, and_false, false_and, d2, d3, d4]
      · skip
        refine Or.inl ⟨nu_f T L (nu_p T L (p + 5)), nu_fl b1.2.1, fun A r => ?_, fun D B r => ?_⟩
        · obtain ⟨e0, r0, f0⟩ := word A r
          obtain ⟨A1, e1, r1, q1, f1⟩ := (r_no (lo := 1) (h1 := 10) hL hp4 (by omega) (hi_k (n := 9) (by omega)) r0).1 o1
          obtain ⟨A2, e2, q2, f2⟩ := (r_no (lo := 1) (h1 := 100) hL b1.2.1 (by omega) (hi_k (n := 99) (by omega)) r1).2 o2
          have hf := nu_fl (T := T) b1.2.1
          have n2 : (tz_j (nu_f T L (nu_p T L (p + 5))) = tz_j 4294967295) = False := nj_eqf (by omega) (by omega) (by omega)
          have e3 := r_noF (lo := tz_j 1) (hi := tz_j 9) (show nu_f T L (nu_p T L (p + 5)) ≤ 200 by omega) q2
          have ew := wf _ _ (show nu_f T L (nu_p T L (p + 5)) ≤ 200 by omega) q2
          refine ⟨A2, go A _ _ e0 r0 full ?_, q2, fx_tr (sk_2 f0) (fx_tr (sk_2 f1) (sk_2 f2))⟩
          rw [e_X7_readStorm]
          simp only [tz_lit, nj_m1, nj_m2, nj_m3, nj_m4, nj_m5, nj_m6, nj_m7, ↓reduceIte, tz_bI_some, tz_bV_some, tz_bL_some, cj10, cj01, cjm0, eq_self, not_true_eq_false, not_false_eq_true, or_false, false_or, or_true, true_or, or_self, and_true, true_and, and_false, false_and, e1, e2, e3, ew, q2, n2]
        · obtain ⟨B1, m1, _, t1, g1⟩ := mw D B r
          obtain ⟨B2, d2, t2, v2, g2⟩ := (t_no (x := 0) (lo := 1) (h1 := 10) hL hs (by omega) hp4 (by omega) (hi_k (n := 9) (by omega)) t1).1 o1
          obtain ⟨B3, d3, v3, g3⟩ := (t_no (x := 1) (lo := 1) (h1 := 100) hL hs (by omega) b1.2.1 (by omega) (hi_k (n := 99) (by omega)) t2).2 o2
          refine ⟨B3, ?_, v3, fr_tr g1 (fr_tr (fr_mo g2 (fun k i => tx_t2)) (g3))⟩
          rw [m1 full]
          simp only [tz_lit, nj_m1, nj_m2, nj_m3, nj_m4, nj_m5, nj_m6, nj_m7, ↓reduceIte, tz_bI_some, tz_bV_some, tz_bL_some, cj10, cj01, cjm0, eq_self, not_true_eq_false, not_false_eq_true, or_false, false_or, or_true, true_or, or_self, and_true, true_and, and_false, false_and, d2, d3]
    · skip
      refine Or.inl ⟨nu_f T L (p + 5), nu_fl hp4, fun A r => ?_, fun D B r => ?_⟩
      · obtain ⟨e0, r0, f0⟩ := word A r
        obtain ⟨A1, e1, q1, f1⟩ := (r_no (lo := 1) (h1 := 10) hL hp4 (by omega) (hi_k (n := 9) (by omega)) r0).2 o1
        have hf := nu_fl (T := T) hp4
        have n2 : (tz_j (nu_f T L (p + 5)) = tz_j 4294967295) = False := nj_eqf (by omega) (by omega) (by omega)
        have e2 := r_noF (lo := tz_j 1) (hi := tz_j 99) (show nu_f T L (p + 5) ≤ 200 by omega) q1
        have e3 := r_noF (lo := tz_j 1) (hi := tz_j 9) (show nu_f T L (p + 5) ≤ 200 by omega) q1
        have ew := wf _ _ (show nu_f T L (p + 5) ≤ 200 by omega) q1
        refine ⟨A1, go A _ _ e0 r0 full ?_, q1, fx_tr (sk_2 f0) (sk_2 f1)⟩
        rw [e_X7_readStorm]
        simp only [tz_lit, nj_m1, nj_m2, nj_m3, nj_m4, nj_m5, nj_m6, nj_m7, ↓reduceIte, tz_bI_some, tz_bV_some, tz_bL_some, cj10, cj01, cjm0, eq_self, not_true_eq_false, not_false_eq_true, or_false, false_or, or_true, true_or, or_self, and_true, true_and, and_false, false_and, e1, e2, e3, ew, q1, n2]
      · obtain ⟨B1, m1, _, t1, g1⟩ := mw D B r
        obtain ⟨B2, d2, v2, g2⟩ := (t_no (x := 0) (lo := 1) (h1 := 10) hL hs (by omega) hp4 (by omega) (hi_k (n := 9) (by omega)) t1).2 o1
        refine ⟨B2, ?_, v2, fr_tr g1 (g2)⟩
        rw [m1 full]
        simp only [tz_lit, nj_m1, nj_m2, nj_m3, nj_m4, nj_m5, nj_m6, nj_m7, ↓reduceIte, tz_bI_some, tz_bV_some, tz_bL_some, cj10, cj01, cjm0, eq_self, not_true_eq_false, not_false_eq_true, or_false, false_or, or_true, true_or, or_self, and_true, true_and, and_false, false_and, d2]
  · refine Or.inl ⟨p, hp, fun A r => ?_, fun D B r => ?_⟩
    · obtain ⟨e0, r0, f0⟩ := word A r
      have er := (r_rm r0 W).2.1
      rw [if_neg full] at er
      exact r_full hL hp r e0 r0 f0 er
    · obtain ⟨B1, _, m1, t1, g1⟩ := mw D B r
      exact ⟨_, m1 full, tz_gs1, fr_s g1 (Or.inl ⟨rfl, rfl⟩)⟩
theorem it_all {T : Nat → Int32} {L s N p : Nat} {S : tz_S} (hL : L ≤ 160) (hs : s < 8) (hp : p ≤ L) (hN : N ≤ 1200000) (H : sp_H N S) (hst : sp_st S) : it_R T L s N p S := by
  by_cases h5 : wd_a T L p 5 = 4
  · exact it_hill hL hs hp H hst h5
  by_cases h6 : wd_a T L p 6 = 5
  · exact it_storm hL hs hp H hst h6
  by_cases h7 : wd_a T L p 7 = 6
  · exact it_letter hL hs hp H hst h7
  by_cases h8 : wd_a T L p 8 = 4
  · exact it_hour hL hs hp hN H hst h8
  by_cases h9 : wd_a T L p 9 = 4
  · exact it_burn hL hs hp H hst h9
  exact it_none hL hs hp H.1 h5 h6 h7 h8 h9
