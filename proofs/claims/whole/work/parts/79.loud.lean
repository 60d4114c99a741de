/-! loudest, drought, first heard -/
theorem tz_grr {A : tz_Mem} {k i v : Nat} : tz_gr (tz_sr A k i v) k i = v := if_pos ⟨rfl, rfl⟩
noncomputable def bcv (x : Int32) : Int32 := Classical.choose (bc_ex x)
theorem bcv_s (x : Int32) (A : tz_Mem) : f_J6_bitCount x A = some (some (.int (bcv x)), A) := Classical.choose_spec (bc_ex x) A
theorem i32_le (y z : Int32) : (y ≤ z) = ¬ (z < y) := propext (by
  rw [Int32.le_iff_toInt_le, Int32.lt_iff_toInt_lt]
  omega)
def sp_ld (f : Nat → Int32) : Nat → Nat → Int32 → Int32 → Int32
  | 0, _, best, _ => best
  | k + 1, h, best, most => if most < f h then sp_ld f k (h + 1) (tz_j h) (f h) else sp_ld f k (h + 1) best most
theorem x_ldL {S : tz_S} {A : tz_Mem} {u : Nat} (hu : u < 2) (h8 : S 1 0 ≤ 8) (q31 : tz_g A 31 0 = tz_j (S 1 0)) {f : Nat → Int32} (hf : ∀ h, h < 8 → f h = if u = 0 then tz_g A 81 h - tz_g A 35 h else bcv (tz_g A 80 h)) : ∀ k h best most, h + k = S 1 0 → q_X11_loudest_72 (tz_j u) best most (tz_j h) A = some (some (.int (sp_ld f k h best most)), A) := by
  intro k
  induction k with
  | zero =>
    intro h best most hh
    have n1 : (tz_j (S 1 0) ≤ tz_j h) = True := nj_let (by omega) (by omega)
    rw [e_X11_loudest_72]
    simp only [tz_lit, nj_m1, nj_m2, nj_m3, nj_m4, nj_m5, nj_m6, nj_m7, ↓reduceIte, tz_bI_some, tz_bV_some, tz_bL_some, cj10, cj01, cjm0, eq_self, not_true_eq_false, not_false_eq_true, or_false, false_or, or_true, true_or, or_self, and_true, true_and, and_false, false_and, q31, n1]
    rfl
  | succ k ih =>
    intro h best most hh
    have n1 : (tz_j (S 1 0) ≤ tz_j h) = False := nj_lef (by omega) (by omega)
    have hcl : (tz_j h).toNatClampNeg = h := nj_cl (by omega)
    have n3 : (tz_j h < tz_j 0 ∨ 8 ≤ h) = False := by
      have := nj_ix (l := h) (n := 8) (by omega) (by omega)
      rw [nj_cl (by omega)] at this
      exact this
    have hfh := hf h (by omega)
    rw [e_X11_loudest_72]
    show _ = some (some (Value.int (if most < f h then sp_ld f k (h + 1) (tz_j h) (f h) else sp_ld f k (h + 1) best most)), A)
    rcases (show u = 0 ∨ u = 1 by omega) with rfl | rfl
    · rw [if_pos rfl] at hfh
      have n4 := i32_le (tz_g A 81 h - tz_g A 35 h) most
      rw [← hfh] at n4
      by_cases z : most < f h
      · rw [if_pos (c := most < f h) z]
        simp only [tz_lit, nj_m1, nj_m2, nj_m3, nj_m4, nj_m5, nj_m6, nj_m7, ↓reduceIte, tz_bI_some, tz_bV_some, tz_bL_some, cj10, cj01, cjm0, eq_self, not_true_eq_false, not_false_eq_true, or_false, false_or, or_true, true_or, or_self, and_true, true_and, and_false, false_and, q31, n1, hcl, n3, ← hfh, n4, z, nj_add]
        exact ih (h + 1) _ _ (by omega)
      · rw [if_neg (c := most < f h) z]
        simp only [tz_lit, nj_m1, nj_m2, nj_m3, nj_m4, nj_m5, nj_m6, nj_m7, ↓reduceIte, tz_bI_some, tz_bV_some, tz_bL_some, cj10, cj01, cjm0, eq_self, not_true_eq_false, not_false_eq_true, or_false, false_or, or_true, true_or, or_self, and_true, true_and, and_false, false_and, q31, n1, hcl, n3, ← hfh, n4, z, nj_add]
        exact ih (h + 1) _ _ (by omega)
    · rw [if_neg (by omega)] at hfh
      have eb := bcv_s (tz_g A 80 h) A
      rw [← hfh] at eb
      have n4 := i32_le (f h) most
      by_cases z : most < f h
      · rw [if_pos (c := most < f h) z]
        simp only [tz_lit, nj_m1, nj_m2, nj_m3, nj_m4, nj_m5, nj_m6, nj_m7, ↓reduceIte, tz_bI_some, tz_bV_some, tz_bL_some, cj10, cj01, cjm0, eq_self, not_true_eq_false, not_false_eq_true, or_false, false_or, or_true, true_or, or_self, and_true, true_and, and_false, false_and, q31, n1, hcl, n3, eb, n4, z, nj_add]
        exact ih (h + 1) _ _ (by omega)
      · rw [if_neg (c := most < f h) z]
        simp only [tz_lit, nj_m1, nj_m2, nj_m3, nj_m4, nj_m5, nj_m6, nj_m7, ↓reduceIte, tz_bI_some, tz_bV_some, tz_bL_some, cj10, cj01, cjm0, eq_self, not_true_eq_false, not_false_eq_true, or_false, false_or, or_true, true_or, or_self, and_true, true_and, and_false, false_and, q31, n1, hcl, n3, eb, n4, z, nj_add]
        exact ih (h + 1) _ _ (by omega)
theorem m_ldL {S : tz_S} {B : tz_Mem} {u : Nat} (hu : u < 2) (c : rm_c S B) (h8 : S 1 0 ≤ 8) {f : Nat → Int32} (hf0 : u = 0 → ∀ h, h < S 1 0 → tz_g B 182 h = f h) (hf1 : u = 1 → ∀ h, h < S 1 0 → ∃ x, f_X12_lying (tz_j h) B = some (some (.int x), B) ∧ f h = bcv x) : ∀ k h best most, h + k = S 1 0 → q_X12_loudest_91 (tz_j u) best most (tz_j h) B = tz_bV (f_X12_again_s181 B) (fun A1 => some (some (.int (sp_ld f k h best most)), A1)) := by
  have q3 : tz_g B 157 3 = tz_j (S 1 0) := cm_3 c
  intro k
  induction k with
  | zero =>
    intro h best most hh
    have n1 : (tz_j (S 1 0) ≤ tz_j h) = True := nj_let (by omega) (by omega)
    rw [e_X12_loudest_91]
    simp only [tz_lit, nj_m1, nj_m2, nj_m3, nj_m4, nj_m5, nj_m6, nj_m7, ↓reduceIte, tz_bI_some, tz_bV_some, tz_bL_some, cj10, cj01, cjm0, eq_self, not_true_eq_false, not_false_eq_true, or_false, false_or, or_true, true_or, or_self, and_true, true_and, and_false, false_and, q3, n1]
    rfl
  | succ k ih =>
    intro h best most hh
    have n1 : (tz_j (S 1 0) ≤ tz_j h) = False := nj_lef (by omega) (by omega)
    have hcl : (tz_j h).toNatClampNeg = h := nj_cl (by omega)
    have n3 : (tz_j h < tz_j 0 ∨ 8 ≤ h) = False := by
      have := nj_ix (l := h) (n := 8) (by omega) (by omega)
      rw [nj_cl (by omega)] at this
      exact this
    rw [e_X12_loudest_91]
    show _ = tz_bV (f_X12_again_s181 B) (fun A1 => some (some (Value.int (if most < f h then sp_ld f k (h + 1) (tz_j h) (f h) else sp_ld f k (h + 1) best most)), A1))
    rcases (show u = 0 ∨ u = 1 by omega) with rfl | rfl
    · have hfh := hf0 rfl h (by omega)
      by_cases z : most < f h
      · rw [if_pos (c := most < f h) z]
        simp only [tz_lit, nj_m1, nj_m2, nj_m3, nj_m4, nj_m5, nj_m6, nj_m7, ↓reduceIte, tz_bI_some, tz_bV_some, tz_bL_some, cj10, cj01, cjm0, eq_self, not_true_eq_false, not_false_eq_true, or_false, false_or, or_true, true_or, or_self, and_true, true_and, and_false, false_and, q3, n1, hcl, n3, hfh, z, nj_add]
        exact ih (h + 1) _ _ (by omega)
      · rw [if_neg (c := most < f h) z]
        simp only [tz_lit, nj_m1, nj_m2, nj_m3, nj_m4, nj_m5, nj_m6, nj_m7, ↓reduceIte, tz_bI_some, tz_bV_some, tz_bL_some, cj10, cj01, cjm0, eq_self, not_true_eq_false, not_false_eq_true, or_false, false_or, or_true, true_or, or_self, and_true, true_and, and_false, false_and, q3, n1, hcl, n3, hfh, z, nj_add]
        exact ih (h + 1) _ _ (by omega)
    · obtain ⟨x, ex, hfh⟩ := hf1 rfl h (by omega)
      have eb := bcv_s x B
      rw [← hfh] at eb
      by_cases z : most < f h
      · rw [if_pos (c := most < f h) z]
        simp only [tz_lit, nj_m1, nj_m2, nj_m3, nj_m4, nj_m5, nj_m6, nj_m7, ↓reduceIte, tz_bI_some, tz_bV_some, tz_bL_some, cj10, cj01, cjm0, eq_self, not_true_eq_false, not_false_eq_true, or_false, false_or, or_true, true_or, or_self, and_true, true_and, and_false, false_and, q3, n1, hcl, n3, ex, eb, z, nj_add]
        exact ih (h + 1) _ _ (by omega)
      · rw [if_neg (c := most < f h) z]
        simp only [tz_lit, nj_m1, nj_m2, nj_m3, nj_m4, nj_m5, nj_m6, nj_m7, ↓reduceIte, tz_bI_some, tz_bV_some, tz_bL_some, cj10, cj01, cjm0, eq_self, not_true_eq_false, not_false_eq_true, or_false, false_or, or_true, true_or, or_self, and_true, true_and, and_false, false_and, q3, n1, hcl, n3, ex, eb, z, nj_add]
        exact ih (h + 1) _ _ (by omega)
theorem m_ldZ {x y : Int32} : ∀ k i A, i + k = 8 → ∃ B, q_X12_loudest_47 x y (tz_j i) A = q_X12_loudest_68 x y (tz_j 0) B ∧ (∀ h, i ≤ h → h < 8 → tz_g B 182 h = tz_j 0) ∧ B.1 = A.1 ∧ B.2.2 = A.2.2 ∧ (∀ k' i', ¬ (k' = 182 ∧ i ≤ i') → tz_g B k' i' = tz_g A k' i') := by
  intro k
  induction k with
  | zero =>
    intro i A hi
    obtain rfl : i = 8 := by omega
    have n1 : (tz_j 8 ≤ tz_j 8) = True := nj_let (by omega) (by omega)
    refine ⟨A, ?_, fun h a b => by omega, rfl, rfl, fun _ _ _ => rfl⟩
    rw [e_X12_loudest_47]
    simp only [tz_lit, nj_m1, nj_m2, nj_m3, nj_m4, nj_m5, nj_m6, nj_m7, ↓reduceIte, tz_bI_some, tz_bV_some, tz_bL_some, cj10, cj01, cjm0, eq_self, not_true_eq_false, not_false_eq_true, or_false, false_or, or_true, true_or, or_self, and_true, true_and, and_false, false_and, n1]
  | succ k ih =>
    intro i A hi
    have n1 : (tz_j 8 ≤ tz_j i) = False := nj_lef (by omega) (by omega)
    have hcl : (tz_j i).toNatClampNeg = i := nj_cl (by omega)
    have n3 : (tz_j i < tz_j 0 ∨ 8 ≤ i) = False := by
      have := nj_ix (l := i) (n := 8) (by omega) (by omega)
      rw [nj_cl (by omega)] at this
      exact this
    obtain ⟨B, e, g, b1, b2, o⟩ := ih (i + 1) (tz_s A 182 i (tz_j 0)) (by omega)
    refine ⟨B, ?_, fun h a b => ?_, b1, b2, fun k' i' hk => ?_⟩
    · rw [e_X12_loudest_47]
      simp only [tz_lit, nj_m1, nj_m2, nj_m3, nj_m4, nj_m5, nj_m6, nj_m7, ↓reduceIte, tz_bI_some, tz_bV_some, tz_bL_some, cj10, cj01, cjm0, eq_self, not_true_eq_false, not_false_eq_true, or_false, false_or, or_true, true_or, or_self, and_true, true_and, and_false, false_and, n1, hcl, n3, nj_add]
      exact e
    · by_cases z : h = i
      · rw [z, o 182 i (by omega), tz_gs1]
      · exact g h (by omega) b
    · rw [o k' i' (by omega), tz_gS, if_neg (by omega)]

theorem p_loudest (x1 x2 : Int32) : tz_twoI tz_J (f_X11_loudest x1 x2) (f_X12_loudest x1 x2) := by
  refine two_of (fun N S K U V A hN c ww => ?_)
  have W := ww.1.1
  have W2 := ww.1.2.1
  have h8 := W.1
  have h4 := W.2.1
  have h12 := W.2.2.1
  have cc := c.1.1
  have q31 : tz_g A 31 0 = tz_j (S 1 0) := cz_1 cc
  have q3 := fun {D} {A} (m : MX D S K U V A) => cm_3 m.1.1
  by_cases z : S 1 0 = 0
  · have n0 : (tz_j (S 1 0) = tz_j 0) = True := by rw [z]; exact eq_self _

    refine out_ref (v := tz_j 4294967291) 5 (by omega) c ww ?_ (fun A D m => ?_)
    · rw [e_X11_loudest]
      simp only [tz_lit, nj_m1, nj_m2, nj_m3, nj_m4, nj_m5, nj_m6, nj_m7, ↓reduceIte, tz_bI_some, tz_bV_some, tz_bL_some, cj10, cj01, cjm0, eq_self, not_true_eq_false, not_false_eq_true, or_false, false_or, or_true, true_or, or_self, and_true, true_and, and_false, false_and, q31, n0, x_ref1, x_ref2, x_ref3, x_ref4, x_ref5, x_ref6, x_ref7, e_X11_refuseLower]
    · rw [e_X12_loudest]
      simp only [tz_lit, nj_m1, nj_m2, nj_m3, nj_m4, nj_m5, nj_m6, nj_m7, ↓reduceIte, tz_bI_some, tz_bV_some, tz_bL_some, cj10, cj01, cjm0, eq_self, not_true_eq_false, not_false_eq_true, or_false, false_or, or_true, true_or, or_self, and_true, true_and, and_false, false_and, q3 m, n0, m_no1, m_no2, m_no3, m_no4, m_no5, m_no6, m_no7, e_X12_no10]

  · have n0 : (tz_j (S 1 0) = tz_j 0) = False := nj_eqf z (by omega) (by omega)
    rcases nj_three x2 2 (by omega) with ⟨u, hu, rfl⟩ | h2
    · have k2 := k_two1 (A := A) hu
      have w2 := fun A => w_in (A := A) (u := u) (n := 1) (by omega) (by omega)
      rcases nj_three x1 501 (by omega) with ⟨n, hn, rfl⟩ | h
      · have n1 : (tz_j n < tz_j 0) = False := nj_ltf (by omega) (by omega)
        have n2 : (tz_j n ≤ tz_j 500) = True := nj_let (by omega) (by omega)
        obtain ⟨A1, f1, r1, g1⟩ := x_bec2 h76 h30 (by omega) W ww.2.1 c.1
        obtain ⟨A2, f2, r2, g2⟩ := x_pass (n := n) h76 (show N + n ≤ 2000000 by omega) r1 ww.1
        obtain ⟨Hn, Hn3, Hnk⟩ := n_G n S ww.1
        have gg := fx_tr (fx_mo g1 (fun k i => th_b)) (fx_mo (fx_fr g2) (fun k i => th_r))
        have c2 := CX_th ww.2.1 ww.2.2.2.1 gg c
        have q31b : tz_g A2 31 0 = tz_j (S 1 0) := cz_1 c2.1.1
        have e10 := Hnk 1 0 (by unfold sp_kp; omega) (by omega)
        have f3 := x_ldL (A := A2) (f := fun h => if u = 0 then tz_g A2 81 h - tz_g A2 35 h else bcv (tz_g A2 80 h)) hu h8 q31b (fun h _ => rfl) (S 1 0) 0 (tz_j 0) (tz_j 4294967295) (Nat.zero_add _)
        refine out_th (v := sp_ld (fun h => if u = 0 then tz_g A2 81 h - tz_g A2 35 h else bcv (tz_g A2 80 h)) (S 1 0) 0 (tz_j 0) (tz_j 4294967295)) c ww ⟨A2, ?_, gg⟩ (fun A' D m => ?_)
        · rw [e_X11_loudest]
          simp only [tz_lit, nj_m1, nj_m2, nj_m3, nj_m4, nj_m5, nj_m6, nj_m7, ↓reduceIte, tz_bI_some, tz_bV_some, tz_bL_some, cj10, cj01, cjm0, eq_self, not_true_eq_false, not_false_eq_true, or_false, false_or, or_true, true_or, or_self, and_true, true_and, and_false, false_and, q31, n0, k2, n1, n2, f1, f2, f3]
        · obtain ⟨M1, k1, rk, hk34, hback⟩ := m_think W ww.2.1 m
          obtain ⟨M2, eZ, gZ, b1, b2, oZ⟩ := m_ldZ (x := tz_j n) (y := tz_j u) 8 0 M1 (Nat.zero_add _)
          have fZ : tz_fr mt_p M1 M2 := ⟨b1, b2, fun k i h => oZ k i (fun q => h (Or.inl (Or.inr (Or.inr q.1))))⟩
          have rZ : rm (fun h => tz_j 0 - tz_j (S 5 h)) S M2 := by
            obtain ⟨c0, w0, o0, s0, e0⟩ := rk
            refine ⟨rm_c_A c0 (fun _ _ _ => rfl) (fun p q k i h => oZ p q (by unfold rm_rel at h; omega)), rm_w_mv w0 rfl (fun _ => rfl) (fun _ _ _ => rfl) (fun i => ⟨oZ 163 i (by omega), oZ 164 i (by omega)⟩), fun h hh => ?_, rm_s_mv s0 rfl (oZ 157 34 (by omega)), rm_e_mv e0 rfl (fun _ => ⟨rfl, rfl⟩) ⟨oZ 157 36 (by omega), oZ 157 37 (by omega)⟩⟩
            show tz_g M2 182 h = tz_j 0 - tz_j (S 5 h) + tz_j (S 5 h)
            rw [gZ h (by omega) hh, Int32.sub_add_cancel]
          obtain ⟨B, eB, rB, fB⟩ := m_n (D := fun h => tz_j 0 - tz_j (S 5 h)) (q := fun i A => q_X12_loudest_68 (tz_j n) (tz_j u) i A) (n := n) (fun i A hi => by
            show q_X12_loudest_68 (tz_j n) (tz_j u) (tz_j i) A = _
            have n3 : (tz_j n ≤ tz_j i) = False := nj_lef (by omega) (by omega)
            rw [e_X12_loudest_68]
            simp only [tz_lit, nj_m1, nj_m2, nj_m3, nj_m4, nj_m5, nj_m6, nj_m7, ↓reduceIte, tz_bI_some, tz_bV_some, tz_bL_some, cj10, cj01, cjm0, eq_self, not_true_eq_false, not_false_eq_true, or_false, false_or, or_true, true_or, or_self, and_true, true_and, and_false, false_and, n3, nj_add]) n 0 N S M2 (by omega) (by omega) rZ ww.1 (by rw [ww.2.1.2]; omega)
          have eB2 : q_X12_loudest_68 (tz_j n) (tz_j u) (tz_j 0) M2 = q_X12_loudest_68 (tz_j n) (tz_j u) (tz_j n) B := eB
          have h34 : tz_g B 157 34 = tz_g A' 157 34 := (fB.2.2 157 34 mo_34).trans ((oZ 157 34 (by omega)).trans hk34)
          obtain ⟨C, D', eC, mC, fC, _⟩ := hback B (fr_tr fZ (fr_mo fB (fun k i => mo_mt))) (fun j => (fB.2.2 181 j mo_181).trans (oZ 181 j (by omega))) h34 (rB.2.2.2.2.2 (by rw [Hnk 200 0 (by unfold sp_kp; omega) (by omega), ww.2.1.2]; omega))
          have f4 := m_ldL (S := sp_n n S) (B := B) (u := u) (f := fun h => if u = 0 then tz_g A2 81 h - tz_g A2 35 h else bcv (tz_g A2 80 h)) hu rB.1 (by rw [e10]; exact h8) (fun hu0 h hh => by
            rw [e10] at hh
            show tz_g B 182 h = if u = 0 then tz_g A2 81 h - tz_g A2 35 h else bcv (tz_g A2 80 h)
            rw [if_pos hu0, rB.2.2.1 h (by omega), show tz_g A2 81 h = tz_j (sp_n n S 5 h) from cg_5 r2.1 (by omega), show tz_g A2 35 h = tz_j (S 5 h) from cz_5 c2.1.1 (by omega)]
            show tz_j 0 - tz_j (S 5 h) + tz_j (sp_n n S 5 h) = _
            rw [Int32.sub_eq_add_neg, Int32.sub_eq_add_neg, show tz_j 0 = (0 : Int32) from rfl, Int32.zero_add, Int32.add_comm]) (fun hu1 h hh => by
            have hh2 := hh
            rw [e10] at hh2
            refine ⟨tz_g A2 80 h, m_lying rB.1 Hn.1 Hn.2.1 (by omega) (r2.2.1 h hh), ?_⟩
            show (if u = 0 then tz_g A2 81 h - tz_g A2 35 h else bcv (tz_g A2 80 h)) = _
            rw [if_neg (by omega)]) (S 1 0) 0 (tz_j 0) (tz_j 4294967295) (by rw [e10]; exact Nat.zero_add _)
          have n4 : (tz_j n ≤ tz_j n) = True := nj_let (by omega) (by omega)
          have hr := m_hours500 (A := A') hn
          refine ⟨C, D', ?_, mC, fC⟩
          rw [e_X12_loudest]
          simp only [tz_lit, nj_m1, nj_m2, nj_m3, nj_m4, nj_m5, nj_m6, nj_m7, ↓reduceIte, tz_bI_some, tz_bV_some, tz_bL_some, cj10, cj01, cjm0, eq_self, not_true_eq_false, not_false_eq_true, or_false, false_or, or_true, true_or, or_self, and_true, true_and, and_false, false_and, q3 m, n0, w2, hr, k1, eZ, eB2]
          rw [e_X12_loudest_68]
          simp only [tz_lit, nj_m1, nj_m2, nj_m3, nj_m4, nj_m5, nj_m6, nj_m7, ↓reduceIte, tz_bI_some, tz_bV_some, tz_bL_some, cj10, cj01, cjm0, eq_self, not_true_eq_false, not_false_eq_true, or_false, false_or, or_true, true_or, or_self, and_true, true_and, and_false, false_and, n4, f4, eC]
      · refine out_ref (v := tz_j 4294967290) 6 (by omega) c ww ?_ (fun A D m => ?_)
        · rw [e_X11_loudest]
          rcases h with h | h
          · have n1 : (x1 < tz_j 0) = True := (ob_l h).1
            simp only [tz_lit, nj_m1, nj_m2, nj_m3, nj_m4, nj_m5, nj_m6, nj_m7, ↓reduceIte, tz_bI_some, tz_bV_some, tz_bL_some, cj10, cj01, cjm0, eq_self, not_true_eq_false, not_false_eq_true, or_false, false_or, or_true, true_or, or_self, and_true, true_and, and_false, false_and, q31, n0, k2, n1, x_ref1, x_ref2, x_ref3, x_ref4, x_ref5, x_ref6, x_ref7, e_X11_refuseLower]
          · have n1 : (x1 < tz_j 0) = False := ((ob_h (show 501 < 2147483648 by omega) h).1 0 (by omega)).1
            have n2 : (x1 ≤ tz_j 500) = False := ((ob_h (show 501 < 2147483648 by omega) h).2 500 (by omega)).1
            simp only [tz_lit, nj_m1, nj_m2, nj_m3, nj_m4, nj_m5, nj_m6, nj_m7, ↓reduceIte, tz_bI_some, tz_bV_some, tz_bL_some, cj10, cj01, cjm0, eq_self, not_true_eq_false, not_false_eq_true, or_false, false_or, or_true, true_or, or_self, and_true, true_and, and_false, false_and, q31, n0, k2, n1, n2, x_ref1, x_ref2, x_ref3, x_ref4, x_ref5, x_ref6, x_ref7, e_X11_refuseLower]
        · have hr := m_hours0 (A := A) h
          rw [e_X12_loudest]
          simp only [tz_lit, nj_m1, nj_m2, nj_m3, nj_m4, nj_m5, nj_m6, nj_m7, ↓reduceIte, tz_bI_some, tz_bV_some, tz_bL_some, cj10, cj01, cjm0, eq_self, not_true_eq_false, not_false_eq_true, or_false, false_or, or_true, true_or, or_self, and_true, true_and, and_false, false_and, q3 m, n0, w2, hr, m_no1, m_no2, m_no3, m_no4, m_no5, m_no6, m_no7, e_X12_no10]
    · have k2 := k_two0 (A := A) h2

      refine out_ref (v := tz_j 4294967291) 5 (by omega) c ww ?_ (fun A D m => ?_)
      · rw [e_X11_loudest]
        simp only [tz_lit, nj_m1, nj_m2, nj_m3, nj_m4, nj_m5, nj_m6, nj_m7, ↓reduceIte, tz_bI_some, tz_bV_some, tz_bL_some, cj10, cj01, cjm0, eq_self, not_true_eq_false, not_false_eq_true, or_false, false_or, or_true, true_or, or_self, and_true, true_and, and_false, false_and, q31, n0, k2, x_ref1, x_ref2, x_ref3, x_ref4, x_ref5, x_ref6, x_ref7, e_X11_refuseLower]
      · rw [e_X12_loudest]
        simp only [tz_lit, nj_m1, nj_m2, nj_m3, nj_m4, nj_m5, nj_m6, nj_m7, ↓reduceIte, tz_bI_some, tz_bV_some, tz_bL_some, cj10, cj01, cjm0, eq_self, not_true_eq_false, not_false_eq_true, or_false, false_or, or_true, true_or, or_self, and_true, true_and, and_false, false_and, q3 m, n0, w_out (A := A) (n := 1) (by omega) h2, m_no1, m_no2, m_no3, m_no4, m_no5, m_no6, m_no7, e_X12_no10]

/-- hours till a word is heard -/
def sp_fh : Nat → tz_S → tz_S
  | 0, S => S
  | k + 1, S => if S 201 0 = 4294967295 then sp_fh k (sp_tk S) else S
def sp_fs (x : Nat) (S : tz_S) : tz_S := tz_t (tz_t (tz_t S 200 0 1) 201 0 4294967295) 201 1 x
theorem fs_get {x : Nat} {S : tz_S} {k i : Nat} (h : k < 200) : sp_fs x S k i = S k i := by
  show tz_t (tz_t (tz_t S 200 0 1) 201 0 4294967295) 201 1 x k i = _
  rw [tz_tk (by omega), tz_tk (by omega), tz_tk (by omega)]
theorem H_ear {N : Nat} {S S' : tz_S} (H : sp_H N S) (e : ∀ k i, k < 200 → S' k i = S k i) (WE : sp_WE S') : sp_H N S' := by
  obtain ⟨W, W2, _, h3, hT⟩ := H
  refine ⟨?_, ?_, WE, by rw [e 0 3 (by omega)]; exact h3, by rw [e 0 3 (by omega), e 0 0 (by omega)]; exact hT⟩
  · unfold sp_W1 sp_lt at W ⊢
    simp only [e 1 _ (by omega), e 2 _ (by omega), e 3 _ (by omega), e 7 _ (by omega), e 8 _ (by omega), e 9 _ (by omega), e 10 _ (by omega), e 11 _ (by omega), e 12 _ (by omega), e 15 _ (by omega), e 17 _ (by omega), e 18 _ (by omega), e 19 _ (by omega), e 22 _ (by omega)]
    exact W
  · unfold sp_W2 sp_wh at W2 ⊢
    rw [sum_mv (S := S) (S' := S') (S' 1 0) (fun h _ => e 5 h (by omega))]
    simp only [e 0 _ (by omega), e 1 _ (by omega), e 5 _ (by omega), e 7 _ (by omega), e 11 _ (by omega), e 13 _ (by omega), e 15 _ (by omega), e 16 _ (by omega), e 20 _ (by omega), e 21 _ (by omega)]
    exact W2
theorem fs_H {N x : Nat} {S : tz_S} (H : sp_H N S) (hx : x ≤ 9999) : sp_H N (sp_fs x S) := by
  have e200 : sp_fs x S 200 0 = 1 := rfl
  refine H_ear H (fun k i h => fs_get h) ⟨by rw [e200]; omega, fun _ => ⟨?_, Or.inl rfl⟩, fun q => ?_, fun q => ?_⟩
  · show x ≤ 9999
    exact hx
  · rw [e200] at q
    omega
  · rw [e200] at q
    omega
theorem x_fhL {u : Nat} (hu : u < 2) : ∀ k i N S A, i + k = 500 → N + k ≤ 2000000 → rx 76 99 S A → sp_H N S → S 200 0 = 1 → ∃ A', q_X11_firstHeard_60 (tz_j u) (tz_j i) A = some (some (.int (if u = 0 then tz_j (sp_fh k S 201 0) else if sp_fh k S 201 0 = 4294967295 then tz_j 4294967295 else tz_j (sp_fh k S 0 3))), A') ∧ tz_fr (rx_p 76) A A' := by
  have fin : ∀ (N : Nat) (S : tz_S) (A : tz_Mem), rx 76 99 S A → sp_H N S → S 200 0 = 1 → (if tz_j u = tz_j 0 then some (some (.int (tz_g A 150 0)), A) else if ¬ tz_g A 150 0 = tz_j 4294967295 then some (some (.int (tz_g A 76 3)), A) else some (some (.int (tz_g A 150 0)), A) : tz_X) = some (some (.int (if u = 0 then tz_j (S 201 0) else if S 201 0 = 4294967295 then tz_j 4294967295 else tz_j (S 0 3))), A) := by
    intro N S A r H h1
    have q150 : tz_g A 150 0 = tz_j (S 201 0) := (r.2.2.2.2.2.1 h1).1
    have q3 : tz_g A 76 3 = tz_j (S 0 3) := cx_0_3 r.1
    have hb := (H.2.2.1.2.1 h1).2
    rcases (show u = 0 ∨ u = 1 by omega) with rfl | rfl
    · simp only [tz_lit, nj_m1, nj_m2, nj_m3, nj_m4, nj_m5, nj_m6, nj_m7, ↓reduceIte, tz_bI_some, tz_bV_some, tz_bL_some, cj10, cj01, cjm0, eq_self, not_true_eq_false, not_false_eq_true, or_false, false_or, or_true, true_or, or_self, and_true, true_and, and_false, false_and, q150]
    · by_cases z : S 201 0 = 4294967295
      · simp only [tz_lit, nj_m1, nj_m2, nj_m3, nj_m4, nj_m5, nj_m6, nj_m7, ↓reduceIte, tz_bI_some, tz_bV_some, tz_bL_some, cj10, cj01, cjm0, eq_self, not_true_eq_false, not_false_eq_true, or_false, false_or, or_true, true_or, or_self, and_true, true_and, and_false, false_and, q150, z, show (1 = 0) = False from eq_false (by omega)]
      · have n1 : (tz_j (S 201 0) = tz_j 4294967295) = False := nj_eqf z (by omega) (by omega)
        simp only [tz_lit, nj_m1, nj_m2, nj_m3, nj_m4, nj_m5, nj_m6, nj_m7, ↓reduceIte, tz_bI_some, tz_bV_some, tz_bL_some, cj10, cj01, cjm0, eq_self, not_true_eq_false, not_false_eq_true, or_false, false_or, or_true, true_or, or_self, and_true, true_and, and_false, false_and, q150, q3, n1, z, show (1 = 0) = False from eq_false (by omega)]
  intro k
  induction k with
  | zero =>
    intro i N S A hi hN r H h1
    obtain rfl : i = 500 := by omega
    have n1 : (tz_j 500 ≤ tz_j 500) = True := nj_let (by omega) (by omega)
    refine ⟨A, ?_, fr_rfl⟩
    rw [e_X11_firstHeard_60]
    simp only [tz_lit, nj_m1, nj_m2, nj_m3, nj_m4, nj_m5, nj_m6, nj_m7, ↓reduceIte, tz_bI_some, tz_bV_some, tz_bL_some, cj10, cj01, cjm0, eq_self, not_true_eq_false, not_false_eq_true, or_false, false_or, or_true, true_or, or_self, and_true, true_and, and_false, false_and, n1]
    exact fin N S A r H h1
  | succ k ih =>
    intro i N S A hi hN r H h1
    have n1 : (tz_j 500 ≤ tz_j i) = False := nj_lef (by omega) (by omega)
    have q150 : tz_g A 150 0 = tz_j (S 201 0) := (r.2.2.2.2.2.1 h1).1
    have hb := (H.2.2.1.2.1 h1).2
    rw [e_X11_firstHeard_60]
    have es : sp_fh (k + 1) S = if S 201 0 = 4294967295 then sp_fh k (sp_tk S) else S := rfl
    rw [es]
    by_cases z : S 201 0 = 4294967295
    · rw [if_pos (c := S 201 0 = 4294967295) z]
      rw [z] at q150
      obtain ⟨A1, e1, r1, f1⟩ := x_tk h76 (by omega) r H
      obtain ⟨g1, g2, g3⟩ := tk_G H
      obtain ⟨A', e, f'⟩ := ih (i + 1) (N + 1) _ A1 (by omega) (by omega) r1 g1 (by rw [g3 200 0 (by unfold sp_kp; omega) (by omega)]; exact h1)
      refine ⟨A', ?_, fr_tr f1 f'⟩
      simp only [tz_lit, nj_m1, nj_m2, nj_m3, nj_m4, nj_m5, nj_m6, nj_m7, ↓reduceIte, tz_bI_some, tz_bV_some, tz_bL_some, cj10, cj01, cjm0, eq_self, not_true_eq_false, not_false_eq_true, or_false, false_or, or_true, true_or, or_self, and_true, true_and, and_false, false_and, n1, q150, e1, nj_add]
      exact e
    · have n2 : (tz_j (S 201 0) = tz_j 4294967295) = False := nj_eqf z (by omega) (by omega)
      rw [if_neg (c := S 201 0 = 4294967295) z]
      refine ⟨A, ?_, fr_rfl⟩
      have := fin N S A r H h1
      rw [q150] at this
      simp only [tz_lit, nj_m1, nj_m2, nj_m3, nj_m4, nj_m5, nj_m6, nj_m7, ↓reduceIte, tz_bI_some, tz_bV_some, tz_bL_some, cj10, cj01, cjm0, eq_self, not_true_eq_false, not_false_eq_true, or_false, false_or, or_true, true_or, or_self, and_true, true_and, and_false, false_and, n1, q150, n2]
      simp only [tz_lit, nj_m1, nj_m2, nj_m3, nj_m4, nj_m5, nj_m6, nj_m7, ↓reduceIte, tz_bI_some, tz_bV_some, tz_bL_some, cj10, cj01, cjm0, eq_self, not_true_eq_false, not_false_eq_true, or_false, false_or, or_true, true_or, or_self, and_true, true_and, and_false, false_and, n2] at this
      exact this
theorem m_fhL {D : Nat → Int32} {u : Nat} (hu : u < 2) : ∀ k i N S A, i + k = 500 → N + k ≤ 2000000 → rm D S A → sp_H N S → S 200 0 = 1 → ∃ B, q_X12_firstHeard_54 (tz_j u) (tz_j i) A = tz_bV (f_X12_again_s181 (tz_s B 157 36 (tz_j 4294967295))) (fun A1 => some (some (.int (if u = 0 then tz_j (sp_fh k S 201 0) else if sp_fh k S 201 0 = 4294967295 then tz_j 4294967295 else tz_j (sp_fh k S 0 3))), A1)) ∧ tz_fr mo_p A B := by
  have fin : ∀ (N : Nat) (S : tz_S) (B : tz_Mem), rm D S B → sp_H N S → S 200 0 = 1 → (if ¬ tz_g (tz_s B 157 36 (tz_j 4294967295)) 157 37 = tz_j 4294967295 then if ¬ tz_j u = tz_j 0 then tz_bV (f_X12_again_s181 (tz_s B 157 36 (tz_j 4294967295))) (fun A1 => some (some (.int (tz_g (tz_s B 157 36 (tz_j 4294967295)) 157 22)), A1)) else tz_bV (f_X12_again_s181 (tz_s B 157 36 (tz_j 4294967295))) (fun A1 => some (some (.int (tz_g (tz_s B 157 36 (tz_j 4294967295)) 157 37)), A1)) else tz_bV (f_X12_again_s181 (tz_s B 157 36 (tz_j 4294967295))) (fun A1 => some (some (.int (tz_j 4294967295)), A1)) : tz_X) = tz_bV (f_X12_again_s181 (tz_s B 157 36 (tz_j 4294967295))) (fun A1 => some (some (.int (if u = 0 then tz_j (S 201 0) else if S 201 0 = 4294967295 then tz_j 4294967295 else tz_j (S 0 3))), A1)) := by
    intro N S B r H h1
    have q37 : tz_g (tz_s B 157 36 (tz_j 4294967295)) 157 37 = tz_j (S 201 0) := (tz_gsi (by omega)).trans (r.2.2.2.2.1 h1).2
    have q3 : tz_g (tz_s B 157 36 (tz_j 4294967295)) 157 22 = tz_j (S 0 3) := (tz_gsi (by omega)).trans (cm_22 r.1)
    have hb := (H.2.2.1.2.1 h1).2
    by_cases z : S 201 0 = 4294967295
    · rcases (show u = 0 ∨ u = 1 by omega) with rfl | rfl
      · simp only [tz_lit, nj_m1, nj_m2, nj_m3, nj_m4, nj_m5, nj_m6, nj_m7, ↓reduceIte, tz_bI_some, tz_bV_some, tz_bL_some, cj10, cj01, cjm0, eq_self, not_true_eq_false, not_false_eq_true, or_false, false_or, or_true, true_or, or_self, and_true, true_and, and_false, false_and, q37, z]
      · simp only [tz_lit, nj_m1, nj_m2, nj_m3, nj_m4, nj_m5, nj_m6, nj_m7, ↓reduceIte, tz_bI_some, tz_bV_some, tz_bL_some, cj10, cj01, cjm0, eq_self, not_true_eq_false, not_false_eq_true, or_false, false_or, or_true, true_or, or_self, and_true, true_and, and_false, false_and, q37, z, show (1 = 0) = False from eq_false (by omega)]
    · have n1 : (tz_j (S 201 0) = tz_j 4294967295) = False := nj_eqf z (by omega) (by omega)
      rcases (show u = 0 ∨ u = 1 by omega) with rfl | rfl
      · simp only [tz_lit, nj_m1, nj_m2, nj_m3, nj_m4, nj_m5, nj_m6, nj_m7, ↓reduceIte, tz_bI_some, tz_bV_some, tz_bL_some, cj10, cj01, cjm0, eq_self, not_true_eq_false, not_false_eq_true, or_false, false_or, or_true, true_or, or_self, and_true, true_and, and_false, false_and, q37, n1]
      · simp only [tz_lit, nj_m1, nj_m2, nj_m3, nj_m4, nj_m5, nj_m6, nj_m7, ↓reduceIte, tz_bI_some, tz_bV_some, tz_bL_some, cj10, cj01, cjm0, eq_self, not_true_eq_false, not_false_eq_true, or_false, false_or, or_true, true_or, or_self, and_true, true_and, and_false, false_and, q37, q3, n1, z, show (1 = 0) = False from eq_false (by omega)]
  intro k
  induction k with
  | zero =>
    intro i N S A hi hN r H h1
    obtain rfl : i = 500 := by omega
    have n1 : (tz_j 500 ≤ tz_j 500) = True := nj_let (by omega) (by omega)
    refine ⟨A, ?_, fr_rfl⟩
    rw [e_X12_firstHeard_54]
    simp only [tz_lit, nj_m1, nj_m2, nj_m3, nj_m4, nj_m5, nj_m6, nj_m7, ↓reduceIte, tz_bI_some, tz_bV_some, tz_bL_some, cj10, cj01, cjm0, eq_self, not_true_eq_false, not_false_eq_true, or_false, false_or, or_true, true_or, or_self, and_true, true_and, and_false, false_and, n1]
    exact fin N S A r H h1
  | succ k ih =>
    intro i N S A hi hN r H h1
    have n1 : (tz_j 500 ≤ tz_j i) = False := nj_lef (by omega) (by omega)
    have q37 : tz_g A 157 37 = tz_j (S 201 0) := (r.2.2.2.2.1 h1).2
    have hb := (H.2.2.1.2.1 h1).2
    have es : sp_fh (k + 1) S = if S 201 0 = 4294967295 then sp_fh k (sp_tk S) else S := rfl
    rw [e_X12_firstHeard_54, es]
    by_cases z : S 201 0 = 4294967295
    · rw [if_pos (c := S 201 0 = 4294967295) z]
      rw [z] at q37
      obtain ⟨A1, e1, r1, f1⟩ := m_tk (by omega) r H (by omega)
      obtain ⟨g1, g2, g3⟩ := tk_G H
      obtain ⟨B, e, f'⟩ := ih (i + 1) (N + 1) _ A1 (by omega) (by omega) r1 g1 (by rw [g3 200 0 (by unfold sp_kp; omega) (by omega)]; exact h1)
      refine ⟨B, ?_, fr_tr f1 f'⟩
      simp only [tz_lit, nj_m1, nj_m2, nj_m3, nj_m4, nj_m5, nj_m6, nj_m7, ↓reduceIte, tz_bI_some, tz_bV_some, tz_bL_some, cj10, cj01, cjm0, eq_self, not_true_eq_false, not_false_eq_true, or_false, false_or, or_true, true_or, or_self, and_true, true_and, and_false, false_and, n1, q37, e1, nj_add]
      exact e
    · have n2 : (tz_j (S 201 0) = tz_j 4294967295) = False := nj_eqf z (by omega) (by omega)
      rw [if_neg (c := S 201 0 = 4294967295) z]
      refine ⟨A, ?_, fr_rfl⟩
      simp only [tz_lit, nj_m1, nj_m2, nj_m3, nj_m4, nj_m5, nj_m6, nj_m7, ↓reduceIte, tz_bI_some, tz_bV_some, tz_bL_some, cj10, cj01, cjm0, eq_self, not_true_eq_false, not_false_eq_true, or_false, false_or, or_true, true_or, or_self, and_true, true_and, and_false, false_and, n1, q37, n2]
      exact fin N S A r H h1

theorem p_firstHeard (x1 x2 : Int32) : tz_twoI tz_J (f_X11_firstHeard x1 x2) (f_X12_firstHeard x1 x2) := by
  refine two_of (fun N S K U V A hN c ww => ?_)
  have W := ww.1.1
  have W2 := ww.1.2.1
  have h8 := W.1
  have h4 := W.2.1
  have h12 := W.2.2.1
  have cc := c.1.1
  rcases nj_three x2 2 (by omega) with ⟨u, hu, rfl⟩ | h2
  · have k2 := k_two1 (A := A) hu
    have w2 := fun A => w_in (A := A) (u := u) (n := 1) (by omega) (by omega)
    rcases nj_three x1 10000 (by omega) with ⟨x, hx, rfl⟩ | h
    · have k1 : f_X11_isWord (tz_j x) A = some (some (.int (tz_j 1)), A) := by
        rw [e_X11_isWord]
        simp (disch := omega) only [tz_lit, nj_m1, ↓reduceIte, nj_cl, nj_ltt, nj_ltf, nj_let, nj_lef, nj_eqf, nj_lt, nj_le, nj_eq, nj_add, nj_mul, nj_modx, nj_and7, nj_div, tz_bI_some, tz_bV_some, or_false, false_or, or_self, and_false, false_and, and_true, true_and, not_true_eq_false, not_false_eq_true, nt_lef, nt_let, nt_ltf, nt_ltt, nt_eqf, nj_m2, nj_m3, nj_m4, nj_m5, nj_m6, nj_m7, tz_bL_some, nj_sub, ng_ltt, ng_let, ng_gtf, ng_gef]
      have w1 := fun A => w_in (A := A) (u := x) (n := 9999) (by omega) (by omega)
      obtain ⟨A1, f1, r1, g1⟩ := x_bec2 h76 h30 (by omega) W ww.2.1 c.1
      have el : f_X2_listenFor (tz_j x) A1 = some (none, tz_s (tz_s A1 150 1 (tz_j x)) 150 0 (tz_j 4294967295)) := by
        rw [e_X2_listenFor]
        simp only [tz_lit, nj_m1, nj_m2, nj_m3, nj_m4, nj_m5, nj_m6, nj_m7, ↓reduceIte, tz_bI_some, tz_bV_some, tz_bL_some, cj10, cj01, cjm0, eq_self, not_true_eq_false, not_false_eq_true, or_false, false_or, or_true, true_or, or_self, and_true, true_and, and_false, false_and]
      have r2 : rx 76 99 (sp_fs x S) (tz_sr (tz_s (tz_s A1 150 1 (tz_j x)) 150 0 (tz_j 4294967295)) 76 7 151) := by
        refine rx_ear h76 r1 (fun k i hk => fs_get hk) (fun k i hk => ?_) ?_ h8
        · rw [tz_gsr, tz_gsk (by omega), tz_gsk (by omega)]
        · have e200 : sp_fs x S 200 0 = 1 := rfl
          have eg : tz_gr (tz_sr (tz_s (tz_s A1 150 1 (tz_j x)) 150 0 (tz_j 4294967295)) 76 7 151) 76 7 = 151 := tz_grr
          refine ⟨eg.trans (if_pos rfl).symm, fun _ => ⟨?_, ?_⟩, fun q => ?_, fun q => ?_⟩
          · rw [tz_gsr, tz_gs1]
            rfl
          · rw [tz_gsr, tz_gsi (by omega), tz_gs1]
            rfl
          · rw [e200] at q
            omega
          · rw [e200] at q
            omega
      obtain ⟨A2, f2, g2⟩ := x_fhL hu 500 0 N (sp_fs x S) _ (by omega) (by omega) r2 (fs_H ww.1 (by omega)) rfl
      refine out_th (v := if u = 0 then tz_j (sp_fh 500 (sp_fs x S) 201 0) else if sp_fh 500 (sp_fs x S) 201 0 = 4294967295 then tz_j 4294967295 else tz_j (sp_fh 500 (sp_fs x S) 0 3)) c ww ⟨A2, ?_, fx_tr (fx_sr (fx_s (fx_s (fx_mo g1 (fun k i => th_b)) (by unfold th_p; omega)) (by unfold th_p; omega)) (by unfold th_p; omega) h76) (fx_mo (fx_fr g2) (fun k i => th_r))⟩ (fun A D m => ?_)
      · rw [e_X11_firstHeard]
        simp only [tz_lit, nj_m1, nj_m2, nj_m3, nj_m4, nj_m5, nj_m6, nj_m7, ↓reduceIte, tz_bI_some, tz_bV_some, tz_bL_some, cj10, cj01, cjm0, eq_self, not_true_eq_false, not_false_eq_true, or_false, false_or, or_true, true_or, or_self, and_true, true_and, and_false, false_and, k2, k1, f1, el, f2]
      · obtain ⟨M1, k3, rk, hk34, hback⟩ := m_think W ww.2.1 m
        have rs : rm D (sp_fs x S) (tz_s (tz_s M1 157 36 (tz_j x)) 157 37 (tz_j 4294967295)) := by
          obtain ⟨c0, w0, o0, s0, e0⟩ := rk
          have hne : ∀ p q k i, rm_rel S p q k i → ¬ (p = 157 ∧ q = 37) ∧ ¬ (p = 157 ∧ q = 36) := fun p q k i h => by
            unfold rm_rel at h
            omega
          refine ⟨rm_c_A c0 (fun k i hk => fs_get (by omega)) (fun p q k i h => by rw [tz_gS, if_neg (hne p q k i h).1, tz_gS, if_neg (hne p q k i h).2]), rm_w_mv w0 (fs_get (by omega)) (fun _ => fs_get (by omega)) (fun g j hg => fs_get (by omega)) (fun i => ⟨by rw [tz_gsk (by omega), tz_gsk (by omega)], by rw [tz_gsk (by omega), tz_gsk (by omega)]⟩), rm_o_mv o0 (fun _ => fs_get (by omega)) (fun _ => by rw [tz_gsk (by omega), tz_gsk (by omega)]), rm_s_mv s0 (fs_get (by omega)) (by rw [tz_gsi (by omega), tz_gsi (by omega)]), fun _ => ⟨?_, ?_⟩, fun q => absurd rfl q⟩
          · rw [tz_gsi (by omega), tz_gs1]
            rfl
          · rw [tz_gs1]
            rfl
        obtain ⟨B, eB, fB⟩ := m_fhL (D := D) hu 500 0 N (sp_fs x S) _ (by omega) (by omega) rs (fs_H ww.1 (by omega)) rfl
        have p36 : mt_p 157 36 := Or.inl (by unfold mo_p; omega)
        have p37 : mt_p 157 37 := Or.inl (by unfold mo_p; omega)
        obtain ⟨C, D', eC, mC, fC, _⟩ := hback (tz_s B 157 36 (tz_j 4294967295)) (fr_s (fr_tr (fr_s (fr_s fr_rfl p36) p37) (fr_mo fB (fun k i => mo_mt))) p36) (fun j => by rw [tz_gsk (by omega), fB.2.2 181 j mo_181, tz_gsk (by omega), tz_gsk (by omega)]) (by rw [tz_gsi (by omega), fB.2.2 157 34 mo_34, tz_gsi (by omega), tz_gsi (by omega)]; exact hk34) tz_gs1
        refine ⟨C, D', ?_, mC, fC⟩
        rw [e_X12_firstHeard]
        simp only [tz_lit, nj_m1, nj_m2, nj_m3, nj_m4, nj_m5, nj_m6, nj_m7, ↓reduceIte, tz_bI_some, tz_bV_some, tz_bL_some, cj10, cj01, cjm0, eq_self, not_true_eq_false, not_false_eq_true, or_false, false_or, or_true, true_or, or_self, and_true, true_and, and_false, false_and, w2, w1, k3, eB, eC]
    · have k1 : f_X11_isWord x1 A = some (some (.int (tz_j 0)), A) := by
        rw [e_X11_isWord]
        rcases h with h | h
        · simp (disch := omega) only [tz_lit, nj_m1, ↓reduceIte, nj_cl, nj_ltt, nj_ltf, nj_let, nj_lef, nj_eqf, nj_lt, nj_le, nj_eq, nj_add, nj_mul, nj_modx, nj_and7, nj_div, tz_bI_some, tz_bV_some, or_false, false_or, or_self, and_false, false_and, and_true, true_and, not_true_eq_false, not_false_eq_true, nt_lef, nt_let, nt_ltf, nt_ltt, nt_eqf, nj_m2, nj_m3, nj_m4, nj_m5, nj_m6, nj_m7, tz_bL_some, nj_sub, ng_ltt, ng_let, ng_gtf, ng_gef, ob_l h]
        · simp (disch := omega) only [tz_lit, nj_m1, ↓reduceIte, nj_cl, nj_ltt, nj_ltf, nj_let, nj_lef, nj_eqf, nj_lt, nj_le, nj_eq, nj_add, nj_mul, nj_modx, nj_and7, nj_div, tz_bI_some, tz_bV_some, or_false, false_or, or_self, and_false, false_and, and_true, true_and, not_true_eq_false, not_false_eq_true, nt_lef, nt_let, nt_ltf, nt_ltt, nt_eqf, nj_m2, nj_m3, nj_m4, nj_m5, nj_m6, nj_m7, tz_bL_some, nj_sub, ng_ltt, ng_let, ng_gtf, ng_gef, ob_h (show 10000 < 2147483648 by omega) h]

      refine out_ref (v := tz_j 4294967290 - tz_j 10) 6 (by omega) c ww ?_ (fun A D m => ?_)
      · rw [e_X11_firstHeard]
        simp only [tz_lit, nj_m1, nj_m2, nj_m3, nj_m4, nj_m5, nj_m6, nj_m7, ↓reduceIte, tz_bI_some, tz_bV_some, tz_bL_some, cj10, cj01, cjm0, eq_self, not_true_eq_false, not_false_eq_true, or_false, false_or, or_true, true_or, or_self, and_true, true_and, and_false, false_and, k2, k1, x_ref1, x_ref2, x_ref3, x_ref4, x_ref5, x_ref6, x_ref7, e_X11_refuseLower]
      · rw [e_X12_firstHeard]
        simp only [tz_lit, nj_m1, nj_m2, nj_m3, nj_m4, nj_m5, nj_m6, nj_m7, ↓reduceIte, tz_bI_some, tz_bV_some, tz_bL_some, cj10, cj01, cjm0, eq_self, not_true_eq_false, not_false_eq_true, or_false, false_or, or_true, true_or, or_self, and_true, true_and, and_false, false_and, w2, w_out (A := A) (n := 9999) (by omega) h, m_no1, m_no2, m_no3, m_no4, m_no5, m_no6, m_no7, e_X12_no10]

  · have k2 := k_two0 (A := A) h2
    refine out_ref (v := tz_j 4294967291 - tz_j 10) 5 (by omega) c ww ?_ (fun A D m => ?_)
    · rw [e_X11_firstHeard]
      simp only [tz_lit, nj_m1, nj_m2, nj_m3, nj_m4, nj_m5, nj_m6, nj_m7, ↓reduceIte, tz_bI_some, tz_bV_some, tz_bL_some, cj10, cj01, cjm0, eq_self, not_true_eq_false, not_false_eq_true, or_false, false_or, or_true, true_or, or_self, and_true, true_and, and_false, false_and, k2, x_ref1, x_ref2, x_ref3, x_ref4, x_ref5, x_ref6, x_ref7, e_X11_refuseLower]
    · rw [e_X12_firstHeard]
      simp only [tz_lit, nj_m1, nj_m2, nj_m3, nj_m4, nj_m5, nj_m6, nj_m7, ↓reduceIte, tz_bI_some, tz_bV_some, tz_bL_some, cj10, cj01, cjm0, eq_self, not_true_eq_false, not_false_eq_true, or_false, false_or, or_true, true_or, or_self, and_true, true_and, and_false, false_and, w_out (A := A) (n := 1) (by omega) h2, m_no1, m_no2, m_no3, m_no4, m_no5, m_no6, m_no7, e_X12_no10]


