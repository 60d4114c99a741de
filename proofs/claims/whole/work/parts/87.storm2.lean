/-! storm -/
theorem x_sn1 {p fo ro : Nat} {A : tz_Mem} (h1 : 1 ≤ p ∧ p ≤ 9) (h2 : 1 ≤ fo ∧ fo ≤ 99) (h3 : 1 ≤ ro ∧ ro ≤ 9) : f_X11_areStormNumbers (tz_j p) (tz_j fo) (tz_j ro) A = some (some (.int (tz_j 1)), A) := by
  rw [e_X11_areStormNumbers]
  simp (disch := omega) only [tz_lit, nj_m1, ↓reduceIte, nj_cl, nj_ltt, nj_ltf, nj_let, nj_lef, nj_eqf, nj_lt, nj_le, nj_eq, nj_add, nj_mul, nj_modx, nj_and7, nj_div, tz_bI_some, tz_bV_some, or_false, false_or, or_self, and_false, false_and, and_true, true_and, not_true_eq_false, not_false_eq_true, nt_lef, nt_let, nt_ltf, nt_ltt, nt_eqf, nj_m2, nj_m3, nj_m4, nj_m5, nj_m6, nj_m7, tz_bL_some, nj_sub, ng_ltt, ng_let, ng_gtf, ng_gef]
theorem x_sn0 {x y z : Int32} {A : tz_Mem} (h : (x < tz_j 1 ∨ tz_j 9 < x) ∨ (y < tz_j 1 ∨ tz_j 99 < y) ∨ (z < tz_j 1 ∨ tz_j 9 < z)) : f_X11_areStormNumbers x y z A = some (some (.int (tz_j 0)), A) := by
  rw [e_X11_areStormNumbers]
  rcases pr_tf (x < tz_j 1) with c0 | c0
  · simp only [tz_lit, nj_m1, nj_m2, nj_m3, nj_m4, nj_m5, nj_m6, nj_m7, ↓reduceIte, tz_bI_some, tz_bV_some, tz_bL_some, cj10, cj01, cjm0, eq_self, not_true_eq_false, not_false_eq_true, or_false, false_or, or_true, true_or, or_self, and_true, true_and, and_false, false_and, c0]
  · skip
    rcases pr_tf (tz_j 9 < x) with c1 | c1
    · simp only [tz_lit, nj_m1, nj_m2, nj_m3, nj_m4, nj_m5, nj_m6, nj_m7, ↓reduceIte, tz_bI_some, tz_bV_some, tz_bL_some, cj10, cj01, cjm0, eq_self, not_true_eq_false, not_false_eq_true, or_false, false_or, or_true, true_or, or_self, and_true, true_and, and_false, false_and, c0, c1]
    · skip
      rcases pr_tf (y < tz_j 1) with c2 | c2
      · simp only [tz_lit, nj_m1, nj_m2, nj_m3, nj_m4, nj_m5, nj_m6, nj_m7, ↓reduceIte, tz_bI_some, tz_bV_some, tz_bL_some, cj10, cj01, cjm0, eq_self, not_true_eq_false, not_false_eq_true, or_false, false_or, or_true, true_or, or_self, and_true, true_and, and_false, false_and, c0, c1, c2]
      · skip
        rcases pr_tf (tz_j 99 < y) with c3 | c3
        · simp only [tz_lit, nj_m1, nj_m2, nj_m3, nj_m4, nj_m5, nj_m6, nj_m7, ↓reduceIte, tz_bI_some, tz_bV_some, tz_bL_some, cj10, cj01, cjm0, eq_self, not_true_eq_false, not_false_eq_true, or_false, false_or, or_true, true_or, or_self, and_true, true_and, and_false, false_and, c0, c1, c2, c3]
        · skip
          rcases pr_tf (z < tz_j 1) with c4 | c4
          · simp only [tz_lit, nj_m1, nj_m2, nj_m3, nj_m4, nj_m5, nj_m6, nj_m7, ↓reduceIte, tz_bI_some, tz_bV_some, tz_bL_some, cj10, cj01, cjm0, eq_self, not_true_eq_false, not_false_eq_true, or_false, false_or, or_true, true_or, or_self, and_true, true_and, and_false, false_and, c0, c1, c2, c3, c4]
          · skip
            rcases pr_tf (tz_j 9 < z) with c5 | c5
            · simp only [tz_lit, nj_m1, nj_m2, nj_m3, nj_m4, nj_m5, nj_m6, nj_m7, ↓reduceIte, tz_bI_some, tz_bV_some, tz_bL_some, cj10, cj01, cjm0, eq_self, not_true_eq_false, not_false_eq_true, or_false, false_or, or_true, true_or, or_self, and_true, true_and, and_false, false_and, c0, c1, c2, c3, c4, c5]
            · simp only [c0, c1, c2, c3, c4, c5, or_self] at h
theorem p_storm (x1 x2 x3 x4 x5 : Int32) : tz_twoI tz_J (f_X11_storm x1 x2 x3 x4 x5) (f_X12_storm x1 x2 x3 x4 x5) := by
  refine two_of (fun N S K U V A hN c ww => ?_)
  have W := ww.1.1
  have h8 := W.1
  have h4 := W.2.1
  have h12 := W.2.2.1
  rcases nj_three x1 8 (by omega) with ⟨s, hs, rfl⟩ | h
  · obtain ⟨hu, l, hl, hl1⟩ := lg_rw ww.2.2.2.2 hs
    obtain ⟨q, q1, q2⟩ := c.2.2.1.1 s hs
    rw [hl1] at q1
    have a0 := x_ror c hs
    have n3 := nj_ix8 (s := s) (n := 8) hs (by omega)
    have hcl : (tz_j s).toNatClampNeg = s := nj_cl (by omega)
    rcases hu with z | ⟨h, hh, z⟩ | ⟨t, ht, z⟩
    · have a1 := a0.1 z
      refine out_ref (v := tz_j 4294967293) 3 (by omega) c ww ?_ (fun A D m => ?_)
      · rw [e_X11_storm]
        simp (disch := omega) only [tz_lit, nj_m1, nj_m2, nj_m3, nj_m4, nj_m5, nj_m6, nj_m7, ↓reduceIte, tz_bI_some, tz_bV_some, tz_bL_some, cj10, cj01, cjm0, eq_self, not_true_eq_false, not_false_eq_true, or_false, false_or, or_true, true_or, or_self, and_true, true_and, and_false, false_and, nj_eqf, nj_ltt, nj_ltf, nj_let, nj_lef, nj_cl, nt_lef, ng_ltt, ng_let, ng_gtf, ng_gef, e_X8_refusalOfElements, a1, x_ref1, x_ref2, x_ref3, x_ref4, x_ref5, x_ref6, x_ref7, e_X11_refuseLower]
      · skip
        have b1 := (m_ror m hs).1 z
        rw [e_X12_storm]
        simp (disch := omega) only [tz_lit, nj_m1, nj_m2, nj_m3, nj_m4, nj_m5, nj_m6, nj_m7, ↓reduceIte, tz_bI_some, tz_bV_some, tz_bL_some, cj10, cj01, cjm0, eq_self, not_true_eq_false, not_false_eq_true, or_false, false_or, or_true, true_or, or_self, and_true, true_and, and_false, false_and, nj_eqf, nj_ltt, nj_ltf, nj_let, nj_lef, nj_cl, nt_lef, ng_ltt, ng_let, ng_gtf, ng_gef, b1, m_no1, m_no2, m_no3, m_no4, m_no5, m_no6, m_no7, e_X12_no10]
    · have a1 := a0.2.1 h (by omega) z
      refine out_ref (v := tz_j 4294967294) 2 (by omega) c ww ?_ (fun A D m => ?_)
      · rw [e_X11_storm]
        simp (disch := omega) only [tz_lit, nj_m1, nj_m2, nj_m3, nj_m4, nj_m5, nj_m6, nj_m7, ↓reduceIte, tz_bI_some, tz_bV_some, tz_bL_some, cj10, cj01, cjm0, eq_self, not_true_eq_false, not_false_eq_true, or_false, false_or, or_true, true_or, or_self, and_true, true_and, and_false, false_and, nj_eqf, nj_ltt, nj_ltf, nj_let, nj_lef, nj_cl, nt_lef, ng_ltt, ng_let, ng_gtf, ng_gef, e_X8_refusalOfElements, a1, x_ref1, x_ref2, x_ref3, x_ref4, x_ref5, x_ref6, x_ref7, e_X11_refuseLower]
      · skip
        have b1 := (m_ror m hs).2.1 h (by omega) z
        rw [e_X12_storm]
        simp (disch := omega) only [tz_lit, nj_m1, nj_m2, nj_m3, nj_m4, nj_m5, nj_m6, nj_m7, ↓reduceIte, tz_bI_some, tz_bV_some, tz_bL_some, cj10, cj01, cjm0, eq_self, not_true_eq_false, not_false_eq_true, or_false, false_or, or_true, true_or, or_self, and_true, true_and, and_false, false_and, nj_eqf, nj_ltt, nj_ltf, nj_let, nj_lef, nj_cl, nt_lef, ng_ltt, ng_let, ng_gtf, ng_gef, b1, m_no1, m_no2, m_no3, m_no4, m_no5, m_no6, m_no7, e_X12_no10]
    · have a1 := a0.2.2 t ht z
      have b1 : ∀ A D, MX D S K U V A → f_X12_noRow (tz_j s) A = some (some (.int (tz_j 0)), A) := fun A D m => (m_ror m hs).2.2 t ht z
      have p1 : ∀ A D, MX D S K U V A → tz_g A 159 s = tz_j l := fun A D m => (m.2.2.1.1 s hs).2.1.trans hl1
      rcases nj_sg x2 with n5 | n5
      · refine out_ref (v := tz_j 4294967292) 4 (by omega) c ww ?_ (fun A D m => ?_)
        · rw [e_X11_storm]
          simp (disch := omega) only [tz_lit, nj_m1, nj_m2, nj_m3, nj_m4, nj_m5, nj_m6, nj_m7, ↓reduceIte, tz_bI_some, tz_bV_some, tz_bL_some, cj10, cj01, cjm0, eq_self, not_true_eq_false, not_false_eq_true, or_false, false_or, or_true, true_or, or_self, and_true, true_and, and_false, false_and, nj_eqf, nj_ltt, nj_ltf, nj_let, nj_lef, nj_cl, nt_lef, ng_ltt, ng_let, ng_gtf, ng_gef, e_X8_refusalOfElements, a1, n5.1, n5.2, x_ref1, x_ref2, x_ref3, x_ref4, x_ref5, x_ref6, x_ref7, e_X11_refuseLower]
        · skip
          rw [e_X12_storm]
          simp (disch := omega) only [tz_lit, nj_m1, nj_m2, nj_m3, nj_m4, nj_m5, nj_m6, nj_m7, ↓reduceIte, tz_bI_some, tz_bV_some, tz_bL_some, cj10, cj01, cjm0, eq_self, not_true_eq_false, not_false_eq_true, or_false, false_or, or_true, true_or, or_self, and_true, true_and, and_false, false_and, nj_eqf, nj_ltt, nj_ltf, nj_let, nj_lef, nj_cl, nt_lef, ng_ltt, ng_let, ng_gtf, ng_gef, b1 A D m, n5.1, n5.2, m_no1, m_no2, m_no3, m_no4, m_no5, m_no6, m_no7, e_X12_no10]
      · obtain ⟨n, hn, rfl⟩ := nj_of (x := x2) (of_eq_true n5.2)
        by_cases y : n ≤ l
        · have n6 : (tz_j n ≤ tz_j l) = True := nj_let y (by omega)
          have tf : ∀ A D, MX D S K U V A → ∀ i, i < n → f_X12_told (tz_j s) (tz_j i) A = some (some (.int (Int64.toInt32 (V s i))), A) := fun A D m i hi => m_told hs (by omega) (by rw [(m.2.2.1.1 s hs).2.2 i (by omega)])
          have cfn : ∀ i, i < n → f_X8_number (tz_j s) (tz_j i) A = some (some (.int (Int64.toInt32 (V s i))), A) := fun i hi => x_num hs (by omega) (by rw [q2 i (by omega)])
          have m0 : ∀ A D, MX D S K U V A → q_X12_storm_99 (tz_j s) (tz_j n) x3 x4 x5 (tz_j 0) (tz_j 0) A = some (some (.int (tz_j 4294967290)), tz_s A 177 6 (tz_g A 177 6 + tz_j 1)) := fun A D m => m_iwn (f := fun i => Int64.toInt32 (V s i)) m.1.1 (by omega) (by omega) (tf A D m) n 0 (by omega)
          by_cases hlen : 2 ≤ n ∧ n ≤ 6
          · have bw : ∀ A, f_X12_within (tz_j n) (tz_j 2) (tz_j 6) A = some (some (.int (tz_j 1)), A) := fun A => by
              rw [m_within (by omega) (by omega) (by omega), if_pos hlen]
            rcases nj_in x3 1 9 (by omega) (by omega) with ⟨p, hp1, hp, rfl⟩ | ⟨h, b3⟩
            · have b3 : ∀ A, f_X12_within (tz_j p) (tz_j 1) (tz_j 9) A = some (some (.int (tz_j 1)), A) := fun A => by
                rw [m_within (by omega) (by omega) (by omega), if_pos ⟨hp1, hp⟩]
              rcases nj_in x4 1 99 (by omega) (by omega) with ⟨fo, hf1, hf, rfl⟩ | ⟨h, b4⟩
              · have b4 : ∀ A, f_X12_within (tz_j fo) (tz_j 1) (tz_j 99) A = some (some (.int (tz_j 1)), A) := fun A => by
                  rw [m_within (by omega) (by omega) (by omega), if_pos ⟨hf1, hf⟩]
                rcases nj_in x5 1 9 (by omega) (by omega) with ⟨ro, hr1, hr, rfl⟩ | ⟨h, b5⟩
                · have b5 : ∀ A, f_X12_within (tz_j ro) (tz_j 1) (tz_j 9) A = some (some (.int (tz_j 1)), A) := fun A => by
                    rw [m_within (by omega) (by omega) (by omega), if_pos ⟨hr1, hr⟩]
                  have a2 := x_sn1 (A := A) ⟨hp1, hp⟩ ⟨hf1, hf⟩ ⟨hr1, hr⟩
                  have j1 : (tz_j n < tz_j 2) = False := nj_ltf (by omega) (by omega)
                  have j2 : (tz_j n ≤ tz_j 6) = True := nj_let (by omega) (by omega)
                  have j3 : tz_j n - tz_j 1 = tz_j (n - 1) := nj_sub (by omega)
                  have a9 := cfn (n - 1) (by omega)
                  by_cases hw : sp_iw (S 1 0) n (fun i => Int64.toInt32 (V s i)) n 0
                  · have a8 := x_iw1 (s := s) (f := fun i => Int64.toInt32 (V s i)) c.1.1 h8 (by omega) cfn n 0 (by omega) hw
                    rw [if_pos rfl] at a8
                    have a3 : f_X11_isWay (tz_j s) (tz_j n) A = some (some (.int (tz_j 1)), A) := by
                      rw [e_X11_isWay]
                      simp only [tz_lit, nj_m1, nj_m2, nj_m3, nj_m4, nj_m5, nj_m6, nj_m7, ↓reduceIte, tz_bI_some, tz_bV_some, tz_bL_some, cj10, cj01, cjm0, eq_self, not_true_eq_false, not_false_eq_true, or_false, false_or, or_true, true_or, or_self, and_true, true_and, and_false, false_and, j1, j2, j3, a9]
                      exact a8
                    have m8 : ∀ A D, MX D S K U V A → q_X12_storm_99 (tz_j s) (tz_j n) (tz_j p) (tz_j fo) (tz_j ro) (tz_j 1) (tz_j 0) A = q_X12_storm_99 (tz_j s) (tz_j n) (tz_j p) (tz_j fo) (tz_j ro) (tz_j 1) (tz_j n) A := fun A D m => m_iw1 (f := fun i => Int64.toInt32 (V s i)) m.1.1 h8 (by omega) (tf A D m) n 0 (by omega) hw
                    have jn : (tz_j n ≤ tz_j n) = True := nj_let (Nat.le_refl _) (by omega)
                    by_cases full : S 7 0 < 4
                    · have a4 : f_X10_isFull 30 A = some (some (.int (tz_j 0)), A) := by
                        rw [e_X10_isFull _ h30]
                        simp (disch := omega) only [tz_lit, nj_m1, ↓reduceIte, nj_cl, nj_ltt, nj_ltf, nj_let, nj_lef, nj_eqf, nj_lt, nj_le, nj_eq, nj_add, nj_mul, nj_modx, nj_and7, nj_div, tz_bI_some, tz_bV_some, or_false, false_or, or_self, and_false, false_and, and_true, true_and, not_true_eq_false, not_false_eq_true, nt_lef, nt_let, nt_ltf, nt_ltt, nt_eqf, nj_m2, nj_m3, nj_m4, nj_m5, nj_m6, nj_m7, tz_bL_some, nj_sub, ng_ltt, ng_let, ng_gtf, ng_gef, cx_7 c.1.1]
                      obtain ⟨A1, f1, g1, ff1, _⟩ := x_cpn (s := s) (len := n) (f := fun i => Int64.toInt32 (V s i)) hs (by omega) n 0 A (by omega) (fun j hj => by rw [q2 j (by omega)])
                      have f2 : f_X8_copyNumbers_s155 (tz_j s) (tz_j n) A = some (none, A1) := by
                        rw [e_X8_copyNumbers_s155]
                        exact f1
                      have hwy : ∀ i, i < n → (Int64.toInt32 (V s i)).toNatClampNeg < S 1 0 ∧ Int64.toInt32 (V s i) = tz_j ((Int64.toInt32 (V s i)).toNatClampNeg) := fun i hi => by
                        obtain ⟨h, hh, e⟩ := iw_h n 0 hw i (by omega) (by omega)
                        rw [e, nj_cl (by omega)]
                        exact ⟨hh, rfl⟩
                      have r1 : rx 30 99 S A1 := rx_mv c.1 (fun k i h1 h2 => ff1.2.2.1 k i (by omega)) (ff1.2.2.2 30 7 (fun y => by have := y.1; omega)) (Or.inl ww.2.1.2)
                      obtain ⟨A2, f3, r3, ff3⟩ := x_addT155 (len := n) (p := p) (fo := fo) (ro := ro) (wy := fun i => (Int64.toInt32 (V s i)).toNatClampNeg) h30 r1 W ww.1.2.1 full (by omega) (fun i hi => (g1 i (by omega) hi).trans (hwy i hi).2)
                      refine out_sky (v := tz_j (S 7 0)) (S' := sp_addT n p fo ro (fun i => (Int64.toInt32 (V s i)).toNatClampNeg) S) c ww (sp_H_mo (addT_H ww.1 full hlen ⟨hp1, hp⟩ ⟨hf1, hf⟩ ⟨hr1, hr⟩ (fun i hi => (hwy i hi).1)) (by omega)) ⟨(addT_g (by omega)).trans ww.2.1.1, (addT_g (by omega)).trans ww.2.1.2⟩ (Nat.le_of_eq (addT_g (by omega)).symm) ⟨A2, ?_, r3, fx_tr (fx_mo ff1 (fun k i h => by unfold th_p; omega)) (fx_mo ff3 (fun k i h => by unfold bc_p at h; unfold th_p; omega))⟩ (fun A D m => ?_)
                      · rw [e_X11_storm]
                        simp (disch := omega) only [tz_lit, nj_m1, nj_m2, nj_m3, nj_m4, nj_m5, nj_m6, nj_m7, ↓reduceIte, tz_bI_some, tz_bV_some, tz_bL_some, cj10, cj01, cjm0, eq_self, not_true_eq_false, not_false_eq_true, or_false, false_or, or_true, true_or, or_self, and_true, true_and, and_false, false_and, nj_eqf, nj_ltt, nj_ltf, nj_let, nj_lef, nj_cl, nt_lef, ng_ltt, ng_let, ng_gtf, ng_gef, e_X8_refusalOfElements, a1, n5.1, n5.2, n6, n3, hcl, q1, a2, a3, a4, f2, f3]
                      · have q8 := cm_8 m.1.1
                        obtain ⟨A3, e3, g3, fr3⟩ := m_207 (s := s) (len := n) (n := S 7 0) (z3 := tz_j p) (z4 := tz_j fo) (z5 := tz_j ro) (f := fun i => Int64.toInt32 (V s i)) hs (by omega) full n 0 (tz_s A 165 (S 7 0) (tz_j n)) (by omega) ((tz_gsk (by omega)).trans q8) (fun j hj => by
                          show Int64.toInt32 (tz_gl A 160 (160 * s + j)) = _
                          rw [(m.2.2.1.1 s hs).2.2 j (by omega)])
                        obtain ⟨A4, e4, r4, fr4⟩ := m_addT (len := n) (p := p) (fo := fo) (ro := ro) (wy := fun i => (Int64.toInt32 (V s i)).toNatClampNeg) (A2 := A3) m.1 full ((fr3.2.2 _ _ (by omega)).trans tz_gs1) (fun j hj => (g3 j (by omega) hj).trans (hwy j hj).2) (fun k i h1 h2 => (fr3.2.2 k i (by omega)).trans (by rw [tz_gS, if_neg (by omega)])) W
                        refine ⟨A4, D, ?_, r4, fr_tr (fr_s fr_rfl (Or.inl (by unfold mo_p; omega))) (fr_tr (fr_mo fr3 (fun k i h => Or.inl (by unfold mo_p; omega))) (fr_mo fr4 (fun k i h => Or.inl h)))⟩
                        have k4 : (tz_j (S 7 0) = tz_j 4) = False := nj_eqf (by omega) (by omega) (by omega)
                        have k5 := nj_ix8 (s := S 7 0) (n := 4) (by omega) (by omega)
                        have k6 : (tz_j (S 7 0)).toNatClampNeg = S 7 0 := nj_cl (by omega)
                        have e5 : q_X12_storm_207 (tz_j s) (tz_j n) (tz_j p) (tz_j fo) (tz_j ro) (tz_j n) A3 = some (some (.int (tz_j (S 7 0))), A4) := by
                          rw [e_X12_storm_207]
                          simp only [tz_lit, nj_m1, nj_m2, nj_m3, nj_m4, nj_m5, nj_m6, nj_m7, ↓reduceIte, tz_bI_some, tz_bV_some, tz_bL_some, cj10, cj01, cjm0, eq_self, not_true_eq_false, not_false_eq_true, or_false, false_or, or_true, true_or, or_self, and_true, true_and, and_false, false_and, jn, e4]
                        have e6 : q_X12_storm_99 (tz_j s) (tz_j n) (tz_j p) (tz_j fo) (tz_j ro) (tz_j 1) (tz_j n) A = some (some (.int (tz_j (S 7 0))), A4) := by
                          rw [e_X12_storm_99]
                          simp only [tz_lit, nj_m1, nj_m2, nj_m3, nj_m4, nj_m5, nj_m6, nj_m7, ↓reduceIte, tz_bI_some, tz_bV_some, tz_bL_some, cj10, cj01, cjm0, eq_self, not_true_eq_false, not_false_eq_true, or_false, false_or, or_true, true_or, or_self, and_true, true_and, and_false, false_and, jn, q8, k4, k5, k6, cj10, e3, e5]
                        have e7 := (m8 A D m).trans e6
                        rw [e_X12_storm]
                        simp only [tz_lit, nj_m1, nj_m2, nj_m3, nj_m4, nj_m5, nj_m6, nj_m7, ↓reduceIte, tz_bI_some, tz_bV_some, tz_bL_some, cj10, cj01, cjm0, eq_self, not_true_eq_false, not_false_eq_true, or_false, false_or, or_true, true_or, or_self, and_true, true_and, and_false, false_and, b1 A D m, nj_let (show 0 ≤ 0 by omega) (show 0 < 2147483648 by omega), n5.1, n5.2, n6, n3, hcl, p1 A D m, bw, b3, b4, b5, e7]
                    · have a4 : f_X10_isFull 30 A = some (some (.int (tz_j 1)), A) := by
                        rw [e_X10_isFull _ h30]
                        simp (disch := omega) only [tz_lit, nj_m1, ↓reduceIte, nj_cl, nj_ltt, nj_ltf, nj_let, nj_lef, nj_eqf, nj_lt, nj_le, nj_eq, nj_add, nj_mul, nj_modx, nj_and7, nj_div, tz_bI_some, tz_bV_some, or_false, false_or, or_self, and_false, false_and, and_true, true_and, not_true_eq_false, not_false_eq_true, nt_lef, nt_let, nt_ltf, nt_ltt, nt_eqf, nj_m2, nj_m3, nj_m4, nj_m5, nj_m6, nj_m7, tz_bL_some, nj_sub, ng_ltt, ng_let, ng_gtf, ng_gef, cx_7 c.1.1]
                      have e4 : S 7 0 = 4 := by omega
                      refine out_ref (v := tz_j 4294967289) 7 (by omega) c ww ?_ (fun A D m => ?_)
                      · rw [e_X11_storm]
                        simp (disch := omega) only [tz_lit, nj_m1, nj_m2, nj_m3, nj_m4, nj_m5, nj_m6, nj_m7, ↓reduceIte, tz_bI_some, tz_bV_some, tz_bL_some, cj10, cj01, cjm0, eq_self, not_true_eq_false, not_false_eq_true, or_false, false_or, or_true, true_or, or_self, and_true, true_and, and_false, false_and, nj_eqf, nj_ltt, nj_ltf, nj_let, nj_lef, nj_cl, nt_lef, ng_ltt, ng_let, ng_gtf, ng_gef, e_X8_refusalOfElements, a1, n5.1, n5.2, n6, n3, hcl, q1, a2, a3, a4, x_ref1, x_ref2, x_ref3, x_ref4, x_ref5, x_ref6, x_ref7, e_X11_refuseLower]
                      · have q8 := cm_8 m.1.1
                        rw [e4] at q8
                        have e6 : q_X12_storm_99 (tz_j s) (tz_j n) (tz_j p) (tz_j fo) (tz_j ro) (tz_j 1) (tz_j n) A = some (some (.int (tz_j 4294967289)), tz_s A 177 7 (tz_g A 177 7 + tz_j 1)) := by
                          rw [e_X12_storm_99]
                          simp only [tz_lit, nj_m1, nj_m2, nj_m3, nj_m4, nj_m5, nj_m6, nj_m7, ↓reduceIte, tz_bI_some, tz_bV_some, tz_bL_some, cj10, cj01, cjm0, eq_self, not_true_eq_false, not_false_eq_true, or_false, false_or, or_true, true_or, or_self, and_true, true_and, and_false, false_and, jn, q8, cj10, m_no1, m_no2, m_no3, m_no4, m_no5, m_no6, m_no7, e_X12_no10]
                        have e7 := (m8 A D m).trans e6
                        rw [e_X12_storm]
                        simp only [tz_lit, nj_m1, nj_m2, nj_m3, nj_m4, nj_m5, nj_m6, nj_m7, ↓reduceIte, tz_bI_some, tz_bV_some, tz_bL_some, cj10, cj01, cjm0, eq_self, not_true_eq_false, not_false_eq_true, or_false, false_or, or_true, true_or, or_self, and_true, true_and, and_false, false_and, b1 A D m, nj_let (show 0 ≤ 0 by omega) (show 0 < 2147483648 by omega), n5.1, n5.2, n6, n3, hcl, p1 A D m, bw, b3, b4, b5, e7]
                  · have a8 := x_iw0 (s := s) (f := fun i => Int64.toInt32 (V s i)) c.1.1 h8 (by omega) cfn n 0 (by omega) hw
                    rw [if_pos rfl] at a8
                    have a3 : f_X11_isWay (tz_j s) (tz_j n) A = some (some (.int (tz_j 0)), A) := by
                      rw [e_X11_isWay]
                      simp only [tz_lit, nj_m1, nj_m2, nj_m3, nj_m4, nj_m5, nj_m6, nj_m7, ↓reduceIte, tz_bI_some, tz_bV_some, tz_bL_some, cj10, cj01, cjm0, eq_self, not_true_eq_false, not_false_eq_true, or_false, false_or, or_true, true_or, or_self, and_true, true_and, and_false, false_and, j1, j2, j3, a9]
                      exact a8
                    refine out_ref (v := tz_j 4294967290) 6 (by omega) c ww ?_ (fun A D m => ?_)
                    · rw [e_X11_storm]
                      simp (disch := omega) only [tz_lit, nj_m1, nj_m2, nj_m3, nj_m4, nj_m5, nj_m6, nj_m7, ↓reduceIte, tz_bI_some, tz_bV_some, tz_bL_some, cj10, cj01, cjm0, eq_self, not_true_eq_false, not_false_eq_true, or_false, false_or, or_true, true_or, or_self, and_true, true_and, and_false, false_and, nj_eqf, nj_ltt, nj_ltf, nj_let, nj_lef, nj_cl, nt_lef, ng_ltt, ng_let, ng_gtf, ng_gef, e_X8_refusalOfElements, a1, n5.1, n5.2, n6, n3, hcl, q1, a2, a3, x_ref1, x_ref2, x_ref3, x_ref4, x_ref5, x_ref6, x_ref7, e_X11_refuseLower]
                    · have e7 := m_iw0 (z3 := tz_j p) (z4 := tz_j fo) (z5 := tz_j ro) (f := fun i => Int64.toInt32 (V s i)) m.1.1 h8 (by omega) (tf A D m) n 0 (by omega) hw
                      rw [e_X12_storm]
                      simp only [tz_lit, nj_m1, nj_m2, nj_m3, nj_m4, nj_m5, nj_m6, nj_m7, ↓reduceIte, tz_bI_some, tz_bV_some, tz_bL_some, cj10, cj01, cjm0, eq_self, not_true_eq_false, not_false_eq_true, or_false, false_or, or_true, true_or, or_self, and_true, true_and, and_false, false_and, b1 A D m, nj_let (show 0 ≤ 0 by omega) (show 0 < 2147483648 by omega), n5.1, n5.2, n6, n3, hcl, p1 A D m, bw, b3, b4, b5, e7]
                · have a2 := x_sn0 (x := tz_j p) (y := tz_j fo) (A := A) (Or.inr (Or.inr h))
                  refine out_ref (v := tz_j 4294967290) 6 (by omega) c ww ?_ (fun A D m => ?_)
                  · rw [e_X11_storm]
                    simp (disch := omega) only [tz_lit, nj_m1, nj_m2, nj_m3, nj_m4, nj_m5, nj_m6, nj_m7, ↓reduceIte, tz_bI_some, tz_bV_some, tz_bL_some, cj10, cj01, cjm0, eq_self, not_true_eq_false, not_false_eq_true, or_false, false_or, or_true, true_or, or_self, and_true, true_and, and_false, false_and, nj_eqf, nj_ltt, nj_ltf, nj_let, nj_lef, nj_cl, nt_lef, ng_ltt, ng_let, ng_gtf, ng_gef, e_X8_refusalOfElements, a1, n5.1, n5.2, n6, n3, hcl, q1, a2, x_ref1, x_ref2, x_ref3, x_ref4, x_ref5, x_ref6, x_ref7, e_X11_refuseLower]
                  · rw [e_X12_storm]
                    simp only [tz_lit, nj_m1, nj_m2, nj_m3, nj_m4, nj_m5, nj_m6, nj_m7, ↓reduceIte, tz_bI_some, tz_bV_some, tz_bL_some, cj10, cj01, cjm0, eq_self, not_true_eq_false, not_false_eq_true, or_false, false_or, or_true, true_or, or_self, and_true, true_and, and_false, false_and, b1 A D m, nj_let (show 0 ≤ 0 by omega) (show 0 < 2147483648 by omega), n5.1, n5.2, n6, n3, hcl, p1 A D m, bw, b3, b4, b5, m0 A D m]
              · have a2 := x_sn0 (x := tz_j p) (z := x5) (A := A) (Or.inr (Or.inl h))
                refine out_ref (v := tz_j 4294967290) 6 (by omega) c ww ?_ (fun A D m => ?_)
                · rw [e_X11_storm]
                  simp (disch := omega) only [tz_lit, nj_m1, nj_m2, nj_m3, nj_m4, nj_m5, nj_m6, nj_m7, ↓reduceIte, tz_bI_some, tz_bV_some, tz_bL_some, cj10, cj01, cjm0, eq_self, not_true_eq_false, not_false_eq_true, or_false, false_or, or_true, true_or, or_self, and_true, true_and, and_false, false_and, nj_eqf, nj_ltt, nj_ltf, nj_let, nj_lef, nj_cl, nt_lef, ng_ltt, ng_let, ng_gtf, ng_gef, e_X8_refusalOfElements, a1, n5.1, n5.2, n6, n3, hcl, q1, a2, x_ref1, x_ref2, x_ref3, x_ref4, x_ref5, x_ref6, x_ref7, e_X11_refuseLower]
                · rw [e_X12_storm]
                  simp only [tz_lit, nj_m1, nj_m2, nj_m3, nj_m4, nj_m5, nj_m6, nj_m7, ↓reduceIte, tz_bI_some, tz_bV_some, tz_bL_some, cj10, cj01, cjm0, eq_self, not_true_eq_false, not_false_eq_true, or_false, false_or, or_true, true_or, or_self, and_true, true_and, and_false, false_and, b1 A D m, nj_let (show 0 ≤ 0 by omega) (show 0 < 2147483648 by omega), n5.1, n5.2, n6, n3, hcl, p1 A D m, bw, b3, b4, m0 A D m]
            · have a2 := x_sn0 (y := x4) (z := x5) (A := A) (Or.inl h)
              refine out_ref (v := tz_j 4294967290) 6 (by omega) c ww ?_ (fun A D m => ?_)
              · rw [e_X11_storm]
                simp (disch := omega) only [tz_lit, nj_m1, nj_m2, nj_m3, nj_m4, nj_m5, nj_m6, nj_m7, ↓reduceIte, tz_bI_some, tz_bV_some, tz_bL_some, cj10, cj01, cjm0, eq_self, not_true_eq_false, not_false_eq_true, or_false, false_or, or_true, true_or, or_self, and_true, true_and, and_false, false_and, nj_eqf, nj_ltt, nj_ltf, nj_let, nj_lef, nj_cl, nt_lef, ng_ltt, ng_let, ng_gtf, ng_gef, e_X8_refusalOfElements, a1, n5.1, n5.2, n6, n3, hcl, q1, a2, x_ref1, x_ref2, x_ref3, x_ref4, x_ref5, x_ref6, x_ref7, e_X11_refuseLower]
              · rw [e_X12_storm]
                simp only [tz_lit, nj_m1, nj_m2, nj_m3, nj_m4, nj_m5, nj_m6, nj_m7, ↓reduceIte, tz_bI_some, tz_bV_some, tz_bL_some, cj10, cj01, cjm0, eq_self, not_true_eq_false, not_false_eq_true, or_false, false_or, or_true, true_or, or_self, and_true, true_and, and_false, false_and, b1 A D m, nj_let (show 0 ≤ 0 by omega) (show 0 < 2147483648 by omega), n5.1, n5.2, n6, n3, hcl, p1 A D m, bw, b3, m0 A D m]
          · have bw : ∀ A, f_X12_within (tz_j n) (tz_j 2) (tz_j 6) A = some (some (.int (tz_j 0)), A) := fun A => by
              rw [m_within (by omega) (by omega) (by omega), if_neg hlen]
            refine out_ref (v := tz_j 4294967290) 6 (by omega) c ww ?_ (fun A D m => ?_)
            · have a3 : f_X11_isWay (tz_j s) (tz_j n) A = some (some (.int (tz_j 0)), A) := by
                rw [e_X11_isWay]
                by_cases j : n < 2
                · have j1 : (tz_j n < tz_j 2) = True := nj_ltt (by omega) (by omega)
                  simp only [tz_lit, nj_m1, nj_m2, nj_m3, nj_m4, nj_m5, nj_m6, nj_m7, ↓reduceIte, tz_bI_some, tz_bV_some, tz_bL_some, cj10, cj01, cjm0, eq_self, not_true_eq_false, not_false_eq_true, or_false, false_or, or_true, true_or, or_self, and_true, true_and, and_false, false_and, j1]
                · have j1 : (tz_j n < tz_j 2) = False := nj_ltf (by omega) (by omega)
                  have j2 : (tz_j n ≤ tz_j 6) = False := nj_lef (by omega) (by omega)
                  simp only [tz_lit, nj_m1, nj_m2, nj_m3, nj_m4, nj_m5, nj_m6, nj_m7, ↓reduceIte, tz_bI_some, tz_bV_some, tz_bL_some, cj10, cj01, cjm0, eq_self, not_true_eq_false, not_false_eq_true, or_false, false_or, or_true, true_or, or_self, and_true, true_and, and_false, false_and, j1, j2]
              rw [e_X11_storm]
              by_cases y : (x3 < tz_j 1 ∨ tz_j 9 < x3) ∨ (x4 < tz_j 1 ∨ tz_j 99 < x4) ∨ (x5 < tz_j 1 ∨ tz_j 9 < x5)
              · have a2 := x_sn0 (A := A) y
                simp (disch := omega) only [tz_lit, nj_m1, nj_m2, nj_m3, nj_m4, nj_m5, nj_m6, nj_m7, ↓reduceIte, tz_bI_some, tz_bV_some, tz_bL_some, cj10, cj01, cjm0, eq_self, not_true_eq_false, not_false_eq_true, or_false, false_or, or_true, true_or, or_self, and_true, true_and, and_false, false_and, nj_eqf, nj_ltt, nj_ltf, nj_let, nj_lef, nj_cl, nt_lef, ng_ltt, ng_let, ng_gtf, ng_gef, e_X8_refusalOfElements, a1, n5.1, n5.2, n6, n3, hcl, q1, a2, x_ref1, x_ref2, x_ref3, x_ref4, x_ref5, x_ref6, x_ref7, e_X11_refuseLower]
              · obtain ⟨v, a2⟩ : ∃ v, f_X11_areStormNumbers x3 x4 x5 A = some (some (.int v), A) := by
                  rw [e_X11_areStormNumbers]
                  repeat' split
                  all_goals exact ⟨_, rfl⟩
                by_cases v0 : v = tz_j 0
                · have v1 := eq_true v0
                  simp (disch := omega) only [tz_lit, nj_m1, nj_m2, nj_m3, nj_m4, nj_m5, nj_m6, nj_m7, ↓reduceIte, tz_bI_some, tz_bV_some, tz_bL_some, cj10, cj01, cjm0, eq_self, not_true_eq_false, not_false_eq_true, or_false, false_or, or_true, true_or, or_self, and_true, true_and, and_false, false_and, nj_eqf, nj_ltt, nj_ltf, nj_let, nj_lef, nj_cl, nt_lef, ng_ltt, ng_let, ng_gtf, ng_gef, e_X8_refusalOfElements, a1, n5.1, n5.2, n6, n3, hcl, q1, a2, v1, x_ref1, x_ref2, x_ref3, x_ref4, x_ref5, x_ref6, x_ref7, e_X11_refuseLower]
                · have v1 := eq_false v0
                  simp (disch := omega) only [tz_lit, nj_m1, nj_m2, nj_m3, nj_m4, nj_m5, nj_m6, nj_m7, ↓reduceIte, tz_bI_some, tz_bV_some, tz_bL_some, cj10, cj01, cjm0, eq_self, not_true_eq_false, not_false_eq_true, or_false, false_or, or_true, true_or, or_self, and_true, true_and, and_false, false_and, nj_eqf, nj_ltt, nj_ltf, nj_let, nj_lef, nj_cl, nt_lef, ng_ltt, ng_let, ng_gtf, ng_gef, e_X8_refusalOfElements, a1, n5.1, n5.2, n6, n3, hcl, q1, a2, v1, a3, x_ref1, x_ref2, x_ref3, x_ref4, x_ref5, x_ref6, x_ref7, e_X11_refuseLower]
            · rw [e_X12_storm]
              simp only [tz_lit, nj_m1, nj_m2, nj_m3, nj_m4, nj_m5, nj_m6, nj_m7, ↓reduceIte, tz_bI_some, tz_bV_some, tz_bL_some, cj10, cj01, cjm0, eq_self, not_true_eq_false, not_false_eq_true, or_false, false_or, or_true, true_or, or_self, and_true, true_and, and_false, false_and, b1 A D m, nj_let (show 0 ≤ 0 by omega) (show 0 < 2147483648 by omega), n5.1, n5.2, n6, n3, hcl, p1 A D m, bw, m0 A D m]
        · have n6 : (tz_j n ≤ tz_j l) = False := nj_lef (by omega) (by omega)
          refine out_ref (v := tz_j 4294967291) 5 (by omega) c ww ?_ (fun A D m => ?_)
          · rw [e_X11_storm]
            simp (disch := omega) only [tz_lit, nj_m1, nj_m2, nj_m3, nj_m4, nj_m5, nj_m6, nj_m7, ↓reduceIte, tz_bI_some, tz_bV_some, tz_bL_some, cj10, cj01, cjm0, eq_self, not_true_eq_false, not_false_eq_true, or_false, false_or, or_true, true_or, or_self, and_true, true_and, and_false, false_and, nj_eqf, nj_ltt, nj_ltf, nj_let, nj_lef, nj_cl, nt_lef, ng_ltt, ng_let, ng_gtf, ng_gef, e_X8_refusalOfElements, a1, n5.1, n5.2, n6, n3, hcl, q1, x_ref1, x_ref2, x_ref3, x_ref4, x_ref5, x_ref6, x_ref7, e_X11_refuseLower]
          · skip
            rw [e_X12_storm]
            simp (disch := omega) only [tz_lit, nj_m1, nj_m2, nj_m3, nj_m4, nj_m5, nj_m6, nj_m7, ↓reduceIte, tz_bI_some, tz_bV_some, tz_bL_some, cj10, cj01, cjm0, eq_self, not_true_eq_false, not_false_eq_true, or_false, false_or, or_true, true_or, or_self, and_true, true_and, and_false, false_and, nj_eqf, nj_ltt, nj_ltf, nj_let, nj_lef, nj_cl, nt_lef, ng_ltt, ng_let, ng_gtf, ng_gef, b1 A D m, n5.1, n5.2, n6, n3, hcl, p1 A D m, m_no1, m_no2, m_no3, m_no4, m_no5, m_no6, m_no7, e_X12_no10]
  · refine out_ref (v := tz_j 4294967295) 1 (by omega) c ww ?_ (fun A D m => ?_)
    · rw [e_X11_storm]
      simp (disch := omega) only [tz_lit, nj_m1, nj_m2, nj_m3, nj_m4, nj_m5, nj_m6, nj_m7, ↓reduceIte, tz_bI_some, tz_bV_some, tz_bL_some, cj10, cj01, cjm0, eq_self, not_true_eq_false, not_false_eq_true, or_false, false_or, or_true, true_or, or_self, and_true, true_and, and_false, false_and, nj_eqf, nj_ltt, nj_ltf, nj_let, nj_lef, nj_cl, nt_lef, ng_ltt, ng_let, ng_gtf, ng_gef, e_X8_refusalOfElements, x_roro h, x_ref1, x_ref2, x_ref3, x_ref4, x_ref5, x_ref6, x_ref7, e_X11_refuseLower]
    · skip
      rw [e_X12_storm]
      simp (disch := omega) only [tz_lit, nj_m1, nj_m2, nj_m3, nj_m4, nj_m5, nj_m6, nj_m7, ↓reduceIte, tz_bI_some, tz_bV_some, tz_bL_some, cj10, cj01, cjm0, eq_self, not_true_eq_false, not_false_eq_true, or_false, false_or, or_true, true_or, or_self, and_true, true_and, and_false, false_and, nj_eqf, nj_ltt, nj_ltf, nj_let, nj_lef, nj_cl, nt_lef, ng_ltt, ng_let, ng_gtf, ng_gef, m_roro h, m_no1, m_no2, m_no3, m_no4, m_no5, m_no6, m_no7, e_X12_no10]
