/-! items: letter, storm and its way -/
theorem t_hb {D : Nat → Int32} {T : Nat → Int32} {L s p x y vy : Nat} {S : tz_S} {A : tz_Mem} (hL : L ≤ 160) (hs : s < 8) (hx : x < 10) (hy : y < 10) (hxy : x ≠ y) (hp : p ≤ L) (W : sp_W1 S) (r : MRd D T L s p S A) (hvy : tz_g A 183 y = tz_j vy) (hv9 : vy < 10000) : (nu_ok T L p 0 (S 1 0) ∧ nu_v T L p ≠ vy → ∃ A', f_X12_hillBut (tz_j x) (tz_j y) A = some (some (.int (tz_j 1)), A') ∧ MRd D T L s (nu_p T L p) S A' ∧ tz_g A' 183 x = tz_j (nu_v T L p) ∧ tz_fr (fun k i => (k = 157 ∧ i = 40) ∨ (k = 183 ∧ i = x)) A A') ∧ (nu_ok T L p 0 (S 1 0) ∧ nu_v T L p = vy → ∃ A', f_X12_hillBut (tz_j x) (tz_j y) A = some (some (.int (tz_j 0)), A') ∧ tz_g A' 157 40 = tz_j (p + 1) ∧ tz_fr t2_p A A') ∧ (¬ nu_ok T L p 0 (S 1 0) → ∃ A', f_X12_hillBut (tz_j x) (tz_j y) A = some (some (.int (tz_j 0)), A') ∧ tz_g A' 157 40 = tz_j (nu_f T L p) ∧ tz_fr t2_p A A') := by
  have w1 := W.1
  have k3 : tz_g A 157 3 = tz_j (S 1 0) := cm_3 r.1.1
  have q40 := r.2.2.1
  have a3 : tz_j p + tz_j 1 = tz_j (p + 1) := nj_add
  have nx := nj_ix8 (s := x) (n := 10) hx (by omega)
  have ny := nj_ix8 (s := y) (n := 10) hy (by omega)
  have cx : (tz_j x).toNatClampNeg = x := nj_cl (by omega)
  have cy : (tz_j y).toNatClampNeg = y := nj_cl (by omega)
  obtain ⟨i1, i2⟩ := t_no (x := x) (lo := 0) (h1 := S 1 0) (hi := tz_j (S 1 0) - tz_j 1) hL hs hx hp (by omega) (hi_c (by omega)) r
  refine ⟨fun h => ?_, fun h => ?_, fun h => ?_⟩
  · obtain ⟨A', e, r', v, f⟩ := i1 h.1
    have vy' : tz_g A' 183 y = tz_j vy := (f.2.2 183 y (by omega)).trans hvy
    have n1 : (tz_j (nu_v T L p) = tz_j vy) = False := nj_eqf h.2 (by have := h.1.2.2.2; omega) (by omega)
    refine ⟨A', ?_, r', v, f⟩
    rw [e_X12_hillBut]
    simp only [tz_lit, nj_m1, nj_m2, nj_m3, nj_m4, nj_m5, nj_m6, nj_m7, ↓reduceIte, tz_bI_some, tz_bV_some, tz_bL_some, cj10, cj01, cjm0, eq_self, not_true_eq_false, not_false_eq_true, or_false, false_or, or_true, true_or, or_self, and_true, true_and, and_false, false_and, k3, e, nx, ny, cx, cy, v, vy', n1]
  · obtain ⟨A', e, r', v, f⟩ := i1 h.1
    have vy' : tz_g A' 183 y = tz_j vy := (f.2.2 183 y (by omega)).trans hvy
    have n1 : (tz_j (nu_v T L p) = tz_j vy) = True := nj_eqt h.2
    refine ⟨tz_s A' 157 40 (tz_j (p + 1)), ?_, tz_gs1, fr_s (fr_mo f (fun k i => tx_t2)) (Or.inl ⟨rfl, rfl⟩)⟩
    rw [e_X12_hillBut]
    simp only [tz_lit, nj_m1, nj_m2, nj_m3, nj_m4, nj_m5, nj_m6, nj_m7, ↓reduceIte, tz_bI_some, tz_bV_some, tz_bL_some, cj10, cj01, cjm0, eq_self, not_true_eq_false, not_false_eq_true, or_false, false_or, or_true, true_or, or_self, and_true, true_and, and_false, false_and, k3, e, nx, ny, cx, cy, v, vy', n1, q40, a3]
  · obtain ⟨A', e, q, f⟩ := i2 h
    refine ⟨A', ?_, q, f⟩
    rw [e_X12_hillBut]
    simp only [tz_lit, nj_m1, nj_m2, nj_m3, nj_m4, nj_m5, nj_m6, nj_m7, ↓reduceIte, tz_bI_some, tz_bV_some, tz_bL_some, cj10, cj01, cjm0, eq_self, not_true_eq_false, not_false_eq_true, or_false, false_or, or_true, true_or, or_self, and_true, true_and, and_false, false_and, k3, e]
theorem it_letter {T : Nat → Int32} {L s N p : Nat} {S : tz_S} (hL : L ≤ 160) (hs : s < 8) (hp : p ≤ L) (H : sp_H N S) (hst : sp_st S) (hw : wd_a T L p 7 = 6) : it_R T L s N p S := by
  have W := H.1
  have W2 := H.2.1
  have w1 := W.1
  have w4 := W.2.1
  have w12 := W.2.2.1
  have hp4 : p + 6 ≤ L := by
    have := wd_pa (T := T) (L := L) (p := p) (w := 7) hp
    omega
  have s0 : sg T L p = tz_j 108 := wd_af (w := 7) hw 0 (by decide)
  have h5 : wd_a T L p 5 ≠ 4 := by rw [wd_a0 (by rw [s0]; exact tz_ne (b := 104) (by omega) (by omega) (by omega))]; omega
  have h6 : wd_a T L p 6 ≠ 5 := by rw [wd_a0 (by rw [s0]; exact tz_ne (b := 115) (by omega) (by omega) (by omega))]; omega
  have mw : ∀ D B, MRd D T L s p S B → ∃ B1, (S 15 0 < 12 → f_X12_item B = tz_bI (f_X12_number (tz_j 0) (tz_j 0) (tz_j 9999) B1) (fun y3 A3 => if y3 = tz_j 0 then some (some (.int (tz_j 0)), A3) else tz_bI (f_X12_number (tz_j 1) (tz_j 0) (tz_g A3 157 3 - tz_j 1) A3) (fun y4 A4 => if y4 = tz_j 0 then some (some (.int (tz_j 0)), A4) else tz_bI (f_X12_hillBut (tz_j 2) (tz_j 1) A4) (fun y5 A5 => if y5 = tz_j 0 then some (some (.int (tz_j 0)), A5) else tz_bI (f_X12_number (tz_j 3) (tz_j 1) (tz_j 99) A5) (fun y6 A6 => if ¬ y6 = tz_j 0 then tz_bI (f_X12_newLetter (tz_g A6 183 0) (tz_g A6 183 1) (tz_g A6 183 2) (tz_g A6 183 3) A6) (fun y7 A7 => some (some (.int (tz_j 1)), A7)) else some (some (.int (tz_j 0)), A6)))))) ∧ (¬ S 15 0 < 12 → f_X12_item B = some (some (.int (tz_j 0)), tz_s B1 157 40 (tz_j p))) ∧ MRd D T L s (p + 6) S B1 ∧ tz_fr t2_p B B1 := by
    intro D B r
    have es := t_sg hL hs hp r
    rw [s0] at es
    have k15 : tz_g B 157 15 = tz_j (S 15 0) := cm_15 r.1.1
    obtain ⟨B1, e, e', r', f⟩ := (t_u7 hL hs hp r).2 hw
    refine ⟨B1, fun z => ?_, fun z => ?_, r', f⟩
    · have n8 : (tz_j 12 ≤ tz_j (S 15 0)) = False := nj_lef (by omega) (by omega)
      rw [mi_108 es]
      simp (disch := omega) only [tz_lit, nj_m1, nj_m2, nj_m3, nj_m4, nj_m5, nj_m6, nj_m7, ↓reduceIte, tz_bI_some, tz_bV_some, tz_bL_some, cj10, cj01, cjm0, eq_self, not_true_eq_false, not_false_eq_true, or_false, false_or, or_true, true_or, or_self, and_true, true_and, and_false, false_and, nj_eqf, nj_ltt, nj_ltf, nj_let, nj_lef, nj_cl, nt_lef, ng_ltt, ng_let, ng_gtf, ng_gef, k15, n8, e']
      try rfl
    · have n8 : (tz_j 12 ≤ tz_j (S 15 0)) = True := nj_let (by omega) (by omega)
      rw [mi_108 es]
      simp (disch := omega) only [tz_lit, nj_m1, nj_m2, nj_m3, nj_m4, nj_m5, nj_m6, nj_m7, ↓reduceIte, tz_bI_some, tz_bV_some, tz_bL_some, cj10, cj01, cjm0, eq_self, not_true_eq_false, not_false_eq_true, or_false, false_or, or_true, true_or, or_self, and_true, true_and, and_false, false_and, nj_eqf, nj_ltt, nj_ltf, nj_let, nj_lef, nj_cl, nt_lef, ng_ltt, ng_let, ng_gtf, ng_gef, k15, n8, e]
  have word : ∀ A, XRd T L p S A → f_X7_readWord A = some (some (.int (tz_j 2)), tz_s A 122 5 (tz_j (p + 6))) ∧ XRd T L (p + 6) S (tz_s A 122 5 (tz_j (p + 6))) ∧ tz_fr r2_p A (tz_s A 122 5 (tz_j (p + 6))) := fun A r => r_w7 hL hp r h5 h6 hw
  have go : ∀ A A1 A', f_X7_readWord A = some (some (.int (tz_j 2)), A1) → XRd T L (p + 6) S A1 → S 15 0 < 12 → f_X7_readLetter A1 = some (none, A') → f_X7_readItem A = some (none, A') := fun A A1 A' e0 r0 full er => r_go e0 r0 (by have := (r_rm r0 W).2.2.1; rw [if_pos full] at this; exact this) (by omega) (fun h => by omega) (fun h => by omega) (fun _ => er) (fun h => by omega) (fun h => by omega)
  by_cases full : S 15 0 < 12
  · by_cases o1 : nu_ok T L (p + 6) 0 10000
    · have b1 := nu_b o1
      by_cases o2 : nu_ok T L (nu_p T L (p + 6)) 0 (S 1 0)
      · have b2 := nu_b o2
        by_cases o3 : nu_ok T L (nu_p T L (nu_p T L (p + 6))) 0 (S 1 0)
        · have b3 := nu_b o3
          by_cases ne : (nu_v T L (nu_p T L (nu_p T L (p + 6)))) = (nu_v T L (nu_p T L (p + 6)))
          · have hpl : (nu_p T L (nu_p T L (p + 6))) + 1 ≤ L := by
              have := sg_lt (by omega) o3.1
              omega
            refine Or.inl ⟨(nu_p T L (nu_p T L (p + 6))) + 1, hpl, fun A r => ?_, fun D B r => ?_⟩
            · obtain ⟨e0, r0, f0⟩ := word A r
              obtain ⟨A1, e1, r1, q1, f1⟩ := (r_no (lo := 0) (h1 := 10000) hL hp4 (by omega) (hi_k (n := 9999) (by omega)) r0).1 o1
              obtain ⟨A2, e2, r2, q2, f2⟩ := (r_hn hL b1.2.1 W r1).1 o2
              obtain ⟨A3, e3, r3, q3, f3⟩ := (r_hn hL b2.2.1 W r2).1 o3
              have n1 : (tz_j (nu_v T L (nu_p T L (nu_p T L (p + 6)))) = tz_j (nu_v T L (nu_p T L (p + 6)))) = True := nj_eqt ne
              have n2 : (tz_j ((nu_p T L (nu_p T L (p + 6))) + 1) = tz_j 4294967295) = False := nj_eqf (by omega) (by omega) (by omega)
              have q0 := r3.2.1
              have qs : tz_g (tz_s A3 122 0 (tz_j ((nu_p T L (nu_p T L (p + 6))) + 1))) 122 0 = tz_j ((nu_p T L (nu_p T L (p + 6))) + 1) := tz_gs1
              have e4 := r_noF (lo := tz_j 1) (hi := tz_j 99) (show (nu_p T L (nu_p T L (p + 6))) + 1 ≤ 200 by omega) qs
              refine ⟨tz_s A3 122 0 (tz_j ((nu_p T L (nu_p T L (p + 6))) + 1)), go A _ _ e0 r0 full ?_, qs, fx_tr (sk_2 f0) (fx_tr (sk_2 f1) (fx_tr (sk_2 f2) (sk_2 (fr_s f3 ⟨rfl, Or.inl rfl⟩))))⟩
              rw [e_X7_readLetter]
              simp only [tz_lit, nj_m1, nj_m2, nj_m3, nj_m4, nj_m5, nj_m6, nj_m7, ↓reduceIte, tz_bI_some, tz_bV_some, tz_bL_some, cj10, cj01, cjm0, eq_self, not_true_eq_false, not_false_eq_true, or_false, false_or, or_true, true_or, or_self, and_true, true_and, and_false, false_and, e1, e2, e3, q0, n1, q3, e4, qs, n2]
            · obtain ⟨B1, m1, _, t1, g1⟩ := mw D B r
              obtain ⟨B2, d2, t2, v2, g2⟩ := (t_no (x := 0) (lo := 0) (h1 := 10000) hL hs (by omega) hp4 (by omega) (hi_k (n := 9999) (by omega)) t1).1 o1
              have k3 : tz_g B2 157 3 = tz_j (S 1 0) := cm_3 t2.1.1
              obtain ⟨B3, d3, t3, v3, g3⟩ := (t_no (x := 1) (lo := 0) (h1 := S 1 0) (hi := tz_j (S 1 0) - tz_j 1) hL hs (by omega) b1.2.1 (by omega) (hi_c (by omega)) t2).1 o2
              obtain ⟨B4, d4, v4, g4⟩ := (t_hb (x := 2) (y := 1) hL hs (by omega) (by omega) (by omega) b2.2.1 W t3 v3 (by have := o2.2.2.2; omega)).2.1 ⟨o3, ne⟩
              refine ⟨B4, ?_, v4, fr_tr g1 (fr_tr (fr_mo g2 (fun k i => tx_t2)) (fr_tr (fr_mo g3 (fun k i => tx_t2)) g4))⟩
              rw [m1 full]
              simp only [tz_lit, nj_m1, nj_m2, nj_m3, nj_m4, nj_m5, nj_m6, nj_m7, ↓reduceIte, tz_bI_some, tz_bV_some, tz_bL_some, cj10, cj01, cjm0, eq_self, not_true_eq_false, not_false_eq_true, or_false, false_or, or_true, true_or, or_self, and_true, true_and, and_false, false_and, d2, k3, d3, d4]
          · by_cases o4 : nu_ok T L (nu_p T L (nu_p T L (nu_p T L (p + 6)))) 1 100
            · have b4 := nu_b o4
              refine Or.inr ⟨sp_addL (nu_v T L (p + 6)) (nu_v T L (nu_p T L (p + 6))) (nu_v T L (nu_p T L (nu_p T L (p + 6)))) (nu_v T L (nu_p T L (nu_p T L (nu_p T L (p + 6))))) S, (nu_p T L (nu_p T L (nu_p T L (nu_p T L (p + 6))))), 0, (by omega), b4.2.1, (by omega), addL_H H full (by have := o1.2.2.2; omega) o2.2.2.2 o3.2.2.2 ⟨o4.2.2.1, by have := o4.2.2.2; omega⟩, ⟨(addL_g (by omega) (by omega) (by omega)).trans hst.1, (addL_g (by omega) (by omega) (by omega)).trans hst.2⟩, Nat.le_of_eq (addL_g (by omega) (by omega) (by omega)).symm, fun A r => ?_, fun D B r => ?_⟩
              · obtain ⟨e0, r0, f0⟩ := word A r
                obtain ⟨A1, e1, r1, q1, f1⟩ := (r_no (lo := 0) (h1 := 10000) hL hp4 (by omega) (hi_k (n := 9999) (by omega)) r0).1 o1
                obtain ⟨A2, e2, r2, q2, f2⟩ := (r_hn hL b1.2.1 W r1).1 o2
                obtain ⟨A3, e3, r3, q3, f3⟩ := (r_hn hL b2.2.1 W r2).1 o3
                obtain ⟨A4, e4, r4, q4, f4⟩ := (r_no (lo := 1) (h1 := 100) hL b3.2.1 (by omega) (hi_k (n := 99) (by omega)) r3).1 o4
                obtain ⟨A5, e5, x5, f5⟩ := x_addL (a := (nu_v T L (p + 6))) (f := (nu_v T L (nu_p T L (p + 6)))) (t := (nu_v T L (nu_p T L (nu_p T L (p + 6))))) (v := (nu_v T L (nu_p T L (nu_p T L (nu_p T L (p + 6)))))) h124 r4.1 W full o2.2.2.2 (by have := o4.2.2.2; omega)
                have n1 : (tz_j (nu_v T L (nu_p T L (nu_p T L (p + 6)))) = tz_j (nu_v T L (nu_p T L (p + 6)))) = False := nj_eqf ne (by have := o3.2.2.2; omega) (by have := o2.2.2.2; omega)
                have q0 := r3.2.1
                have q0' := r4.2.1
                refine ⟨A5, go A _ _ e0 r0 full ?_, XRd_sky r4 x5 (sk_x f5), fx_tr (sk_2 f0) (fx_tr (sk_2 f1) (fx_tr (sk_2 f2) (fx_tr (sk_2 f3) (fx_tr (sk_2 f4) (sk_y (sk_x f5))))))⟩
                rw [e_X7_readLetter]
                simp only [tz_lit, nj_m1, nj_m2, nj_m3, nj_m4, nj_m5, nj_m6, nj_m7, ↓reduceIte, tz_bI_some, tz_bV_some, tz_bL_some, cj10, cj01, cjm0, eq_self, not_true_eq_false, not_false_eq_true, or_false, false_or, or_true, true_or, or_self, and_true, true_and, and_false, false_and, e1, e2, e3, q0, n1, e4, q0', e5]
              · obtain ⟨B1, m1, _, t1, g1⟩ := mw D B r
                obtain ⟨B2, d2, t2, v2, g2⟩ := (t_no (x := 0) (lo := 0) (h1 := 10000) hL hs (by omega) hp4 (by omega) (hi_k (n := 9999) (by omega)) t1).1 o1
                have k3 : tz_g B2 157 3 = tz_j (S 1 0) := cm_3 t2.1.1
                obtain ⟨B3, d3, t3, v3, g3⟩ := (t_no (x := 1) (lo := 0) (h1 := S 1 0) (hi := tz_j (S 1 0) - tz_j 1) hL hs (by omega) b1.2.1 (by omega) (hi_c (by omega)) t2).1 o2
                obtain ⟨B4, d4, t4, v4, g4⟩ := (t_hb (x := 2) (y := 1) hL hs (by omega) (by omega) (by omega) b2.2.1 W t3 v3 (by have := o2.2.2.2; omega)).1 ⟨o3, ne⟩
                obtain ⟨B5, d5, t5, v5, g5⟩ := (t_no (x := 3) (lo := 1) (h1 := 100) hL hs (by omega) b3.2.1 (by omega) (hi_k (n := 99) (by omega)) t4).1 o4
                have u0 : tz_g B5 183 0 = tz_j (nu_v T L (p + 6)) := (g5.2.2 183 0 (by omega)).trans ((g4.2.2 183 0 (by omega)).trans ((g3.2.2 183 0 (by omega)).trans v2))
                have u1 : tz_g B5 183 1 = tz_j (nu_v T L (nu_p T L (p + 6))) := (g5.2.2 183 1 (by omega)).trans ((g4.2.2 183 1 (by omega)).trans v3)
                have u2 : tz_g B5 183 2 = tz_j (nu_v T L (nu_p T L (nu_p T L (p + 6)))) := (g5.2.2 183 2 (by omega)).trans v4
                obtain ⟨B6, d6, x6, g6⟩ := m_addL (a := (nu_v T L (p + 6))) (f := (nu_v T L (nu_p T L (p + 6)))) (t := (nu_v T L (nu_p T L (nu_p T L (p + 6))))) (v := (nu_v T L (nu_p T L (nu_p T L (nu_p T L (p + 6)))))) t5.1 full
                refine ⟨D, B6, ?_, MRd_sky t5 x6 g6, fr_tr (fr_mo g1 (fun k i => t2_ty)) (fr_tr (fr_mo g2 (fun k i h => t2_ty (tx_t2 h))) (fr_tr (fr_mo g3 (fun k i h => t2_ty (tx_t2 h))) (fr_tr (fr_mo g4 (fun k i h => t2_ty (tx_t2 h))) (fr_tr (fr_mo g5 (fun k i h => t2_ty (tx_t2 h))) (fr_mo g6 (fun k i h => Or.inl h))))))⟩
                rw [m1 full]
                simp only [tz_lit, nj_m1, nj_m2, nj_m3, nj_m4, nj_m5, nj_m6, nj_m7, ↓reduceIte, tz_bI_some, tz_bV_some, tz_bL_some, cj10, cj01, cjm0, eq_self, not_true_eq_false, not_false_eq_true, or_false, false_or, or_true, true_or, or_self, and_true, true_and, and_false, false_and, d2, k3, d3, d4, d5, u0, u1, u2, v5, d6]
            · refine Or.inl ⟨nu_f T L (nu_p T L (nu_p T L (nu_p T L (p + 6)))), nu_fl b3.2.1, fun A r => ?_, fun D B r => ?_⟩
              · obtain ⟨e0, r0, f0⟩ := word A r
                obtain ⟨A1, e1, r1, q1, f1⟩ := (r_no (lo := 0) (h1 := 10000) hL hp4 (by omega) (hi_k (n := 9999) (by omega)) r0).1 o1
                obtain ⟨A2, e2, r2, q2, f2⟩ := (r_hn hL b1.2.1 W r1).1 o2
                obtain ⟨A3, e3, r3, q3, f3⟩ := (r_hn hL b2.2.1 W r2).1 o3
                obtain ⟨A4, e4, q4, f4⟩ := (r_no (lo := 1) (h1 := 100) hL b3.2.1 (by omega) (hi_k (n := 99) (by omega)) r3).2 o4
                have n1 : (tz_j (nu_v T L (nu_p T L (nu_p T L (p + 6)))) = tz_j (nu_v T L (nu_p T L (p + 6)))) = False := nj_eqf ne (by have := o3.2.2.2; omega) (by have := o2.2.2.2; omega)
                have q0 := r3.2.1
                have hf := nu_fl (T := T) b3.2.1
                have n2 : (tz_j (nu_f T L (nu_p T L (nu_p T L (nu_p T L (p + 6))))) = tz_j 4294967295) = False := nj_eqf (by omega) (by omega) (by omega)
                refine ⟨A4, go A _ _ e0 r0 full ?_, q4, fx_tr (sk_2 f0) (fx_tr (sk_2 f1) (fx_tr (sk_2 f2) (fx_tr (sk_2 f3) (sk_2 f4))))⟩
                rw [e_X7_readLetter]
                simp only [tz_lit, nj_m1, nj_m2, nj_m3, nj_m4, nj_m5, nj_m6, nj_m7, ↓reduceIte, tz_bI_some, tz_bV_some, tz_bL_some, cj10, cj01, cjm0, eq_self, not_true_eq_false, not_false_eq_true, or_false, false_or, or_true, true_or, or_self, and_true, true_and, and_false, false_and, e1, e2, e3, q0, n1, e4, q4, n2]
              · obtain ⟨B1, m1, _, t1, g1⟩ := mw D B r
                obtain ⟨B2, d2, t2, v2, g2⟩ := (t_no (x := 0) (lo := 0) (h1 := 10000) hL hs (by omega) hp4 (by omega) (hi_k (n := 9999) (by omega)) t1).1 o1
                have k3 : tz_g B2 157 3 = tz_j (S 1 0) := cm_3 t2.1.1
                obtain ⟨B3, d3, t3, v3, g3⟩ := (t_no (x := 1) (lo := 0) (h1 := S 1 0) (hi := tz_j (S 1 0) - tz_j 1) hL hs (by omega) b1.2.1 (by omega) (hi_c (by omega)) t2).1 o2
                obtain ⟨B4, d4, t4, v4, g4⟩ := (t_hb (x := 2) (y := 1) hL hs (by omega) (by omega) (by omega) b2.2.1 W t3 v3 (by have := o2.2.2.2; omega)).1 ⟨o3, ne⟩
                obtain ⟨B5, d5, v5, g5⟩ := (t_no (x := 3) (lo := 1) (h1 := 100) hL hs (by omega) b3.2.1 (by omega) (hi_k (n := 99) (by omega)) t4).2 o4
                refine ⟨B5, ?_, v5, fr_tr g1 (fr_tr (fr_mo g2 (fun k i => tx_t2)) (fr_tr (fr_mo g3 (fun k i => tx_t2)) (fr_tr (fr_mo g4 (fun k i => tx_t2)) g5)))⟩
                rw [m1 full]
                simp only [tz_lit, nj_m1, nj_m2, nj_m3, nj_m4, nj_m5, nj_m6, nj_m7, ↓reduceIte, tz_bI_some, tz_bV_some, tz_bL_some, cj10, cj01, cjm0, eq_self, not_true_eq_false, not_false_eq_true, or_false, false_or, or_true, true_or, or_self, and_true, true_and, and_false, false_and, d2, k3, d3, d4, d5]
        · refine Or.inl ⟨nu_f T L (nu_p T L (nu_p T L (p + 6))), nu_fl b2.2.1, fun A r => ?_, fun D B r => ?_⟩
          · obtain ⟨e0, r0, f0⟩ := word A r
            obtain ⟨A1, e1, r1, q1, f1⟩ := (r_no (lo := 0) (h1 := 10000) hL hp4 (by omega) (hi_k (n := 9999) (by omega)) r0).1 o1
            obtain ⟨A2, e2, r2, q2, f2⟩ := (r_hn hL b1.2.1 W r1).1 o2
            obtain ⟨A3, e3, q3, f3⟩ := (r_hn hL b2.2.1 W r2).2 o3
            have hf := nu_fl (T := T) b2.2.1
            have n2 : (tz_j (nu_f T L (nu_p T L (nu_p T L (p + 6)))) = tz_j 4294967295) = False := nj_eqf (by omega) (by omega) (by omega)
            have e4 := r_noF (lo := tz_j 1) (hi := tz_j 99) (show nu_f T L (nu_p T L (nu_p T L (p + 6))) ≤ 200 by omega) q3
            refine ⟨A3, go A _ _ e0 r0 full ?_, q3, fx_tr (sk_2 f0) (fx_tr (sk_2 f1) (fx_tr (sk_2 f2) (sk_2 f3)))⟩
            rw [e_X7_readLetter]
            simp only [tz_lit, nj_m1, nj_m2, nj_m3, nj_m4, nj_m5, nj_m6, nj_m7, ↓reduceIte, tz_bI_some, tz_bV_some, tz_bL_some, cj10, cj01, cjm0, eq_self, not_true_eq_false, not_false_eq_true, or_false, false_or, or_true, true_or, or_self, and_true, true_and, and_false, false_and, e1, e2, e3, q3, n2, e4]
          · obtain ⟨B1, m1, _, t1, g1⟩ := mw D B r
            obtain ⟨B2, d2, t2, v2, g2⟩ := (t_no (x := 0) (lo := 0) (h1 := 10000) hL hs (by omega) hp4 (by omega) (hi_k (n := 9999) (by omega)) t1).1 o1
            have k3 : tz_g B2 157 3 = tz_j (S 1 0) := cm_3 t2.1.1
            obtain ⟨B3, d3, t3, v3, g3⟩ := (t_no (x := 1) (lo := 0) (h1 := S 1 0) (hi := tz_j (S 1 0) - tz_j 1) hL hs (by omega) b1.2.1 (by omega) (hi_c (by omega)) t2).1 o2
            obtain ⟨B4, d4, v4, g4⟩ := (t_hb (x := 2) (y := 1) hL hs (by omega) (by omega) (by omega) b2.2.1 W t3 v3 (by have := o2.2.2.2; omega)).2.2 o3
            refine ⟨B4, ?_, v4, fr_tr g1 (fr_tr (fr_mo g2 (fun k i => tx_t2)) (fr_tr (fr_mo g3 (fun k i => tx_t2)) g4))⟩
            rw [m1 full]
            simp only [tz_lit, nj_m1, nj_m2, nj_m3, nj_m4, nj_m5, nj_m6, nj_m7, ↓reduceIte, tz_bI_some, tz_bV_some, tz_bL_some, cj10, cj01, cjm0, eq_self, not_true_eq_false, not_false_eq_true, or_false, false_or, or_true, true_or, or_self, and_true, true_and, and_false, false_and, d2, k3, d3, d4]
      · refine Or.inl ⟨nu_f T L (nu_p T L (p + 6)), nu_fl b1.2.1, fun A r => ?_, fun D B r => ?_⟩
        · obtain ⟨e0, r0, f0⟩ := word A r
          obtain ⟨A1, e1, r1, q1, f1⟩ := (r_no (lo := 0) (h1 := 10000) hL hp4 (by omega) (hi_k (n := 9999) (by omega)) r0).1 o1
          obtain ⟨A2, e2, q2, f2⟩ := (r_hn hL b1.2.1 W r1).2 o2
          have hf := nu_fl (T := T) b1.2.1
          have n2 : (tz_j (nu_f T L (nu_p T L (p + 6))) = tz_j 4294967295) = False := nj_eqf (by omega) (by omega) (by omega)
          have e3 := r_hnF (show nu_f T L (nu_p T L (p + 6)) ≤ 200 by omega) q2
          have e4 := r_noF (lo := tz_j 1) (hi := tz_j 99) (show nu_f T L (nu_p T L (p + 6)) ≤ 200 by omega) q2
          refine ⟨A2, go A _ _ e0 r0 full ?_, q2, fx_tr (sk_2 f0) (fx_tr (sk_2 f1) (sk_2 f2))⟩
          rw [e_X7_readLetter]
          simp only [tz_lit, nj_m1, nj_m2, nj_m3, nj_m4, nj_m5, nj_m6, nj_m7, ↓reduceIte, tz_bI_some, tz_bV_some, tz_bL_some, cj10, cj01, cjm0, eq_self, not_true_eq_false, not_false_eq_true, or_false, false_or, or_true, true_or, or_self, and_true, true_and, and_false, false_and, e1, e2, e3, q2, n2, e4]
        · obtain ⟨B1, m1, _, t1, g1⟩ := mw D B r
          obtain ⟨B2, d2, t2, v2, g2⟩ := (t_no (x := 0) (lo := 0) (h1 := 10000) hL hs (by omega) hp4 (by omega) (hi_k (n := 9999) (by omega)) t1).1 o1
          have k3 : tz_g B2 157 3 = tz_j (S 1 0) := cm_3 t2.1.1
          obtain ⟨B3, d3, v3, g3⟩ := (t_no (x := 1) (lo := 0) (h1 := S 1 0) (hi := tz_j (S 1 0) - tz_j 1) hL hs (by omega) b1.2.1 (by omega) (hi_c (by omega)) t2).2 o2
          refine ⟨B3, ?_, v3, fr_tr g1 (fr_tr (fr_mo g2 (fun k i => tx_t2)) g3)⟩
          rw [m1 full]
          simp only [tz_lit, nj_m1, nj_m2, nj_m3, nj_m4, nj_m5, nj_m6, nj_m7, ↓reduceIte, tz_bI_some, tz_bV_some, tz_bL_some, cj10, cj01, cjm0, eq_self, not_true_eq_false, not_false_eq_true, or_false, false_or, or_true, true_or, or_self, and_true, true_and, and_false, false_and, d2, k3, d3]
    · refine Or.inl ⟨nu_f T L (p + 6), nu_fl hp4, fun A r => ?_, fun D B r => ?_⟩
      · obtain ⟨e0, r0, f0⟩ := word A r
        obtain ⟨A1, e1, q1, f1⟩ := (r_no (lo := 0) (h1 := 10000) hL hp4 (by omega) (hi_k (n := 9999) (by omega)) r0).2 o1
        have hf := nu_fl (T := T) hp4
        have n2 : (tz_j (nu_f T L (p + 6)) = tz_j 4294967295) = False := nj_eqf (by omega) (by omega) (by omega)
        have e3 := r_hnF (show nu_f T L (p + 6) ≤ 200 by omega) q1
        have e4 := r_noF (lo := tz_j 1) (hi := tz_j 99) (show nu_f T L (p + 6) ≤ 200 by omega) q1
        refine ⟨A1, go A _ _ e0 r0 full ?_, q1, fx_tr (sk_2 f0) (sk_2 f1)⟩
        rw [e_X7_readLetter]
        simp only [tz_lit, nj_m1, nj_m2, nj_m3, nj_m4, nj_m5, nj_m6, nj_m7, ↓reduceIte, tz_bI_some, tz_bV_some, tz_bL_some, cj10, cj01, cjm0, eq_self, not_true_eq_false, not_false_eq_true, or_false, false_or, or_true, true_or, or_self, and_true, true_and, and_false, false_and, e1, e3, q1, n2, e4]
      · obtain ⟨B1, m1, _, t1, g1⟩ := mw D B r
        obtain ⟨B2, d2, v2, g2⟩ := (t_no (x := 0) (lo := 0) (h1 := 10000) hL hs (by omega) hp4 (by omega) (hi_k (n := 9999) (by omega)) t1).2 o1
        refine ⟨B2, ?_, v2, fr_tr g1 g2⟩
        rw [m1 full]
        simp only [tz_lit, nj_m1, nj_m2, nj_m3, nj_m4, nj_m5, nj_m6, nj_m7, ↓reduceIte, tz_bI_some, tz_bV_some, tz_bL_some, cj10, cj01, cjm0, eq_self, not_true_eq_false, not_false_eq_true, or_false, false_or, or_true, true_or, or_self, and_true, true_and, and_false, false_and, d2]
  · refine Or.inl ⟨p, hp, fun A r => ?_, fun D B r => ?_⟩
    · obtain ⟨e0, r0, f0⟩ := word A r
      have er := (r_rm r0 W).2.2.1
      rw [if_neg full] at er
      exact r_full hL hp r e0 r0 f0 er
    · obtain ⟨B1, _, m1, t1, g1⟩ := mw D B r
      exact ⟨_, m1 full, tz_gs1, fr_s g1 (Or.inl ⟨rfl, rfl⟩)⟩
