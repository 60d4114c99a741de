/-! skies read from texts -/
def sk_F (T : Nat → Int32) (L s p it : Nat) (S : tz_S) : Prop := ∃ f, f ≤ L ∧ (∀ A, XRd T L p S A → ∃ A2, q_X11_sky_65 (tz_j it) A = tz_bI (f_X11_refuse (tz_j 4294967290) (tz_s A2 17 13 (tz_j f))) (fun y A => some (some (.int y), A)) ∧ tz_fx ry_p A A2) ∧ ∀ D B, MRd D T L s p S B → ∃ B2, q_X12_sky_39 (tz_j s) (tz_j it) (tz_j 1) B = tz_bV (f_X12_again_s180 (tz_s B2 157 26 (tz_j f))) (fun A1 => tz_bI (f_X12_no (tz_j 4294967290) A1) (fun y A => some (some (.int y), A))) ∧ tz_g B2 157 36 = tz_j 4294967295 ∧ tz_fr ty_p B B2
def sk_G (N0 : Nat) (T : Nat → Int32) (L s p it : Nat) (S : tz_S) : Prop := ∃ (S' : tz_S) (n' : Nat), sp_H (N0 + 2000) S' ∧ sp_st S' ∧ S 1 0 ≤ S' 1 0 ∧ (∀ A, XRd T L p S A → ∃ A2, q_X11_sky_65 (tz_j it) A = tz_bV (f_X9_become 30 124 (tz_s A2 17 13 (tz_j 4294967295))) (fun A3 => some (some (.int (tz_j n')), A3)) ∧ rx 124 99 S' A2 ∧ tz_fx ry_p A A2) ∧ ∀ D B, MRd D T L s p S B → ∃ D' B2, q_X12_sky_39 (tz_j s) (tz_j it) (tz_j 1) B = some (some (.int (tz_j n')), tz_s B2 157 26 (tz_j 4294967295)) ∧ rm D' S' B2 ∧ tz_fr ty_p B B2
theorem t_39f {D : Nat → Int32} {T : Nat → Int32} {L s p f : Nat} {z : Int32} {S : tz_S} {B : tz_Mem} (q : tz_g B 157 40 = tz_j f) : q_X12_sky_39 (tz_j s) z (tz_j 0) B = tz_bV (f_X12_again_s180 (tz_s B 157 26 (tz_j f))) (fun A1 => tz_bI (f_X12_no (tz_j 4294967290) A1) (fun y A => some (some (.int y), A))) := by
  rw [e_X12_sky_39]
  simp only [tz_lit, nj_m1, nj_m2, nj_m3, nj_m4, nj_m5, nj_m6, nj_m7, ↓reduceIte, tz_bI_some, tz_bV_some, tz_bL_some, cj10, cj01, cjm0, eq_self, not_true_eq_false, not_false_eq_true, or_false, false_or, or_true, true_or, or_self, and_true, true_and, and_false, false_and, q]
theorem r_65 {it : Nat} {A A1 : tz_Mem} (hit : it ≤ 100) (e : f_X7_readItem A = some (none, A1)) : q_X11_sky_65 (tz_j it) A = tz_bI (f_X7_goesOn A1) (fun y2 A2 => if ¬ y2 = tz_j 0 then q_X11_sky_65 (tz_j (it + 1)) A2 else if tz_g (tz_s A2 17 13 (tz_g A2 122 0)) 17 13 = tz_j 4294967295 then tz_bV (f_X9_become 30 124 (tz_s A2 17 13 (tz_g A2 122 0))) (fun A3 => some (some (.int (tz_j (it + 1))), A3)) else tz_bI (f_X11_refuse (tz_j 4294967290) (tz_s A2 17 13 (tz_g A2 122 0))) (fun y3 A3 => some (some (.int y3), A3))) := by
  have a3 : tz_j it + tz_j 1 = tz_j (it + 1) := nj_add
  have n1 : (tz_j 160 < tz_j (it + 1)) = False := nj_ltf (by omega) (by omega)
  rw [e_X11_sky_65]
  simp only [tz_lit, nj_m1, nj_m2, nj_m3, nj_m4, nj_m5, nj_m6, nj_m7, ↓reduceIte, tz_bI_some, tz_bV_some, tz_bL_some, cj10, cj01, cjm0, eq_self, not_true_eq_false, not_false_eq_true, or_false, false_or, or_true, true_or, or_self, and_true, true_and, and_false, false_and, e, a3, n1]
theorem sk_all {T : Nat → Int32} {L s N0 : Nat} (hL : L ≤ 160) (hs : s < 8) (hN0 : N0 ≤ 1100000) : ∀ m p it h S, L ≤ p + m → p ≤ L → 2 * it ≤ p → 8 * h ≤ 99 * p → sp_H (N0 + h) S → sp_st S → sk_F T L s p it S ∨ sk_G N0 T L s p it S := by
  -- a fault at a place: what follows on the class's side
  have flt : ∀ it f A A1, it ≤ 100 → f ≤ 160 → f_X7_readItem A = some (none, A1) → tz_g A1 122 0 = tz_j f → q_X11_sky_65 (tz_j it) A = tz_bI (f_X11_refuse (tz_j 4294967290) (tz_s A1 17 13 (tz_j f))) (fun y A => some (some (.int y), A)) := by
    intro it f A A1 hit hf e q0
    have n1 : (tz_j f = tz_j 4294967295) = False := nj_eqf (by omega) (by omega) (by omega)
    have eg : f_X7_goesOn A1 = some (some (.int (tz_j 0)), A1) := by
      rw [e_X7_goesOn]
      simp only [tz_lit, nj_m1, nj_m2, nj_m3, nj_m4, nj_m5, nj_m6, nj_m7, ↓reduceIte, tz_bI_some, tz_bV_some, tz_bL_some, cj10, cj01, cjm0, eq_self, not_true_eq_false, not_false_eq_true, or_false, false_or, or_true, true_or, or_self, and_true, true_and, and_false, false_and, q0, n1]
    rw [r_65 hit e]
    simp only [tz_lit, nj_m1, nj_m2, nj_m3, nj_m4, nj_m5, nj_m6, nj_m7, ↓reduceIte, tz_bI_some, tz_bV_some, tz_bL_some, cj10, cj01, cjm0, eq_self, not_true_eq_false, not_false_eq_true, or_false, false_or, or_true, true_or, or_self, and_true, true_and, and_false, false_and, eg, q0, tz_gs1, n1]
  intro m
  induction m with
  | zero =>
    intro p it h S hm hp hit hh H hst
    rcases it_all (T := T) (s := s) hL hs hp (show N0 + h ≤ 1200000 by omega) H hst with ⟨f, hf, ca, ma⟩ | ⟨S', q, n, h1, h2, _⟩
    · refine Or.inl ⟨f, hf, fun A r => ?_, fun D B r => ?_⟩
      · obtain ⟨A1, e, q0, ff⟩ := ca A r
        exact ⟨A1, flt it f A A1 (by omega) (by omega) e q0, ff⟩
      · obtain ⟨B1, e, q40, ff⟩ := ma D B r
        refine ⟨B1, ?_, ?_, fr_mo ff (fun k i => t2_ty)⟩
        · rw [e_X12_sky_39]
          simp only [tz_lit, nj_m1, nj_m2, nj_m3, nj_m4, nj_m5, nj_m6, nj_m7, ↓reduceIte, tz_bI_some, tz_bV_some, tz_bL_some, cj10, cj01, cjm0, eq_self, not_true_eq_false, not_false_eq_true, or_false, false_or, or_true, true_or, or_self, and_true, true_and, and_false, false_and, e]
          exact t_39f (D := D) (T := T) (L := L) (p := p) (S := S) q40
        · rw [ff.2.2 157 36 (by unfold t2_p; omega)]
          exact r.1.2.2.2.2.2 (by rw [hst.2]; omega)
    · omega
  | succ m ih =>
    intro p it h S hm hp hit hh H hst
    rcases it_all (T := T) (s := s) hL hs hp (show N0 + h ≤ 1200000 by omega) H hst with ⟨f, hf, ca, ma⟩ | ⟨S', q, n, h1, h2, h3, H', hst', hh1, ca, ma⟩
    · refine Or.inl ⟨f, hf, fun A r => ?_, fun D B r => ?_⟩
      · obtain ⟨A1, e, q0, ff⟩ := ca A r
        exact ⟨A1, flt it f A A1 (by omega) (by omega) e q0, ff⟩
      · obtain ⟨B1, e, q40, ff⟩ := ma D B r
        refine ⟨B1, ?_, ?_, fr_mo ff (fun k i => t2_ty)⟩
        · rw [e_X12_sky_39]
          simp only [tz_lit, nj_m1, nj_m2, nj_m3, nj_m4, nj_m5, nj_m6, nj_m7, ↓reduceIte, tz_bI_some, tz_bV_some, tz_bL_some, cj10, cj01, cjm0, eq_self, not_true_eq_false, not_false_eq_true, or_false, false_or, or_true, true_or, or_self, and_true, true_and, and_false, false_and, e]
          exact t_39f (D := D) (T := T) (L := L) (p := p) (S := S) q40
        · rw [ff.2.2 157 36 (by unfold t2_p; omega)]
          exact r.1.2.2.2.2.2 (by rw [hst.2]; omega)
    · have a3 : tz_j it + tz_j 1 = tz_j (it + 1) := nj_add
      have a4 : tz_j q + tz_j 1 = tz_j (q + 1) := nj_add
      have n3 := nj_ix8 (s := s) (n := 8) hs (by omega)
      have c1 : (tz_j s).toNatClampNeg = s := nj_cl (by omega)
      by_cases y : q = L
      · -- the text ends here
        refine Or.inr ⟨S', it + 1, sp_H_mo H' (by omega), hst', hh1, fun A r => ?_, fun D B r => ?_⟩
        · obtain ⟨A1, e, r1, ff⟩ := ca A r
          obtain ⟨x, q0, q4, q5, _⟩ := r1
          have n1 : (tz_j q < tz_j L) = False := nj_ltf (by omega) (by omega)
          have eg : f_X7_goesOn A1 = some (some (.int (tz_j 0)), A1) := by
            rw [e_X7_goesOn]
            simp only [tz_lit, nj_m1, nj_m2, nj_m3, nj_m4, nj_m5, nj_m6, nj_m7, ↓reduceIte, tz_bI_some, tz_bV_some, tz_bL_some, cj10, cj01, cjm0, eq_self, not_true_eq_false, not_false_eq_true, or_false, false_or, or_true, true_or, or_self, and_true, true_and, and_false, false_and, q0, q4, q5, n1]
          refine ⟨A1, ?_, x, ff⟩
          rw [r_65 (by omega) e]
          simp only [tz_lit, nj_m1, nj_m2, nj_m3, nj_m4, nj_m5, nj_m6, nj_m7, ↓reduceIte, tz_bI_some, tz_bV_some, tz_bL_some, cj10, cj01, cjm0, eq_self, not_true_eq_false, not_false_eq_true, or_false, false_or, or_true, true_or, or_self, and_true, true_and, and_false, false_and, eg, q0, tz_gs1]
        · obtain ⟨D', B1, e, r1, ff⟩ := ma D B r
          obtain ⟨x, q39, q40, q159, _⟩ := r1
          have n1 : (tz_j q = tz_j L) = True := nj_eqt y
          refine ⟨D', B1, ?_, x, ff⟩
          rw [e_X12_sky_39]
          simp only [tz_lit, nj_m1, nj_m2, nj_m3, nj_m4, nj_m5, nj_m6, nj_m7, ↓reduceIte, tz_bI_some, tz_bV_some, tz_bL_some, cj10, cj01, cjm0, eq_self, not_true_eq_false, not_false_eq_true, or_false, false_or, or_true, true_or, or_self, and_true, true_and, and_false, false_and, e, n3, c1, q40, q159, n1, a3]
      · have hq : q < L := by omega
        have nc : (tz_j q < tz_j L) = True := nj_ltt hq (by omega)
        have nm : (tz_j q = tz_j L) = False := nj_eqf y (by omega) (by omega)
        by_cases z : sg T L q = tz_j 59
        · -- one more item
          have cg : ∀ A, XRd T L p S A → ∃ A1, q_X11_sky_65 (tz_j it) A = q_X11_sky_65 (tz_j (it + 1)) A1 ∧ XRd T L (q + 1) S' A1 ∧ tz_fx ry_p A A1 := by
            intro A r
            obtain ⟨A1, e, r1, ff⟩ := ca A r
            have est := r_st (c := 59) hL h2 (by omega) r1
            rw [if_pos z] at est
            obtain ⟨x, q0, q4, q5, _⟩ := r1
            have eg : f_X7_goesOn A1 = some (some (.int (tz_j 1)), tz_s A1 122 5 (tz_j (q + 1))) := by
              rw [e_X7_goesOn]
              simp only [tz_lit, nj_m1, nj_m2, nj_m3, nj_m4, nj_m5, nj_m6, nj_m7, ↓reduceIte, tz_bI_some, tz_bV_some, tz_bL_some, cj10, cj01, cjm0, eq_self, not_true_eq_false, not_false_eq_true, or_false, false_or, or_true, true_or, or_self, and_true, true_and, and_false, false_and, q0, q4, q5, nc, est, a4]
            have f1 : tz_fr r2_p A1 (tz_s A1 122 5 (tz_j (q + 1))) := fr_s fr_rfl ⟨rfl, Or.inr (Or.inl rfl)⟩
            refine ⟨_, ?_, XRd_mv ⟨x, q0, q4, q5, by assumption⟩ f1 ((tz_gsi (by omega)).trans q0) tz_gs1, fx_tr ff (sk_2 f1)⟩
            rw [r_65 (by omega) e]
            simp only [tz_lit, nj_m1, nj_m2, nj_m3, nj_m4, nj_m5, nj_m6, nj_m7, ↓reduceIte, tz_bI_some, tz_bV_some, tz_bL_some, cj10, cj01, cjm0, eq_self, not_true_eq_false, not_false_eq_true, or_false, false_or, or_true, true_or, or_self, and_true, true_and, and_false, false_and, eg]
          have mg' : ∀ D B, MRd D T L s p S B → ∃ D' B1, q_X12_sky_39 (tz_j s) (tz_j it) (tz_j 1) B = q_X12_sky_39 (tz_j s) (tz_j (it + 1)) (tz_j 1) B1 ∧ MRd D' T L s (q + 1) S' B1 ∧ tz_fr ty_p B B1 := by
            intro D B r
            obtain ⟨D', B1, e, r1, ff⟩ := ma D B r
            obtain ⟨i1, _⟩ := t_is (c := 59) hL hs h2 r1
            obtain ⟨e2, r2⟩ := i1 z
            obtain ⟨x, q39, q40, q159, _⟩ := r1
            refine ⟨D', _, ?_, r2, fr_s ff (Or.inr (Or.inl ⟨rfl, Or.inr rfl⟩))⟩
            rw [e_X12_sky_39]
            simp only [tz_lit, nj_m1, nj_m2, nj_m3, nj_m4, nj_m5, nj_m6, nj_m7, ↓reduceIte, tz_bI_some, tz_bV_some, tz_bL_some, cj10, cj01, cjm0, eq_self, not_true_eq_false, not_false_eq_true, or_false, false_or, or_true, true_or, or_self, and_true, true_and, and_false, false_and, e, n3, c1, q40, q159, nm, a3, e2]
          rcases ih (q + 1) (it + 1) (h + n) S' (by omega) hq (by omega) (by omega) (by rw [← Nat.add_assoc]; exact H') hst' with ⟨f, hf, ca2, ma2⟩ | ⟨S2, n', H2, hst2, hh2, ca2, ma2⟩
          · refine Or.inl ⟨f, hf, fun A r => ?_, fun D B r => ?_⟩
            · obtain ⟨A1, e, r1, ff⟩ := cg A r
              obtain ⟨A2, e2, ff2⟩ := ca2 A1 r1
              exact ⟨A2, e.trans e2, fx_tr ff ff2⟩
            · obtain ⟨D', B1, e, r1, ff⟩ := mg' D B r
              obtain ⟨B2, e2, q36, ff2⟩ := ma2 D' B1 r1
              exact ⟨B2, e.trans e2, q36, fr_tr ff ff2⟩
          · refine Or.inr ⟨S2, n', H2, hst2, Nat.le_trans hh1 hh2, fun A r => ?_, fun D B r => ?_⟩
            · obtain ⟨A1, e, r1, ff⟩ := cg A r
              obtain ⟨A2, e2, x2, ff2⟩ := ca2 A1 r1
              exact ⟨A2, e.trans e2, x2, fx_tr ff ff2⟩
            · obtain ⟨D', B1, e, r1, ff⟩ := mg' D B r
              obtain ⟨D2, B2, e2, x2, ff2⟩ := ma2 D' B1 r1
              exact ⟨D2, B2, e.trans e2, x2, fr_tr ff ff2⟩
        · -- no ; where one should stand
          refine Or.inl ⟨q, h2, fun A r => ?_, fun D B r => ?_⟩
          · obtain ⟨A1, e, r1, ff⟩ := ca A r
            have est := r_st (c := 59) hL h2 (by omega) r1
            rw [if_neg z] at est
            obtain ⟨x, q0, q4, q5, _⟩ := r1
            have n1 : (tz_j q = tz_j 4294967295) = False := nj_eqf (by omega) (by omega) (by omega)
            have eg : f_X7_goesOn A1 = some (some (.int (tz_j 0)), tz_s A1 122 0 (tz_j q)) := by
              rw [e_X7_goesOn]
              simp only [tz_lit, nj_m1, nj_m2, nj_m3, nj_m4, nj_m5, nj_m6, nj_m7, ↓reduceIte, tz_bI_some, tz_bV_some, tz_bL_some, cj10, cj01, cjm0, eq_self, not_true_eq_false, not_false_eq_true, or_false, false_or, or_true, true_or, or_self, and_true, true_and, and_false, false_and, q0, q4, q5, nc, est]
            refine ⟨tz_s A1 122 0 (tz_j q), ?_, fx_s ff (Or.inl rfl)⟩
            rw [r_65 (by omega) e]
            simp only [tz_lit, nj_m1, nj_m2, nj_m3, nj_m4, nj_m5, nj_m6, nj_m7, ↓reduceIte, tz_bI_some, tz_bV_some, tz_bL_some, cj10, cj01, cjm0, eq_self, not_true_eq_false, not_false_eq_true, or_false, false_or, or_true, true_or, or_self, and_true, true_and, and_false, false_and, eg, tz_gs1, n1]
          · obtain ⟨D', B1, e, r1, ff⟩ := ma D B r
            obtain ⟨_, i2⟩ := t_is (c := 59) hL hs h2 r1
            have e2 := i2 z
            obtain ⟨x, q39, q40, q159, _⟩ := r1
            refine ⟨B1, ?_, x.2.2.2.2.2 (by rw [hst'.2]; omega), ff⟩
            rw [e_X12_sky_39]
            simp only [tz_lit, nj_m1, nj_m2, nj_m3, nj_m4, nj_m5, nj_m6, nj_m7, ↓reduceIte, tz_bI_some, tz_bV_some, tz_bL_some, cj10, cj01, cjm0, eq_self, not_true_eq_false, not_false_eq_true, or_false, false_or, or_true, true_or, or_self, and_true, true_and, and_false, false_and, e, n3, c1, q40, q159, nm, a3, e2]
            exact t_39f (D := D) (T := T) (L := L) (p := p) (S := S) q40
def sk_p (k i : Nat) : Prop := (30 ≤ k ∧ k < 53) ∨ (76 ≤ k ∧ k < 148) ∨ (150 ≤ k ∧ k < 156) ∨ (k = 17 ∧ i = 13)
theorem CX_new {S S' K : tz_S} {U : tz_U} {V : tz_V} {A A1 : tz_Mem} (c : CX S K U V A) (hk : sp_st K) (r1 : rx 30 99 S' A1) (f1 : tz_fx sk_p A A1) : CX S' K (tz_u U 3 0 (tz_g A1 17 13)) V A1 := by
  have g : ∀ k i, ¬ ((30 ≤ k ∧ k < 53) ∨ (76 ≤ k ∧ k < 148) ∨ (150 ≤ k ∧ k < 156) ∨ (k = 17 ∧ i = 13)) → tz_g A1 k i = tz_g A k i := fun k i h => f1.2.2.1 k i h
  have gl : ∀ k i, tz_gl A1 k i = tz_gl A k i := fun k i => by show A1.2.2.1 k i = A.2.2.1 k i; rw [f1.2.1]
  refine ⟨r1, fun q => rx_mv (c.2.1 ?_) (fun k i h1 h2 => g k i (by omega)) (f1.2.2.2 _ _ (fun q => by have := q.1; unfold sk_p at this; omega)) (Or.inl hk.2), ⟨fun s hs => ?_, fun i hi => ?_, ?_, ?_, ?_, fun i hi => ?_⟩, fx_con f1 c.2.2.2⟩
  · rw [tz_ui (by omega)] at q
    exact q
  · obtain ⟨a, b, d⟩ := c.2.2.1.1 s hs
    rw [tz_uk (by omega), tz_uk (by omega), g _ _ (by omega), g _ _ (by omega)]
    refine ⟨a, b, fun i hi => ?_⟩
    rw [gl]
    exact d i hi
  · rw [g _ _ (by omega), tz_uk (by omega)]
    exact c.2.2.1.2.1 i hi
  · rw [tz_u1]
  · rw [g _ _ (by omega), tz_ui (by omega)]
    exact c.2.2.1.2.2.2.1
  · rw [g _ _ (by omega), tz_uk (by omega)]
    exact c.2.2.1.2.2.2.2.1
  · rw [g _ _ (by omega), tz_uk (by omega)]
    exact c.2.2.1.2.2.2.2.2 i hi
def sq_p (k i : Nat) : Prop := mo_p k i ∨ (k = 157 ∧ (i = 26 ∨ i = 39 ∨ i = 40)) ∨ k = 180 ∨ k = 183
theorem MX_new {D D' : Nat → Int32} {S S' K : tz_S} {U : tz_U} {V : tz_V} {A A2 : tz_Mem} (m : MX D S K U V A) (r2 : rm D' S' A2) (f : tz_fr sq_p A A2) : MX D' S' K (tz_u U 3 0 (tz_g A2 157 26)) V A2 := by
  have g2 : ∀ k i, ¬ sq_p k i → tz_g A2 k i = tz_g A k i := f.2.2
  refine ⟨r2, fun q => rmk_mv (m.2.1 ?_) (fun j _ => g2 _ _ (by unfold sq_p mo_p; omega)), ⟨fun s hs => ?_, fun i hi => ?_, ?_, ?_, ?_, fun i hi => ?_⟩, by rw [f.1]; exact m.2.2.2⟩
  · rw [tz_ui (by omega)] at q
    exact q
  · obtain ⟨a, b, d⟩ := m.2.2.1.1 s hs
    rw [tz_uk (by omega), tz_uk (by omega), g2 _ _ (by unfold sq_p mo_p; omega), g2 _ _ (by unfold sq_p mo_p; omega)]
    refine ⟨a, b, fun i hi => ?_⟩
    rw [fr_gl f]
    exact d i hi
  · rw [g2 _ _ (by unfold sq_p mo_p; omega), tz_uk (by omega)]
    exact m.2.2.1.2.1 i hi
  · rw [tz_u1]
  · rw [g2 _ _ (by unfold sq_p mo_p; omega), tz_ui (by omega)]
    exact m.2.2.1.2.2.2.1
  · rw [g2 _ _ (by unfold sq_p mo_p; omega), tz_uk (by omega)]
    exact m.2.2.1.2.2.2.2.1
  · rw [g2 _ _ (by unfold sq_p mo_p; omega), tz_uk (by omega)]
    exact m.2.2.1.2.2.2.2.2 i hi
theorem x_cpn3 {s len : Nat} {f : Nat → Int32} (hs : s < 8) (hl : len ≤ 160) : ∀ k i A, i + k = len → (∀ j, j < len → Int64.toInt32 (tz_gl A (22 + s) j) = f j) → ∃ A', q_X8_copyNumbers_s123_3 (tz_j s) (tz_j len) (tz_j i) A = some (none, A') ∧ (∀ j, i ≤ j → j < len → tz_g A' 123 j = f j) ∧ tz_fx (fun k _ => k = 123) A A' ∧ ∀ j, j < i → tz_g A' 123 j = tz_g A 123 j := by
  intro k
  induction k with
  | zero =>
    intro i A hi hf
    have n1 : (tz_j len ≤ tz_j i) = True := nj_let (by omega) (by omega)
    refine ⟨A, ?_, fun j h1 h2 => by omega, fx_rfl, fun _ _ => rfl⟩
    rw [e_X8_copyNumbers_s123_3]
    simp only [tz_lit, nj_m1, nj_m2, nj_m3, nj_m4, nj_m5, nj_m6, nj_m7, ↓reduceIte, tz_bI_some, tz_bV_some, tz_bL_some, cj10, cj01, cjm0, eq_self, not_true_eq_false, not_false_eq_true, or_false, false_or, or_true, true_or, or_self, and_true, true_and, and_false, false_and, n1]
  | succ k ih =>
    intro i A hi hf
    have n1 : (tz_j len ≤ tz_j i) = False := nj_lef (by omega) (by omega)
    have n2 : (tz_j 160 ≤ tz_j i) = False := nj_lef (by omega) (by omega)
    have a1 := x_num (A := A) hs (show i < 160 by omega) (hf i (by omega))
    have n3 := nj_ix8 (s := i) (n := 160) (by omega) (by omega)
    have c1 : (tz_j i).toNatClampNeg = i := nj_cl (by omega)
    have a3 : tz_j i + tz_j 1 = tz_j (i + 1) := nj_add
    obtain ⟨A', e, g, ff, h⟩ := ih (i + 1) (tz_s A 123 i (f i)) (by omega) hf
    refine ⟨A', ?_, fun j h1 h2 => ?_, fx_tr (fx_s fx_rfl rfl) ff, fun j hj => (h j (by omega)).trans (tz_gsi (by omega))⟩
    · rw [e_X8_copyNumbers_s123_3]
      simp only [tz_lit, nj_m1, nj_m2, nj_m3, nj_m4, nj_m5, nj_m6, nj_m7, ↓reduceIte, tz_bI_some, tz_bV_some, tz_bL_some, cj10, cj01, cjm0, eq_self, not_true_eq_false, not_false_eq_true, or_false, false_or, or_true, true_or, or_self, and_true, true_and, and_false, false_and, n1, n2, n3, c1, a1, a3, e]
    · by_cases z : j = i
      · rw [z, h i (by omega), tz_gs1]
      · exact g j (by omega) h2
theorem sk_ry {A A' : tz_Mem} (f : tz_fx ry_p A A') : tz_fx sk_p A A' := fx_mo f (fun k i h => by unfold ry_p at h; unfold sk_p; omega)
theorem p_sky (x1 : Int32) : tz_twoI tz_J (f_X11_sky x1) (f_X12_sky x1) := by
  refine two_of (fun N S K U V A hN c ww => ?_)
  have W := ww.1.1
  have h8 := W.1
  have h4 := W.2.1
  have h12 := W.2.2.1
  rcases nj_three x1 8 (by omega) with ⟨s, hs, rfl⟩ | h
  · obtain ⟨hu, l, hl, hl1⟩ := lg_rw ww.2.2.2.2 hs
    obtain ⟨q, q1, q2⟩ := c.2.2.1.1 s hs
    rw [hl1] at q1
    have a0 := x_ror c hs
    have n3 := nj_ix8 (s := s) (n := 8) hs (by omega)
    have hcl : (tz_j s).toNatClampNeg = s := nj_cl (by omega)
    rcases hu with z | ⟨h, hh, z⟩ | ⟨t, ht, z⟩
    · have a1 := a0.1 z
      refine out_ref (v := tz_j 4294967293) 3 (by omega) c ww ?_ (fun A D m => ?_)
      · rw [e_X11_sky]
        simp (disch := omega) only [tz_lit, nj_m1, nj_m2, nj_m3, nj_m4, nj_m5, nj_m6, nj_m7, ↓reduceIte, tz_bI_some, tz_bV_some, tz_bL_some, cj10, cj01, cjm0, eq_self, not_true_eq_false, not_false_eq_true, or_false, false_or, or_true, true_or, or_self, and_true, true_and, and_false, false_and, nj_eqf, nj_ltt, nj_ltf, nj_let, nj_lef, nj_cl, nt_lef, ng_ltt, ng_let, ng_gtf, ng_gef, a1, x_ref1, x_ref2, x_ref3, x_ref4, x_ref5, x_ref6, x_ref7, e_X11_refuseLower]
      · have b1 := (m_ror m hs).1 z
        rw [e_X12_sky]
        simp (disch := omega) only [tz_lit, nj_m1, nj_m2, nj_m3, nj_m4, nj_m5, nj_m6, nj_m7, ↓reduceIte, tz_bI_some, tz_bV_some, tz_bL_some, cj10, cj01, cjm0, eq_self, not_true_eq_false, not_false_eq_true, or_false, false_or, or_true, true_or, or_self, and_true, true_and, and_false, false_and, nj_eqf, nj_ltt, nj_ltf, nj_let, nj_lef, nj_cl, nt_lef, ng_ltt, ng_let, ng_gtf, ng_gef, b1, m_no1, m_no2, m_no3, m_no4, m_no5, m_no6, m_no7, e_X12_no10]
    · have a1 := a0.2.1 h (by omega) z
      refine out_ref (v := tz_j 4294967294) 2 (by omega) c ww ?_ (fun A D m => ?_)
      · rw [e_X11_sky]
        simp (disch := omega) only [tz_lit, nj_m1, nj_m2, nj_m3, nj_m4, nj_m5, nj_m6, nj_m7, ↓reduceIte, tz_bI_some, tz_bV_some, tz_bL_some, cj10, cj01, cjm0, eq_self, not_true_eq_false, not_false_eq_true, or_false, false_or, or_true, true_or, or_self, and_true, true_and, and_false, false_and, nj_eqf, nj_ltt, nj_ltf, nj_let, nj_lef, nj_cl, nt_lef, ng_ltt, ng_let, ng_gtf, ng_gef, a1, x_ref1, x_ref2, x_ref3, x_ref4, x_ref5, x_ref6, x_ref7, e_X11_refuseLower]
      · have b1 := (m_ror m hs).2.1 h (by omega) z
        rw [e_X12_sky]
        simp (disch := omega) only [tz_lit, nj_m1, nj_m2, nj_m3, nj_m4, nj_m5, nj_m6, nj_m7, ↓reduceIte, tz_bI_some, tz_bV_some, tz_bL_some, cj10, cj01, cjm0, eq_self, not_true_eq_false, not_false_eq_true, or_false, false_or, or_true, true_or, or_self, and_true, true_and, and_false, false_and, nj_eqf, nj_ltt, nj_ltf, nj_let, nj_lef, nj_cl, nt_lef, ng_ltt, ng_let, ng_gtf, ng_gef, b1, m_no1, m_no2, m_no3, m_no4, m_no5, m_no6, m_no7, e_X12_no10]
    · have a1 := a0.2.2 t ht z
      -- the class, up to the first item
      obtain ⟨A1, f1, k123, g1, _⟩ := x_cpn3 (s := s) (len := l) (f := fun j => Int64.toInt32 (V s j)) hs hl l 0 A (by omega) (fun j hj => by rw [q2 j (by omega)])
      have f1' : f_X8_copyNumbers_s123 (tz_j s) (tz_j l) A = some (none, A1) := by
        rw [e_X8_copyNumbers_s123]
        exact f1
      have q1' : tz_g A1 20 s = tz_j l := (g1.2.2.1 20 s (by omega)).trans q1
      have gA : tz_fx ry_p A1 (tz_s (tz_s (tz_s A1 122 4 (tz_j l)) 122 5 (tz_j 0)) 122 0 (tz_j 4294967295)) := fx_s (fx_s (fx_s fx_rfl (Or.inl rfl)) (Or.inl rfl)) (Or.inl rfl)
      have rA : rx 30 99 S (tz_s (tz_s (tz_s A1 122 4 (tz_j l)) 122 5 (tz_j 0)) 122 0 (tz_j 4294967295)) := rx_mv c.1 (fun k i h1 h2 => (gA.2.2.1 k i (by unfold ry_p; omega)).trans (g1.2.2.1 k i (by omega))) ((gA.2.2.2 30 7 (fun y => by have := y.1; unfold ry_p at this; omega)).trans (g1.2.2.2 30 7 (fun y => by have := y.1; omega))) (Or.inl ww.2.1.2)
      obtain ⟨A2, f2, r2, g2⟩ := x_bec2 h124 h30 (by omega) W ww.2.1 rA
      have f2' : f_X7_open (tz_j l) 30 A1 = some (none, A2) := by
        rw [e_X7_open _ _ h30]
        simp only [tz_lit, nj_m1, nj_m2, nj_m3, nj_m4, nj_m5, nj_m6, nj_m7, ↓reduceIte, tz_bI_some, tz_bV_some, tz_bL_some, cj10, cj01, cjm0, eq_self, not_true_eq_false, not_false_eq_true, or_false, false_or, or_true, true_or, or_self, and_true, true_and, and_false, false_and, f2]
      have b2 : ∀ k i, k = 122 ∨ k = 123 → tz_g A2 k i = tz_g (tz_s (tz_s (tz_s A1 122 4 (tz_j l)) 122 5 (tz_j 0)) 122 0 (tz_j 4294967295)) k i := fun k i h => g2.2.2.1 k i (by unfold bc_p; omega)
      have X0 : XRd (fun j => Int64.toInt32 (V s j)) l 0 S A2 := ⟨r2, by rw [b2 _ _ (by omega), tz_gs1], by rw [b2 _ _ (by omega), tz_gsi (by omega), tz_gsi (by omega), tz_gs1], by rw [b2 _ _ (by omega), tz_gsi (by omega), tz_gs1], fun j hj => by
        rw [b2 _ _ (by omega), tz_gsk (by omega), tz_gsk (by omega), tz_gsk (by omega)]
        exact k123 j (Nat.zero_le _) hj⟩
      have fA2 : tz_fx sk_p A A2 := fx_tr (fx_mo g1 (fun k i h => by unfold sk_p; omega)) (fx_tr (sk_ry gA) (fx_mo g2 (fun k i h => by unfold bc_p at h; unfold sk_p; omega)))
      -- the model, up to the first item
      have mod : ∀ A D, MX D S K U V A → ∃ B0 B1, f_X12_noRow (tz_j s) A = some (some (.int (tz_j 0)), A) ∧ f_X12_keep_s180 A = some (none, B0) ∧ B1 = tz_s (tz_s B0 157 39 (tz_j s)) 157 40 (tz_j 0) ∧ MRd D (fun j => Int64.toInt32 (V s j)) l s 0 S B1 ∧ (∀ q i j, kp_r q i j → tz_g B1 180 j = tz_g A q i) ∧ tz_fr sq_p A B1 ∧ tz_g B1 157 34 = tz_g A 157 34 := by
        intro A D m
        obtain ⟨B0, k0, kk, ka, kb, kc⟩ := m_keep_180 A
        have f0 : tz_fr sq_p A B0 := ⟨ka, kb, fun k i h => kc k i (fun q => h (Or.inr (Or.inr (Or.inl q.1))))⟩
        refine ⟨B0, _, (m_ror m hs).2.2 t ht z, k0, rfl, ⟨rm_A m.1 (fun k i h => by rw [tz_gS, if_neg (by omega), tz_gS, if_neg (by omega), kc k i (by omega)]), ?_, tz_gs1, ?_, fun j hj => ?_⟩, fun q i j h => ?_, fr_s (fr_s f0 (by unfold sq_p; omega)) (by unfold sq_p; omega), ?_⟩
        · rw [tz_gsi (by omega), tz_gs1]
        · rw [tz_gsk (by omega), tz_gsk (by omega), kc _ _ (by omega)]
          exact ((m.2.2.1.1 s hs).2.1).trans hl1
        · have e : tz_gl (tz_s (tz_s B0 157 39 (tz_j s)) 157 40 (tz_j 0)) 160 (160 * s + j) = tz_gl A 160 (160 * s + j) := by
            show B0.2.2.1 _ _ = A.2.2.1 _ _
            rw [kb]
          rw [e, (m.2.2.1.1 s hs).2.2 j (by omega)]
        · rw [tz_gsk (by omega), tz_gsk (by omega)]
          exact kk q i j h
        · rw [tz_gsi (by omega), tz_gsi (by omega)]
          exact kc _ _ (by omega)
      have em : ∀ A B0, f_X12_noRow (tz_j s) A = some (some (.int (tz_j 0)), A) → f_X12_keep_s180 A = some (none, B0) → f_X12_sky (tz_j s) A = q_X12_sky_39 (tz_j s) (tz_j 0) (tz_j 1) (tz_s (tz_s B0 157 39 (tz_j s)) 157 40 (tz_j 0)) := by
        intro A B0 h1 h2
        have n0 : (tz_j 0 ≤ tz_j 0) = True := nj_let (Nat.le_refl _) (by omega)
        rw [e_X12_sky]
        simp only [tz_lit, nj_m1, nj_m2, nj_m3, nj_m4, nj_m5, nj_m6, nj_m7, ↓reduceIte, tz_bI_some, tz_bV_some, tz_bL_some, cj10, cj01, cjm0, eq_self, not_true_eq_false, not_false_eq_true, or_false, false_or, or_true, true_or, or_self, and_true, true_and, and_false, false_and, h1, h2, n0]
      have ec : f_X11_sky (tz_j s) A = q_X11_sky_65 (tz_j 0) A2 := by
        rw [e_X11_sky]
        simp only [tz_lit, nj_m1, nj_m2, nj_m3, nj_m4, nj_m5, nj_m6, nj_m7, ↓reduceIte, tz_bI_some, tz_bV_some, tz_bL_some, cj10, cj01, cjm0, eq_self, not_true_eq_false, not_false_eq_true, or_false, false_or, or_true, true_or, or_self, and_true, true_and, and_false, false_and, a1, n3, hcl, q1, f1', q1', f2']
      rcases sk_all (T := fun j => Int64.toInt32 (V s j)) (s := s) hl hs hN l 0 0 0 S (by omega) (by omega) (by omega) (by omega) ww.1 ww.2.1 with ⟨f, hf, ca, ma⟩ | ⟨S', n', H', hst', hh', ca, ma⟩
      · obtain ⟨A3, e3, g3⟩ := ca A2 X0
        have fA3 : tz_fx sk_p A (tz_s A3 17 13 (tz_j f)) := fx_s (fx_tr fA2 (sk_ry g3)) (by unfold sk_p; omega)
        have rS : rx 30 99 S (tz_s A3 17 13 (tz_j f)) := by
          have g4 : tz_fx sk_p A1 (tz_s A3 17 13 (tz_j f)) := fx_s (fx_tr (sk_ry gA) (fx_tr (fx_mo g2 (fun k i h => by unfold bc_p at h; unfold sk_p; omega)) (sk_ry g3))) (by unfold sk_p; omega)
          refine rx_mv c.1 (fun k i h1 h2 => ?_) ?_ (Or.inl ww.2.1.2)
          · rw [tz_gsk (by omega), g3.2.2.1 k i (by unfold ry_p; omega), g2.2.2.1 k i (by unfold bc_p; omega), gA.2.2.1 k i (by unfold ry_p; omega), g1.2.2.1 k i (by omega)]
          · show tz_gr A3 30 7 = _
            rw [g3.2.2.2 30 7 (fun y => by have := y.1; unfold ry_p at this; omega), g2.2.2.2 30 7 (fun y => by have := y.1; unfold bc_p at this; omega), gA.2.2.2 30 7 (fun y => by have := y.1; unfold ry_p at this; omega), g1.2.2.2 30 7 (fun y => by have := y.1; omega)]
        have cN := CX_new c ww.2.2.2.1 rS fA3
        rw [show tz_g (tz_s A3 17 13 (tz_j f)) 17 13 = tz_j f from tz_gs1] at cN
        have cR := CX_ref (r := 6) (by omega) cN
        refine ⟨tz_j 4294967290, S, K, ur (tz_u U 3 0 (tz_j f)) 6, V, ⟨_, ?_, cR, cf_tr (cf_fx fA3 (fun k i h => by unfold sk_p at h; omega)) (cf_s (by omega))⟩, ⟨(WX_mo (M := N + 2000) ww (by omega)).1, ww.2.1, (WX_mo (M := N + 2000) ww (by omega)).2.2.1, ww.2.2.2.1, wu_mv ww.2.2.2.2 (Nat.le_refl _) (fun k i h1 h2 h3 => by
          show tz_u (tz_u U 3 0 (tz_j f)) 2 6 _ k i = _
          rw [tz_uk h1, tz_ua, if_neg (by omega)])⟩, fun A D m => ?_⟩
        · rw [ec, e3]
          simp only [tz_lit, nj_m1, nj_m2, nj_m3, nj_m4, nj_m5, nj_m6, nj_m7, ↓reduceIte, tz_bI_some, tz_bV_some, tz_bL_some, cj10, cj01, cjm0, eq_self, not_true_eq_false, not_false_eq_true, or_false, false_or, or_true, true_or, or_self, and_true, true_and, and_false, false_and, x_ref6]
        · obtain ⟨B0, B1, h1, h2, h3, mr, kk, f0, e34⟩ := mod A D m
          subst h3
          obtain ⟨B2, e4, q36, g4⟩ := ma D _ mr
          obtain ⟨C, eC, ck, ca', cb, cc⟩ := m_again_180 (tz_s B2 157 26 (tz_j f))
          have g4' : tz_fr sq_p A (tz_s B2 157 26 (tz_j f)) := fr_s (fr_tr f0 (fr_mo g4 (fun k i h => by unfold ty_p mo_p at h; unfold sq_p mo_p; omega))) (by unfold sq_p; omega)
          have fC : tz_fr sq_p A C := fr_tr g4' ⟨ca', cb, fun k i h => cc k i (fun q => h (by
            have := kp_mt q
            unfold kp_d at q
            unfold sq_p mo_p
            omega))⟩
          have g180 : ∀ j, tz_g (tz_s B2 157 26 (tz_j f)) 180 j = tz_g (tz_s (tz_s B0 157 39 (tz_j s)) 157 40 (tz_j 0)) 180 j := fun j => by
            rw [tz_gsk (by omega)]
            exact g4.2.2 180 j (by unfold ty_p mo_p; omega)
          have gkd : ∀ k i, kp_d k i → tz_g C k i = tz_g A k i := fun k i h => by
            obtain ⟨j, hj⟩ := kp_of h
            rw [ck k i j hj, g180, kk k i j hj]
          have c34 : tz_g C 157 34 = tz_g A 157 34 := by
            rw [cc 157 34 kd_34, tz_gsi (by omega), g4.2.2 157 34 (by unfold ty_p mo_p; omega), e34]
          have c36 : tz_g C 157 36 = tz_g A 157 36 := by
            rw [cc 157 36 kd_36, tz_gsi (by omega), q36]
            exact (m.1.2.2.2.2.2 (by rw [ww.2.1.2]; omega)).symm
          obtain ⟨D', r'⟩ := rm_kp W m.1 gkd c34 c36 (Or.inl (by rw [ww.2.1.2]; omega))
          have mN := MX_new m r' fC
          have c26 : tz_g C 157 26 = tz_j f := by
            rw [cc 157 26 (fun q => by unfold kp_d at q; omega), tz_gs1]
          rw [c26] at mN
          have mR := MX_ref (r := 6) (by omega) mN
          refine ⟨_, D', ?_, mR, mf_mg (mg_tr (mg_fr fC (fun k i h => by unfold sq_p mo_p at h; omega)) (mg_s (by omega)))⟩
          rw [em A B0 h1 h2, e4]
          simp only [tz_lit, nj_m1, nj_m2, nj_m3, nj_m4, nj_m5, nj_m6, nj_m7, ↓reduceIte, tz_bI_some, tz_bV_some, tz_bL_some, cj10, cj01, cjm0, eq_self, not_true_eq_false, not_false_eq_true, or_false, false_or, or_true, true_or, or_self, and_true, true_and, and_false, false_and, eC, m_no6]
      · obtain ⟨A3, e3, x3, g3⟩ := ca A2 X0
        have x3' : rx 124 99 S' (tz_s A3 17 13 (tz_j 4294967295)) := rx_mv x3 (fun k i h1 h2 => tz_gsk (by omega)) rfl (Or.inr (fun k i h1 h2 => tz_gsk (by omega)))
        obtain ⟨A4, f4, r4, g4⟩ := x_bec2 h30 h124 (by omega) H'.1 hst' x3'
        have fA4 : tz_fx sk_p A A4 := fx_tr (fx_s (fx_tr fA2 (sk_ry g3)) (by unfold sk_p; omega)) (fx_mo g4 (fun k i h => by unfold bc_p at h; unfold sk_p; omega))
        have cN := CX_new c ww.2.2.2.1 r4 fA4
        have c13 : tz_g A4 17 13 = tz_j 4294967295 := (g4.2.2.1 17 13 (by unfold bc_p; omega)).trans tz_gs1
        rw [c13] at cN
        refine ⟨tz_j n', S', K, tz_u U 3 0 (tz_j 4294967295), V, ⟨A4, ?_, cN, cf_fx fA4 (fun k i h => by unfold sk_p at h; omega)⟩, ⟨H', hst', (WX_mo (M := N + 2000) ww (by omega)).2.2.1, ww.2.2.2.1, wu_mv ww.2.2.2.2 hh' (fun k i h1 h2 h3 => by rw [tz_ua, if_neg (by omega)])⟩, fun A D m => ?_⟩
        · rw [ec, e3]
          simp only [tz_lit, nj_m1, nj_m2, nj_m3, nj_m4, nj_m5, nj_m6, nj_m7, ↓reduceIte, tz_bI_some, tz_bV_some, tz_bL_some, cj10, cj01, cjm0, eq_self, not_true_eq_false, not_false_eq_true, or_false, false_or, or_true, true_or, or_self, and_true, true_and, and_false, false_and, f4]
        · obtain ⟨B0, B1, h1, h2, h3, mr, kk, f0, e34⟩ := mod A D m
          subst h3
          obtain ⟨D', B2, e4, x4, g4⟩ := ma D _ mr
          have fC : tz_fr sq_p A (tz_s B2 157 26 (tz_j 4294967295)) := fr_s (fr_tr f0 (fr_mo g4 (fun k i h => by unfold ty_p mo_p at h; unfold sq_p mo_p; omega))) (by unfold sq_p; omega)
          have mN := MX_new m (rm_A x4 (fun k i h => by rw [tz_gS, if_neg (by omega)])) fC
          rw [show tz_g (tz_s B2 157 26 (tz_j 4294967295)) 157 26 = tz_j 4294967295 from tz_gs1] at mN
          refine ⟨_, D', ?_, mN, mf_mg (mg_fr fC (fun k i h => by unfold sq_p mo_p at h; omega))⟩
          rw [em A B0 h1 h2, e4]
  · refine out_ref (v := tz_j 4294967295) 1 (by omega) c ww ?_ (fun A D m => ?_)
    · have a1 := x_roro (A := A) h
      rw [e_X11_sky]
      simp (disch := omega) only [tz_lit, nj_m1, nj_m2, nj_m3, nj_m4, nj_m5, nj_m6, nj_m7, ↓reduceIte, tz_bI_some, tz_bV_some, tz_bL_some, cj10, cj01, cjm0, eq_self, not_true_eq_false, not_false_eq_true, or_false, false_or, or_true, true_or, or_self, and_true, true_and, and_false, false_and, nj_eqf, nj_ltt, nj_ltf, nj_let, nj_lef, nj_cl, nt_lef, ng_ltt, ng_let, ng_gtf, ng_gef, a1, x_ref1, x_ref2, x_ref3, x_ref4, x_ref5, x_ref6, x_ref7, e_X11_refuseLower]
    · have b1 := m_roro (A := A) h
      rw [e_X12_sky]
      simp (disch := omega) only [tz_lit, nj_m1, nj_m2, nj_m3, nj_m4, nj_m5, nj_m6, nj_m7, ↓reduceIte, tz_bI_some, tz_bV_some, tz_bL_some, cj10, cj01, cjm0, eq_self, not_true_eq_false, not_false_eq_true, or_false, false_or, or_true, true_or, or_self, and_true, true_and, and_false, false_and, nj_eqf, nj_ltt, nj_ltf, nj_let, nj_lef, nj_cl, nt_lef, ng_ltt, ng_let, ng_gtf, ng_gef, b1, m_no1, m_no2, m_no3, m_no4, m_no5, m_no6, m_no7, e_X12_no10]
