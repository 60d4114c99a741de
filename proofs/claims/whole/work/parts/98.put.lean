/-! items: hill, burn, hour, letter -/
theorem r_rm {T : Nat → Int32} {L p : Nat} {S : tz_S} {A : tz_Mem} (r : XRd T L p S A) (W : sp_W1 S) : f_X7_hasRoomFor (tz_j 0) A = some (some (.int (if S 1 0 < 8 then tz_j 1 else tz_j 0)), A) ∧ f_X7_hasRoomFor (tz_j 1) A = some (some (.int (if S 7 0 < 4 then tz_j 1 else tz_j 0)), A) ∧ f_X7_hasRoomFor (tz_j 2) A = some (some (.int (if S 15 0 < 12 then tz_j 1 else tz_j 0)), A) ∧ f_X7_hasRoomFor (tz_j 3) A = some (some (.int (tz_j 1)), A) ∧ f_X7_hasRoomFor (tz_j 4) A = some (some (.int (tz_j 1)), A) := by
  have w1 := W.1
  have w4 := W.2.1
  have w12 := W.2.2.1
  have c := r.1.1
  have k1 : tz_g A (124 + 1) 0 = tz_j (S 1 0) := cx_1 c
  have k7 : tz_g A (124 + 7) 0 = tz_j (S 7 0) := cx_7 c
  have k15 : tz_g A (124 + 15) 0 = tz_j (S 15 0) := cx_15 c
  have m1 : f_X3_isFull 124 A = some (some (.int (if S 1 0 < 8 then tz_j 0 else tz_j 1)), A) := by
    rw [e_X3_isFull _ h124, k1]
    by_cases z : S 1 0 < 8
    · rw [if_pos z, if_pos (by show tz_j _ < tz_j 8; rw [nj_lt (by omega) (by omega)]; exact z)]
      rfl
    · rw [if_neg z, if_neg (by show ¬ tz_j _ < tz_j 8; rw [nj_lt (by omega) (by omega)]; exact z)]
      rfl
  have m7 : f_X10_isFull 124 A = some (some (.int (if S 7 0 < 4 then tz_j 0 else tz_j 1)), A) := by
    rw [e_X10_isFull _ h124, k7]
    by_cases z : S 7 0 < 4
    · rw [if_pos z, if_pos (by show tz_j _ < tz_j 4; rw [nj_lt (by omega) (by omega)]; exact z)]
      rfl
    · rw [if_neg z, if_neg (by show ¬ tz_j _ < tz_j 4; rw [nj_lt (by omega) (by omega)]; exact z)]
      rfl
  have m15 : f_X4_isFull 124 A = some (some (.int (if S 15 0 < 12 then tz_j 0 else tz_j 1)), A) := by
    rw [e_X4_isFull _ h124, k15]
    by_cases z : S 15 0 < 12
    · rw [if_pos z, if_pos (by show tz_j _ < tz_j 12; rw [nj_lt (by omega) (by omega)]; exact z)]
      rfl
    · rw [if_neg z, if_neg (by show ¬ tz_j _ < tz_j 12; rw [nj_lt (by omega) (by omega)]; exact z)]
      rfl
  refine ⟨?_, ?_, ?_, ?_, ?_⟩
  · rw [e_X7_hasRoomFor]
    by_cases z : S 1 0 < 8
    · rw [if_pos z] at m1 ⊢
      simp (disch := omega) only [tz_lit, nj_m1, nj_m2, nj_m3, nj_m4, nj_m5, nj_m6, nj_m7, ↓reduceIte, tz_bI_some, tz_bV_some, tz_bL_some, cj10, cj01, cjm0, eq_self, not_true_eq_false, not_false_eq_true, or_false, false_or, or_true, true_or, or_self, and_true, true_and, and_false, false_and, nj_eqf, nj_ltt, nj_ltf, nj_let, nj_lef, nj_cl, nt_lef, ng_ltt, ng_let, ng_gtf, ng_gef, m1]
    · rw [if_neg z] at m1 ⊢
      simp (disch := omega) only [tz_lit, nj_m1, nj_m2, nj_m3, nj_m4, nj_m5, nj_m6, nj_m7, ↓reduceIte, tz_bI_some, tz_bV_some, tz_bL_some, cj10, cj01, cjm0, eq_self, not_true_eq_false, not_false_eq_true, or_false, false_or, or_true, true_or, or_self, and_true, true_and, and_false, false_and, nj_eqf, nj_ltt, nj_ltf, nj_let, nj_lef, nj_cl, nt_lef, ng_ltt, ng_let, ng_gtf, ng_gef, m1]
  · rw [e_X7_hasRoomFor]
    by_cases z : S 7 0 < 4
    · rw [if_pos z] at m7 ⊢
      simp (disch := omega) only [tz_lit, nj_m1, nj_m2, nj_m3, nj_m4, nj_m5, nj_m6, nj_m7, ↓reduceIte, tz_bI_some, tz_bV_some, tz_bL_some, cj10, cj01, cjm0, eq_self, not_true_eq_false, not_false_eq_true, or_false, false_or, or_true, true_or, or_self, and_true, true_and, and_false, false_and, nj_eqf, nj_ltt, nj_ltf, nj_let, nj_lef, nj_cl, nt_lef, ng_ltt, ng_let, ng_gtf, ng_gef, m7]
    · rw [if_neg z] at m7 ⊢
      simp (disch := omega) only [tz_lit, nj_m1, nj_m2, nj_m3, nj_m4, nj_m5, nj_m6, nj_m7, ↓reduceIte, tz_bI_some, tz_bV_some, tz_bL_some, cj10, cj01, cjm0, eq_self, not_true_eq_false, not_false_eq_true, or_false, false_or, or_true, true_or, or_self, and_true, true_and, and_false, false_and, nj_eqf, nj_ltt, nj_ltf, nj_let, nj_lef, nj_cl, nt_lef, ng_ltt, ng_let, ng_gtf, ng_gef, m7]
  · rw [e_X7_hasRoomFor]
    by_cases z : S 15 0 < 12
    · rw [if_pos z] at m15 ⊢
      simp (disch := omega) only [tz_lit, nj_m1, nj_m2, nj_m3, nj_m4, nj_m5, nj_m6, nj_m7, ↓reduceIte, tz_bI_some, tz_bV_some, tz_bL_some, cj10, cj01, cjm0, eq_self, not_true_eq_false, not_false_eq_true, or_false, false_or, or_true, true_or, or_self, and_true, true_and, and_false, false_and, nj_eqf, nj_ltt, nj_ltf, nj_let, nj_lef, nj_cl, nt_lef, ng_ltt, ng_let, ng_gtf, ng_gef, m15]
    · rw [if_neg z] at m15 ⊢
      simp (disch := omega) only [tz_lit, nj_m1, nj_m2, nj_m3, nj_m4, nj_m5, nj_m6, nj_m7, ↓reduceIte, tz_bI_some, tz_bV_some, tz_bL_some, cj10, cj01, cjm0, eq_self, not_true_eq_false, not_false_eq_true, or_false, false_or, or_true, true_or, or_self, and_true, true_and, and_false, false_and, nj_eqf, nj_ltt, nj_ltf, nj_let, nj_lef, nj_cl, nt_lef, ng_ltt, ng_let, ng_gtf, ng_gef, m15]
  · rw [e_X7_hasRoomFor]
    simp (disch := omega) only [tz_lit, nj_m1, nj_m2, nj_m3, nj_m4, nj_m5, nj_m6, nj_m7, ↓reduceIte, tz_bI_some, tz_bV_some, tz_bL_some, cj10, cj01, cjm0, eq_self, not_true_eq_false, not_false_eq_true, or_false, false_or, or_true, true_or, or_self, and_true, true_and, and_false, false_and, nj_eqf, nj_ltt, nj_ltf, nj_let, nj_lef, nj_cl, nt_lef, ng_ltt, ng_let, ng_gtf, ng_gef]
  · rw [e_X7_hasRoomFor]
    simp (disch := omega) only [tz_lit, nj_m1, nj_m2, nj_m3, nj_m4, nj_m5, nj_m6, nj_m7, ↓reduceIte, tz_bI_some, tz_bV_some, tz_bL_some, cj10, cj01, cjm0, eq_self, not_true_eq_false, not_false_eq_true, or_false, false_or, or_true, true_or, or_self, and_true, true_and, and_false, false_and, nj_eqf, nj_ltt, nj_ltf, nj_let, nj_lef, nj_cl, nt_lef, ng_ltt, ng_let, ng_gtf, ng_gef]
/-- the word read and no room for it -/
theorem r_full {T : Nat → Int32} {L p q i : Nat} {S : tz_S} {A A1 : tz_Mem} (hL : L ≤ 160) (hp : p ≤ L) (r : XRd T L p S A) (e : f_X7_readWord A = some (some (.int (tz_j i)), A1)) (r1 : XRd T L q S A1) (f : tz_fr r2_p A A1) (hr : f_X7_hasRoomFor (tz_j i) A1 = some (some (.int (tz_j 0)), A1)) : ∃ A', f_X7_readItem A = some (none, A') ∧ tz_g A' 122 0 = tz_j p ∧ tz_fx ry_p A A' := by
  have q0 := r1.2.1
  have q5 := r.2.2.2.1
  refine ⟨tz_s A1 122 0 (tz_j p), ?_, tz_gs1, sk_2 (fr_s f ⟨rfl, Or.inl rfl⟩)⟩
  rw [e_X7_readItem]
  simp only [tz_lit, nj_m1, nj_m2, nj_m3, nj_m4, nj_m5, nj_m6, nj_m7, ↓reduceIte, tz_bI_some, tz_bV_some, tz_bL_some, cj10, cj01, cjm0, eq_self, not_true_eq_false, not_false_eq_true, or_false, false_or, or_true, true_or, or_self, and_true, true_and, and_false, false_and, e, q0, hr, q5]
/-- the word read, room for it: what stands behind it -/
theorem r_go {T : Nat → Int32} {L q i : Nat} {S : tz_S} {A A1 : tz_Mem} {A' : tz_Mem} (e : f_X7_readWord A = some (some (.int (tz_j i)), A1)) (r1 : XRd T L q S A1) (hr : f_X7_hasRoomFor (tz_j i) A1 = some (some (.int (tz_j 1)), A1)) (hi : i < 5) (h0 : i = 0 → f_X7_readHill A1 = some (none, A')) (h1 : i = 1 → f_X7_readStorm A1 = some (none, A')) (h2 : i = 2 → f_X7_readLetter A1 = some (none, A')) (h3 : i = 3 → f_X7_readHour A1 = some (none, A')) (h4 : i = 4 → f_X7_readBurn A1 = some (none, A')) : f_X7_readItem A = some (none, A') := by
  have q0 := r1.2.1
  rw [e_X7_readItem]
  rcases (show i = 0 ∨ i = 1 ∨ i = 2 ∨ i = 3 ∨ i = 4 by omega) with rfl | rfl | rfl | rfl | rfl
  · have e2 := h0 rfl
    simp (disch := omega) only [tz_lit, nj_m1, nj_m2, nj_m3, nj_m4, nj_m5, nj_m6, nj_m7, ↓reduceIte, tz_bI_some, tz_bV_some, tz_bL_some, cj10, cj01, cjm0, eq_self, not_true_eq_false, not_false_eq_true, or_false, false_or, or_true, true_or, or_self, and_true, true_and, and_false, false_and, nj_eqf, nj_ltt, nj_ltf, nj_let, nj_lef, nj_cl, nt_lef, ng_ltt, ng_let, ng_gtf, ng_gef, e, q0, hr, e2]
  · have e2 := h1 rfl
    simp (disch := omega) only [tz_lit, nj_m1, nj_m2, nj_m3, nj_m4, nj_m5, nj_m6, nj_m7, ↓reduceIte, tz_bI_some, tz_bV_some, tz_bL_some, cj10, cj01, cjm0, eq_self, not_true_eq_false, not_false_eq_true, or_false, false_or, or_true, true_or, or_self, and_true, true_and, and_false, false_and, nj_eqf, nj_ltt, nj_ltf, nj_let, nj_lef, nj_cl, nt_lef, ng_ltt, ng_let, ng_gtf, ng_gef, e, q0, hr, e2]
  · have e2 := h2 rfl
    simp (disch := omega) only [tz_lit, nj_m1, nj_m2, nj_m3, nj_m4, nj_m5, nj_m6, nj_m7, ↓reduceIte, tz_bI_some, tz_bV_some, tz_bL_some, cj10, cj01, cjm0, eq_self, not_true_eq_false, not_false_eq_true, or_false, false_or, or_true, true_or, or_self, and_true, true_and, and_false, false_and, nj_eqf, nj_ltt, nj_ltf, nj_let, nj_lef, nj_cl, nt_lef, ng_ltt, ng_let, ng_gtf, ng_gef, e, q0, hr, e2]
  · have e2 := h3 rfl
    simp (disch := omega) only [tz_lit, nj_m1, nj_m2, nj_m3, nj_m4, nj_m5, nj_m6, nj_m7, ↓reduceIte, tz_bI_some, tz_bV_some, tz_bL_some, cj10, cj01, cjm0, eq_self, not_true_eq_false, not_false_eq_true, or_false, false_or, or_true, true_or, or_self, and_true, true_and, and_false, false_and, nj_eqf, nj_ltt, nj_ltf, nj_let, nj_lef, nj_cl, nt_lef, ng_ltt, ng_let, ng_gtf, ng_gef, e, q0, hr, e2]
  · have e2 := h4 rfl
    simp (disch := omega) only [tz_lit, nj_m1, nj_m2, nj_m3, nj_m4, nj_m5, nj_m6, nj_m7, ↓reduceIte, tz_bI_some, tz_bV_some, tz_bL_some, cj10, cj01, cjm0, eq_self, not_true_eq_false, not_false_eq_true, or_false, false_or, or_true, true_or, or_self, and_true, true_and, and_false, false_and, nj_eqf, nj_ltt, nj_ltf, nj_let, nj_lef, nj_cl, nt_lef, ng_ltt, ng_let, ng_gtf, ng_gef, e, q0, hr, e2]
theorem r_hn {T : Nat → Int32} {L p : Nat} {S : tz_S} {A : tz_Mem} (hL : L ≤ 160) (hp : p ≤ L) (W : sp_W1 S) (r : XRd T L p S A) : (nu_ok T L p 0 (S 1 0) → ∃ A', f_X7_readHillNumber A = some (some (.int (tz_j (nu_v T L p))), A') ∧ XRd T L (nu_p T L p) S A' ∧ tz_g A' 122 6 = tz_j (p + 1) ∧ tz_fr r2_p A A') ∧ (¬ nu_ok T L p 0 (S 1 0) → ∃ A', f_X7_readHillNumber A = some (some (.int (tz_j 4294967295)), A') ∧ tz_g A' 122 0 = tz_j (nu_f T L p) ∧ tz_fr r2_p A A') := by
  have w1 := W.1
  have k1 : tz_g A 125 0 = tz_j (S 1 0) := cx_1 r.1.1
  obtain ⟨i1, i2⟩ := r_no (lo := 0) (h1 := S 1 0) (hi := tz_j (S 1 0) - tz_j 1) hL hp (by omega) (hi_c (by omega)) r
  refine ⟨fun h => ?_, fun h => ?_⟩
  · obtain ⟨A', e, r', q, f⟩ := i1 h
    refine ⟨A', ?_, r', q, f⟩
    rw [e_X7_readHillNumber]
    simp only [tz_lit, nj_m1, nj_m2, nj_m3, nj_m4, nj_m5, nj_m6, nj_m7, ↓reduceIte, tz_bI_some, tz_bV_some, tz_bL_some, cj10, cj01, cjm0, eq_self, not_true_eq_false, not_false_eq_true, or_false, false_or, or_true, true_or, or_self, and_true, true_and, and_false, false_and, k1, e]
  · obtain ⟨A', e, q, f⟩ := i2 h
    refine ⟨A', ?_, q, f⟩
    rw [e_X7_readHillNumber]
    simp only [tz_lit, nj_m1, nj_m2, nj_m3, nj_m4, nj_m5, nj_m6, nj_m7, ↓reduceIte, tz_bI_some, tz_bV_some, tz_bL_some, cj10, cj01, cjm0, eq_self, not_true_eq_false, not_false_eq_true, or_false, false_or, or_true, true_or, or_self, and_true, true_and, and_false, false_and, k1, e]
theorem r_hnF {f : Nat} {A : tz_Mem} (hf : f ≤ 200) (h : tz_g A 122 0 = tz_j f) : f_X7_readHillNumber A = some (some (.int (tz_j 4294967295)), A) := by
  rw [e_X7_readHillNumber]
  have e := r_noF (lo := tz_j 0) (hi := tz_g A 125 0 - tz_j 1) hf h
  simp only [tz_lit, nj_m1, nj_m2, nj_m3, nj_m4, nj_m5, nj_m6, nj_m7, ↓reduceIte, tz_bI_some, tz_bV_some, tz_bL_some, cj10, cj01, cjm0, eq_self, not_true_eq_false, not_false_eq_true, or_false, false_or, or_true, true_or, or_self, and_true, true_and, and_false, false_and, e]
theorem it_hill {T : Nat → Int32} {L s N p : Nat} {S : tz_S} (hL : L ≤ 160) (hs : s < 8) (hp : p ≤ L) (H : sp_H N S) (hst : sp_st S) (hw : wd_a T L p 5 = 4) : it_R T L s N p S := by
  have W := H.1
  have W2 := H.2.1
  have w1 := W.1
  have hp4 : p + 4 ≤ L := by
    have := wd_pa (T := T) (L := L) (p := p) (w := 5) hp
    omega
  have s0 : sg T L p = tz_j 104 := wd_af (w := 5) hw 0 (by decide)
  have s1 : sg T L (p + 1) = tz_j 105 := wd_af (w := 5) hw 1 (by decide)
  -- the model, up to the word
  have mw : ∀ D B, MRd D T L s p S B → ∃ B1, (S 1 0 < 8 → f_X12_item B = tz_bI (f_X12_number (tz_j 0) (tz_j 0) (tz_j 6) B1) (fun y4 A4 => if y4 = tz_j 0 then some (some (.int (tz_j 0)), A4) else tz_bI (f_X12_number (tz_j 1) (tz_j 0) (tz_j 9) A4) (fun y5 A5 => if y5 = tz_j 0 then some (some (.int (tz_j 0)), A5) else tz_bI (f_X12_newHill (tz_g A5 183 0) (tz_g A5 183 1) A5) (fun y6 A6 => some (some (.int (tz_j 1)), A6))))) ∧ (¬ S 1 0 < 8 → f_X12_item B = some (some (.int (tz_j 0)), tz_s B1 157 40 (tz_j p))) ∧ MRd D T L s (p + 4) S B1 ∧ tz_fr t2_p B B1 := by
    intro D B r
    have es := t_sg hL hs hp r
    rw [s0] at es
    have q40 := r.2.2.1
    have f1 : tz_fr t2_p B (tz_s B 157 40 (tz_j (p + 1))) := fr_s fr_rfl (Or.inl ⟨rfl, rfl⟩)
    have r1 : MRd D T L s (p + 1) S (tz_s B 157 40 (tz_j (p + 1))) := MRd_mv r f1 tz_gs1
    have es1 := t_sg hL hs (show p + 1 ≤ L by omega) r1
    rw [s1] at es1
    have f2 : tz_fr t2_p B (tz_s (tz_s B 157 40 (tz_j (p + 1))) 157 40 (tz_j p)) := fr_s f1 (Or.inl ⟨rfl, rfl⟩)
    have r2 : MRd D T L s p S (tz_s (tz_s B 157 40 (tz_j (p + 1))) 157 40 (tz_j p)) := MRd_mv r f2 tz_gs1
    obtain ⟨B1, e, e', r', f⟩ := (t_u5 hL hs hp r2).2 hw
    have a4 : tz_j (p + 1) - tz_j 1 = tz_j p := by rw [nj_sub (by omega), Nat.add_sub_cancel]
    have k3' : tz_g (tz_s (tz_s B 157 40 (tz_j (p + 1))) 157 40 (tz_j p)) 157 3 = tz_j (S 1 0) := cm_3 r2.1.1
    refine ⟨B1, fun z => ?_, fun z => ?_, r', fr_tr f2 f⟩
    · have n8 : (tz_j 8 ≤ tz_j (S 1 0)) = False := nj_lef (by omega) (by omega)
      rw [mi_104h es q40 es1 (tz_ne (by omega) (by omega) (by omega))]
      simp (disch := omega) only [tz_lit, nj_m1, nj_m2, nj_m3, nj_m4, nj_m5, nj_m6, nj_m7, ↓reduceIte, tz_bI_some, tz_bV_some, tz_bL_some, cj10, cj01, cjm0, eq_self, not_true_eq_false, not_false_eq_true, or_false, false_or, or_true, true_or, or_self, and_true, true_and, and_false, false_and, nj_eqf, nj_ltt, nj_ltf, nj_let, nj_lef, nj_cl, nt_lef, ng_ltt, ng_let, ng_gtf, ng_gef, tz_gs1, a4, k3', n8, e']
      simp only [ite_not]
    · have n8 : (tz_j 8 ≤ tz_j (S 1 0)) = True := nj_let (by omega) (by omega)
      rw [mi_104h es q40 es1 (tz_ne (by omega) (by omega) (by omega))]
      simp (disch := omega) only [tz_lit, nj_m1, nj_m2, nj_m3, nj_m4, nj_m5, nj_m6, nj_m7, ↓reduceIte, tz_bI_some, tz_bV_some, tz_bL_some, cj10, cj01, cjm0, eq_self, not_true_eq_false, not_false_eq_true, or_false, false_or, or_true, true_or, or_self, and_true, true_and, and_false, false_and, nj_eqf, nj_ltt, nj_ltf, nj_let, nj_lef, nj_cl, nt_lef, ng_ltt, ng_let, ng_gtf, ng_gef, tz_gs1, a4, k3', n8, e]
  by_cases full : S 1 0 < 8
  · by_cases o1 : nu_ok T L (p + 4) 0 7
    · have b1 := nu_b o1
      by_cases o2 : nu_ok T L (nu_p T L (p + 4)) 0 10
      · have b2 := nu_b o2
        refine Or.inr ⟨sp_addH (nu_v T L (p + 4)) (nu_v T L (nu_p T L (p + 4))) S, nu_p T L (nu_p T L (p + 4)), 0, (by omega), b2.2.1, (by omega), addH_H H full (by have := o1.2.2.2; omega) (by have := o2.2.2.2; omega), ⟨(addH_g (by omega)).trans hst.1, (addH_g (by omega)).trans hst.2⟩, by rw [addH_1]; omega, fun A r => ?_, fun D B r => ?_⟩
        · obtain ⟨e0, r0, f0⟩ := r_w5 hL hp r hw
          have er := (r_rm r0 W).1
          rw [if_pos full] at er
          obtain ⟨A1, e1, r1, q1, f1⟩ := (r_no (lo := 0) (h1 := 7) hL hp4 (by omega) (hi_k (n := 6) (by omega)) r0).1 o1
          obtain ⟨A2, e2, r2, q2, f2⟩ := (r_no (lo := 0) (h1 := 10) hL b1.2.1 (by omega) (hi_k (n := 9) (by omega)) r1).1 o2
          obtain ⟨A3, e3, x3, f3⟩ := x_addH (x := nu_v T L (p + 4)) (y := nu_v T L (nu_p T L (p + 4))) h124 r2.1 W W2 full
          have q0 := r2.2.1
          refine ⟨A3, r_go e0 r0 er (by omega) (fun _ => ?_) (fun h => by omega) (fun h => by omega) (fun h => by omega) (fun h => by omega), XRd_sky r2 x3 (sk_x f3), fx_tr (sk_2 f0) (fx_tr (sk_2 f1) (fx_tr (sk_2 f2) (sk_y (sk_x f3))))⟩
          rw [e_X7_readHill]
          simp only [tz_lit, nj_m1, nj_m2, nj_m3, nj_m4, nj_m5, nj_m6, nj_m7, ↓reduceIte, tz_bI_some, tz_bV_some, tz_bL_some, cj10, cj01, cjm0, eq_self, not_true_eq_false, not_false_eq_true, or_false, false_or, or_true, true_or, or_self, and_true, true_and, and_false, false_and, e1, e2, q0, e3]
        · obtain ⟨B1, m1, _, r1, f1⟩ := mw D B r
          obtain ⟨B2, e2, r2, v2, f2⟩ := (t_no (x := 0) (lo := 0) (h1 := 7) hL hs (by omega) hp4 (by omega) (hi_k (n := 6) (by omega)) r1).1 o1
          obtain ⟨B3, e3, r3, v3, f3⟩ := (t_no (x := 1) (lo := 0) (h1 := 10) hL hs (by omega) b1.2.1 (by omega) (hi_k (n := 9) (by omega)) r2).1 o2
          have v2' : tz_g B3 183 0 = tz_j (nu_v T L (p + 4)) := (f3.2.2 183 0 (by omega)).trans v2
          obtain ⟨B4, D', e4, x4, f4⟩ := m_addH (x := nu_v T L (p + 4)) (y := nu_v T L (nu_p T L (p + 4))) r3.1 W full
          refine ⟨D', B4, ?_, MRd_sky r3 x4 f4, fr_tr (fr_mo f1 (fun k i => t2_ty)) (fr_tr (fr_mo f2 (fun k i h => t2_ty (tx_t2 h))) (fr_tr (fr_mo f3 (fun k i h => t2_ty (tx_t2 h))) (fr_mo f4 (fun k i h => Or.inl h))))⟩
          rw [m1 full]
          simp only [tz_lit, nj_m1, nj_m2, nj_m3, nj_m4, nj_m5, nj_m6, nj_m7, ↓reduceIte, tz_bI_some, tz_bV_some, tz_bL_some, cj10, cj01, cjm0, eq_self, not_true_eq_false, not_false_eq_true, or_false, false_or, or_true, true_or, or_self, and_true, true_and, and_false, false_and, e2, e3, v2', v3, e4]
      · refine Or.inl ⟨nu_f T L (nu_p T L (p + 4)), nu_fl b1.2.1, fun A r => ?_, fun D B r => ?_⟩
        · obtain ⟨e0, r0, f0⟩ := r_w5 hL hp r hw
          have er := (r_rm r0 W).1
          rw [if_pos full] at er
          obtain ⟨A1, e1, r1, q1, f1⟩ := (r_no (lo := 0) (h1 := 7) hL hp4 (by omega) (hi_k (n := 6) (by omega)) r0).1 o1
          obtain ⟨A2, e2, q2, f2⟩ := (r_no (lo := 0) (h1 := 10) hL b1.2.1 (by omega) (hi_k (n := 9) (by omega)) r1).2 o2
          have hf := nu_fl (T := T) b1.2.1
          have n1 : (tz_j (nu_f T L (nu_p T L (p + 4))) = tz_j 4294967295) = False := nj_eqf (by omega) (by omega) (by omega)
          refine ⟨A2, r_go e0 r0 er (by omega) (fun _ => ?_) (fun h => by omega) (fun h => by omega) (fun h => by omega) (fun h => by omega), q2, fx_tr (sk_2 f0) (fx_tr (sk_2 f1) (sk_2 f2))⟩
          rw [e_X7_readHill]
          simp only [tz_lit, nj_m1, nj_m2, nj_m3, nj_m4, nj_m5, nj_m6, nj_m7, ↓reduceIte, tz_bI_some, tz_bV_some, tz_bL_some, cj10, cj01, cjm0, eq_self, not_true_eq_false, not_false_eq_true, or_false, false_or, or_true, true_or, or_self, and_true, true_and, and_false, false_and, e1, e2, q2, n1]
        · obtain ⟨B1, m1, _, r1, f1⟩ := mw D B r
          obtain ⟨B2, e2, r2, v2, f2⟩ := (t_no (x := 0) (lo := 0) (h1 := 7) hL hs (by omega) hp4 (by omega) (hi_k (n := 6) (by omega)) r1).1 o1
          obtain ⟨B3, e3, q3, f3⟩ := (t_no (x := 1) (lo := 0) (h1 := 10) hL hs (by omega) b1.2.1 (by omega) (hi_k (n := 9) (by omega)) r2).2 o2
          refine ⟨B3, ?_, q3, fr_tr f1 (fr_tr (fr_mo f2 (fun k i => tx_t2)) f3)⟩
          rw [m1 full]
          simp only [tz_lit, nj_m1, nj_m2, nj_m3, nj_m4, nj_m5, nj_m6, nj_m7, ↓reduceIte, tz_bI_some, tz_bV_some, tz_bL_some, cj10, cj01, cjm0, eq_self, not_true_eq_false, not_false_eq_true, or_false, false_or, or_true, true_or, or_self, and_true, true_and, and_false, false_and, e2, e3]
    · refine Or.inl ⟨nu_f T L (p + 4), nu_fl hp4, fun A r => ?_, fun D B r => ?_⟩
      · obtain ⟨e0, r0, f0⟩ := r_w5 hL hp r hw
        have er := (r_rm r0 W).1
        rw [if_pos full] at er
        obtain ⟨A1, e1, q1, f1⟩ := (r_no (lo := 0) (h1 := 7) hL hp4 (by omega) (hi_k (n := 6) (by omega)) r0).2 o1
        have hf := nu_fl (T := T) hp4
        have e2 := r_noF (lo := tz_j 0) (hi := tz_j 9) (show nu_f T L (p + 4) ≤ 200 by omega) q1
        have n1 : (tz_j (nu_f T L (p + 4)) = tz_j 4294967295) = False := nj_eqf (by omega) (by omega) (by omega)
        refine ⟨A1, r_go e0 r0 er (by omega) (fun _ => ?_) (fun h => by omega) (fun h => by omega) (fun h => by omega) (fun h => by omega), q1, fx_tr (sk_2 f0) (sk_2 f1)⟩
        rw [e_X7_readHill]
        simp only [tz_lit, nj_m1, nj_m2, nj_m3, nj_m4, nj_m5, nj_m6, nj_m7, ↓reduceIte, tz_bI_some, tz_bV_some, tz_bL_some, cj10, cj01, cjm0, eq_self, not_true_eq_false, not_false_eq_true, or_false, false_or, or_true, true_or, or_self, and_true, true_and, and_false, false_and, e1, e2, q1, n1]
      · obtain ⟨B1, m1, _, r1, f1⟩ := mw D B r
        obtain ⟨B2, e2, q2, f2⟩ := (t_no (x := 0) (lo := 0) (h1 := 7) hL hs (by omega) hp4 (by omega) (hi_k (n := 6) (by omega)) r1).2 o1
        refine ⟨B2, ?_, q2, fr_tr f1 f2⟩
        rw [m1 full]
        simp only [tz_lit, nj_m1, nj_m2, nj_m3, nj_m4, nj_m5, nj_m6, nj_m7, ↓reduceIte, tz_bI_some, tz_bV_some, tz_bL_some, cj10, cj01, cjm0, eq_self, not_true_eq_false, not_false_eq_true, or_false, false_or, or_true, true_or, or_self, and_true, true_and, and_false, false_and, e2]
  · refine Or.inl ⟨p, hp, fun A r => ?_, fun D B r => ?_⟩
    · obtain ⟨e0, r0, f0⟩ := r_w5 hL hp r hw
      have er := (r_rm r0 W).1
      rw [if_neg full] at er
      exact r_full hL hp r e0 r0 f0 er
    · obtain ⟨B1, _, m1, r1, f1⟩ := mw D B r
      exact ⟨_, m1 full, tz_gs1, fr_s f1 (Or.inl ⟨rfl, rfl⟩)⟩
theorem it_burn {T : Nat → Int32} {L s N p : Nat} {S : tz_S} (hL : L ≤ 160) (hs : s < 8) (hp : p ≤ L) (H : sp_H N S) (hst : sp_st S) (hw : wd_a T L p 9 = 4) : it_R T L s N p S := by
  have W := H.1
  have W2 := H.2.1
  have w12 := W.2.2.1
  have w1 := W.1
  have w4 := W.2.1
  have hp4 : p + 4 ≤ L := by
    have := wd_pa (T := T) (L := L) (p := p) (w := 9) hp
    omega
  have s0 : sg T L p = tz_j 98 := wd_af (w := 9) hw 0 (by decide)
  have h5 : wd_a T L p 5 ≠ 4 := by rw [wd_a0 (by rw [s0]; exact tz_ne (b := 104) (by omega) (by omega) (by omega))]; omega
  have h6 : wd_a T L p 6 ≠ 5 := by rw [wd_a0 (by rw [s0]; exact tz_ne (b := 115) (by omega) (by omega) (by omega))]; omega
  have h7 : wd_a T L p 7 ≠ 6 := by rw [wd_a0 (by rw [s0]; exact tz_ne (b := 108) (by omega) (by omega) (by omega))]; omega
  have h8 : wd_a T L p 8 ≠ 4 := by rw [wd_a0 (by rw [s0]; exact tz_ne (b := 104) (by omega) (by omega) (by omega))]; omega
  have mw : ∀ D B, MRd D T L s p S B → ∃ B1, f_X12_item B = tz_bI (f_X12_number (tz_j 0) (tz_j 0) (tz_j (S 15 0) - tz_j 1) B1) (fun y3 A3 => if y3 = tz_j 0 then some (some (.int (tz_j 0)), A3) else tz_bI (f_X12_burns (tz_g A3 183 0) A3) (fun y4 A4 => some (some (.int (tz_j 1)), A4))) ∧ MRd D T L s (p + 4) S B1 ∧ tz_fr t2_p B B1 := by
    intro D B r
    have es := t_sg hL hs hp r
    rw [s0] at es
    obtain ⟨B1, e, r', f⟩ := t_w9 hL hs hp r
    rw [if_pos hw] at e
    rw [hw] at r'
    have k15 : tz_g B1 157 15 = tz_j (S 15 0) := cm_15 r'.1.1
    refine ⟨B1, ?_, r', f⟩
    rw [mi_98 es]
    simp (disch := omega) only [tz_lit, nj_m1, nj_m2, nj_m3, nj_m4, nj_m5, nj_m6, nj_m7, ↓reduceIte, tz_bI_some, tz_bV_some, tz_bL_some, cj10, cj01, cjm0, eq_self, not_true_eq_false, not_false_eq_true, or_false, false_or, or_true, true_or, or_self, and_true, true_and, and_false, false_and, nj_eqf, nj_ltt, nj_ltf, nj_let, nj_lef, nj_cl, nt_lef, ng_ltt, ng_let, ng_gtf, ng_gef, e, k15]
    simp only [ite_not]
  have word : ∀ A, XRd T L p S A → f_X7_readWord A = some (some (.int (tz_j 4)), tz_s A 122 5 (tz_j (p + 4))) ∧ XRd T L (p + 4) S (tz_s A 122 5 (tz_j (p + 4))) ∧ tz_fr r2_p A (tz_s A 122 5 (tz_j (p + 4))) := fun A r => r_w9 hL hp r h5 h6 h7 h8 hw
  by_cases o1 : nu_ok T L (p + 4) 0 (S 15 0)
  · have b1 := nu_b o1
    have hv := o1.2.2.2
    have hwh := (W2.2.1 _ hv).2.1
    unfold sp_wh at hwh
    by_cases y : S 20 (nu_v T L (p + 4)) < 200
    · refine Or.inr ⟨tz_t S 20 (nu_v T L (p + 4)) 300, nu_p T L (p + 4), 0, (by omega), b1.2.1, (by omega), H_20 H (by unfold sp_wh; omega) (by omega) (by omega), hst, Nat.le_refl _, fun A r => ?_, fun D B r => ?_⟩
      · obtain ⟨e0, r0, f0⟩ := word A r
        have er := (r_rm r0 W).2.2.2.2
        have k15 : tz_g (tz_s A 122 5 (tz_j (p + 4))) 139 0 = tz_j (S 15 0) := cx_15 r0.1.1
        obtain ⟨A1, e1, r1, q1, f1⟩ := (r_no (lo := 0) (h1 := S 15 0) (hi := tz_j (S 15 0) - tz_j 1) hL hp4 (by omega) (hi_c (by omega)) r0).1 o1
        obtain ⟨A2, e2, x2, f2⟩ := x_burn1 h124 r1.1 W W2 hv y
        have q0 := r1.2.1
        refine ⟨A2, r_go e0 r0 er (by omega) (fun h => by omega) (fun h => by omega) (fun h => by omega) (fun h => by omega) (fun _ => ?_), XRd_sky r1 x2 (sk_x f2), fx_tr (sk_2 f0) (fx_tr (sk_2 f1) (sk_y (sk_x f2)))⟩
        rw [e_X7_readBurn]
        simp only [tz_lit, nj_m1, nj_m2, nj_m3, nj_m4, nj_m5, nj_m6, nj_m7, ↓reduceIte, tz_bI_some, tz_bV_some, tz_bL_some, cj10, cj01, cjm0, eq_self, not_true_eq_false, not_false_eq_true, or_false, false_or, or_true, true_or, or_self, and_true, true_and, and_false, false_and, k15, e1, q0, e2]
      · obtain ⟨B1, m1, r1, f1⟩ := mw D B r
        obtain ⟨B2, e2, r2, v2, f2⟩ := (t_no (x := 0) (lo := 0) (h1 := S 15 0) (hi := tz_j (S 15 0) - tz_j 1) hL hs (by omega) hp4 (by omega) (hi_c (by omega)) r1).1 o1
        have q := cm_175 r2.1.1 hv
        have e3 : f_X12_burns (tz_j (nu_v T L (p + 4))) B2 = some (some (.int (tz_j 1)), tz_s B2 175 (nu_v T L (p + 4)) (tz_j 300)) := by
          rw [e_X12_burns]
          simp (disch := omega) only [tz_lit, nj_m1, ↓reduceIte, nj_cl, nj_ltt, nj_ltf, nj_let, nj_lef, nj_eqf, nj_lt, nj_le, nj_eq, nj_add, nj_mul, nj_modx, nj_and7, nj_div, tz_bI_some, tz_bV_some, or_false, false_or, or_self, and_false, false_and, and_true, true_and, not_true_eq_false, not_false_eq_true, nt_lef, nt_let, nt_ltf, nt_ltt, nt_eqf, nj_m2, nj_m3, nj_m4, nj_m5, nj_m6, nj_m7, tz_bL_some, nj_sub, ng_ltt, ng_let, ng_gtf, ng_gef, q]
        refine ⟨D, tz_s B2 175 (nu_v T L (p + 4)) (tz_j 300), ?_, MRd_sky r2 (rm_st r2.1 (rel_L (k := 20) hv (by omega) (by omega)) (by omega) (by omega)) (fr_s fr_rfl (by unfold mo_p; omega)), fr_s (fr_tr (fr_mo f1 (fun k i => t2_ty)) (fr_mo f2 (fun k i h => t2_ty (tx_t2 h)))) (Or.inl (by unfold mo_p; omega))⟩
        rw [m1]
        simp only [tz_lit, nj_m1, nj_m2, nj_m3, nj_m4, nj_m5, nj_m6, nj_m7, ↓reduceIte, tz_bI_some, tz_bV_some, tz_bL_some, cj10, cj01, cjm0, eq_self, not_true_eq_false, not_false_eq_true, or_false, false_or, or_true, true_or, or_self, and_true, true_and, and_false, false_and, e2, v2, e3]
    · refine Or.inr ⟨S, nu_p T L (p + 4), 0, (by omega), b1.2.1, (by omega), H, hst, Nat.le_refl _, fun A r => ?_, fun D B r => ?_⟩
      · obtain ⟨e0, r0, f0⟩ := word A r
        have er := (r_rm r0 W).2.2.2.2
        have k15 : tz_g (tz_s A 122 5 (tz_j (p + 4))) 139 0 = tz_j (S 15 0) := cx_15 r0.1.1
        obtain ⟨A1, e1, r1, q1, f1⟩ := (r_no (lo := 0) (h1 := S 15 0) (hi := tz_j (S 15 0) - tz_j 1) hL hp4 (by omega) (hi_c (by omega)) r0).1 o1
        have e2 := x_burn0 h124 r1.1 W W2 hv (show 200 ≤ S 20 (nu_v T L (p + 4)) by omega)
        have q0 := r1.2.1
        refine ⟨A1, r_go e0 r0 er (by omega) (fun h => by omega) (fun h => by omega) (fun h => by omega) (fun h => by omega) (fun _ => ?_), r1, fx_tr (sk_2 f0) (sk_2 f1)⟩
        rw [e_X7_readBurn]
        simp only [tz_lit, nj_m1, nj_m2, nj_m3, nj_m4, nj_m5, nj_m6, nj_m7, ↓reduceIte, tz_bI_some, tz_bV_some, tz_bL_some, cj10, cj01, cjm0, eq_self, not_true_eq_false, not_false_eq_true, or_false, false_or, or_true, true_or, or_self, and_true, true_and, and_false, false_and, k15, e1, q0, e2]
      · obtain ⟨B1, m1, r1, f1⟩ := mw D B r
        obtain ⟨B2, e2, r2, v2, f2⟩ := (t_no (x := 0) (lo := 0) (h1 := S 15 0) (hi := tz_j (S 15 0) - tz_j 1) hL hs (by omega) hp4 (by omega) (hi_c (by omega)) r1).1 o1
        have q := cm_175 r2.1.1 hv
        have e3 : f_X12_burns (tz_j (nu_v T L (p + 4))) B2 = some (some (.int (tz_j 0)), B2) := by
          rw [e_X12_burns]
          simp (disch := omega) only [tz_lit, nj_m1, ↓reduceIte, nj_cl, nj_ltt, nj_ltf, nj_let, nj_lef, nj_eqf, nj_lt, nj_le, nj_eq, nj_add, nj_mul, nj_modx, nj_and7, nj_div, tz_bI_some, tz_bV_some, or_false, false_or, or_self, and_false, false_and, and_true, true_and, not_true_eq_false, not_false_eq_true, nt_lef, nt_let, nt_ltf, nt_ltt, nt_eqf, nj_m2, nj_m3, nj_m4, nj_m5, nj_m6, nj_m7, tz_bL_some, nj_sub, ng_ltt, ng_let, ng_gtf, ng_gef, q]
        refine ⟨D, B2, ?_, r2, fr_tr (fr_mo f1 (fun k i => t2_ty)) (fr_mo f2 (fun k i h => t2_ty (tx_t2 h)))⟩
        rw [m1]
        simp only [tz_lit, nj_m1, nj_m2, nj_m3, nj_m4, nj_m5, nj_m6, nj_m7, ↓reduceIte, tz_bI_some, tz_bV_some, tz_bL_some, cj10, cj01, cjm0, eq_self, not_true_eq_false, not_false_eq_true, or_false, false_or, or_true, true_or, or_self, and_true, true_and, and_false, false_and, e2, v2, e3]
  · refine Or.inl ⟨nu_f T L (p + 4), nu_fl hp4, fun A r => ?_, fun D B r => ?_⟩
    · obtain ⟨e0, r0, f0⟩ := word A r
      have er := (r_rm r0 W).2.2.2.2
      have k15 : tz_g (tz_s A 122 5 (tz_j (p + 4))) 139 0 = tz_j (S 15 0) := cx_15 r0.1.1
      obtain ⟨A1, e1, q1, f1⟩ := (r_no (lo := 0) (h1 := S 15 0) (hi := tz_j (S 15 0) - tz_j 1) hL hp4 (by omega) (hi_c (by omega)) r0).2 o1
      have hf := nu_fl (T := T) hp4
      have n1 : (tz_j (nu_f T L (p + 4)) = tz_j 4294967295) = False := nj_eqf (by omega) (by omega) (by omega)
      refine ⟨A1, r_go e0 r0 er (by omega) (fun h => by omega) (fun h => by omega) (fun h => by omega) (fun h => by omega) (fun _ => ?_), q1, fx_tr (sk_2 f0) (sk_2 f1)⟩
      rw [e_X7_readBurn]
      simp only [tz_lit, nj_m1, nj_m2, nj_m3, nj_m4, nj_m5, nj_m6, nj_m7, ↓reduceIte, tz_bI_some, tz_bV_some, tz_bL_some, cj10, cj01, cjm0, eq_self, not_true_eq_false, not_false_eq_true, or_false, false_or, or_true, true_or, or_self, and_true, true_and, and_false, false_and, k15, e1, q1, n1]
    · obtain ⟨B1, m1, r1, f1⟩ := mw D B r
      obtain ⟨B2, e2, q2, f2⟩ := (t_no (x := 0) (lo := 0) (h1 := S 15 0) (hi := tz_j (S 15 0) - tz_j 1) hL hs (by omega) hp4 (by omega) (hi_c (by omega)) r1).2 o1
      refine ⟨B2, ?_, q2, fr_tr f1 f2⟩
      rw [m1]
      simp only [tz_lit, nj_m1, nj_m2, nj_m3, nj_m4, nj_m5, nj_m6, nj_m7, ↓reduceIte, tz_bI_some, tz_bV_some, tz_bL_some, cj10, cj01, cjm0, eq_self, not_true_eq_false, not_false_eq_true, or_false, false_or, or_true, true_or, or_self, and_true, true_and, and_false, false_and, e2]
theorem r_hrL {n : Nat} (hn : n < 2147483648) : ∀ k i N S A, i + k = n → N + k ≤ 2000000 → rx 124 99 S A → sp_H N S → ∃ A', q_X7_readHour_10 (tz_j n) (tz_j i) A = some (none, A') ∧ rx 124 99 (sp_n k S) A' ∧ tz_fr (rx_p 124) A A' := by
  intro k
  induction k with
  | zero =>
    intro i N S A hi hN r H
    have n1 : (tz_j n ≤ tz_j i) = True := nj_let (by omega) (by omega)
    refine ⟨A, ?_, r, fr_rfl⟩
    rw [e_X7_readHour_10]
    simp only [tz_lit, nj_m1, nj_m2, nj_m3, nj_m4, nj_m5, nj_m6, nj_m7, ↓reduceIte, tz_bI_some, tz_bV_some, tz_bL_some, cj10, cj01, cjm0, eq_self, not_true_eq_false, not_false_eq_true, or_false, false_or, or_true, true_or, or_self, and_true, true_and, and_false, false_and, n1]
  | succ k ih =>
    intro i N S A hi hN r H
    have n1 : (tz_j n ≤ tz_j i) = False := nj_lef (by omega) (by omega)
    have a3 : tz_j i + tz_j 1 = tz_j (i + 1) := nj_add
    obtain ⟨A1, e1, r1, f1⟩ := x_tk h124 (by omega) r H
    obtain ⟨g1, g2, g3⟩ := tk_G H
    obtain ⟨A', e, r', f'⟩ := ih (i + 1) (N + 1) _ A1 (by omega) (by omega) r1 g1
    refine ⟨A', ?_, r', fr_tr f1 f'⟩
    rw [e_X7_readHour_10]
    simp only [tz_lit, nj_m1, nj_m2, nj_m3, nj_m4, nj_m5, nj_m6, nj_m7, ↓reduceIte, tz_bI_some, tz_bV_some, tz_bL_some, cj10, cj01, cjm0, eq_self, not_true_eq_false, not_false_eq_true, or_false, false_or, or_true, true_or, or_self, and_true, true_and, and_false, false_and, n1, e1, a3]
    exact e
theorem t_hrL {D : Nat → Int32} {n : Nat} (hn : n < 2147483648) : ∀ k i N S A, i + k = n → N + k ≤ 2000000 → rm D S A → sp_H N S → S 200 0 ≠ 2 → tz_g A 183 0 = tz_j n → ∃ A', q_X12_item_91 (tz_j i) A = some (some (.int (tz_j 1)), A') ∧ rm D (sp_n k S) A' ∧ tz_fr mo_p A A' := by
  intro k
  induction k with
  | zero =>
    intro i N S A hi hN r H h2 q
    have n1 : (tz_j n ≤ tz_j i) = True := nj_let (by omega) (by omega)
    refine ⟨A, ?_, r, fr_rfl⟩
    rw [e_X12_item_91]
    simp (disch := omega) only [tz_lit, nj_m1, nj_m2, nj_m3, nj_m4, nj_m5, nj_m6, nj_m7, ↓reduceIte, tz_bI_some, tz_bV_some, tz_bL_some, cj10, cj01, cjm0, eq_self, not_true_eq_false, not_false_eq_true, or_false, false_or, or_true, true_or, or_self, and_true, true_and, and_false, false_and, nj_eqf, nj_ltt, nj_ltf, nj_let, nj_lef, nj_cl, nt_lef, ng_ltt, ng_let, ng_gtf, ng_gef, q, n1]
  | succ k ih =>
    intro i N S A hi hN r H h2 q
    have n1 : (tz_j n ≤ tz_j i) = False := nj_lef (by omega) (by omega)
    have a3 : tz_j i + tz_j 1 = tz_j (i + 1) := nj_add
    obtain ⟨A1, e1, r1, f1⟩ := m_tk (by omega) r H h2
    obtain ⟨g1, g2, g3⟩ := tk_G H
    obtain ⟨A', e, r', f'⟩ := ih (i + 1) (N + 1) _ A1 (by omega) (by omega) r1 g1 (by rw [g3 200 0 (by unfold sp_kp; omega) (by omega)]; exact h2) ((f1.2.2 183 0 (by unfold mo_p; omega)).trans q)
    refine ⟨A', ?_, r', fr_tr f1 f'⟩
    rw [e_X12_item_91]
    simp (disch := omega) only [tz_lit, nj_m1, nj_m2, nj_m3, nj_m4, nj_m5, nj_m6, nj_m7, ↓reduceIte, tz_bI_some, tz_bV_some, tz_bL_some, cj10, cj01, cjm0, eq_self, not_true_eq_false, not_false_eq_true, or_false, false_or, or_true, true_or, or_self, and_true, true_and, and_false, false_and, nj_eqf, nj_ltt, nj_ltf, nj_let, nj_lef, nj_cl, nt_lef, ng_ltt, ng_let, ng_gtf, ng_gef, q, n1, e1, a3]
    exact e
theorem it_hour {T : Nat → Int32} {L s N p : Nat} {S : tz_S} (hL : L ≤ 160) (hs : s < 8) (hp : p ≤ L) (hN : N ≤ 1200000) (H : sp_H N S) (hst : sp_st S) (hw : wd_a T L p 8 = 4) : it_R T L s N p S := by
  have W := H.1
  have w1 := W.1
  have hp4 : p + 4 ≤ L := by
    have := wd_pa (T := T) (L := L) (p := p) (w := 8) hp
    omega
  have s0 : sg T L p = tz_j 104 := wd_af (w := 8) hw 0 (by decide)
  have s1 : sg T L (p + 1) = tz_j 111 := wd_af (w := 8) hw 1 (by decide)
  have h5 : wd_a T L p 5 ≠ 4 := fun q => by
    have := wd_af (w := 5) q 1 (by decide)
    rw [s1] at this
    exact absurd this (tz_ne (a := 111) (b := 105) (by omega) (by omega) (by omega))
  have h6 : wd_a T L p 6 ≠ 5 := by rw [wd_a0 (by rw [s0]; exact tz_ne (b := 115) (by omega) (by omega) (by omega))]; omega
  have h7 : wd_a T L p 7 ≠ 6 := by rw [wd_a0 (by rw [s0]; exact tz_ne (b := 108) (by omega) (by omega) (by omega))]; omega
  have h10 : wd_a T L (p + 1) 10 = 3 := by
    have e : wd_a T L p 8 = 1 + wd_a T L (p + 1) 10 := by
      show (if sg T L (p + 0) = tz_j (wd_c 8 0) then wd_s T L 8 p 3 1 else 0) = _
      rw [if_pos (show sg T L (p + 0) = tz_j (wd_c 8 0) from s0), wd_our]
      rfl
    omega
  have mw : ∀ D B, MRd D T L s p S B → ∃ B1, f_X12_item B = tz_bI (f_X12_number (tz_j 0) (tz_j 1) (tz_j 99) B1) (fun y4 A4 => if ¬ y4 = tz_j 0 then q_X12_item_91 (tz_j 0) A4 else some (some (.int (tz_j 0)), A4)) ∧ MRd D T L s (p + 4) S B1 ∧ tz_fr t2_p B B1 := by
    intro D B r
    have es := t_sg hL hs hp r
    rw [s0] at es
    have q40 := r.2.2.1
    have f1 : tz_fr t2_p B (tz_s B 157 40 (tz_j (p + 1))) := fr_s fr_rfl (Or.inl ⟨rfl, rfl⟩)
    have r1 : MRd D T L s (p + 1) S (tz_s B 157 40 (tz_j (p + 1))) := MRd_mv r f1 tz_gs1
    have es1 := t_sg hL hs (show p + 1 ≤ L by omega) r1
    rw [s1] at es1
    obtain ⟨B1, e, r', f⟩ := t_w10 hL hs (show p + 1 ≤ L by omega) r1
    rw [if_pos h10] at e
    rw [h10] at r'
    refine ⟨B1, ?_, r', fr_tr f1 f⟩
    rw [mi_104o es q40 es1]
    simp (disch := omega) only [tz_lit, nj_m1, nj_m2, nj_m3, nj_m4, nj_m5, nj_m6, nj_m7, ↓reduceIte, tz_bI_some, tz_bV_some, tz_bL_some, cj10, cj01, cjm0, eq_self, not_true_eq_false, not_false_eq_true, or_false, false_or, or_true, true_or, or_self, and_true, true_and, and_false, false_and, nj_eqf, nj_ltt, nj_ltf, nj_let, nj_lef, nj_cl, nt_lef, ng_ltt, ng_let, ng_gtf, ng_gef, e]
    try rfl
  have word : ∀ A, XRd T L p S A → f_X7_readWord A = some (some (.int (tz_j 3)), tz_s A 122 5 (tz_j (p + 4))) ∧ XRd T L (p + 4) S (tz_s A 122 5 (tz_j (p + 4))) ∧ tz_fr r2_p A (tz_s A 122 5 (tz_j (p + 4))) := fun A r => r_w8 hL hp r h5 h6 h7 hw
  by_cases o1 : nu_ok T L (p + 4) 1 100
  · have b1 := nu_b o1
    have hv := o1.2.2.2
    have gn := n_G (nu_v T L (p + 4)) S H
    refine Or.inr ⟨sp_n (nu_v T L (p + 4)) S, nu_p T L (p + 4), nu_v T L (p + 4), (by omega), b1.2.1, ?_, gn.1, ⟨(gn.2.2 0 6 (by unfold sp_kp; omega) (by omega)).trans hst.1, (gn.2.2 200 0 (by unfold sp_kp; omega) (by omega)).trans hst.2⟩, Nat.le_of_eq (gn.2.2 1 0 (by unfold sp_kp; omega) (by omega)).symm, fun A r => ?_, fun D B r => ?_⟩
    · by_cases y : 10 ≤ nu_v T L (p + 4)
      · have := b1.2.2 y
        omega
      · omega
    · obtain ⟨e0, r0, f0⟩ := word A r
      have er := (r_rm r0 W).2.2.2.1
      obtain ⟨A1, e1, r1, q1, f1⟩ := (r_no (lo := 1) (h1 := 100) hL hp4 (by omega) (hi_k (n := 99) (by omega)) r0).1 o1
      obtain ⟨A2, e2, x2, f2⟩ := r_hrL (n := nu_v T L (p + 4)) (by omega) (nu_v T L (p + 4)) 0 N S A1 (by omega) (by omega) r1.1 H
      refine ⟨A2, r_go e0 r0 er (by omega) (fun h => by omega) (fun h => by omega) (fun h => by omega) (fun _ => ?_) (fun h => by omega), XRd_sky r1 x2 (sk_x f2), fx_tr (sk_2 f0) (fx_tr (sk_2 f1) (sk_y (sk_x f2)))⟩
      rw [e_X7_readHour]
      simp only [tz_lit, nj_m1, nj_m2, nj_m3, nj_m4, nj_m5, nj_m6, nj_m7, ↓reduceIte, tz_bI_some, tz_bV_some, tz_bL_some, cj10, cj01, cjm0, eq_self, not_true_eq_false, not_false_eq_true, or_false, false_or, or_true, true_or, or_self, and_true, true_and, and_false, false_and, e1, e2]
    · obtain ⟨B1, m1, r1, f1⟩ := mw D B r
      obtain ⟨B2, e2, r2, v2, f2⟩ := (t_no (x := 0) (lo := 1) (h1 := 100) hL hs (by omega) hp4 (by omega) (hi_k (n := 99) (by omega)) r1).1 o1
      obtain ⟨B3, e3, x3, f3⟩ := t_hrL (n := nu_v T L (p + 4)) (by omega) (nu_v T L (p + 4)) 0 N S B2 (by omega) (by omega) r2.1 H (by rw [hst.2]; omega) v2
      refine ⟨D, B3, ?_, MRd_sky r2 x3 f3, fr_tr (fr_mo f1 (fun k i => t2_ty)) (fr_tr (fr_mo f2 (fun k i h => t2_ty (tx_t2 h))) (fr_mo f3 (fun k i h => Or.inl h)))⟩
      rw [m1]
      simp only [tz_lit, nj_m1, nj_m2, nj_m3, nj_m4, nj_m5, nj_m6, nj_m7, ↓reduceIte, tz_bI_some, tz_bV_some, tz_bL_some, cj10, cj01, cjm0, eq_self, not_true_eq_false, not_false_eq_true, or_false, false_or, or_true, true_or, or_self, and_true, true_and, and_false, false_and, e2, e3]
  · refine Or.inl ⟨nu_f T L (p + 4), nu_fl hp4, fun A r => ?_, fun D B r => ?_⟩
    · obtain ⟨e0, r0, f0⟩ := word A r
      have er := (r_rm r0 W).2.2.2.1
      obtain ⟨A1, e1, q1, f1⟩ := (r_no (lo := 1) (h1 := 100) hL hp4 (by omega) (hi_k (n := 99) (by omega)) r0).2 o1
      refine ⟨A1, r_go e0 r0 er (by omega) (fun h => by omega) (fun h => by omega) (fun h => by omega) (fun _ => ?_) (fun h => by omega), q1, fx_tr (sk_2 f0) (sk_2 f1)⟩
      have n1 : (tz_j 4294967295 ≤ tz_j 0) = True := ng_let (by omega) (by omega) (by omega)
      rw [e_X7_readHour]
      simp only [tz_lit, nj_m1, nj_m2, nj_m3, nj_m4, nj_m5, nj_m6, nj_m7, ↓reduceIte, tz_bI_some, tz_bV_some, tz_bL_some, cj10, cj01, cjm0, eq_self, not_true_eq_false, not_false_eq_true, or_false, false_or, or_true, true_or, or_self, and_true, true_and, and_false, false_and, e1]
      rw [e_X7_readHour_10]
      simp only [tz_lit, nj_m1, nj_m2, nj_m3, nj_m4, nj_m5, nj_m6, nj_m7, ↓reduceIte, tz_bI_some, tz_bV_some, tz_bL_some, cj10, cj01, cjm0, eq_self, not_true_eq_false, not_false_eq_true, or_false, false_or, or_true, true_or, or_self, and_true, true_and, and_false, false_and, n1]
    · obtain ⟨B1, m1, r1, f1⟩ := mw D B r
      obtain ⟨B2, e2, q2, f2⟩ := (t_no (x := 0) (lo := 1) (h1 := 100) hL hs (by omega) hp4 (by omega) (hi_k (n := 99) (by omega)) r1).2 o1
      refine ⟨B2, ?_, q2, fr_tr f1 f2⟩
      rw [m1]
      simp only [tz_lit, nj_m1, nj_m2, nj_m3, nj_m4, nj_m5, nj_m6, nj_m7, ↓reduceIte, tz_bI_some, tz_bV_some, tz_bL_some, cj10, cj01, cjm0, eq_self, not_true_eq_false, not_false_eq_true, or_false, false_or, or_true, true_or, or_self, and_true, true_and, and_false, false_and, e2]
