/-! items of a text -/
theorem h124 : tz_sky 124 := by unfold tz_sky; omega
theorem XRd_sky {T : Nat → Int32} {L p : Nat} {S S' : tz_S} {A A' : tz_Mem} (r : XRd T L p S A) (x : rx 124 99 S' A') (f : tz_fx (fun k _ => (124 ≤ k ∧ k < 148) ∨ (150 ≤ k ∧ k < 155)) A A') : XRd T L p S' A' := by
  obtain ⟨a, b, c, d, e⟩ := r
  have g : ∀ k i, k = 122 ∨ k = 123 → tz_g A' k i = tz_g A k i := fun k i h => f.2.2.1 k i (by omega)
  exact ⟨x, by rw [g 122 0 (by omega)]; exact b, by rw [g 122 4 (by omega)]; exact c, by rw [g 122 5 (by omega)]; exact d, fun j hj => by rw [g 123 j (by omega)]; exact e j hj⟩
theorem MRd_sky {D D' : Nat → Int32} {T : Nat → Int32} {L s p : Nat} {S S' : tz_S} {A A' : tz_Mem} (r : MRd D T L s p S A) (x : rm D' S' A') (f : tz_fr mo_p A A') : MRd D' T L s p S' A' := by
  obtain ⟨a, b, c, d, e⟩ := r
  exact ⟨x, by rw [f.2.2 157 39 (by unfold mo_p; omega)]; exact b, by rw [f.2.2 157 40 (by unfold mo_p; omega)]; exact c, by rw [f.2.2 159 s (by unfold mo_p; omega)]; exact d, fun j hj => by rw [fr_gl f]; exact e j hj⟩
theorem sk_x {A A' : tz_Mem} (f : tz_fr (rx_p 124) A A') : tz_fx (fun k _ => (124 ≤ k ∧ k < 148) ∨ (150 ≤ k ∧ k < 155)) A A' := fx_mo (fx_fr f) (fun k i h => by unfold rx_p at h; omega)
theorem sk_y {A A' : tz_Mem} (f : tz_fx (fun k _ => (124 ≤ k ∧ k < 148) ∨ (150 ≤ k ∧ k < 155)) A A') : tz_fx ry_p A A' := fx_mo f (fun k i h => by unfold ry_p; omega)
theorem sk_2 {A A' : tz_Mem} (f : tz_fr r2_p A A') : tz_fx ry_p A A' := fx_mo (fx_fr f) (fun k i h => r2_ry h)
def it_R (T : Nat → Int32) (L s N p : Nat) (S : tz_S) : Prop :=
  (∃ f, f ≤ L ∧ (∀ A, XRd T L p S A → ∃ A', f_X7_readItem A = some (none, A') ∧ tz_g A' 122 0 = tz_j f ∧ tz_fx ry_p A A') ∧ ∀ D B, MRd D T L s p S B → ∃ B', f_X12_item B = some (some (.int (tz_j 0)), B') ∧ tz_g B' 157 40 = tz_j f ∧ tz_fr t2_p B B')
  ∨ (∃ S' q n, p < q ∧ q ≤ L ∧ 8 * n ≤ 99 * (q - p + 1) ∧ sp_H (N + n) S' ∧ sp_st S' ∧ S 1 0 ≤ S' 1 0 ∧ (∀ A, XRd T L p S A → ∃ A', f_X7_readItem A = some (none, A') ∧ XRd T L q S' A' ∧ tz_fx ry_p A A') ∧ ∀ D B, MRd D T L s p S B → ∃ D' B', f_X12_item B = some (some (.int (tz_j 1)), B') ∧ MRd D' T L s q S' B' ∧ tz_fr ty_p B B')
theorem wd_pa {T : Nat → Int32} {L p w : Nat} (hp : p ≤ L) : p + wd_a T L p w ≤ L := wd_pl (wd_n w) 0 hp
theorem wd_a0 {T : Nat → Int32} {L p w : Nat} (h : sg T L p ≠ tz_j (wd_c w 0)) : wd_a T L p w = 0 := wd_0 h
theorem wd_af {T : Nat → Int32} {L p w : Nat} (h : wd_a T L p w = wd_n w) : ∀ j, j < wd_n w → sg T L (p + j) = tz_j (wd_c w j) := fun j hj => wd_f (wd_n w) 0 (by rw [Nat.zero_add]; exact h) j (Nat.zero_le _) (by omega)
theorem tz_ne {a b : Nat} (ha : a < 1000) (hb : b < 1000) (h : a ≠ b) : tz_j a ≠ tz_j b := fun q => h (nj_inj (by omega) (by omega) q)
def wd_m (T : Nat → Int32) (L p : Nat) : Nat := max (max (max (max (max 0 (wd_a T L p 5)) (wd_a T L p 6)) (wd_a T L p 7)) (wd_a T L p 8)) (wd_a T L p 9)
theorem wd_b5 {T : Nat → Int32} {L p : Nat} : wd_a T L p 5 ≤ 4 ∧ wd_a T L p 6 ≤ 5 ∧ wd_a T L p 7 ≤ 6 ∧ wd_a T L p 8 ≤ 4 ∧ wd_a T L p 9 ≤ 4 := ⟨wd_al, wd_al, wd_al, wd_al, wd_al⟩
theorem r_wF {T : Nat → Int32} {L p : Nat} {S : tz_S} {A : tz_Mem} (hL : L ≤ 160) (hp : p ≤ L) (r : XRd T L p S A) (h5 : wd_a T L p 5 ≠ 4) (h6 : wd_a T L p 6 ≠ 5) (h7 : wd_a T L p 7 ≠ 6) (h8 : wd_a T L p 8 ≠ 4) (h9 : wd_a T L p 9 ≠ 4) : f_X7_readWord A = some (some (.int (tz_j 4294967295)), tz_s A 122 0 (tz_j (p + wd_m T L p))) := by
  have b := wd_b5 (T := T) (L := L) (p := p)
  rw [e_X7_readWord]
  exact ((r_rw0 (m := 0) hL hp (by omega) r).2 h5).trans (((r_rw1 (m := (max 0 (wd_a T L p 5))) hL hp (by omega) r).2 h6).trans (((r_rw2 (m := (max (max 0 (wd_a T L p 5)) (wd_a T L p 6))) hL hp (by omega) r).2 h7).trans (((r_rw3 (m := (max (max (max 0 (wd_a T L p 5)) (wd_a T L p 6)) (wd_a T L p 7))) hL hp (by omega) r).2 h8).trans (((r_rw4 (m := (max (max (max (max 0 (wd_a T L p 5)) (wd_a T L p 6)) (wd_a T L p 7)) (wd_a T L p 8))) hL hp (by omega) r).2 h9).trans (r_rw5 (m := (max (max (max (max (max 0 (wd_a T L p 5)) (wd_a T L p 6)) (wd_a T L p 7)) (wd_a T L p 8)) (wd_a T L p 9))) hL hp (by omega) r)))))
theorem r_w5 {T : Nat → Int32} {L p : Nat} {S : tz_S} {A : tz_Mem} (hL : L ≤ 160) (hp : p ≤ L) (r : XRd T L p S A) (h : wd_a T L p 5 = 4) : f_X7_readWord A = some (some (.int (tz_j 0)), tz_s A 122 5 (tz_j (p + 4))) ∧ XRd T L (p + 4) S (tz_s A 122 5 (tz_j (p + 4))) ∧ tz_fr r2_p A (tz_s A 122 5 (tz_j (p + 4))) := by
  have b := wd_b5 (T := T) (L := L) (p := p)
  have f : tz_fr r2_p A (tz_s A 122 5 (tz_j (p + 4))) := fr_s fr_rfl ⟨rfl, Or.inr (Or.inl rfl)⟩
  refine ⟨?_, XRd_mv r f ((tz_gsi (by omega)).trans r.2.1) tz_gs1, f⟩
  rw [e_X7_readWord]
  exact (r_rw0 (m := 0) hL hp (by omega) r).1 h
theorem r_w6 {T : Nat → Int32} {L p : Nat} {S : tz_S} {A : tz_Mem} (hL : L ≤ 160) (hp : p ≤ L) (r : XRd T L p S A) (h5 : wd_a T L p 5 ≠ 4) (h : wd_a T L p 6 = 5) : f_X7_readWord A = some (some (.int (tz_j 1)), tz_s A 122 5 (tz_j (p + 5))) ∧ XRd T L (p + 5) S (tz_s A 122 5 (tz_j (p + 5))) ∧ tz_fr r2_p A (tz_s A 122 5 (tz_j (p + 5))) := by
  have b := wd_b5 (T := T) (L := L) (p := p)
  have f : tz_fr r2_p A (tz_s A 122 5 (tz_j (p + 5))) := fr_s fr_rfl ⟨rfl, Or.inr (Or.inl rfl)⟩
  refine ⟨?_, XRd_mv r f ((tz_gsi (by omega)).trans r.2.1) tz_gs1, f⟩
  rw [e_X7_readWord]
  exact ((r_rw0 (m := 0) hL hp (by omega) r).2 h5).trans ((r_rw1 (m := (max 0 (wd_a T L p 5))) hL hp (by omega) r).1 h)
theorem r_w7 {T : Nat → Int32} {L p : Nat} {S : tz_S} {A : tz_Mem} (hL : L ≤ 160) (hp : p ≤ L) (r : XRd T L p S A) (h5 : wd_a T L p 5 ≠ 4) (h6 : wd_a T L p 6 ≠ 5) (h : wd_a T L p 7 = 6) : f_X7_readWord A = some (some (.int (tz_j 2)), tz_s A 122 5 (tz_j (p + 6))) ∧ XRd T L (p + 6) S (tz_s A 122 5 (tz_j (p + 6))) ∧ tz_fr r2_p A (tz_s A 122 5 (tz_j (p + 6))) := by
  have b := wd_b5 (T := T) (L := L) (p := p)
  have f : tz_fr r2_p A (tz_s A 122 5 (tz_j (p + 6))) := fr_s fr_rfl ⟨rfl, Or.inr (Or.inl rfl)⟩
  refine ⟨?_, XRd_mv r f ((tz_gsi (by omega)).trans r.2.1) tz_gs1, f⟩
  rw [e_X7_readWord]
  exact ((r_rw0 (m := 0) hL hp (by omega) r).2 h5).trans (((r_rw1 (m := (max 0 (wd_a T L p 5))) hL hp (by omega) r).2 h6).trans ((r_rw2 (m := (max (max 0 (wd_a T L p 5)) (wd_a T L p 6))) hL hp (by omega) r).1 h))
theorem r_w8 {T : Nat → Int32} {L p : Nat} {S : tz_S} {A : tz_Mem} (hL : L ≤ 160) (hp : p ≤ L) (r : XRd T L p S A) (h5 : wd_a T L p 5 ≠ 4) (h6 : wd_a T L p 6 ≠ 5) (h7 : wd_a T L p 7 ≠ 6) (h : wd_a T L p 8 = 4) : f_X7_readWord A = some (some (.int (tz_j 3)), tz_s A 122 5 (tz_j (p + 4))) ∧ XRd T L (p + 4) S (tz_s A 122 5 (tz_j (p + 4))) ∧ tz_fr r2_p A (tz_s A 122 5 (tz_j (p + 4))) := by
  have b := wd_b5 (T := T) (L := L) (p := p)
  have f : tz_fr r2_p A (tz_s A 122 5 (tz_j (p + 4))) := fr_s fr_rfl ⟨rfl, Or.inr (Or.inl rfl)⟩
  refine ⟨?_, XRd_mv r f ((tz_gsi (by omega)).trans r.2.1) tz_gs1, f⟩
  rw [e_X7_readWord]
  exact ((r_rw0 (m := 0) hL hp (by omega) r).2 h5).trans (((r_rw1 (m := (max 0 (wd_a T L p 5))) hL hp (by omega) r).2 h6).trans (((r_rw2 (m := (max (max 0 (wd_a T L p 5)) (wd_a T L p 6))) hL hp (by omega) r).2 h7).trans ((r_rw3 (m := (max (max (max 0 (wd_a T L p 5)) (wd_a T L p 6)) (wd_a T L p 7))) hL hp (by omega) r).1 h)))
theorem r_w9 {T : Nat → Int32} {L p : Nat} {S : tz_S} {A : tz_Mem} (hL : L ≤ 160) (hp : p ≤ L) (r : XRd T L p S A) (h5 : wd_a T L p 5 ≠ 4) (h6 : wd_a T L p 6 ≠ 5) (h7 : wd_a T L p 7 ≠ 6) (h8 : wd_a T L p 8 ≠ 4) (h : wd_a T L p 9 = 4) : f_X7_readWord A = some (some (.int (tz_j 4)), tz_s A 122 5 (tz_j (p + 4))) ∧ XRd T L (p + 4) S (tz_s A 122 5 (tz_j (p + 4))) ∧ tz_fr r2_p A (tz_s A 122 5 (tz_j (p + 4))) := by
  have b := wd_b5 (T := T) (L := L) (p := p)
  have f : tz_fr r2_p A (tz_s A 122 5 (tz_j (p + 4))) := fr_s fr_rfl ⟨rfl, Or.inr (Or.inl rfl)⟩
  refine ⟨?_, XRd_mv r f ((tz_gsi (by omega)).trans r.2.1) tz_gs1, f⟩
  rw [e_X7_readWord]
  exact ((r_rw0 (m := 0) hL hp (by omega) r).2 h5).trans (((r_rw1 (m := (max 0 (wd_a T L p 5))) hL hp (by omega) r).2 h6).trans (((r_rw2 (m := (max (max 0 (wd_a T L p 5)) (wd_a T L p 6))) hL hp (by omega) r).2 h7).trans (((r_rw3 (m := (max (max (max 0 (wd_a T L p 5)) (wd_a T L p 6)) (wd_a T L p 7))) hL hp (by omega) r).2 h8).trans ((r_rw4 (m := (max (max (max (max 0 (wd_a T L p 5)) (wd_a T L p 6)) (wd_a T L p 7)) (wd_a T L p 8))) hL hp (by omega) r).1 h))))
theorem t_w5 {D : Nat → Int32} {T : Nat → Int32} {L s p : Nat} {S : tz_S} {A : tz_Mem} (hL : L ≤ 160) (hs : s < 8) (hp : p ≤ L) (r : MRd D T L s p S A) : ∃ A', f_X12_word_s5 A = some (some (.int (if wd_a T L p 5 = 4 then tz_j 1 else tz_j 0)), A') ∧ MRd D T L s (p + wd_a T L p 5) S A' ∧ tz_fr t2_p A A' := by
  obtain ⟨A', e, r', f⟩ := t_wd5 (T := T) (p := p) hL hs 4 0 A rfl hp r
  refine ⟨A', ?_, r', f⟩
  rw [e_X12_word_s5]
  exact e
theorem t_w6 {D : Nat → Int32} {T : Nat → Int32} {L s p : Nat} {S : tz_S} {A : tz_Mem} (hL : L ≤ 160) (hs : s < 8) (hp : p ≤ L) (r : MRd D T L s p S A) : ∃ A', f_X12_word_s6 A = some (some (.int (if wd_a T L p 6 = 5 then tz_j 1 else tz_j 0)), A') ∧ MRd D T L s (p + wd_a T L p 6) S A' ∧ tz_fr t2_p A A' := by
  obtain ⟨A', e, r', f⟩ := t_wd6 (T := T) (p := p) hL hs 5 0 A rfl hp r
  refine ⟨A', ?_, r', f⟩
  rw [e_X12_word_s6]
  exact e
theorem t_w7 {D : Nat → Int32} {T : Nat → Int32} {L s p : Nat} {S : tz_S} {A : tz_Mem} (hL : L ≤ 160) (hs : s < 8) (hp : p ≤ L) (r : MRd D T L s p S A) : ∃ A', f_X12_word_s7 A = some (some (.int (if wd_a T L p 7 = 6 then tz_j 1 else tz_j 0)), A') ∧ MRd D T L s (p + wd_a T L p 7) S A' ∧ tz_fr t2_p A A' := by
  obtain ⟨A', e, r', f⟩ := t_wd7 (T := T) (p := p) hL hs 6 0 A rfl hp r
  refine ⟨A', ?_, r', f⟩
  rw [e_X12_word_s7]
  exact e
theorem t_w9 {D : Nat → Int32} {T : Nat → Int32} {L s p : Nat} {S : tz_S} {A : tz_Mem} (hL : L ≤ 160) (hs : s < 8) (hp : p ≤ L) (r : MRd D T L s p S A) : ∃ A', f_X12_word_s9 A = some (some (.int (if wd_a T L p 9 = 4 then tz_j 1 else tz_j 0)), A') ∧ MRd D T L s (p + wd_a T L p 9) S A' ∧ tz_fr t2_p A A' := by
  obtain ⟨A', e, r', f⟩ := t_wd9 (T := T) (p := p) hL hs 4 0 A rfl hp r
  refine ⟨A', ?_, r', f⟩
  rw [e_X12_word_s9]
  exact e
theorem t_w10 {D : Nat → Int32} {T : Nat → Int32} {L s p : Nat} {S : tz_S} {A : tz_Mem} (hL : L ≤ 160) (hs : s < 8) (hp : p ≤ L) (r : MRd D T L s p S A) : ∃ A', f_X12_word_s10 A = some (some (.int (if wd_a T L p 10 = 3 then tz_j 1 else tz_j 0)), A') ∧ MRd D T L s (p + wd_a T L p 10) S A' ∧ tz_fr t2_p A A' := by
  obtain ⟨A', e, r', f⟩ := t_wd10 (T := T) (p := p) hL hs 3 0 A rfl hp r
  refine ⟨A', ?_, r', f⟩
  rw [e_X12_word_s10]
  exact e
theorem t_u5 {D : Nat → Int32} {T : Nat → Int32} {L s p : Nat} {S : tz_S} {A : tz_Mem} (hL : L ≤ 160) (hs : s < 8) (hp : p ≤ L) (r : MRd D T L s p S A) : (wd_a T L p 5 ≠ 4 → ∃ A', f_X12_word__s5 (tz_j 0) A = some (some (.int (tz_j 0)), A') ∧ f_X12_word__s5 (tz_j 1) A = some (some (.int (tz_j 0)), A') ∧ tz_g A' 157 40 = tz_j (p + wd_a T L p 5) ∧ tz_fr t2_p A A') ∧ (wd_a T L p 5 = 4 → ∃ A', f_X12_word__s5 (tz_j 0) A = some (some (.int (tz_j 0)), tz_s A' 157 40 (tz_j p)) ∧ f_X12_word__s5 (tz_j 1) A = some (some (.int (tz_j 1)), A') ∧ MRd D T L s (p + 4) S A' ∧ tz_fr t2_p A A') := by
  obtain ⟨A', e, r', f⟩ := t_w5 hL hs hp r
  have q40 := r.2.2.1
  refine ⟨fun h => ⟨A', ?_, ?_, r'.2.2.1, f⟩, fun h => ⟨A', ?_, ?_, by rw [← h]; exact r', f⟩⟩
  · rw [if_neg h] at e
    rw [e_X12_word__s5]
    simp only [tz_lit, nj_m1, nj_m2, nj_m3, nj_m4, nj_m5, nj_m6, nj_m7, ↓reduceIte, tz_bI_some, tz_bV_some, tz_bL_some, cj10, cj01, cjm0, eq_self, not_true_eq_false, not_false_eq_true, or_false, false_or, or_true, true_or, or_self, and_true, true_and, and_false, false_and, e]
  · rw [if_neg h] at e
    rw [e_X12_word__s5]
    simp only [tz_lit, nj_m1, nj_m2, nj_m3, nj_m4, nj_m5, nj_m6, nj_m7, ↓reduceIte, tz_bI_some, tz_bV_some, tz_bL_some, cj10, cj01, cjm0, eq_self, not_true_eq_false, not_false_eq_true, or_false, false_or, or_true, true_or, or_self, and_true, true_and, and_false, false_and, e]
  · rw [if_pos h] at e
    rw [e_X12_word__s5]
    simp only [tz_lit, nj_m1, nj_m2, nj_m3, nj_m4, nj_m5, nj_m6, nj_m7, ↓reduceIte, tz_bI_some, tz_bV_some, tz_bL_some, cj10, cj01, cjm0, eq_self, not_true_eq_false, not_false_eq_true, or_false, false_or, or_true, true_or, or_self, and_true, true_and, and_false, false_and, e, q40]
  · rw [if_pos h] at e
    rw [e_X12_word__s5]
    simp only [tz_lit, nj_m1, nj_m2, nj_m3, nj_m4, nj_m5, nj_m6, nj_m7, ↓reduceIte, tz_bI_some, tz_bV_some, tz_bL_some, cj10, cj01, cjm0, eq_self, not_true_eq_false, not_false_eq_true, or_false, false_or, or_true, true_or, or_self, and_true, true_and, and_false, false_and, e]
theorem t_u6 {D : Nat → Int32} {T : Nat → Int32} {L s p : Nat} {S : tz_S} {A : tz_Mem} (hL : L ≤ 160) (hs : s < 8) (hp : p ≤ L) (r : MRd D T L s p S A) : (wd_a T L p 6 ≠ 5 → ∃ A', f_X12_word__s6 (tz_j 0) A = some (some (.int (tz_j 0)), A') ∧ f_X12_word__s6 (tz_j 1) A = some (some (.int (tz_j 0)), A') ∧ tz_g A' 157 40 = tz_j (p + wd_a T L p 6) ∧ tz_fr t2_p A A') ∧ (wd_a T L p 6 = 5 → ∃ A', f_X12_word__s6 (tz_j 0) A = some (some (.int (tz_j 0)), tz_s A' 157 40 (tz_j p)) ∧ f_X12_word__s6 (tz_j 1) A = some (some (.int (tz_j 1)), A') ∧ MRd D T L s (p + 5) S A' ∧ tz_fr t2_p A A') := by
  obtain ⟨A', e, r', f⟩ := t_w6 hL hs hp r
  have q40 := r.2.2.1
  refine ⟨fun h => ⟨A', ?_, ?_, r'.2.2.1, f⟩, fun h => ⟨A', ?_, ?_, by rw [← h]; exact r', f⟩⟩
  · rw [if_neg h] at e
    rw [e_X12_word__s6]
    simp only [tz_lit, nj_m1, nj_m2, nj_m3, nj_m4, nj_m5, nj_m6, nj_m7, ↓reduceIte, tz_bI_some, tz_bV_some, tz_bL_some, cj10, cj01, cjm0, eq_self, not_true_eq_false, not_false_eq_true, or_false, false_or, or_true, true_or, or_self, and_true, true_and, and_false, false_and, e]
  · rw [if_neg h] at e
    rw [e_X12_word__s6]
    simp only [tz_lit, nj_m1, nj_m2, nj_m3, nj_m4, nj_m5, nj_m6, nj_m7, ↓reduceIte, tz_bI_some, tz_bV_some, tz_bL_some, cj10, cj01, cjm0, eq_self, not_true_eq_false, not_false_eq_true, or_false, false_or, or_true, true_or, or_self, and_true, true_and, and_false, false_and, e]
  · rw [if_pos h] at e
    rw [e_X12_word__s6]
    simp only [tz_lit, nj_m1, nj_m2, nj_m3, nj_m4, nj_m5, nj_m6, nj_m7, ↓reduceIte, tz_bI_some, tz_bV_some, tz_bL_some, cj10, cj01, cjm0, eq_self, not_true_eq_false, not_false_eq_true, or_false, false_or, or_true, true_or, or_self, and_true, true_and, and_false, false_and, e, q40]
  · rw [if_pos h] at e
    rw [e_X12_word__s6]
    simp only [tz_lit, nj_m1, nj_m2, nj_m3, nj_m4, nj_m5, nj_m6, nj_m7, ↓reduceIte, tz_bI_some, tz_bV_some, tz_bL_some, cj10, cj01, cjm0, eq_self, not_true_eq_false, not_false_eq_true, or_false, false_or, or_true, true_or, or_self, and_true, true_and, and_false, false_and, e]
theorem t_u7 {D : Nat → Int32} {T : Nat → Int32} {L s p : Nat} {S : tz_S} {A : tz_Mem} (hL : L ≤ 160) (hs : s < 8) (hp : p ≤ L) (r : MRd D T L s p S A) : (wd_a T L p 7 ≠ 6 → ∃ A', f_X12_word__s7 (tz_j 0) A = some (some (.int (tz_j 0)), A') ∧ f_X12_word__s7 (tz_j 1) A = some (some (.int (tz_j 0)), A') ∧ tz_g A' 157 40 = tz_j (p + wd_a T L p 7) ∧ tz_fr t2_p A A') ∧ (wd_a T L p 7 = 6 → ∃ A', f_X12_word__s7 (tz_j 0) A = some (some (.int (tz_j 0)), tz_s A' 157 40 (tz_j p)) ∧ f_X12_word__s7 (tz_j 1) A = some (some (.int (tz_j 1)), A') ∧ MRd D T L s (p + 6) S A' ∧ tz_fr t2_p A A') := by
  obtain ⟨A', e, r', f⟩ := t_w7 hL hs hp r
  have q40 := r.2.2.1
  refine ⟨fun h => ⟨A', ?_, ?_, r'.2.2.1, f⟩, fun h => ⟨A', ?_, ?_, by rw [← h]; exact r', f⟩⟩
  · rw [if_neg h] at e
    rw [e_X12_word__s7]
    simp only [tz_lit, nj_m1, nj_m2, nj_m3, nj_m4, nj_m5, nj_m6, nj_m7, ↓reduceIte, tz_bI_some, tz_bV_some, tz_bL_some, cj10, cj01, cjm0, eq_self, not_true_eq_false, not_false_eq_true, or_false, false_or, or_true, true_or, or_self, and_true, true_and, and_false, false_and, e]
  · rw [if_neg h] at e
    rw [e_X12_word__s7]
    simp only [tz_lit, nj_m1, nj_m2, nj_m3, nj_m4, nj_m5, nj_m6, nj_m7, ↓reduceIte, tz_bI_some, tz_bV_some, tz_bL_some, cj10, cj01, cjm0, eq_self, not_true_eq_false, not_false_eq_true, or_false, false_or, or_true, true_or, or_self, and_true, true_and, and_false, false_and, e]
  · rw [if_pos h] at e
    rw [e_X12_word__s7]
    simp only [tz_lit, nj_m1, nj_m2, nj_m3, nj_m4, nj_m5, nj_m6, nj_m7, ↓reduceIte, tz_bI_some, tz_bV_some, tz_bL_some, cj10, cj01, cjm0, eq_self, not_true_eq_false, not_false_eq_true, or_false, false_or, or_true, true_or, or_self, and_true, true_and, and_false, false_and, e, q40]
  · rw [if_pos h] at e
    rw [e_X12_word__s7]
    simp only [tz_lit, nj_m1, nj_m2, nj_m3, nj_m4, nj_m5, nj_m6, nj_m7, ↓reduceIte, tz_bI_some, tz_bV_some, tz_bL_some, cj10, cj01, cjm0, eq_self, not_true_eq_false, not_false_eq_true, or_false, false_or, or_true, true_or, or_self, and_true, true_and, and_false, false_and, e]
theorem mi_98 {A : tz_Mem} (h : f_X12_sign A = some (some (.int (tz_j 98)), A)) : f_X12_item A =
  tz_bI (f_X12_word_s9 A) (fun y2 A2 =>
  if y2 = 0 then
    some (some (.int 0), A2)
  else
    tz_bI (f_X12_number 0 0 ((tz_g A2 157 15) - 1) A2) (fun y3 A3 =>
    if ¬ y3 = 0 then
      if (0 : Int32) < 0 ∨ 10 ≤ 0 then none else
      tz_bI (f_X12_burns (tz_g A3 183 0) A3) (fun y4 A4 =>
      some (some (.int 1), A4))
    else
      some (some (.int 0), A3))) := by
  rw [e_X12_item, bI_pre h, if_pos (show tz_j 98 = (98 : Int32) from rfl)]
theorem mi_104 {A : tz_Mem} (h : f_X12_sign A = some (some (.int (tz_j 104)), A)) : f_X12_item A =
  tz_bI (f_X12_sign (tz_s A 157 40 ((tz_g A 157 40) + 1))) (fun y2 A2 =>
  if ¬ y2 = 111 then
    if 8 ≤ (tz_g (tz_s A2 157 40 ((tz_g A2 157 40) - 1)) 157 3) then
      tz_bI (f_X12_word__s5 0 (tz_s A2 157 40 ((tz_g A2 157 40) - 1))) (fun y3 A3 =>
      if y3 = 0 then
        some (some (.int 0), A3)
      else
        tz_bI (f_X12_number 0 0 6 A3) (fun y4 A4 =>
        if y4 = 0 then
          some (some (.int 0), A4)
        else
          tz_bI (f_X12_number 1 0 9 A4) (fun y5 A5 =>
          if ¬ y5 = 0 then
            if (0 : Int32) < 0 ∨ 10 ≤ 0 then none else
            if (1 : Int32) < 0 ∨ 10 ≤ 1 then none else
            tz_bI (f_X12_newHill (tz_g A5 183 0) (tz_g A5 183 1) A5) (fun y6 A6 =>
            some (some (.int 1), A6))
          else
            some (some (.int 0), A5))))
    else
      tz_bI (f_X12_word__s5 1 (tz_s A2 157 40 ((tz_g A2 157 40) - 1))) (fun y3 A3 =>
      if y3 = 0 then
        some (some (.int 0), A3)
      else
        tz_bI (f_X12_number 0 0 6 A3) (fun y4 A4 =>
        if y4 = 0 then
          some (some (.int 0), A4)
        else
          tz_bI (f_X12_number 1 0 9 A4) (fun y5 A5 =>
          if ¬ y5 = 0 then
            if (0 : Int32) < 0 ∨ 10 ≤ 0 then none else
            if (1 : Int32) < 0 ∨ 10 ≤ 1 then none else
            tz_bI (f_X12_newHill (tz_g A5 183 0) (tz_g A5 183 1) A5) (fun y6 A6 =>
            some (some (.int 1), A6))
          else
            some (some (.int 0), A5))))
  else
    tz_bI (f_X12_word_s10 A2) (fun y3 A3 =>
    if y3 = 0 then
      some (some (.int 0), A3)
    else
      tz_bI (f_X12_number 0 1 99 A3) (fun y4 A4 =>
      if ¬ y4 = 0 then
        q_X12_item_91 0 A4
      else
        some (some (.int 0), A4)))) := by
  rw [e_X12_item, bI_pre h, if_neg (by decide), if_pos (show tz_j 104 = (104 : Int32) from rfl)]
theorem mi_108 {A : tz_Mem} (h : f_X12_sign A = some (some (.int (tz_j 108)), A)) : f_X12_item A =
  if 12 ≤ (tz_g A 157 15) then
    tz_bI (f_X12_word__s7 0 A) (fun y2 A2 =>
    if y2 = 0 then
      some (some (.int 0), A2)
    else
      tz_bI (f_X12_number 0 0 9999 A2) (fun y3 A3 =>
      if y3 = 0 then
        some (some (.int 0), A3)
      else
        tz_bI (f_X12_number 1 0 ((tz_g A3 157 3) - 1) A3) (fun y4 A4 =>
        if y4 = 0 then
          some (some (.int 0), A4)
        else
          tz_bI (f_X12_hillBut 2 1 A4) (fun y5 A5 =>
          if y5 = 0 then
            some (some (.int 0), A5)
          else
            tz_bI (f_X12_number 3 1 99 A5) (fun y6 A6 =>
            if ¬ y6 = 0 then
              if (0 : Int32) < 0 ∨ 10 ≤ 0 then none else
              if (1 : Int32) < 0 ∨ 10 ≤ 1 then none else
              if (2 : Int32) < 0 ∨ 10 ≤ 2 then none else
              if (3 : Int32) < 0 ∨ 10 ≤ 3 then none else
              tz_bI (f_X12_newLetter (tz_g A6 183 0) (tz_g A6 183 1) (tz_g A6 183 2) (tz_g A6 183 3) A6) (fun y7 A7 =>
              some (some (.int 1), A7))
            else
              some (some (.int 0), A6))))))
  else
    tz_bI (f_X12_word__s7 1 A) (fun y2 A2 =>
    if y2 = 0 then
      some (some (.int 0), A2)
    else
      tz_bI (f_X12_number 0 0 9999 A2) (fun y3 A3 =>
      if y3 = 0 then
        some (some (.int 0), A3)
      else
        tz_bI (f_X12_number 1 0 ((tz_g A3 157 3) - 1) A3) (fun y4 A4 =>
        if y4 = 0 then
          some (some (.int 0), A4)
        else
          tz_bI (f_X12_hillBut 2 1 A4) (fun y5 A5 =>
          if y5 = 0 then
            some (some (.int 0), A5)
          else
            tz_bI (f_X12_number 3 1 99 A5) (fun y6 A6 =>
            if ¬ y6 = 0 then
              if (0 : Int32) < 0 ∨ 10 ≤ 0 then none else
              if (1 : Int32) < 0 ∨ 10 ≤ 1 then none else
              if (2 : Int32) < 0 ∨ 10 ≤ 2 then none else
              if (3 : Int32) < 0 ∨ 10 ≤ 3 then none else
              tz_bI (f_X12_newLetter (tz_g A6 183 0) (tz_g A6 183 1) (tz_g A6 183 2) (tz_g A6 183 3) A6) (fun y7 A7 =>
              some (some (.int 1), A7))
            else
              some (some (.int 0), A6)))))) := by
  rw [e_X12_item, bI_pre h, if_neg (by decide), if_neg (by decide), if_pos (show tz_j 108 = (108 : Int32) from rfl)]
theorem mi_115 {A : tz_Mem} (h : f_X12_sign A = some (some (.int (tz_j 115)), A)) : f_X12_item A =
  if 4 ≤ (tz_g A 157 8) then
    tz_bI (f_X12_word__s6 0 A) (fun y2 A2 =>
    if y2 = 0 then
      some (some (.int 0), A2)
    else
      tz_bI (f_X12_number 0 1 9 A2) (fun y3 A3 =>
      if y3 = 0 then
        some (some (.int 0), A3)
      else
        tz_bI (f_X12_number 1 1 99 A3) (fun y4 A4 =>
        if y4 = 0 then
          some (some (.int 0), A4)
        else
          tz_bI (f_X12_number 2 1 9 A4) (fun y5 A5 =>
          if y5 = 0 then
            some (some (.int 0), A5)
          else
            tz_bI (f_X12_ways A5) (fun y6 A6 =>
            if ¬ y6 = 0 then
              if (0 : Int32) < 0 ∨ 10 ≤ 0 then none else
              if (1 : Int32) < 0 ∨ 10 ≤ 1 then none else
              if (2 : Int32) < 0 ∨ 10 ≤ 2 then none else
              tz_bI (f_X12_newStorm (tz_g A6 183 0) (tz_g A6 183 1) (tz_g A6 183 2) A6) (fun y7 A7 =>
              some (some (.int 1), A7))
            else
              some (some (.int 0), A6))))))
  else
    tz_bI (f_X12_word__s6 1 A) (fun y2 A2 =>
    if y2 = 0 then
      some (some (.int 0), A2)
    else
      tz_bI (f_X12_number 0 1 9 A2) (fun y3 A3 =>
      if y3 = 0 then
        some (some (.int 0), A3)
      else
        tz_bI (f_X12_number 1 1 99 A3) (fun y4 A4 =>
        if y4 = 0 then
          some (some (.int 0), A4)
        else
          tz_bI (f_X12_number 2 1 9 A4) (fun y5 A5 =>
          if y5 = 0 then
            some (some (.int 0), A5)
          else
            tz_bI (f_X12_ways A5) (fun y6 A6 =>
            if ¬ y6 = 0 then
              if (0 : Int32) < 0 ∨ 10 ≤ 0 then none else
              if (1 : Int32) < 0 ∨ 10 ≤ 1 then none else
              if (2 : Int32) < 0 ∨ 10 ≤ 2 then none else
              tz_bI (f_X12_newStorm (tz_g A6 183 0) (tz_g A6 183 1) (tz_g A6 183 2) A6) (fun y7 A7 =>
              some (some (.int 1), A7))
            else
              some (some (.int 0), A6)))))) := by
  rw [e_X12_item, bI_pre h, if_neg (by decide), if_neg (by decide), if_neg (by decide), if_pos (show tz_j 115 = (115 : Int32) from rfl)]
theorem mi_x {A : tz_Mem} {x : Int32} (h : f_X12_sign A = some (some (.int x), A)) (h1 : x ≠ tz_j 98) (h2 : x ≠ tz_j 104) (h3 : x ≠ tz_j 108) (h4 : x ≠ tz_j 115) : f_X12_item A = some (some (.int (tz_j 0)), A) := by
  rw [e_X12_item, bI_pre h, if_neg (show ¬ x = (98 : Int32) from h1), if_neg (show ¬ x = (104 : Int32) from h2), if_neg (show ¬ x = (108 : Int32) from h3), if_neg (show ¬ x = (115 : Int32) from h4)]
  rfl
theorem mi_104o {A : tz_Mem} {p : Nat} (h : f_X12_sign A = some (some (.int (tz_j 104)), A)) (q40 : tz_g A 157 40 = tz_j p) (h2 : f_X12_sign (tz_s A 157 40 (tz_j (p + 1))) = some (some (.int (tz_j 111)), (tz_s A 157 40 (tz_j (p + 1))))) : f_X12_item A =
  tz_bI (f_X12_word_s10 (tz_s A 157 40 (tz_j (p + 1)))) (fun y3 A3 =>
    if y3 = 0 then
      some (some (.int 0), A3)
    else
      tz_bI (f_X12_number 0 1 99 A3) (fun y4 A4 =>
      if ¬ y4 = 0 then
        q_X12_item_91 0 A4
      else
        some (some (.int 0), A4))) := by
  rw [mi_104 h, q40, show tz_j p + 1 = tz_j (p + 1) from nj_add, bI_pre h2, if_neg (fun q => q rfl)]
theorem mi_104h {A : tz_Mem} {p : Nat} (h : f_X12_sign A = some (some (.int (tz_j 104)), A)) (q40 : tz_g A 157 40 = tz_j p) {x : Int32} (h2 : f_X12_sign (tz_s A 157 40 (tz_j (p + 1))) = some (some (.int x), (tz_s A 157 40 (tz_j (p + 1))))) (hx : x ≠ tz_j 111) : f_X12_item A =
  if 8 ≤ (tz_g (tz_s (tz_s A 157 40 (tz_j (p + 1))) 157 40 ((tz_g (tz_s A 157 40 (tz_j (p + 1))) 157 40) - 1)) 157 3) then
      tz_bI (f_X12_word__s5 0 (tz_s (tz_s A 157 40 (tz_j (p + 1))) 157 40 ((tz_g (tz_s A 157 40 (tz_j (p + 1))) 157 40) - 1))) (fun y3 A3 =>
      if y3 = 0 then
        some (some (.int 0), A3)
      else
        tz_bI (f_X12_number 0 0 6 A3) (fun y4 A4 =>
        if y4 = 0 then
          some (some (.int 0), A4)
        else
          tz_bI (f_X12_number 1 0 9 A4) (fun y5 A5 =>
          if ¬ y5 = 0 then
            if (0 : Int32) < 0 ∨ 10 ≤ 0 then none else
            if (1 : Int32) < 0 ∨ 10 ≤ 1 then none else
            tz_bI (f_X12_newHill (tz_g A5 183 0) (tz_g A5 183 1) A5) (fun y6 A6 =>
            some (some (.int 1), A6))
          else
            some (some (.int 0), A5))))
    else
      tz_bI (f_X12_word__s5 1 (tz_s (tz_s A 157 40 (tz_j (p + 1))) 157 40 ((tz_g (tz_s A 157 40 (tz_j (p + 1))) 157 40) - 1))) (fun y3 A3 =>
      if y3 = 0 then
        some (some (.int 0), A3)
      else
        tz_bI (f_X12_number 0 0 6 A3) (fun y4 A4 =>
        if y4 = 0 then
          some (some (.int 0), A4)
        else
          tz_bI (f_X12_number 1 0 9 A4) (fun y5 A5 =>
          if ¬ y5 = 0 then
            if (0 : Int32) < 0 ∨ 10 ≤ 0 then none else
            if (1 : Int32) < 0 ∨ 10 ≤ 1 then none else
            tz_bI (f_X12_newHill (tz_g A5 183 0) (tz_g A5 183 1) A5) (fun y6 A6 =>
            some (some (.int 1), A6))
          else
            some (some (.int 0), A5)))) := by
  rw [mi_104 h, q40, show tz_j p + 1 = tz_j (p + 1) from nj_add, bI_pre h2, if_pos (show ¬ x = (111 : Int32) from hx)]
/-- no word stands there -/
theorem it_none {T : Nat → Int32} {L s N p : Nat} {S : tz_S} (hL : L ≤ 160) (hs : s < 8) (hp : p ≤ L) (W : sp_W1 S) (h5 : wd_a T L p 5 ≠ 4) (h6 : wd_a T L p 6 ≠ 5) (h7 : wd_a T L p 7 ≠ 6) (h8 : wd_a T L p 8 ≠ 4) (h9 : wd_a T L p 9 ≠ 4) : it_R T L s N p S := by
  have b := wd_b5 (T := T) (L := L) (p := p)
  have w1 := W.1
  have w4 := W.2.1
  have w12 := W.2.2.1
  have e5 : ∀ c, sg T L p = tz_j c → c < 128 → c ≠ 104 → wd_a T L p 5 = 0 := fun c h hc hn => wd_a0 (by rw [h]; exact tz_ne (a := c) (b := 104) (by omega) (by omega) hn)
  have e6 : ∀ c, sg T L p = tz_j c → c < 128 → c ≠ 115 → wd_a T L p 6 = 0 := fun c h hc hn => wd_a0 (by rw [h]; exact tz_ne (a := c) (b := 115) (by omega) (by omega) hn)
  have e7 : ∀ c, sg T L p = tz_j c → c < 128 → c ≠ 108 → wd_a T L p 7 = 0 := fun c h hc hn => wd_a0 (by rw [h]; exact tz_ne (a := c) (b := 108) (by omega) (by omega) hn)
  have e8 : ∀ c, sg T L p = tz_j c → c < 128 → c ≠ 104 → wd_a T L p 8 = 0 := fun c h hc hn => wd_a0 (by rw [h]; exact tz_ne (a := c) (b := 104) (by omega) (by omega) hn)
  have e9 : ∀ c, sg T L p = tz_j c → c < 128 → c ≠ 98 → wd_a T L p 9 = 0 := fun c h hc hn => wd_a0 (by rw [h]; exact tz_ne (a := c) (b := 98) (by omega) (by omega) hn)
  have hm : p + wd_m T L p ≤ L := by
    have a5 := wd_pa (T := T) (w := 5) hp
    have a6 := wd_pa (T := T) (w := 6) hp
    have a7 := wd_pa (T := T) (w := 7) hp
    have a8 := wd_pa (T := T) (w := 8) hp
    have a9 := wd_pa (T := T) (w := 9) hp
    unfold wd_m
    omega
  refine Or.inl ⟨p + wd_m T L p, hm, fun A r => ⟨tz_s A 122 0 (tz_j (p + wd_m T L p)), ?_, tz_gs1, sk_2 (fr_s fr_rfl ⟨rfl, Or.inl rfl⟩)⟩, fun D B r => ?_⟩
  · have e := r_wF hL hp r h5 h6 h7 h8 h9
    have n1 : (tz_j (p + wd_m T L p) = tz_j 4294967295) = False := nj_eqf (by omega) (by omega) (by omega)
    rw [e_X7_readItem]
    simp only [tz_lit, nj_m1, nj_m2, nj_m3, nj_m4, nj_m5, nj_m6, nj_m7, ↓reduceIte, tz_bI_some, tz_bV_some, tz_bL_some, cj10, cj01, cjm0, eq_self, not_true_eq_false, not_false_eq_true, or_false, false_or, or_true, true_or, or_self, and_true, true_and, and_false, false_and, e, tz_gs1, n1]
  · have es := t_sg hL hs hp r
    have k3 : tz_g B 157 3 = tz_j (S 1 0) := cm_3 r.1.1
    have k8 : tz_g B 157 8 = tz_j (S 7 0) := cm_8 r.1.1
    have k15 : tz_g B 157 15 = tz_j (S 15 0) := cm_15 r.1.1
    by_cases c98 : sg T L p = tz_j 98
    · obtain ⟨A', e, r', f⟩ := t_w9 hL hs hp r
      rw [if_neg h9] at e
      have a5 := e5 98 c98 (by omega) (by omega)
      have a6 := e6 98 c98 (by omega) (by omega)
      have a7 := e7 98 c98 (by omega) (by omega)
      have a8 := e8 98 c98 (by omega) (by omega)
      refine ⟨A', ?_, ?_, f⟩
      · rw [c98] at es
        rw [mi_98 es]
        simp (disch := omega) only [tz_lit, nj_m1, nj_m2, nj_m3, nj_m4, nj_m5, nj_m6, nj_m7, ↓reduceIte, tz_bI_some, tz_bV_some, tz_bL_some, cj10, cj01, cjm0, eq_self, not_true_eq_false, not_false_eq_true, or_false, false_or, or_true, true_or, or_self, and_true, true_and, and_false, false_and, nj_eqf, nj_ltt, nj_ltf, nj_let, nj_lef, nj_cl, nt_lef, ng_ltt, ng_let, ng_gtf, ng_gef, e]
      · rw [r'.2.2.1]
        unfold wd_m
        congr 1
        omega
    by_cases c104 : sg T L p = tz_j 104
    · have hlt := sg_lt (by omega) c104
      have a6 := e6 104 c104 (by omega) (by omega)
      have a7 := e7 104 c104 (by omega) (by omega)
      have a9 := e9 104 c104 (by omega) (by omega)
      have f1 : tz_fr t2_p B (tz_s B 157 40 (tz_j (p + 1))) := fr_s fr_rfl (Or.inl ⟨rfl, rfl⟩)
      have r1 : MRd D T L s (p + 1) S (tz_s B 157 40 (tz_j (p + 1))) := MRd_mv r f1 tz_gs1
      have es1 := t_sg hL hs (show p + 1 ≤ L by omega) r1
      have q40 := r.2.2.1
      have a3 : tz_j p + tz_j 1 = tz_j (p + 1) := nj_add
      have u8 : wd_a T L p 8 = if sg T L (p + 1) = tz_j 111 then 1 + wd_a T L (p + 1) 10 else 1 := by
        show (if sg T L (p + 0) = tz_j (wd_c 8 0) then wd_s T L 8 p 3 1 else 0) = _
        rw [if_pos (show sg T L (p + 0) = tz_j (wd_c 8 0) from c104), wd_our]
        by_cases z : sg T L (p + 1) = tz_j 111
        · rw [if_pos z]
          rfl
        · rw [if_neg z]
          have : wd_s T L 10 (p + 1) 3 0 = 0 := wd_0 z
          omega
      have u5 : wd_a T L p 5 = if sg T L (p + 1) = tz_j 105 then wd_s T L 5 p 2 2 else 1 := by
        show (if sg T L (p + 0) = tz_j (wd_c 5 0) then (if sg T L (p + 1) = tz_j (wd_c 5 1) then wd_s T L 5 p 2 2 else 1) else 0) = _
        rw [if_pos (show sg T L (p + 0) = tz_j (wd_c 5 0) from c104)]
        rfl
      rw [c104] at es
      by_cases c111 : sg T L (p + 1) = tz_j 111
      · rw [if_pos c111] at u8
        rw [if_neg (by rw [c111]; exact tz_ne (by omega) (by omega) (by omega))] at u5
        obtain ⟨A', e, r', f⟩ := t_w10 hL hs (show p + 1 ≤ L by omega) r1
        rw [if_neg (by omega)] at e
        rw [c111] at es1
        refine ⟨A', ?_, ?_, fr_tr f1 f⟩
        · rw [mi_104o es q40 es1]
          simp (disch := omega) only [tz_lit, nj_m1, nj_m2, nj_m3, nj_m4, nj_m5, nj_m6, nj_m7, ↓reduceIte, tz_bI_some, tz_bV_some, tz_bL_some, cj10, cj01, cjm0, eq_self, not_true_eq_false, not_false_eq_true, or_false, false_or, or_true, true_or, or_self, and_true, true_and, and_false, false_and, nj_eqf, nj_ltt, nj_ltf, nj_let, nj_lef, nj_cl, nt_lef, ng_ltt, ng_let, ng_gtf, ng_gef, e]
        · rw [r'.2.2.1]
          unfold wd_m
          congr 1
          omega
      · rw [if_neg c111] at u8
        have n111 := eq_false c111
        have f2 : tz_fr t2_p B (tz_s (tz_s B 157 40 (tz_j (p + 1))) 157 40 (tz_j p)) := fr_s f1 (Or.inl ⟨rfl, rfl⟩)
        have r2 : MRd D T L s p S (tz_s (tz_s B 157 40 (tz_j (p + 1))) 157 40 (tz_j p)) := MRd_mv r f2 tz_gs1
        obtain ⟨A', e, e', q', f⟩ := (t_u5 hL hs hp r2).1 h5
        have a4 : tz_j (p + 1) - tz_j 1 = tz_j p := by rw [nj_sub (by omega), Nat.add_sub_cancel]
        have k3' : tz_g (tz_s (tz_s B 157 40 (tz_j (p + 1))) 157 40 (tz_j p)) 157 3 = tz_j (S 1 0) := cm_3 r2.1.1
        have u5g : 1 ≤ wd_a T L p 5 := by
          rw [u5]
          split
          · have := (wd_le (T := T) (L := L) (w := 5) (p := p) 2 2).1
            omega
          · omega
        refine ⟨A', ?_, ?_, fr_tr f2 f⟩
        · rw [mi_104h es q40 es1 c111]
          by_cases z : 8 ≤ S 1 0
          · have n8 : (tz_j 8 ≤ tz_j (S 1 0)) = True := nj_let z (by omega)
            simp (disch := omega) only [tz_lit, nj_m1, nj_m2, nj_m3, nj_m4, nj_m5, nj_m6, nj_m7, ↓reduceIte, tz_bI_some, tz_bV_some, tz_bL_some, cj10, cj01, cjm0, eq_self, not_true_eq_false, not_false_eq_true, or_false, false_or, or_true, true_or, or_self, and_true, true_and, and_false, false_and, nj_eqf, nj_ltt, nj_ltf, nj_let, nj_lef, nj_cl, nt_lef, ng_ltt, ng_let, ng_gtf, ng_gef, tz_gs1, a4, k3', n8, e]
          · have n8 : (tz_j 8 ≤ tz_j (S 1 0)) = False := nj_lef (by omega) (by omega)
            simp (disch := omega) only [tz_lit, nj_m1, nj_m2, nj_m3, nj_m4, nj_m5, nj_m6, nj_m7, ↓reduceIte, tz_bI_some, tz_bV_some, tz_bL_some, cj10, cj01, cjm0, eq_self, not_true_eq_false, not_false_eq_true, or_false, false_or, or_true, true_or, or_self, and_true, true_and, and_false, false_and, nj_eqf, nj_ltt, nj_ltf, nj_let, nj_lef, nj_cl, nt_lef, ng_ltt, ng_let, ng_gtf, ng_gef, tz_gs1, a4, k3', n8, e']
        · rw [q']
          unfold wd_m
          congr 1
          omega
    by_cases c108 : sg T L p = tz_j 108
    · obtain ⟨A', e, e', q', f⟩ := (t_u7 hL hs hp r).1 h7
      have a5 := e5 108 c108 (by omega) (by omega)
      have a6 := e6 108 c108 (by omega) (by omega)
      have a8 := e8 108 c108 (by omega) (by omega)
      have a9 := e9 108 c108 (by omega) (by omega)
      rw [c108] at es
      refine ⟨A', ?_, ?_, f⟩
      · rw [mi_108 es]
        by_cases z : 12 ≤ S 15 0
        · have n8 : (tz_j 12 ≤ tz_j (S 15 0)) = True := nj_let z (by omega)
          simp (disch := omega) only [tz_lit, nj_m1, nj_m2, nj_m3, nj_m4, nj_m5, nj_m6, nj_m7, ↓reduceIte, tz_bI_some, tz_bV_some, tz_bL_some, cj10, cj01, cjm0, eq_self, not_true_eq_false, not_false_eq_true, or_false, false_or, or_true, true_or, or_self, and_true, true_and, and_false, false_and, nj_eqf, nj_ltt, nj_ltf, nj_let, nj_lef, nj_cl, nt_lef, ng_ltt, ng_let, ng_gtf, ng_gef, k15, n8, e]
        · have n8 : (tz_j 12 ≤ tz_j (S 15 0)) = False := nj_lef (by omega) (by omega)
          simp (disch := omega) only [tz_lit, nj_m1, nj_m2, nj_m3, nj_m4, nj_m5, nj_m6, nj_m7, ↓reduceIte, tz_bI_some, tz_bV_some, tz_bL_some, cj10, cj01, cjm0, eq_self, not_true_eq_false, not_false_eq_true, or_false, false_or, or_true, true_or, or_self, and_true, true_and, and_false, false_and, nj_eqf, nj_ltt, nj_ltf, nj_let, nj_lef, nj_cl, nt_lef, ng_ltt, ng_let, ng_gtf, ng_gef, k15, n8, e']
      · rw [q']
        unfold wd_m
        congr 1
        omega
    by_cases c115 : sg T L p = tz_j 115
    · obtain ⟨A', e, e', q', f⟩ := (t_u6 hL hs hp r).1 h6
      have a5 := e5 115 c115 (by omega) (by omega)
      have a7 := e7 115 c115 (by omega) (by omega)
      have a8 := e8 115 c115 (by omega) (by omega)
      have a9 := e9 115 c115 (by omega) (by omega)
      rw [c115] at es
      refine ⟨A', ?_, ?_, f⟩
      · rw [mi_115 es]
        by_cases z : 4 ≤ S 7 0
        · have n8 : (tz_j 4 ≤ tz_j (S 7 0)) = True := nj_let z (by omega)
          simp (disch := omega) only [tz_lit, nj_m1, nj_m2, nj_m3, nj_m4, nj_m5, nj_m6, nj_m7, ↓reduceIte, tz_bI_some, tz_bV_some, tz_bL_some, cj10, cj01, cjm0, eq_self, not_true_eq_false, not_false_eq_true, or_false, false_or, or_true, true_or, or_self, and_true, true_and, and_false, false_and, nj_eqf, nj_ltt, nj_ltf, nj_let, nj_lef, nj_cl, nt_lef, ng_ltt, ng_let, ng_gtf, ng_gef, k8, n8, e]
        · have n8 : (tz_j 4 ≤ tz_j (S 7 0)) = False := nj_lef (by omega) (by omega)
          simp (disch := omega) only [tz_lit, nj_m1, nj_m2, nj_m3, nj_m4, nj_m5, nj_m6, nj_m7, ↓reduceIte, tz_bI_some, tz_bV_some, tz_bL_some, cj10, cj01, cjm0, eq_self, not_true_eq_false, not_false_eq_true, or_false, false_or, or_true, true_or, or_self, and_true, true_and, and_false, false_and, nj_eqf, nj_ltt, nj_ltf, nj_let, nj_lef, nj_cl, nt_lef, ng_ltt, ng_let, ng_gtf, ng_gef, k8, n8, e']
      · rw [q']
        unfold wd_m
        congr 1
        omega
    have a5 : wd_a T L p 5 = 0 := wd_a0 c104
    have a6 : wd_a T L p 6 = 0 := wd_a0 c115
    have a7 : wd_a T L p 7 = 0 := wd_a0 c108
    have a8 : wd_a T L p 8 = 0 := wd_a0 c104
    have a9 : wd_a T L p 9 = 0 := wd_a0 c98
    refine ⟨B, mi_x es c98 c104 c108 c115, ?_, fr_rfl⟩
    · rw [r.2.2.1]
      unfold wd_m
      congr 1
      omega
