/-! needs, postage, meet, loudest, hours, drought, first heard -/
theorem k_two1 {u : Nat} {A : tz_Mem} (hu : u < 2) : f_X11_isOneOfTwo (tz_j u) A = some (some (.int (tz_j 1)), A) := by
  rw [e_X11_isOneOfTwo]
  rcases (show u = 0 ∨ u = 1 by omega) with rfl | rfl
  · simp (disch := omega) only [tz_lit, nj_m1, ↓reduceIte, nj_cl, nj_ltt, nj_ltf, nj_let, nj_lef, nj_eqf, nj_lt, nj_le, nj_eq, nj_add, nj_mul, nj_modx, nj_and7, nj_div, tz_bI_some, tz_bV_some, or_false, false_or, or_self, and_false, false_and, and_true, true_and, not_true_eq_false, not_false_eq_true, nt_lef, nt_let, nt_ltf, nt_ltt, nt_eqf, nj_m2, nj_m3, nj_m4, nj_m5, nj_m6, nj_m7, tz_bL_some, nj_sub, ng_ltt, ng_let, ng_gtf, ng_gef]
  · simp (disch := omega) only [tz_lit, nj_m1, ↓reduceIte, nj_cl, nj_ltt, nj_ltf, nj_let, nj_lef, nj_eqf, nj_lt, nj_le, nj_eq, nj_add, nj_mul, nj_modx, nj_and7, nj_div, tz_bI_some, tz_bV_some, or_false, false_or, or_self, and_false, false_and, and_true, true_and, not_true_eq_false, not_false_eq_true, nt_lef, nt_let, nt_ltf, nt_ltt, nt_eqf, nj_m2, nj_m3, nj_m4, nj_m5, nj_m6, nj_m7, tz_bL_some, nj_sub, ng_ltt, ng_let, ng_gtf, ng_gef]
theorem k_two0 {x : Int32} {A : tz_Mem} (h : x < tz_j 0 ∨ tz_j 2 ≤ x) : f_X11_isOneOfTwo x A = some (some (.int (tz_j 0)), A) := by
  rw [e_X11_isOneOfTwo]
  rcases h with h | h
  · simp (disch := omega) only [tz_lit, nj_m1, ↓reduceIte, nj_cl, nj_ltt, nj_ltf, nj_let, nj_lef, nj_eqf, nj_lt, nj_le, nj_eq, nj_add, nj_mul, nj_modx, nj_and7, nj_div, tz_bI_some, tz_bV_some, or_false, false_or, or_self, and_false, false_and, and_true, true_and, not_true_eq_false, not_false_eq_true, nt_lef, nt_let, nt_ltf, nt_ltt, nt_eqf, nj_m2, nj_m3, nj_m4, nj_m5, nj_m6, nj_m7, tz_bL_some, nj_sub, ng_ltt, ng_let, ng_gtf, ng_gef, ob_l h]
  · simp (disch := omega) only [tz_lit, nj_m1, ↓reduceIte, nj_cl, nj_ltt, nj_ltf, nj_let, nj_lef, nj_eqf, nj_lt, nj_le, nj_eq, nj_add, nj_mul, nj_modx, nj_and7, nj_div, tz_bI_some, tz_bV_some, or_false, false_or, or_self, and_false, false_and, and_true, true_and, not_true_eq_false, not_false_eq_true, nt_lef, nt_let, nt_ltf, nt_ltt, nt_eqf, nj_m2, nj_m3, nj_m4, nj_m5, nj_m6, nj_m7, tz_bL_some, nj_sub, ng_ltt, ng_let, ng_gtf, ng_gef, ob_h (show 2 < 2147483648 by omega) h]
def sp_nd (S : tz_S) (l : Nat) : Nat → Nat → Nat → Int32 → Int32 → Int32 × Int32
  | 0, _, _, bits, fr => (bits, fr)
  | k + 1, t, so, bits, fr => if sp_ar l 500 (tz_t S 0 6 t) 21 l = 4294967295 then sp_nd S l k (t + 1) so (bits ||| (tz_j 1 <<< (tz_j t &&& tz_j 31))) fr else if so ≤ sp_ar l 500 (tz_t S 0 6 t) 21 l then sp_nd S l k (t + 1) so bits fr else sp_nd S l k (t + 1) (sp_ar l 500 (tz_t S 0 6 t) 21 l) bits (tz_j t)
theorem ar_hi {l N : Nat} {S : tz_S} (H : sp_H N S) (hl : l < S 15 0) : sp_ar l 500 S 21 l = 4294967295 ∨ sp_ar l 500 S 21 l ≤ N + 500 := by
  obtain ⟨H2, hf⟩ := ar_G (l := l) 500 N S H
  have hl2 : l < sp_ar l 500 S 15 0 := by rw [hf 15 0 (by unfold sp_kp; omega) (by omega)]; exact hl
  obtain ⟨_, _, b3, b4⟩ := H2.2.1.2.1 l hl2
  have h3 := H2.2.2.2.1
  by_cases z : sp_ar l 500 S 20 l = 200
  · have := b3 z
    omega
  · exact Or.inl (b4 z)
theorem x_ndL {S K : tz_S} {U : tz_U} {V : tz_V} {N l u : Nat} (hN : N ≤ 1100000) (hst : sp_st S) (hk : sp_st K) (hl : l < S 15 0) (hu : u < 2) (H : sp_H N S) : ∀ k t so bits fr A, t + k = S 7 0 → so ≤ 2147483647 → CX S K U V A → ∃ A', q_X11_needs_58 (tz_j l) (tz_j u) (tz_j so) bits fr (tz_j t) A = some (some (.int (if u = 0 then (sp_nd S l k t so bits fr).1 else (sp_nd S l k t so bits fr).2)), A') ∧ tz_fx th_p A A' := by
  have h4 := H.1.2.1
  intro k
  induction k with
  | zero =>
    intro t so bits fr A ht hso c
    have q7 : tz_g A 37 0 = tz_j (S 7 0) := cz_7 c.1.1
    refine ⟨A, ?_, fx_rfl⟩
    have n1 : (tz_j (S 7 0) ≤ tz_j t) = True := nj_let (by omega) (by omega)
    rw [e_X11_needs_58]
    rcases (show u = 0 ∨ u = 1 by omega) with rfl | rfl
    · simp only [tz_lit, nj_m1, nj_m2, nj_m3, nj_m4, nj_m5, nj_m6, nj_m7, ↓reduceIte, tz_bI_some, tz_bV_some, tz_bL_some, cj10, cj01, cjm0, eq_self, not_true_eq_false, not_false_eq_true, or_false, false_or, or_true, true_or, or_self, and_true, true_and, and_false, false_and, q7, n1]
      rfl
    · simp only [tz_lit, nj_m1, nj_m2, nj_m3, nj_m4, nj_m5, nj_m6, nj_m7, ↓reduceIte, tz_bI_some, tz_bV_some, tz_bL_some, cj10, cj01, cjm0, eq_self, not_true_eq_false, not_false_eq_true, or_false, false_or, or_true, true_or, or_self, and_true, true_and, and_false, false_and, q7, n1]
      rfl
  | succ k ih =>
    intro t so bits fr A ht hso c
    have q7 : tz_g A 37 0 = tz_j (S 7 0) := cz_7 c.1.1
    have n1 : (tz_j (S 7 0) ≤ tz_j t) = False := nj_lef (by omega) (by omega)
    obtain ⟨A1, e1, g1⟩ := x_wo (K := K) (U := U) (V := V) (v := t) hN c.1 H hst hl (by omega)
    have c1 := CX_th hst hk g1 c
    have ha := ar_hi (l := l) (H_06 (v := t) H (by omega)) hl
    generalize hs : sp_ar l 500 (tz_t S 0 6 t) 21 l = a at *
    rw [e_X11_needs_58]
    show ∃ A', _ = some (some (Value.int (if u = 0 then (if sp_ar l 500 (tz_t S 0 6 t) 21 l = 4294967295 then sp_nd S l k (t + 1) so (bits ||| (tz_j 1 <<< (tz_j t &&& tz_j 31))) fr else if so ≤ sp_ar l 500 (tz_t S 0 6 t) 21 l then sp_nd S l k (t + 1) so bits fr else sp_nd S l k (t + 1) (sp_ar l 500 (tz_t S 0 6 t) 21 l) bits (tz_j t)).1 else (if sp_ar l 500 (tz_t S 0 6 t) 21 l = 4294967295 then sp_nd S l k (t + 1) so (bits ||| (tz_j 1 <<< (tz_j t &&& tz_j 31))) fr else if so ≤ sp_ar l 500 (tz_t S 0 6 t) 21 l then sp_nd S l k (t + 1) so bits fr else sp_nd S l k (t + 1) (sp_ar l 500 (tz_t S 0 6 t) 21 l) bits (tz_j t)).2)), A') ∧ _
    rw [hs]
    by_cases z : a = 4294967295
    · obtain ⟨A', e, g⟩ := ih (t + 1) so (bits ||| (tz_j 1 <<< (tz_j t &&& tz_j 31))) fr A1 (by omega) hso c1
      rw [if_pos z]
      refine ⟨A', ?_, fx_tr g1 g⟩
      simp only [tz_lit, nj_m1, nj_m2, nj_m3, nj_m4, nj_m5, nj_m6, nj_m7, ↓reduceIte, tz_bI_some, tz_bV_some, tz_bL_some, cj10, cj01, cjm0, eq_self, not_true_eq_false, not_false_eq_true, or_false, false_or, or_true, true_or, or_self, and_true, true_and, and_false, false_and, q7, n1, e1, z, nj_add]
      exact e
    · have n2 : (tz_j a = tz_j 4294967295) = False := nj_eqf z (by omega) (by omega)
      rw [if_neg z]
      by_cases y : so ≤ a
      · obtain ⟨A', e, g⟩ := ih (t + 1) so bits fr A1 (by omega) hso c1
        have n3 : (tz_j so ≤ tz_j a) = True := nj_let y (by omega)
        rw [if_pos y]
        refine ⟨A', ?_, fx_tr g1 g⟩
        simp only [tz_lit, nj_m1, nj_m2, nj_m3, nj_m4, nj_m5, nj_m6, nj_m7, ↓reduceIte, tz_bI_some, tz_bV_some, tz_bL_some, cj10, cj01, cjm0, eq_self, not_true_eq_false, not_false_eq_true, or_false, false_or, or_true, true_or, or_self, and_true, true_and, and_false, false_and, q7, n1, e1, n2, n3, nj_add]
        exact e
      · obtain ⟨A', e, g⟩ := ih (t + 1) a bits (tz_j t) A1 (by omega) (by omega) c1
        have n3 : (tz_j so ≤ tz_j a) = False := nj_lef (by omega) (by omega)
        rw [if_neg y]
        refine ⟨A', ?_, fx_tr g1 g⟩
        simp only [tz_lit, nj_m1, nj_m2, nj_m3, nj_m4, nj_m5, nj_m6, nj_m7, ↓reduceIte, tz_bI_some, tz_bV_some, tz_bL_some, cj10, cj01, cjm0, eq_self, not_true_eq_false, not_false_eq_true, or_false, false_or, or_true, true_or, or_self, and_true, true_and, and_false, false_and, q7, n1, e1, n2, n3, nj_add]
        exact e
theorem nd_done {S : tz_S} {l : Nat} (hl : S 20 l = 200) : ∀ k t bits fr, sp_nd S l k t (S 21 l) bits fr = (bits, fr) ∨ S 21 l = 4294967295 := by
  have e : ∀ t, sp_ar l 500 (tz_t S 0 6 t) 21 l = S 21 l := fun t => by
    show (if tz_t S 0 6 t 20 l < 200 then sp_ar l 499 (sp_tk (tz_t S 0 6 t)) else tz_t S 0 6 t) 21 l = _
    rw [if_neg (by rw [tz_tk (by omega)]; omega), tz_tk (by omega)]
  intro k
  induction k with
  | zero => exact fun _ _ _ => Or.inl rfl
  | succ k ih =>
    intro t bits fr
    by_cases z : S 21 l = 4294967295
    · exact Or.inr z
    · left
      show (if sp_ar l 500 (tz_t S 0 6 t) 21 l = 4294967295 then sp_nd S l k (t + 1) (S 21 l) (bits ||| (tz_j 1 <<< (tz_j t &&& tz_j 31))) fr else if S 21 l ≤ sp_ar l 500 (tz_t S 0 6 t) 21 l then sp_nd S l k (t + 1) (S 21 l) bits fr else sp_nd S l k (t + 1) (sp_ar l 500 (tz_t S 0 6 t) 21 l) bits (tz_j t)) = _
      rw [e, if_neg z, if_pos (Nat.le_refl _)]
      exact (ih (t + 1) bits fr).resolve_right z
