/-! needs, postage, meet, loudest, hours, drought, first heard -/
theorem k_two1 {u : Nat} {A : tz_Mem} (hu : u < 2) : f_X11_isOneOfTwo (tz_j u) A = some (some (.int (tz_j 1)), A) := by
  rw [e_X11_isOneOfTwo]
  rcases (show u = 0 ∨ u = 1 by omega) with rfl | rfl
  · simp (disch := omega) only [tz_lit, nj_m1, ↓reduceIte, nj_cl, nj_ltt, nj_ltf, nj_let, nj_lef, nj_eqf, nj_lt, nj_le, nj_eq, nj_add, nj_mul, nj_modx, nj_and7, nj_div, tz_bI_some, tz_bV_some, or_false, false_or, or_self, and_false, false_and, and_true, true_and, not_true_eq_false, not_false_eq_true, nt_lef, nt_let, nt_ltf, nt_ltt, nt_eqf, nj_m2, nj_m3, nj_m4, nj_m5, nj_m6, nj_m7, tz_bL_some, nj_sub, ng_ltt, ng_let, ng_gtf, ng_gef]
  · simp (disch := omega) only [tz_lit, nj_m1, ↓reduceIte, nj_cl, nj_ltt, nj_ltf, nj_let, nj_lef, nj_eqf, nj_lt, nj_le, nj_eq, nj_add, nj_mul, nj_modx, nj_and7, nj_div, tz_bI_some, tz_bV_some, or_false, false_or, or_self, and_false, false_and, and_true, true_and, not_true_eq_false, not_false_eq_true, nt_lef, nt_let, nt_ltf, nt_ltt, nt_eqf, nj_m2, nj_m3, nj_m4, nj_m5, nj_m6, nj_m7, tz_bL_some, nj_sub, ng_ltt, ng_let, ng_gtf, ng_gef]
theorem k_two0 {x : Int32} {A : tz_Mem} (h : x < tz_j 0 ∨ tz_j 2 ≤ x) : f_X11_isOneOfTwo x A = some (some (.int (tz_j 0)), A) := by
  rw [e_X11_isOneOfTwo]
  rcases h with h | h
  · simp (disch := omega) only [tz_lit, nj_m1, ↓reduceIte, nj_cl, nj_ltt, nj_ltf, nj_let, nj_lef, nj_eqf, nj_lt, nj_le, nj_eq, nj_add, nj_mul, nj_modx, nj_and7, nj_div, tz_bI_some, tz_bV_some, or_false, false_or, or_self, and_false, false_and, and_true, true_and, not_true_eq_false, not_false_eq_true, nt_lef, nt_let, nt_ltf, nt_ltt, nt_eqf, nj_m2, nj_m3, nj_m4, nj_m5, nj_m6, nj_m7, tz_bL_some, nj_sub, ng_ltt, ng_let, ng_gtf, ng_gef, ob_l h]
  · simp (disch := omega) only [tz_lit, nj_m1, ↓reduceIte, nj_cl, nj_ltt, nj_ltf, nj_let, nj_lef, nj_eqf, nj_lt, nj_le, nj_eq, nj_add, nj_mul, nj_modx, nj_and7, nj_div, tz_bI_some, tz_bV_some, or_false, false_or, or_self, and_false, false_and, and_true, true_and, not_true_eq_false, not_false_eq_true, nt_lef, nt_let, nt_ltf, nt_ltt, nt_eqf, nj_m2, nj_m3, nj_m4, nj_m5, nj_m6, nj_m7, tz_bL_some, nj_sub, ng_ltt, ng_let, ng_gtf, ng_gef, ob_h (show 2 < 2147483648 by omega) h]
theorem w_in {u n : Nat} {A : tz_Mem} (hu : u < n + 1) (hn : n < 2147483647) : f_X12_within (tz_j u) (tz_j 0) (tz_j n) A = some (some (.int (tz_j 1)), A) := by
  rw [e_X12_within]
  simp (disch := omega) only [tz_lit, nj_m1, ↓reduceIte, nj_cl, nj_ltt, nj_ltf, nj_let, nj_lef, nj_eqf, nj_lt, nj_le, nj_eq, nj_add, nj_mul, nj_modx, nj_and7, nj_div, tz_bI_some, tz_bV_some, or_false, false_or, or_self, and_false, false_and, and_true, true_and, not_true_eq_false, not_false_eq_true, nt_lef, nt_let, nt_ltf, nt_ltt, nt_eqf, nj_m2, nj_m3, nj_m4, nj_m5, nj_m6, nj_m7, tz_bL_some, nj_sub, ng_ltt, ng_let, ng_gtf, ng_gef]
theorem w_out {x : Int32} {n : Nat} {A : tz_Mem} (hn : n < 2147483647) (h : x < tz_j 0 ∨ tz_j (n + 1) ≤ x) : f_X12_within x (tz_j 0) (tz_j n) A = some (some (.int (tz_j 0)), A) := by
  rw [e_X12_within]
  rcases h with h | h
  · simp (disch := omega) only [tz_lit, nj_m1, ↓reduceIte, nj_cl, nj_ltt, nj_ltf, nj_let, nj_lef, nj_eqf, nj_lt, nj_le, nj_eq, nj_add, nj_mul, nj_modx, nj_and7, nj_div, tz_bI_some, tz_bV_some, or_false, false_or, or_self, and_false, false_and, and_true, true_and, not_true_eq_false, not_false_eq_true, nt_lef, nt_let, nt_ltf, nt_ltt, nt_eqf, nj_m2, nj_m3, nj_m4, nj_m5, nj_m6, nj_m7, tz_bL_some, nj_sub, ng_ltt, ng_let, ng_gtf, ng_gef, ob_l h]
  · simp (disch := omega) only [tz_lit, nj_m1, ↓reduceIte, nj_cl, nj_ltt, nj_ltf, nj_let, nj_lef, nj_eqf, nj_lt, nj_le, nj_eq, nj_add, nj_mul, nj_modx, nj_and7, nj_div, tz_bI_some, tz_bV_some, or_false, false_or, or_self, and_false, false_and, and_true, true_and, not_true_eq_false, not_false_eq_true, nt_lef, nt_let, nt_ltf, nt_ltt, nt_eqf, nj_m2, nj_m3, nj_m4, nj_m5, nj_m6, nj_m7, tz_bL_some, nj_sub, ng_ltt, ng_let, ng_gtf, ng_gef, ob_h (show n + 1 < 2147483648 by omega) h]
theorem w_in1 {u n : Nat} {A : tz_Mem} (h0 : 1 ≤ u) (hu : u < n + 1) (hn : n < 2147483647) : f_X12_within (tz_j u) (tz_j 1) (tz_j n) A = some (some (.int (tz_j 1)), A) := by
  rw [e_X12_within]
  simp (disch := omega) only [tz_lit, nj_m1, ↓reduceIte, nj_cl, nj_ltt, nj_ltf, nj_let, nj_lef, nj_eqf, nj_lt, nj_le, nj_eq, nj_add, nj_mul, nj_modx, nj_and7, nj_div, tz_bI_some, tz_bV_some, or_false, false_or, or_self, and_false, false_and, and_true, true_and, not_true_eq_false, not_false_eq_true, nt_lef, nt_let, nt_ltf, nt_ltt, nt_eqf, nj_m2, nj_m3, nj_m4, nj_m5, nj_m6, nj_m7, tz_bL_some, nj_sub, ng_ltt, ng_let, ng_gtf, ng_gef]

def sp_nd (S : tz_S) (l : Nat) : Nat → Nat → Nat → Int32 → Int32 → Int32 × Int32
  | 0, _, _, bits, fr => (bits, fr)
  | k + 1, t, so, bits, fr => if sp_ar l 500 (tz_t S 0 6 t) 21 l = 4294967295 then sp_nd S l k (t + 1) so (bits ||| (tz_j 1 <<< (tz_j t &&& tz_j 31))) fr else if so ≤ sp_ar l 500 (tz_t S 0 6 t) 21 l then sp_nd S l k (t + 1) so bits fr else sp_nd S l k (t + 1) (sp_ar l 500 (tz_t S 0 6 t) 21 l) bits (tz_j t)
theorem ar_hi {l N : Nat} {S : tz_S} (H : sp_H N S) (hl : l < S 15 0) : sp_ar l 500 S 21 l = 4294967295 ∨ sp_ar l 500 S 21 l ≤ N + 500 := by
  obtain ⟨H2, hf⟩ := ar_G (l := l) 500 N S H
  have hl2 : l < sp_ar l 500 S 15 0 := by rw [hf 15 0 (by unfold sp_kp; omega) (by omega)]; exact hl
  obtain ⟨_, _, b3, b4⟩ := H2.2.1.2.1 l hl2
  have h3 := H2.2.2.2.1
  by_cases z : sp_ar l 500 S 20 l = 200
  · have := b3 z
    omega
  · exact Or.inl (b4 z)
theorem x_ndL {S K : tz_S} {U : tz_U} {V : tz_V} {N l u : Nat} (hN : N ≤ 1100000) (hst : sp_st S) (hk : sp_st K) (hl : l < S 15 0) (hu : u < 2) (H : sp_H N S) : ∀ k t so bits fr A, t + k = S 7 0 → so ≤ 2147483647 → CX S K U V A → ∃ A', q_X11_needs_58 (tz_j l) (tz_j u) (tz_j so) bits fr (tz_j t) A = some (some (.int (if u = 0 then (sp_nd S l k t so bits fr).1 else (sp_nd S l k t so bits fr).2)), A') ∧ tz_fx th_p A A' := by
  have h4 := H.1.2.1
  intro k
  induction k with
  | zero =>
    intro t so bits fr A ht hso c
    have q7 : tz_g A 37 0 = tz_j (S 7 0) := cz_7 c.1.1
    refine ⟨A, ?_, fx_rfl⟩
    have n1 : (tz_j (S 7 0) ≤ tz_j t) = True := nj_let (by omega) (by omega)
    rw [e_X11_needs_58]
    rcases (show u = 0 ∨ u = 1 by omega) with rfl | rfl
    · simp only [tz_lit, nj_m1, nj_m2, nj_m3, nj_m4, nj_m5, nj_m6, nj_m7, ↓reduceIte, tz_bI_some, tz_bV_some, tz_bL_some, cj10, cj01, cjm0, eq_self, not_true_eq_false, not_false_eq_true, or_false, false_or, or_true, true_or, or_self, and_true, true_and, and_false, false_and, q7, n1]
      rfl
    · simp only [tz_lit, nj_m1, nj_m2, nj_m3, nj_m4, nj_m5, nj_m6, nj_m7, ↓reduceIte, tz_bI_some, tz_bV_some, tz_bL_some, cj10, cj01, cjm0, eq_self, not_true_eq_false, not_false_eq_true, or_false, false_or, or_true, true_or, or_self, and_true, true_and, and_false, false_and, q7, n1]
      rfl
  | succ k ih =>
    intro t so bits fr A ht hso c
    have q7 : tz_g A 37 0 = tz_j (S 7 0) := cz_7 c.1.1
    have n1 : (tz_j (S 7 0) ≤ tz_j t) = False := nj_lef (by omega) (by omega)
    obtain ⟨A1, e1, g1⟩ := x_wo (K := K) (U := U) (V := V) (v := t) hN c.1 H hst hl (by omega)
    have c1 := CX_th hst hk g1 c
    have ha := ar_hi (l := l) (H_06 (v := t) H (by omega)) hl
    generalize hs : sp_ar l 500 (tz_t S 0 6 t) 21 l = a at *
    rw [e_X11_needs_58]
    show ∃ A', _ = some (some (Value.int (if u = 0 then (if sp_ar l 500 (tz_t S 0 6 t) 21 l = 4294967295 then sp_nd S l k (t + 1) so (bits ||| (tz_j 1 <<< (tz_j t &&& tz_j 31))) fr else if so ≤ sp_ar l 500 (tz_t S 0 6 t) 21 l then sp_nd S l k (t + 1) so bits fr else sp_nd S l k (t + 1) (sp_ar l 500 (tz_t S 0 6 t) 21 l) bits (tz_j t)).1 else (if sp_ar l 500 (tz_t S 0 6 t) 21 l = 4294967295 then sp_nd S l k (t + 1) so (bits ||| (tz_j 1 <<< (tz_j t &&& tz_j 31))) fr else if so ≤ sp_ar l 500 (tz_t S 0 6 t) 21 l then sp_nd S l k (t + 1) so bits fr else sp_nd S l k (t + 1) (sp_ar l 500 (tz_t S 0 6 t) 21 l) bits (tz_j t)).2)), A') ∧ _
    rw [hs]
    by_cases z : a = 4294967295
    · obtain ⟨A', e, g⟩ := ih (t + 1) so (bits ||| (tz_j 1 <<< (tz_j t &&& tz_j 31))) fr A1 (by omega) hso c1
      rw [if_pos z]
      refine ⟨A', ?_, fx_tr g1 g⟩
      simp only [tz_lit, nj_m1, nj_m2, nj_m3, nj_m4, nj_m5, nj_m6, nj_m7, ↓reduceIte, tz_bI_some, tz_bV_some, tz_bL_some, cj10, cj01, cjm0, eq_self, not_true_eq_false, not_false_eq_true, or_false, false_or, or_true, true_or, or_self, and_true, true_and, and_false, false_and, q7, n1, e1, z, nj_add]
      exact e
    · have n2 : (tz_j a = tz_j 4294967295) = False := nj_eqf z (by omega) (by omega)
      rw [if_neg z]
      by_cases y : so ≤ a
      · obtain ⟨A', e, g⟩ := ih (t + 1) so bits fr A1 (by omega) hso c1
        have n3 : (tz_j so ≤ tz_j a) = True := nj_let y (by omega)
        rw [if_pos y]
        refine ⟨A', ?_, fx_tr g1 g⟩
        simp only [tz_lit, nj_m1, nj_m2, nj_m3, nj_m4, nj_m5, nj_m6, nj_m7, ↓reduceIte, tz_bI_some, tz_bV_some, tz_bL_some, cj10, cj01, cjm0, eq_self, not_true_eq_false, not_false_eq_true, or_false, false_or, or_true, true_or, or_self, and_true, true_and, and_false, false_and, q7, n1, e1, n2, n3, nj_add]
        exact e
      · obtain ⟨A', e, g⟩ := ih (t + 1) a bits (tz_j t) A1 (by omega) (by omega) c1
        have n3 : (tz_j so ≤ tz_j a) = False := nj_lef (by omega) (by omega)
        rw [if_neg y]
        refine ⟨A', ?_, fx_tr g1 g⟩
        simp only [tz_lit, nj_m1, nj_m2, nj_m3, nj_m4, nj_m5, nj_m6, nj_m7, ↓reduceIte, tz_bI_some, tz_bV_some, tz_bL_some, cj10, cj01, cjm0, eq_self, not_true_eq_false, not_false_eq_true, or_false, false_or, or_true, true_or, or_self, and_true, true_and, and_false, false_and, q7, n1, e1, n2, n3, nj_add]
        exact e
theorem rm_06 {D : Nat → Int32} {S : tz_S} {A : tz_Mem} {t : Nat} (ht : t < 4) (r : rm D S A) : rm D (tz_t S 0 6 t) (tz_s A 157 34 (tz_j 1 <<< (tz_j t &&& tz_j 31))) := by
  obtain ⟨c, ww, o, s, e⟩ := r
  have hrel : ∀ p q k i, rm_rel S p q k i → ¬ (p = 157 ∧ q = 34) ∧ ¬ (k = 0 ∧ i = 6) := fun p q k i h => by
    unfold rm_rel at h
    omega
  refine ⟨fun p q k i hr => ?_, rm_w_mv ww rfl (fun _ => rfl) (fun _ _ _ => tz_tk (by omega)) (fun _ => ⟨tz_gsk (by omega), tz_gsk (by omega)⟩), rm_o_mv o (fun _ => rfl) (fun _ => tz_gsk (by omega)), fun u hu => ?_, rm_e_mv e rfl (fun _ => ⟨rfl, rfl⟩) ⟨tz_gsi (by omega), tz_gsi (by omega)⟩⟩
  · have hr2 : rm_rel S p q k i := rel_mv rfl rfl rfl (fun _ _ => rfl) hr
    obtain ⟨h1, h2⟩ := hrel p q k i hr2
    rw [tz_gS, if_neg h1, tz_ta, if_neg h2]
    exact c p q k i hr2
  · rw [tz_gs1, tz_t1]
    have := bt_one (l := t) (m := u) (by omega) (by omega)
    rw [show tz_j 1 <<< (tz_j t &&& tz_j 31) = (1 : Int32) <<< (tz_j t &&& 31) from rfl, this]
    by_cases z : t = u
    · simp [z]
    · have z2 : ¬ u = t := fun y => z y.symm
      simp [z, z2]
theorem rm_34 {D : Nat → Int32} {S : tz_S} {A : tz_Mem} (hst : sp_st S) (r : rm D S A) : rm D S (tz_s A 157 34 (tz_j 0)) := by
  obtain ⟨c, ww, o, s, e⟩ := r
  refine ⟨fun p q k i hr => ?_, rm_w_mv ww rfl (fun _ => rfl) (fun _ _ _ => rfl) (fun _ => ⟨tz_gsk (by omega), tz_gsk (by omega)⟩), rm_o_mv o (fun _ => rfl) (fun _ => tz_gsk (by omega)), fun u hu => ?_, rm_e_mv e rfl (fun _ => ⟨rfl, rfl⟩) ⟨tz_gsi (by omega), tz_gsi (by omega)⟩⟩
  · have h1 : ¬ (p = 157 ∧ q = 34) := by
      unfold rm_rel at hr
      omega
    rw [tz_gS, if_neg h1]
    exact c p q k i hr
  · rw [tz_gs1, hst.1, bj_zero u (by omega)]
    symm
    rw [decide_eq_false_iff_not]
    omega
theorem MX_34 {D : Nat → Int32} {S K : tz_S} {U : tz_U} {V : tz_V} {A : tz_Mem} (hst : sp_st S) (m : MX D S K U V A) : MX D S K U V (tz_s A 157 34 (tz_j 0)) := by
  obtain ⟨r, k, ⟨u1, u2, u3, u4, u5, u6⟩, hN⟩ := m
  refine ⟨rm_34 hst r, fun q => rmk_mv (k q) (fun j _ => tz_gsk (by omega)), ⟨fun s hs => ?_, fun i hi => ?_, ?_, ?_, ?_, fun i hi => ?_⟩, hN⟩
  · obtain ⟨a, b, d⟩ := u1 s hs
    exact ⟨by rw [tz_gsk (by omega)]; exact a, by rw [tz_gsk (by omega)]; exact b, d⟩
  · rw [tz_gsk (by omega)]
    exact u2 i hi
  · rw [tz_gsi (by omega)]
    exact u3
  · rw [tz_gsi (by omega)]
    exact u4
  · rw [tz_gsi (by omega)]
    exact u5
  · rw [tz_gsk (by omega)]
    exact u6 i hi
theorem m_ndL {S K : tz_S} {U : tz_U} {V : tz_V} {N l u : Nat} (hN : N ≤ 1100000) (hst : sp_st S) (hl : l < S 15 0) (hu : u < 2) (H : sp_H N S) : ∀ k t so bits fr A D, t + k = S 7 0 → so ≤ 2147483647 → MX D S K U V A → ∃ A' D', q_X12_needs_58 (tz_j l) (tz_j u) bits (tz_j (if so = 2147483647 then 4294967295 else so)) fr (tz_j 0) (tz_j t) A = some (some (.int (if u = 0 then (sp_nd S l k t so bits fr).1 else (sp_nd S l k t so bits fr).2)), A') ∧ MX D' S K U V A' ∧ mg A A' := by
  have h4 := H.1.2.1
  intro k
  induction k with
  | zero =>
    intro t so bits fr A D ht hso m
    have q7 : tz_g A 157 8 = tz_j (S 7 0) := cm_8 m.1.1
    refine ⟨A, D, ?_, m, rfl, fun _ _ _ => ⟨rfl, rfl⟩, fun _ _ => rfl⟩
    have n1 : (tz_j (S 7 0) ≤ tz_j t) = True := nj_let (by omega) (by omega)
    rw [e_X12_needs_58]
    rcases (show u = 0 ∨ u = 1 by omega) with rfl | rfl
    · simp only [tz_lit, nj_m1, nj_m2, nj_m3, nj_m4, nj_m5, nj_m6, nj_m7, ↓reduceIte, tz_bI_some, tz_bV_some, tz_bL_some, cj10, cj01, cjm0, eq_self, not_true_eq_false, not_false_eq_true, or_false, false_or, or_true, true_or, or_self, and_true, true_and, and_false, false_and, q7, n1]
      rfl
    · simp only [tz_lit, nj_m1, nj_m2, nj_m3, nj_m4, nj_m5, nj_m6, nj_m7, ↓reduceIte, tz_bI_some, tz_bV_some, tz_bL_some, cj10, cj01, cjm0, eq_self, not_true_eq_false, not_false_eq_true, or_false, false_or, or_true, true_or, or_self, and_true, true_and, and_false, false_and, q7, n1]
      rfl
  | succ k ih =>
    intro t so bits fr A D ht hso m
    have q7 : tz_g A 157 8 = tz_j (S 7 0) := cm_8 m.1.1
    have n1 : (tz_j (S 7 0) ≤ tz_j t) = False := nj_lef (by omega) (by omega)
    obtain ⟨A1, e1, g1, k1, s1, t1⟩ := m_by (l := l) hN (rm_06 (t := t) (by omega) m.1) (H_06 (v := t) H (by omega)) hst.2 hl
    have fA : tz_fr mt_p (tz_s A 157 34 (tz_j 0)) (tz_s A 157 34 (tz_j 1 <<< (tz_j t &&& tz_j 31))) := ⟨rfl, rfl, fun k i h => by
      have hne : ¬ (k = 157 ∧ i = 34) := fun y => h (Or.inr (Or.inl ⟨y.1, Or.inl y.2⟩))
      rw [tz_gS, if_neg hne, tz_gS, if_neg hne]⟩
    obtain ⟨D1, m1, gg0⟩ := MX_back (B := tz_s A1 157 34 (tz_j 0)) H.1 hst (MX_34 hst m) (fr_s (fr_tr fA g1) (Or.inr (Or.inl ⟨rfl, Or.inl rfl⟩))) (fun k i h => by
      have hne : ¬ (k = 157 ∧ i = 34) := fun y => kd_34 (by rw [← y.1, ← y.2]; exact h)
      rw [tz_gS, if_neg hne, k1 k i h, tz_gS, if_neg hne, tz_gS, if_neg hne]) (by rw [tz_gs1, tz_gs1]) (by rw [tz_gsi (by omega), t1, tz_gsi (by omega)]; exact (m.1.2.2.2.2.2 (by rw [hst.2]; omega)).symm)
    have gg := mg_tr (mg_s (A := A) (i := 34) (v := tz_j 0) (show 157 ≤ 157 by omega)) gg0
    have ha := ar_hi (l := l) (H_06 (v := t) H (by omega)) hl
    generalize hs : sp_ar l 500 (tz_t S 0 6 t) 21 l = a at *
    rw [e_X12_needs_58]
    show ∃ A' D', _ = some (some (Value.int (if u = 0 then (if sp_ar l 500 (tz_t S 0 6 t) 21 l = 4294967295 then sp_nd S l k (t + 1) so (bits ||| (tz_j 1 <<< (tz_j t &&& tz_j 31))) fr else if so ≤ sp_ar l 500 (tz_t S 0 6 t) 21 l then sp_nd S l k (t + 1) so bits fr else sp_nd S l k (t + 1) (sp_ar l 500 (tz_t S 0 6 t) 21 l) bits (tz_j t)).1 else (if sp_ar l 500 (tz_t S 0 6 t) 21 l = 4294967295 then sp_nd S l k (t + 1) so (bits ||| (tz_j 1 <<< (tz_j t &&& tz_j 31))) fr else if so ≤ sp_ar l 500 (tz_t S 0 6 t) 21 l then sp_nd S l k (t + 1) so bits fr else sp_nd S l k (t + 1) (sp_ar l 500 (tz_t S 0 6 t) 21 l) bits (tz_j t)).2)), A') ∧ _
    rw [hs]
    by_cases z : a = 4294967295
    · obtain ⟨A', D', e, m', g⟩ := ih (t + 1) so (bits ||| (tz_j 1 <<< (tz_j t &&& tz_j 31))) fr _ D1 (by omega) hso m1
      rw [if_pos z]
      refine ⟨A', D', ?_, m', mg_tr gg g⟩
      simp only [tz_lit, nj_m1, nj_m2, nj_m3, nj_m4, nj_m5, nj_m6, nj_m7, ↓reduceIte, tz_bI_some, tz_bV_some, tz_bL_some, cj10, cj01, cjm0, eq_self, not_true_eq_false, not_false_eq_true, or_false, false_or, or_true, true_or, or_self, and_true, true_and, and_false, false_and, q7, n1, e1, z, nj_add]
      exact e
    · have n2 : (tz_j a = tz_j 4294967295) = False := nj_eqf z (by omega) (by omega)
      rw [if_neg z]
      by_cases y : so ≤ a
      · obtain ⟨A', D', e, m', g⟩ := ih (t + 1) so bits fr _ D1 (by omega) hso m1
        have so2 : ¬ so = 2147483647 := by omega
        rw [if_neg so2] at e ⊢
        have n3 : (tz_j a < tz_j so) = False := nj_ltf y (by omega)
        have n4 : (tz_j so = tz_j 4294967295) = False := nj_eqf (by omega) (by omega) (by omega)
        rw [if_pos y]
        refine ⟨A', D', ?_, m', mg_tr gg g⟩
        simp only [tz_lit, nj_m1, nj_m2, nj_m3, nj_m4, nj_m5, nj_m6, nj_m7, ↓reduceIte, tz_bI_some, tz_bV_some, tz_bL_some, cj10, cj01, cjm0, eq_self, not_true_eq_false, not_false_eq_true, or_false, false_or, or_true, true_or, or_self, and_true, true_and, and_false, false_and, q7, n1, e1, n2, n3, n4, nj_add]
        exact e
      · obtain ⟨A', D', e, m', g⟩ := ih (t + 1) a bits (tz_j t) _ D1 (by omega) (by omega) m1
        have a2 : ¬ a = 2147483647 := by omega
        rw [if_neg a2] at e
        rw [if_neg y]
        refine ⟨A', D', ?_, m', mg_tr gg g⟩
        by_cases so2 : so = 2147483647
        · rw [if_pos so2]
          simp only [tz_lit, nj_m1, nj_m2, nj_m3, nj_m4, nj_m5, nj_m6, nj_m7, ↓reduceIte, tz_bI_some, tz_bV_some, tz_bL_some, cj10, cj01, cjm0, eq_self, not_true_eq_false, not_false_eq_true, or_false, false_or, or_true, true_or, or_self, and_true, true_and, and_false, false_and, q7, n1, e1, n2, nj_add]
          exact e
        · rw [if_neg so2]
          have n3 : (tz_j a < tz_j so) = True := nj_ltt (by omega) (by omega)
          have n4 : (tz_j so = tz_j 4294967295) = False := nj_eqf (by omega) (by omega) (by omega)
          simp only [tz_lit, nj_m1, nj_m2, nj_m3, nj_m4, nj_m5, nj_m6, nj_m7, ↓reduceIte, tz_bI_some, tz_bV_some, tz_bL_some, cj10, cj01, cjm0, eq_self, not_true_eq_false, not_false_eq_true, or_false, false_or, or_true, true_or, or_self, and_true, true_and, and_false, false_and, q7, n1, e1, n2, n3, n4, nj_add]
          exact e
theorem nd_done {S : tz_S} {l : Nat} (hl : S 20 l = 200) : ∀ k t bits fr, sp_nd S l k t (S 21 l) bits fr = (bits, fr) ∨ S 21 l = 4294967295 := by
  have e : ∀ t, sp_ar l 500 (tz_t S 0 6 t) 21 l = S 21 l := fun t => by
    show (if tz_t S 0 6 t 20 l < 200 then sp_ar l 499 (sp_tk (tz_t S 0 6 t)) else tz_t S 0 6 t) 21 l = _
    rw [if_neg (by rw [tz_tk (by omega)]; omega), tz_tk (by omega)]
  intro k
  induction k with
  | zero => exact fun _ _ _ => Or.inl rfl
  | succ k ih =>
    intro t bits fr
    by_cases z : S 21 l = 4294967295
    · exact Or.inr z
    · left
      show (if sp_ar l 500 (tz_t S 0 6 t) 21 l = 4294967295 then sp_nd S l k (t + 1) (S 21 l) (bits ||| (tz_j 1 <<< (tz_j t &&& tz_j 31))) fr else if S 21 l ≤ sp_ar l 500 (tz_t S 0 6 t) 21 l then sp_nd S l k (t + 1) (S 21 l) bits fr else sp_nd S l k (t + 1) (sp_ar l 500 (tz_t S 0 6 t) 21 l) bits (tz_j t)) = _
      rw [e, if_neg z, if_pos (Nat.le_refl _)]
      exact (ih (t + 1) bits fr).resolve_right z

theorem p_needs (x1 x2 : Int32) : tz_twoI tz_J (f_X11_needs x1 x2) (f_X12_needs x1 x2) := by
  refine two_of (fun N S K U V A hN c ww => ?_)
  have W := ww.1.1
  have W2 := ww.1.2.1
  have h8 := W.1
  have h4 := W.2.1
  have h12 := W.2.2.1
  have cc := c.1.1
  rcases nj_three x1 (S 15 0) (by omega) with ⟨l, hl, rfl⟩ | h
  · have e1 := x_hasl1 h30 cc hl (by omega)
    have e2 := fun {D} {A} (m : MX D S K U V A) => m_hasl1 m.1.1 hl (by omega)
    rcases nj_three x2 2 (by omega) with ⟨u, hu, rfl⟩ | h2
    · have k2 := k_two1 (A := A) hu
      obtain ⟨A1, f1, g1⟩ := x_wo (K := K) (U := U) (V := V) (v := 4294967295) hN c.1 ww.1 ww.2.1 hl (by omega)
      rw [t06 ww.2.1] at f1
      have c1 := CX_th ww.2.1 ww.2.2.2.1 g1 c
      have ha := ar_hi (l := l) ww.1 hl
      have hls := W2.2.1 l hl
      have hwl := hls.2.1
      unfold sp_wh at hwl
      have hdone : S 20 l = 200 → sp_ar l 500 S 21 l = S 21 l := fun z => by
        show (if S 20 l < 200 then sp_ar l 499 (sp_tk S) else S) 21 l = _
        rw [if_neg (by omega)]
      have h3b := ww.1.2.2.2.1
      generalize hs : sp_ar l 500 S 21 l = a at *
      obtain ⟨A2, f2, g2⟩ := x_ndL (l := l) (u := u) hN ww.2.1 ww.2.2.2.1 hl hu ww.1 (S 7 0) 0 (if a = 4294967295 then 2147483647 else a) (tz_j 0) (tz_j 4294967295) A1 (Nat.zero_add _) (by split <;> omega) c1
      refine out_th (v := if u = 0 then (sp_nd S l (S 7 0) 0 (if a = 4294967295 then 2147483647 else a) (tz_j 0) (tz_j 4294967295)).1 else (sp_nd S l (S 7 0) 0 (if a = 4294967295 then 2147483647 else a) (tz_j 0) (tz_j 4294967295)).2) c ww ⟨A2, ?_, fx_tr g1 g2⟩ (fun A D m => ?_)
      · rw [e_X11_needs]
        by_cases z : a = 4294967295
        · rw [if_pos z] at f2 ⊢
          simp only [tz_lit, nj_m1, nj_m2, nj_m3, nj_m4, nj_m5, nj_m6, nj_m7, ↓reduceIte, tz_bI_some, tz_bV_some, tz_bL_some, cj10, cj01, cjm0, eq_self, not_true_eq_false, not_false_eq_true, or_false, false_or, or_true, true_or, or_self, and_true, true_and, and_false, false_and, e1, k2, f1, z, f2]
        · rw [if_neg z] at f2 ⊢
          have n2 : (tz_j a = tz_j 4294967295) = False := nj_eqf z (by omega) (by omega)
          simp only [tz_lit, nj_m1, nj_m2, nj_m3, nj_m4, nj_m5, nj_m6, nj_m7, ↓reduceIte, tz_bI_some, tz_bV_some, tz_bL_some, cj10, cj01, cjm0, eq_self, not_true_eq_false, not_false_eq_true, or_false, false_or, or_true, true_or, or_self, and_true, true_and, and_false, false_and, e1, k2, f1, n2, f2]
      · obtain ⟨C, f3, fC, gC, h34, h36⟩ := m_by hN m.1 ww.1 ww.2.1.2 hl
        rw [hs] at f3
        obtain ⟨D1, m1, gg⟩ := MX_back W ww.2.1 m fC gC h34 (by rw [h36]; exact (m.1.2.2.2.2.2 (by rw [ww.2.1.2]; omega)).symm)
        have hcl : (tz_j l).toNatClampNeg = l := nj_cl (by omega)
        have n3 : (tz_j l < tz_j 0 ∨ 12 ≤ l) = False := by
          have := nj_ix (l := l) (n := 12) (by omega) (by omega)
          rw [nj_cl (by omega)] at this
          exact this
        have q20 : tz_g C 175 l = tz_j (S 20 l) := cm_175 m1.1.1 hl
        have w2 := w_in (A := A) (u := u) (n := 1) (by omega) (by omega)
        by_cases z : S 20 l = 200
        · have e200 := hdone z
          have hb3 := hls.2.2.1 z
          have hnd := (nd_done z (S 7 0) 0 (tz_j 0) (tz_j 4294967295)).resolve_right (by omega)
          rw [if_neg (show ¬ a = 4294967295 by omega), e200, hnd]
          have n5 : (tz_j 1 = tz_j 0) = False := cj10
          refine ⟨C, D1, ?_, m1, mf_mg gg⟩
          rw [e_X12_needs]
          simp only [tz_lit, nj_m1, nj_m2, nj_m3, nj_m4, nj_m5, nj_m6, nj_m7, ↓reduceIte, tz_bI_some, tz_bV_some, tz_bL_some, cj10, cj01, cjm0, eq_self, not_true_eq_false, not_false_eq_true, or_false, false_or, or_true, true_or, or_self, and_true, true_and, and_false, false_and, e2 m, w2, f3, hcl, n3, q20, z]
          rw [e_X12_needs_58]
          rcases (show u = 0 ∨ u = 1 by omega) with rfl | rfl
          · simp only [tz_lit, nj_m1, nj_m2, nj_m3, nj_m4, nj_m5, nj_m6, nj_m7, ↓reduceIte, tz_bI_some, tz_bV_some, tz_bL_some, cj10, cj01, cjm0, eq_self, not_true_eq_false, not_false_eq_true, or_false, false_or, or_true, true_or, or_self, and_true, true_and, and_false, false_and]
            split <;> rfl
          · simp only [tz_lit, nj_m1, nj_m2, nj_m3, nj_m4, nj_m5, nj_m6, nj_m7, ↓reduceIte, tz_bI_some, tz_bV_some, tz_bL_some, cj10, cj01, cjm0, eq_self, not_true_eq_false, not_false_eq_true, or_false, false_or, or_true, true_or, or_self, and_true, true_and, and_false, false_and]
            split <;> rfl
        · have n6 : (tz_j (S 20 l) = tz_j 200) = False := nj_eqf z (by omega) (by omega)
          obtain ⟨C2, D2, f4, m2, g4⟩ := m_ndL (l := l) (u := u) hN ww.2.1 hl hu ww.1 (S 7 0) 0 (if a = 4294967295 then 2147483647 else a) (tz_j 0) (tz_j 4294967295) C D1 (Nat.zero_add _) (by split <;> omega) m1
          have hso : (if (if a = 4294967295 then 2147483647 else a) = 2147483647 then 4294967295 else (if a = 4294967295 then 2147483647 else a)) = a := by
            by_cases y : a = 4294967295
            · rw [if_pos y, if_pos rfl, y]
            · rw [if_neg y, if_neg (by omega)]
          rw [hso] at f4
          refine ⟨C2, D2, ?_, m2, mf_mg (mg_tr gg g4)⟩
          rw [e_X12_needs]
          simp only [tz_lit, nj_m1, nj_m2, nj_m3, nj_m4, nj_m5, nj_m6, nj_m7, ↓reduceIte, tz_bI_some, tz_bV_some, tz_bL_some, cj10, cj01, cjm0, eq_self, not_true_eq_false, not_false_eq_true, or_false, false_or, or_true, true_or, or_self, and_true, true_and, and_false, false_and, e2 m, w2, f3, hcl, n3, q20, n6, f4]
    · have k2 := k_two0 (A := A) h2

      refine out_ref (v := tz_j 4294967291 - tz_j 10) 5 (by omega) c ww ?_ (fun A D m => ?_)
      · rw [e_X11_needs]
        simp only [tz_lit, nj_m1, nj_m2, nj_m3, nj_m4, nj_m5, nj_m6, nj_m7, ↓reduceIte, tz_bI_some, tz_bV_some, tz_bL_some, cj10, cj01, cjm0, eq_self, not_true_eq_false, not_false_eq_true, or_false, false_or, or_true, true_or, or_self, and_true, true_and, and_false, false_and, e1, k2, x_ref1, x_ref2, x_ref3, x_ref4, x_ref5, x_ref6, x_ref7, e_X11_refuseLower]
      · rw [e_X12_needs]
        simp only [tz_lit, nj_m1, nj_m2, nj_m3, nj_m4, nj_m5, nj_m6, nj_m7, ↓reduceIte, tz_bI_some, tz_bV_some, tz_bL_some, cj10, cj01, cjm0, eq_self, not_true_eq_false, not_false_eq_true, or_false, false_or, or_true, true_or, or_self, and_true, true_and, and_false, false_and, e2 m, w_out (A := A) (n := 1) (by omega) h2, m_no1, m_no2, m_no3, m_no4, m_no5, m_no6, m_no7, e_X12_no10]

  · have e1 := x_hasl0 h30 cc h (by omega)
    have e2 := fun {D} {A} (m : MX D S K U V A) => m_hasl0 m.1.1 h (by omega)
    refine out_ref (v := tz_j 4294967291 - tz_j 10) 5 (by omega) c ww ?_ (fun A D m => ?_)
    · rw [e_X11_needs]
      simp only [tz_lit, nj_m1, nj_m2, nj_m3, nj_m4, nj_m5, nj_m6, nj_m7, ↓reduceIte, tz_bI_some, tz_bV_some, tz_bL_some, cj10, cj01, cjm0, eq_self, not_true_eq_false, not_false_eq_true, or_false, false_or, or_true, true_or, or_self, and_true, true_and, and_false, false_and, e1, x_ref1, x_ref2, x_ref3, x_ref4, x_ref5, x_ref6, x_ref7, e_X11_refuseLower]
    · rw [e_X12_needs]
      simp only [tz_lit, nj_m1, nj_m2, nj_m3, nj_m4, nj_m5, nj_m6, nj_m7, ↓reduceIte, tz_bI_some, tz_bV_some, tz_bL_some, cj10, cj01, cjm0, eq_self, not_true_eq_false, not_false_eq_true, or_false, false_or, or_true, true_or, or_self, and_true, true_and, and_false, false_and, e2 m, m_no1, m_no2, m_no3, m_no4, m_no5, m_no6, m_no7, e_X12_no10]

