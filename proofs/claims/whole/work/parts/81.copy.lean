/-! a row's element put, rows copied -/
def sh_w : Nat → Int64 → Int64
  | 0, x => Int32.toInt64 ((Int32.toInt8 (Int64.toInt32 x)).toInt32)
  | 1, x => Int32.toInt64 ((Int32.toInt16 (Int64.toInt32 x)).toInt32)
  | 2, x => Int32.toInt64 (Int64.toInt32 x)
  | _, x => x
theorem out_put {N : Nat} {S K : tz_S} {U : tz_U} {V : tz_V} {F G : tz_Mem → tz_X} {A : tz_Mem} {s i : Nat} {wv : Int64} (hs : s < 8) (hi : i < 160) (c : CX S K U V A) (ww : WX N S K U) (hF : F A = some (some (.int (tz_j 1)), tz_sl A (22 + s) i wv)) (hG : ∀ A D, MX D S K U V A → G A = some (some (.int (tz_j 1)), tz_sl A 160 (160 * s + i) wv)) : two_R N S K U V F G A := by
  refine ⟨tz_j 1, S, K, U, fun s' i' => if s' = s ∧ i' = i then wv else V s' i', ⟨_, hF, CX_sh c rfl (fun _ _ _ _ => rfl) (fun _ _ => rfl) (fun _ _ _ _ => rfl) (fun s' hs' => ⟨(c.2.2.1.1 s' hs').1, (c.2.2.1.1 s' hs').2.1, fun i' hi' => ?_⟩), rfl, fun k' i' h => ⟨rfl, if_neg (by omega)⟩, rfl⟩, WX_mo ww (by omega), fun A D m => ⟨_, D, hG A D m, MX_sh m rfl (fun _ _ _ _ => rfl) (fun _ _ _ _ => rfl) (fun s' hs' => ⟨(m.2.2.1.1 s' hs').1, (m.2.2.1.1 s' hs').2.1, fun i' hi' => ?_⟩), Nat.le_refl _, Nat.le_succ _, fun k' i' h => ⟨rfl, if_neg (by omega)⟩, fun _ _ _ => rfl⟩⟩
  · show (if 22 + s' = 22 + s ∧ i' = i then wv else tz_gl A (22 + s') i') = (if s' = s ∧ i' = i then wv else V s' i')
    by_cases e : s' = s ∧ i' = i
    · rw [if_pos e, if_pos (c := 22 + s' = 22 + s ∧ i' = i) ⟨by omega, e.2⟩]
    · rw [if_neg e, if_neg (c := 22 + s' = 22 + s ∧ i' = i) (fun q => e ⟨by omega, q.2⟩)]
      exact (c.2.2.1.1 s' hs').2.2 i' hi'
  · show (if 160 = 160 ∧ 160 * s' + i' = 160 * s + i then wv else tz_gl A 160 (160 * s' + i')) = (if s' = s ∧ i' = i then wv else V s' i')
    by_cases e : s' = s ∧ i' = i
    · rw [if_pos e, if_pos (c := 160 = 160 ∧ 160 * s' + i' = 160 * s + i) ⟨rfl, by omega⟩]
    · rw [if_neg e, if_neg (c := 160 = 160 ∧ 160 * s' + i' = 160 * s + i) (fun q => e ⟨by omega, by omega⟩)]
      exact (m.2.2.1.1 s' hs').2.2 i' hi'
theorem x_he1 {s i l t : Nat} {A : tz_Mem} (hs : s < 8) (hi : i < l) (hl : l ≤ 160) (ht : t < 4) (q : tz_g A 19 s = tz_j (100 + t)) (q1 : tz_g A 20 s = tz_j l) : f_X8_hasElement (tz_j s) (tz_j i) A = some (some (.int (tz_j 1)), A) := by
  rw [e_X8_hasElement]
  simp (disch := omega) only [tz_lit, nj_m1, ↓reduceIte, nj_cl, nj_ltt, nj_ltf, nj_let, nj_lef, nj_eqf, nj_lt, nj_le, nj_eq, nj_add, nj_mul, nj_modx, nj_and7, nj_div, tz_bI_some, tz_bV_some, or_false, false_or, or_self, and_false, false_and, and_true, true_and, not_true_eq_false, not_false_eq_true, nt_lef, nt_let, nt_ltf, nt_ltt, nt_eqf, nj_m2, nj_m3, nj_m4, nj_m5, nj_m6, nj_m7, tz_bL_some, nj_sub, ng_ltt, ng_let, ng_gtf, ng_gef, e_X8_has, e_X8_holdsRow, q, q1]
theorem x_he0 {s l t : Nat} {x : Int32} {A : tz_Mem} (hs : s < 8) (hl : l ≤ 160) (ht : t < 4) (q : tz_g A 19 s = tz_j (100 + t)) (q1 : tz_g A 20 s = tz_j l) (h : x < tz_j 0 ∨ tz_j l ≤ x) : f_X8_hasElement (tz_j s) x A = some (some (.int (tz_j 0)), A) := by
  rw [e_X8_hasElement]
  rcases h with h | h
  · simp (disch := omega) only [tz_lit, nj_m1, ↓reduceIte, nj_cl, nj_ltt, nj_ltf, nj_let, nj_lef, nj_eqf, nj_lt, nj_le, nj_eq, nj_add, nj_mul, nj_modx, nj_and7, nj_div, tz_bI_some, tz_bV_some, or_false, false_or, or_self, and_false, false_and, and_true, true_and, not_true_eq_false, not_false_eq_true, nt_lef, nt_let, nt_ltf, nt_ltt, nt_eqf, nj_m2, nj_m3, nj_m4, nj_m5, nj_m6, nj_m7, tz_bL_some, nj_sub, ng_ltt, ng_let, ng_gtf, ng_gef, e_X8_has, e_X8_holdsRow, q, q1, ob_l h]
  · simp (disch := omega) only [tz_lit, nj_m1, ↓reduceIte, nj_cl, nj_ltt, nj_ltf, nj_let, nj_lef, nj_eqf, nj_lt, nj_le, nj_eq, nj_add, nj_mul, nj_modx, nj_and7, nj_div, tz_bI_some, tz_bV_some, or_false, false_or, or_self, and_false, false_and, and_true, true_and, not_true_eq_false, not_false_eq_true, nt_lef, nt_let, nt_ltf, nt_ltt, nt_eqf, nj_m2, nj_m3, nj_m4, nj_m5, nj_m6, nj_m7, tz_bL_some, nj_sub, ng_ltt, ng_let, ng_gtf, ng_gef, e_X8_has, e_X8_holdsRow, q, q1, ob_h (show l < 2147483648 by omega) h, eq_true h]
theorem x_put {s i t : Nat} {x : Int64} {A : tz_Mem} (hs : s < 8) (hi : i < 160) (ht : t < 4) (q : tz_g A 19 s - tz_j 100 = tz_j t) : f_X8_put (tz_j s) (tz_j i) x A = some (none, tz_sl A (22 + s) i (sh_w t x)) := by
  rw [e_X8_put]
  match t, ht with
  | 0, _ => simp (disch := omega) only [tz_lit, nj_m1, ↓reduceIte, nj_cl, nj_ltt, nj_ltf, nj_let, nj_lef, nj_eqf, nj_lt, nj_le, nj_eq, nj_add, nj_mul, nj_modx, nj_and7, nj_div, tz_bI_some, tz_bV_some, or_false, false_or, or_self, and_false, false_and, and_true, true_and, not_true_eq_false, not_false_eq_true, nt_lef, nt_let, nt_ltf, nt_ltt, nt_eqf, nj_m2, nj_m3, nj_m4, nj_m5, nj_m6, nj_m7, tz_bL_some, ng_ltt, ng_let, ng_gtf, ng_gef, q, sh_w]
  | 1, _ => simp (disch := omega) only [tz_lit, nj_m1, ↓reduceIte, nj_cl, nj_ltt, nj_ltf, nj_let, nj_lef, nj_eqf, nj_lt, nj_le, nj_eq, nj_add, nj_mul, nj_modx, nj_and7, nj_div, tz_bI_some, tz_bV_some, or_false, false_or, or_self, and_false, false_and, and_true, true_and, not_true_eq_false, not_false_eq_true, nt_lef, nt_let, nt_ltf, nt_ltt, nt_eqf, nj_m2, nj_m3, nj_m4, nj_m5, nj_m6, nj_m7, tz_bL_some, ng_ltt, ng_let, ng_gtf, ng_gef, q, sh_w]
  | 2, _ => simp (disch := omega) only [tz_lit, nj_m1, ↓reduceIte, nj_cl, nj_ltt, nj_ltf, nj_let, nj_lef, nj_eqf, nj_lt, nj_le, nj_eq, nj_add, nj_mul, nj_modx, nj_and7, nj_div, tz_bI_some, tz_bV_some, or_false, false_or, or_self, and_false, false_and, and_true, true_and, not_true_eq_false, not_false_eq_true, nt_lef, nt_let, nt_ltf, nt_ltt, nt_eqf, nj_m2, nj_m3, nj_m4, nj_m5, nj_m6, nj_m7, tz_bL_some, ng_ltt, ng_let, ng_gtf, ng_gef, q, sh_w]
  | 3, _ => simp (disch := omega) only [tz_lit, nj_m1, ↓reduceIte, nj_cl, nj_ltt, nj_ltf, nj_let, nj_lef, nj_eqf, nj_lt, nj_le, nj_eq, nj_add, nj_mul, nj_modx, nj_and7, nj_div, tz_bI_some, tz_bV_some, or_false, false_or, or_self, and_false, false_and, and_true, true_and, not_true_eq_false, not_false_eq_true, nt_lef, nt_let, nt_ltf, nt_ltt, nt_eqf, nj_m2, nj_m3, nj_m4, nj_m5, nj_m6, nj_m7, tz_bL_some, ng_ltt, ng_let, ng_gtf, ng_gef, q, sh_w]
theorem m_in7 {s : Nat} {A : tz_Mem} (hs : s < 8) : f_X12_within (tz_j s) (tz_j 0) (tz_j 7) A = some (some (.int (tz_j 1)), A) := by
  rw [e_X12_within]
  simp (disch := omega) only [tz_lit, nj_m1, ↓reduceIte, nj_cl, nj_ltt, nj_ltf, nj_let, nj_lef, nj_eqf, nj_lt, nj_le, nj_eq, nj_add, nj_mul, nj_modx, nj_and7, nj_div, tz_bI_some, tz_bV_some, or_false, false_or, or_self, and_false, false_and, and_true, true_and, not_true_eq_false, not_false_eq_true, nt_lef, nt_let, nt_ltf, nt_ltt, nt_eqf, nj_m2, nj_m3, nj_m4, nj_m5, nj_m6, nj_m7, tz_bL_some, nj_sub, ng_ltt, ng_let, ng_gtf, ng_gef]
theorem m_out7 {x : Int32} {A : tz_Mem} (h : x < tz_j 0 ∨ tz_j 8 ≤ x) : f_X12_within x (tz_j 0) (tz_j 7) A = some (some (.int (tz_j 0)), A) := by
  rw [e_X12_within]
  rcases h with h | h
  · simp (disch := omega) only [tz_lit, nj_m1, ↓reduceIte, nj_cl, nj_ltt, nj_ltf, nj_let, nj_lef, nj_eqf, nj_lt, nj_le, nj_eq, nj_add, nj_mul, nj_modx, nj_and7, nj_div, tz_bI_some, tz_bV_some, or_false, false_or, or_self, and_false, false_and, and_true, true_and, not_true_eq_false, not_false_eq_true, nt_lef, nt_let, nt_ltf, nt_ltt, nt_eqf, nj_m2, nj_m3, nj_m4, nj_m5, nj_m6, nj_m7, tz_bL_some, nj_sub, ng_ltt, ng_let, ng_gtf, ng_gef, ob_l h]
  · simp (disch := omega) only [tz_lit, nj_m1, ↓reduceIte, nj_cl, nj_ltt, nj_ltf, nj_let, nj_lef, nj_eqf, nj_lt, nj_le, nj_eq, nj_add, nj_mul, nj_modx, nj_and7, nj_div, tz_bI_some, tz_bV_some, or_false, false_or, or_self, and_false, false_and, and_true, true_and, not_true_eq_false, not_false_eq_true, nt_lef, nt_let, nt_ltf, nt_ltt, nt_eqf, nj_m2, nj_m3, nj_m4, nj_m5, nj_m6, nj_m7, tz_bL_some, nj_sub, ng_ltt, ng_let, ng_gtf, ng_gef, ob_h (show 8 < 2147483648 by omega) h]
theorem hu_s : ∀ t, t < 4 → tz_j (100 + t) - tz_j 100 = tz_j t := by decide +kernel
theorem p_set (x1 x2 : Int32) (x3 : Int64) : tz_twoI tz_J (f_X11_set x1 x2 x3) (f_X12_set x1 x2 x3) := by
  refine two_of (fun N S K U V A hN c ww => ?_)
  have W := ww.1.1
  have h8 := W.1
  rcases nj_three x1 8 (by omega) with ⟨s, hs, rfl⟩ | h
  · obtain ⟨hu, l, hl, hl1⟩ := lg_rw ww.2.2.2.2 hs
    obtain ⟨q, q1, q2⟩ := c.2.2.1.1 s hs
    rw [hl1] at q1
    have a0 := x_ror c hs
    rcases hu with z | ⟨h, hh, z⟩ | ⟨t, ht, z⟩
    · have a1 := a0.1 z
      refine out_ref (v := tz_j 4294967293) 3 (by omega) c ww ?_ (fun A D m => ?_)
      · rw [e_X11_set]
        simp (disch := omega) only [tz_lit, nj_m1, nj_m2, nj_m3, nj_m4, nj_m5, nj_m6, nj_m7, ↓reduceIte, tz_bI_some, tz_bV_some, tz_bL_some, cj10, cj01, cjm0, eq_self, not_true_eq_false, not_false_eq_true, or_false, false_or, or_true, true_or, or_self, and_true, true_and, and_false, false_and, nj_eqf, nj_ltt, nj_ltf, nj_let, nj_lef, nj_cl, nt_lef, ng_ltt, ng_let, ng_gtf, ng_gef, a1, x_ref1, x_ref2, x_ref3, x_ref4, x_ref5, x_ref6, x_ref7, e_X11_refuseLower]
      · have b1 := (m_ror m hs).1 z
        rw [e_X12_set]
        simp (disch := omega) only [tz_lit, nj_m1, nj_m2, nj_m3, nj_m4, nj_m5, nj_m6, nj_m7, ↓reduceIte, tz_bI_some, tz_bV_some, tz_bL_some, cj10, cj01, cjm0, eq_self, not_true_eq_false, not_false_eq_true, or_false, false_or, or_true, true_or, or_self, and_true, true_and, and_false, false_and, nj_eqf, nj_ltt, nj_ltf, nj_let, nj_lef, nj_cl, nt_lef, ng_ltt, ng_let, ng_gtf, ng_gef, b1, m_no1, m_no2, m_no3, m_no4, m_no5, m_no6, m_no7, e_X12_no10]
    · have a1 := a0.2.1 h (by omega) z
      refine out_ref (v := tz_j 4294967294) 2 (by omega) c ww ?_ (fun A D m => ?_)
      · rw [e_X11_set]
        simp (disch := omega) only [tz_lit, nj_m1, nj_m2, nj_m3, nj_m4, nj_m5, nj_m6, nj_m7, ↓reduceIte, tz_bI_some, tz_bV_some, tz_bL_some, cj10, cj01, cjm0, eq_self, not_true_eq_false, not_false_eq_true, or_false, false_or, or_true, true_or, or_self, and_true, true_and, and_false, false_and, nj_eqf, nj_ltt, nj_ltf, nj_let, nj_lef, nj_cl, nt_lef, ng_ltt, ng_let, ng_gtf, ng_gef, a1, x_ref1, x_ref2, x_ref3, x_ref4, x_ref5, x_ref6, x_ref7, e_X11_refuseLower]
      · have b1 := (m_ror m hs).2.1 h (by omega) z
        rw [e_X12_set]
        simp (disch := omega) only [tz_lit, nj_m1, nj_m2, nj_m3, nj_m4, nj_m5, nj_m6, nj_m7, ↓reduceIte, tz_bI_some, tz_bV_some, tz_bL_some, cj10, cj01, cjm0, eq_self, not_true_eq_false, not_false_eq_true, or_false, false_or, or_true, true_or, or_self, and_true, true_and, and_false, false_and, nj_eqf, nj_ltt, nj_ltf, nj_let, nj_lef, nj_cl, nt_lef, ng_ltt, ng_let, ng_gtf, ng_gef, b1, m_no1, m_no2, m_no3, m_no4, m_no5, m_no6, m_no7, e_X12_no10]
    · have a1 := a0.2.2 t ht z
      rw [z] at q
      rcases nj_three x2 l (by omega) with ⟨i, hi, rfl⟩ | h2
      · have q3 := q
        have a2 := x_he1 hs hi hl ht q q1
        have a3 := x_put (x := x3) hs (show i < 160 by omega) ht (show tz_g A 19 s - tz_j 100 = tz_j t by rw [q, hu_s t ht])
        refine out_put (wv := sh_w t x3) hs (show i < 160 by omega) c ww ?_ (fun A D m => ?_)
        · rw [e_X11_set]
          simp only [tz_lit, nj_m1, nj_m2, nj_m3, nj_m4, nj_m5, nj_m6, nj_m7, ↓reduceIte, tz_bI_some, tz_bV_some, tz_bL_some, cj10, cj01, cjm0, eq_self, not_true_eq_false, not_false_eq_true, or_false, false_or, or_true, true_or, or_self, and_true, true_and, and_false, false_and, a1, a2, a3]
        · have b1 := (m_ror m hs).2.2 t ht z
          obtain ⟨p, p1, p2⟩ := m.2.2.1.1 s hs
          rw [z] at p
          rw [hl1] at p1
          have p3 : tz_g A 158 s - tz_j 100 = tz_j t := by rw [p, hu_s t ht]
          have e3 := wi_i (A := A) (show l ≤ 1000 by omega) hi
          rw [e_X12_set]
          match t, ht, p3 with
          | 0, _, p3 => simp (disch := omega) only [tz_lit, nj_m1, ↓reduceIte, nj_cl, nj_ltt, nj_ltf, nj_let, nj_lef, nj_eqf, nj_lt, nj_le, nj_eq, nj_add, nj_mul, nj_modx, nj_and7, nj_div, tz_bI_some, tz_bV_some, or_false, false_or, or_self, and_false, false_and, and_true, true_and, not_true_eq_false, not_false_eq_true, nt_lef, nt_let, nt_ltf, nt_ltt, nt_eqf, nj_m2, nj_m3, nj_m4, nj_m5, nj_m6, nj_m7, tz_bL_some, ng_ltt, ng_let, ng_gtf, ng_gef, b1, e3, p1, p3, sh_w]
          | 1, _, p3 => simp (disch := omega) only [tz_lit, nj_m1, ↓reduceIte, nj_cl, nj_ltt, nj_ltf, nj_let, nj_lef, nj_eqf, nj_lt, nj_le, nj_eq, nj_add, nj_mul, nj_modx, nj_and7, nj_div, tz_bI_some, tz_bV_some, or_false, false_or, or_self, and_false, false_and, and_true, true_and, not_true_eq_false, not_false_eq_true, nt_lef, nt_let, nt_ltf, nt_ltt, nt_eqf, nj_m2, nj_m3, nj_m4, nj_m5, nj_m6, nj_m7, tz_bL_some, ng_ltt, ng_let, ng_gtf, ng_gef, b1, e3, p1, p3, sh_w]
          | 2, _, p3 => simp (disch := omega) only [tz_lit, nj_m1, ↓reduceIte, nj_cl, nj_ltt, nj_ltf, nj_let, nj_lef, nj_eqf, nj_lt, nj_le, nj_eq, nj_add, nj_mul, nj_modx, nj_and7, nj_div, tz_bI_some, tz_bV_some, or_false, false_or, or_self, and_false, false_and, and_true, true_and, not_true_eq_false, not_false_eq_true, nt_lef, nt_let, nt_ltf, nt_ltt, nt_eqf, nj_m2, nj_m3, nj_m4, nj_m5, nj_m6, nj_m7, tz_bL_some, ng_ltt, ng_let, ng_gtf, ng_gef, b1, e3, p1, p3, sh_w]
          | 3, _, p3 => simp (disch := omega) only [tz_lit, nj_m1, ↓reduceIte, nj_cl, nj_ltt, nj_ltf, nj_let, nj_lef, nj_eqf, nj_lt, nj_le, nj_eq, nj_add, nj_mul, nj_modx, nj_and7, nj_div, tz_bI_some, tz_bV_some, or_false, false_or, or_self, and_false, false_and, and_true, true_and, not_true_eq_false, not_false_eq_true, nt_lef, nt_let, nt_ltf, nt_ltt, nt_eqf, nj_m2, nj_m3, nj_m4, nj_m5, nj_m6, nj_m7, tz_bL_some, ng_ltt, ng_let, ng_gtf, ng_gef, b1, e3, p1, p3, sh_w]
      · have a2 := x_he0 hs hl ht q q1 h2
        refine out_ref (v := tz_j 4294967291) 5 (by omega) c ww ?_ (fun A D m => ?_)
        · rw [e_X11_set]
          simp (disch := omega) only [tz_lit, nj_m1, nj_m2, nj_m3, nj_m4, nj_m5, nj_m6, nj_m7, ↓reduceIte, tz_bI_some, tz_bV_some, tz_bL_some, cj10, cj01, cjm0, eq_self, not_true_eq_false, not_false_eq_true, or_false, false_or, or_true, true_or, or_self, and_true, true_and, and_false, false_and, nj_eqf, nj_ltt, nj_ltf, nj_let, nj_lef, nj_cl, nt_lef, ng_ltt, ng_let, ng_gtf, ng_gef, a1, a2, x_ref1, x_ref2, x_ref3, x_ref4, x_ref5, x_ref6, x_ref7, e_X11_refuseLower]
        · have b1 := (m_ror m hs).2.2 t ht z
          obtain ⟨p, p1, p2⟩ := m.2.2.1.1 s hs
          rw [hl1] at p1
          have e3 := wi_o (A := A) (show l ≤ 1000 by omega) h2
          have n3 : (tz_j s < tz_j 0 ∨ 8 ≤ s) = False := by
            have := nj_ix (l := s) (n := 8) (by omega) (by omega)
            rw [nj_cl (by omega)] at this
            exact this
          have hcl : (tz_j s).toNatClampNeg = s := nj_cl (by omega)
          rw [e_X12_set]
          simp only [tz_lit, nj_m1, nj_m2, nj_m3, nj_m4, nj_m5, nj_m6, nj_m7, ↓reduceIte, tz_bI_some, tz_bV_some, tz_bL_some, cj10, cj01, cjm0, eq_self, not_true_eq_false, not_false_eq_true, or_false, false_or, or_true, true_or, or_self, and_true, true_and, and_false, false_and, b1, e3, p1, hcl, n3, nj_let (show 0 ≤ 0 by omega) (show 0 < 2147483648 by omega), m_no1, m_no2, m_no3, m_no4, m_no5, m_no6, m_no7, e_X12_no10]
  · refine out_ref (v := tz_j 4294967295) 1 (by omega) c ww ?_ (fun A D m => ?_)
    · rw [e_X11_set]
      simp (disch := omega) only [tz_lit, nj_m1, nj_m2, nj_m3, nj_m4, nj_m5, nj_m6, nj_m7, ↓reduceIte, tz_bI_some, tz_bV_some, tz_bL_some, cj10, cj01, cjm0, eq_self, not_true_eq_false, not_false_eq_true, or_false, false_or, or_true, true_or, or_self, and_true, true_and, and_false, false_and, nj_eqf, nj_ltt, nj_ltf, nj_let, nj_lef, nj_cl, nt_lef, ng_ltt, ng_let, ng_gtf, ng_gef, x_roro h, x_ref1, x_ref2, x_ref3, x_ref4, x_ref5, x_ref6, x_ref7, e_X11_refuseLower]
    · rw [e_X12_set]
      simp (disch := omega) only [tz_lit, nj_m1, nj_m2, nj_m3, nj_m4, nj_m5, nj_m6, nj_m7, ↓reduceIte, tz_bI_some, tz_bV_some, tz_bL_some, cj10, cj01, cjm0, eq_self, not_true_eq_false, not_false_eq_true, or_false, false_or, or_true, true_or, or_self, and_true, true_and, and_false, false_and, nj_eqf, nj_ltt, nj_ltf, nj_let, nj_lef, nj_cl, nt_lef, ng_ltt, ng_let, ng_gtf, ng_gef, m_roro h, m_no1, m_no2, m_no3, m_no4, m_no5, m_no6, m_no7, e_X12_no10]
theorem lc_gt (x n : Int32) {l : Nat} (hl : l < 2147483648) : (tz_j 0 < lg_cmp (x.toInt64 + n.toInt64) (tz_j l).toInt64) = ((l : Int) < x.toInt + n.toInt) := by
  have h := lg_cmp_gt (x.toInt64 + n.toInt64) (tz_j l).toInt64
  have h1 := x.toInt_lt
  have h2 := x.le_toInt
  have h3 := n.toInt_lt
  have h4 := n.le_toInt
  have e : (x.toInt + n.toInt).bmod (2 ^ 64) = x.toInt + n.toInt := by
    first
      | exact Int.bmod_eq_of_le (by omega) (by omega)
      | (unfold Int.bmod; simp only []; split <;> omega)
  rw [Int64.lt_iff_toInt_lt, Int64.toInt_add, Int32.toInt_toInt64, Int32.toInt_toInt64, Int32.toInt_toInt64, nj_i hl, e] at h
  exact propext h
theorem x_hes1 {s l : Nat} {x n : Int32} {A : tz_Mem} (hs : s < 8) (q1 : tz_g A 20 s = tz_j l) (h0 : (x < tz_j 0) = False) (h1 : (tz_j 0 < lg_cmp (x.toInt64 + n.toInt64) (tz_j l).toInt64) = False) : f_X8_hasElements (tz_j s) x n A = some (some (.int (tz_j 1)), A) := by
  rw [e_X8_hasElements]
  simp (disch := omega) only [tz_lit, nj_m1, nj_m2, nj_m3, nj_m4, nj_m5, nj_m6, nj_m7, ↓reduceIte, tz_bI_some, tz_bV_some, tz_bL_some, cj10, cj01, cjm0, eq_self, not_true_eq_false, not_false_eq_true, or_false, false_or, or_true, true_or, or_self, and_true, true_and, and_false, false_and, nj_eqf, nj_ltt, nj_ltf, nj_let, nj_lef, nj_cl, nt_lef, ng_ltt, ng_let, ng_gtf, ng_gef, q1, h0, h1]
theorem x_hes0 {s l : Nat} {x n : Int32} {A : tz_Mem} (hs : s < 8) (q1 : tz_g A 20 s = tz_j l) (h : (x < tz_j 0) = True ∨ ((x < tz_j 0) = False ∧ (tz_j 0 < lg_cmp (x.toInt64 + n.toInt64) (tz_j l).toInt64) = True)) : f_X8_hasElements (tz_j s) x n A = some (some (.int (tz_j 0)), A) := by
  rw [e_X8_hasElements]
  rcases h with h0 | ⟨h0, h1⟩
  · simp (disch := omega) only [tz_lit, nj_m1, nj_m2, nj_m3, nj_m4, nj_m5, nj_m6, nj_m7, ↓reduceIte, tz_bI_some, tz_bV_some, tz_bL_some, cj10, cj01, cjm0, eq_self, not_true_eq_false, not_false_eq_true, or_false, false_or, or_true, true_or, or_self, and_true, true_and, and_false, false_and, nj_eqf, nj_ltt, nj_ltf, nj_let, nj_lef, nj_cl, nt_lef, ng_ltt, ng_let, ng_gtf, ng_gef, h0]
  · simp (disch := omega) only [tz_lit, nj_m1, nj_m2, nj_m3, nj_m4, nj_m5, nj_m6, nj_m7, ↓reduceIte, tz_bI_some, tz_bV_some, tz_bL_some, cj10, cj01, cjm0, eq_self, not_true_eq_false, not_false_eq_true, or_false, false_or, or_true, true_or, or_self, and_true, true_and, and_false, false_and, nj_eqf, nj_ltt, nj_ltf, nj_let, nj_lef, nj_cl, nt_lef, ng_ltt, ng_let, ng_gtf, ng_gef, q1, h0, h1]
theorem m_cpf {s1 s2 i1 i2 n : Nat} (hs1 : s1 < 8) (hs2 : s2 < 8) (h1 : i1 + n ≤ 160) (h2 : i2 + n ≤ 160) (hne : ∀ j m, m < j → j < n → 160 * s1 + i1 + j ≠ 160 * s2 + i2 + m) : ∀ k m A, m + k = n → ∃ A', q_X12_copy_251 (tz_j s1) (tz_j s2) (tz_j i1) (tz_j i2) (tz_j n) (tz_j m) A = some (some (.int (tz_j 1)), A') ∧ fl 160 (160 * s2 + i2 + m) (160 * s2 + i2 + n) A A' ∧ ∀ j, m ≤ j → j < n → tz_gl A' 160 (160 * s2 + i2 + j) = tz_gl A 160 (160 * s1 + i1 + j) := by
  intro k
  induction k with
  | zero =>
    intro m A hm
    refine ⟨A, ?_, ⟨rfl, rfl, rfl, fun _ _ _ => rfl⟩, fun j h3 h4 => by omega⟩
    rw [e_X12_copy_251]
    simp (disch := omega) only [tz_lit, nj_m1, ↓reduceIte, nj_cl, nj_ltt, nj_ltf, nj_let, nj_lef, nj_eqf, nj_lt, nj_le, nj_eq, nj_add, nj_mul, nj_modx, nj_and7, nj_div, tz_bI_some, tz_bV_some, or_false, false_or, or_self, and_false, false_and, and_true, true_and, not_true_eq_false, not_false_eq_true, nt_lef, nt_let, nt_ltf, nt_ltt, nt_eqf, nj_m2, nj_m3, nj_m4, nj_m5, nj_m6, nj_m7, tz_bL_some, nj_sub, ng_ltt, ng_let, ng_gtf, ng_gef]
  | succ k ih =>
    intro m A hm
    obtain ⟨A', f, fr, g⟩ := ih (m + 1) (tz_sl A 160 (160 * s2 + i2 + m) (tz_gl A 160 (160 * s1 + i1 + m))) (by omega)
    refine ⟨A', ?_, ⟨fr.1, fr.2.1, fr.2.2.1, fun k' i' hk => ?_⟩, fun j h3 h4 => ?_⟩
    · rw [e_X12_copy_251]
      simp (disch := omega) only [tz_lit, nj_m1, ↓reduceIte, nj_cl, nj_ltt, nj_ltf, nj_let, nj_lef, nj_eqf, nj_lt, nj_le, nj_eq, nj_add, nj_mul, nj_modx, nj_and7, nj_div, tz_bI_some, tz_bV_some, or_false, false_or, or_self, and_false, false_and, and_true, true_and, not_true_eq_false, not_false_eq_true, nt_lef, nt_let, nt_ltf, nt_ltt, nt_eqf, nj_m2, nj_m3, nj_m4, nj_m5, nj_m6, nj_m7, tz_bL_some, nj_sub, ng_ltt, ng_let, ng_gtf, ng_gef, f]
    · rw [fr.2.2.2 k' i' (by omega), tz_glsl, if_neg (by omega)]
    · by_cases e : j = m
      · subst e
        rw [fr.2.2.2 160 _ (by omega), tz_glsl, if_pos ⟨rfl, rfl⟩]
      · rw [g j (by omega) h4, tz_glsl, if_neg (fun q => hne j m (by omega) h4 q.2)]
theorem nj_p1 (x : Int32) : x - tz_j 1 = x + tz_j 4294967295 := by
  rw [Int32.sub_eq_add_neg]
  rfl
theorem m_cpb {s1 s2 i1 i2 n : Nat} (hs1 : s1 < 8) (hs2 : s2 < 8) (h1 : i1 + n ≤ 160) (h2 : i2 + n ≤ 160) (hne : ∀ j m, j < m → m < n → 160 * s1 + i1 + j ≠ 160 * s2 + i2 + m) : ∀ k A, k ≤ n → ∃ A', q_X12_copy_203 (tz_j s1) (tz_j s2) (tz_j i1) (tz_j i2) (tz_j k + tz_j 4294967295) A = some (some (.int (tz_j 1)), A') ∧ fl 160 (160 * s2 + i2) (160 * s2 + i2 + k) A A' ∧ ∀ j, j < k → tz_gl A' 160 (160 * s2 + i2 + j) = tz_gl A 160 (160 * s1 + i1 + j) := by
  intro k
  induction k with
  | zero =>
    intro A hm
    refine ⟨A, ?_, ⟨rfl, rfl, rfl, fun _ _ _ => rfl⟩, fun j h4 => by omega⟩
    have e : (tz_j 0 + tz_j 4294967295 < tz_j 0) = True := eq_true (by decide)
    rw [e_X12_copy_203]
    simp only [tz_lit, nj_m1, e, ↓reduceIte]
  | succ k ih =>
    intro A hm
    obtain ⟨A', f, fr, g⟩ := ih (tz_sl A 160 (160 * s2 + i2 + k) (tz_gl A 160 (160 * s1 + i1 + k))) (by omega)
    have e0 : tz_j (k + 1) + tz_j 4294967295 = tz_j k := nj_dec (by omega)
    refine ⟨A', ?_, ⟨fr.1, fr.2.1, fr.2.2.1, fun k' i' hk => ?_⟩, fun j h4 => ?_⟩
    · rw [e0, e_X12_copy_203]
      have a1 : tz_j 160 * tz_j s1 + tz_j i1 + tz_j k = tz_j (160 * s1 + i1 + k) := by
        rw [nj_mul, nj_add, nj_add]
      have a2 : tz_j 160 * tz_j s2 + tz_j i2 + tz_j k = tz_j (160 * s2 + i2 + k) := by
        rw [nj_mul, nj_add, nj_add]
      have n0 : (tz_j k < tz_j 0) = False := nj_ltf (by omega) (by omega)
      have n1 : (tz_j (160 * s1 + i1 + k) < tz_j 0) = False := nj_ltf (by omega) (by omega)
      have n2 : (tz_j (160 * s2 + i2 + k) < tz_j 0) = False := nj_ltf (by omega) (by omega)
      have n3 : (1280 ≤ 160 * s1 + i1 + k) = False := eq_false (by omega)
      have n4 : (1280 ≤ 160 * s2 + i2 + k) = False := eq_false (by omega)
      have c1 : (tz_j (160 * s1 + i1 + k)).toNatClampNeg = 160 * s1 + i1 + k := nj_cl (by omega)
      have c2 : (tz_j (160 * s2 + i2 + k)).toNatClampNeg = 160 * s2 + i2 + k := nj_cl (by omega)
      simp only [tz_lit, nj_m1, nj_m2, nj_m3, nj_m4, nj_m5, nj_m6, nj_m7, ↓reduceIte, tz_bI_some, tz_bV_some, tz_bL_some, cj10, cj01, cjm0, eq_self, not_true_eq_false, not_false_eq_true, or_false, false_or, or_true, true_or, or_self, and_true, true_and, and_false, false_and, a1, a2, n0, n1, n2, c1, c2, n3, n4, f]
    · rw [fr.2.2.2 k' i' (by omega), tz_glsl, if_neg (by omega)]
    · by_cases e : j = k
      · subst e
        rw [fr.2.2.2 160 _ (by omega), tz_glsl, if_pos ⟨rfl, rfl⟩]
      · rw [g j (by omega), tz_glsl, if_neg (fun q => hne j k (by omega) (by omega) q.2)]
theorem out_copy {N : Nat} {S K : tz_S} {U : tz_U} {V : tz_V} {F G : tz_Mem → tz_X} {A : tz_Mem} {s1 s2 i1 i2 n : Nat} (hs1 : s1 < 8) (hs2 : s2 < 8) (h1 : i1 + n ≤ 160) (h2 : i2 + n ≤ 160) (c : CX S K U V A) (ww : WX N S K U) (hF : F A = some (some (.int (tz_j 1)), tz_cpl A (22 + s1) i1 (22 + s2) i2 n)) (hG : ∀ A D, MX D S K U V A → ∃ A2, G A = some (some (.int (tz_j 1)), A2) ∧ fl 160 (160 * s2 + i2) (160 * s2 + i2 + n) A A2 ∧ ∀ j, j < n → tz_gl A2 160 (160 * s2 + i2 + j) = tz_gl A 160 (160 * s1 + i1 + j)) : two_R N S K U V F G A := by
  refine ⟨tz_j 1, S, K, U, fun s' i' => if s' = s2 ∧ (i2 ≤ i' ∧ i' < i2 + n) then V s1 (i1 + (i' - i2)) else V s' i', ⟨_, hF, CX_sh c rfl (fun _ _ _ _ => rfl) (fun _ _ => rfl) (fun _ _ _ _ => rfl) (fun s' hs' => ⟨(c.2.2.1.1 s' hs').1, (c.2.2.1.1 s' hs').2.1, fun i' hi' => ?_⟩), rfl, fun k' i' h => ⟨rfl, if_neg (by omega)⟩, rfl⟩, WX_mo ww (by omega), fun A D m => ?_⟩
  · show (if 22 + s' = 22 + s2 ∧ (i2 ≤ i' ∧ i' < i2 + n) then tz_gl A (22 + s1) (i1 + (i' - i2)) else tz_gl A (22 + s') i') = (if s' = s2 ∧ (i2 ≤ i' ∧ i' < i2 + n) then V s1 (i1 + (i' - i2)) else V s' i')
    by_cases e : s' = s2 ∧ (i2 ≤ i' ∧ i' < i2 + n)
    · rw [if_pos e, if_pos (c := 22 + s' = 22 + s2 ∧ (i2 ≤ i' ∧ i' < i2 + n)) ⟨by omega, e.2⟩]
      exact (c.2.2.1.1 s1 hs1).2.2 _ (by omega)
    · rw [if_neg e, if_neg (c := 22 + s' = 22 + s2 ∧ (i2 ≤ i' ∧ i' < i2 + n)) (fun q => e ⟨by omega, q.2⟩)]
      exact (c.2.2.1.1 s' hs').2.2 i' hi'
  · obtain ⟨A2, f, fr, g⟩ := hG A D m
    have eg : ∀ k i, tz_g A2 k i = tz_g A k i := fun k i => fl_g fr
    refine ⟨A2, D, f, MX_sh m fr.1 (fun k i _ _ => eg k i) (fun _ _ _ _ => rfl) (fun s' hs' => ⟨(eg 158 s').trans (m.2.2.1.1 s' hs').1, (eg 159 s').trans (m.2.2.1.1 s' hs').2.1, fun i' hi' => ?_⟩), Nat.le_of_eq fr.1.symm, by rw [fr.1]; exact Nat.le_succ _, fun k' i' h => ⟨eg k' i', fr.2.2.2 k' i' (by omega)⟩, fun k i _ => fl_gr fr⟩
    show _ = (if s' = s2 ∧ (i2 ≤ i' ∧ i' < i2 + n) then V s1 (i1 + (i' - i2)) else V s' i')
    by_cases e : s' = s2 ∧ (i2 ≤ i' ∧ i' < i2 + n)
    · rw [if_pos e]
      have g2 := g (i' - i2) (by omega)
      have e1 : 160 * s2 + i2 + (i' - i2) = 160 * s' + i' := by omega
      rw [e1] at g2
      rw [g2, show 160 * s1 + i1 + (i' - i2) = 160 * s1 + (i1 + (i' - i2)) by omega]
      exact (m.2.2.1.1 s1 hs1).2.2 _ (by omega)
    · rw [if_neg e, fr.2.2.2 160 _ (by omega)]
      exact (m.2.2.1.1 s' hs').2.2 i' hi'
theorem m_isRow1 {s t : Nat} {A : tz_Mem} (hs : s < 8) (ht : t < 4) (p : tz_g A 158 s = tz_j (100 + t)) : f_X12_isRow (tz_j s) A = some (some (.int (tz_j 1)), A) := by
  rw [e_X12_isRow]
  simp (disch := omega) only [tz_lit, nj_m1, ↓reduceIte, nj_cl, nj_ltt, nj_ltf, nj_let, nj_lef, nj_eqf, nj_lt, nj_le, nj_eq, nj_add, nj_mul, nj_modx, nj_and7, nj_div, tz_bI_some, tz_bV_some, or_false, false_or, or_self, and_false, false_and, and_true, true_and, not_true_eq_false, not_false_eq_true, nt_lef, nt_let, nt_ltf, nt_ltt, nt_eqf, nj_m2, nj_m3, nj_m4, nj_m5, nj_m6, nj_m7, tz_bL_some, nj_sub, ng_ltt, ng_let, ng_gtf, ng_gef, p, m_in7 (A := A) hs]
theorem m_isRow0 {s : Nat} {A : tz_Mem} (hs : s < 8) (p : tz_g A 158 s = tz_j 4294967295 ∨ ∃ h, h < 8 ∧ tz_g A 158 s = tz_j h) : f_X12_isRow (tz_j s) A = some (some (.int (tz_j 0)), A) := by
  rw [e_X12_isRow]
  rcases p with p | ⟨h, hh, p⟩
  · simp (disch := omega) only [tz_lit, nj_m1, ↓reduceIte, nj_cl, nj_ltt, nj_ltf, nj_let, nj_lef, nj_eqf, nj_lt, nj_le, nj_eq, nj_add, nj_mul, nj_modx, nj_and7, nj_div, tz_bI_some, tz_bV_some, or_false, false_or, or_self, and_false, false_and, and_true, true_and, not_true_eq_false, not_false_eq_true, nt_lef, nt_let, nt_ltf, nt_ltt, nt_eqf, nj_m2, nj_m3, nj_m4, nj_m5, nj_m6, nj_m7, tz_bL_some, nj_sub, ng_ltt, ng_let, ng_gtf, ng_gef, p, m_in7 (A := A) hs]
  · simp (disch := omega) only [tz_lit, nj_m1, ↓reduceIte, nj_cl, nj_ltt, nj_ltf, nj_let, nj_lef, nj_eqf, nj_lt, nj_le, nj_eq, nj_add, nj_mul, nj_modx, nj_and7, nj_div, tz_bI_some, tz_bV_some, or_false, false_or, or_self, and_false, false_and, and_true, true_and, not_true_eq_false, not_false_eq_true, nt_lef, nt_let, nt_ltf, nt_ltt, nt_eqf, nj_m2, nj_m3, nj_m4, nj_m5, nj_m6, nj_m7, tz_bL_some, nj_sub, ng_ltt, ng_let, ng_gtf, ng_gef, p, m_in7 (A := A) hs]
theorem bI_pre {o : Option tz_RR} {x : Int32} {A : tz_Mem} (h : o = some (some (.int x), A)) (f : Int32 → tz_Mem → Option tz_RR) : tz_bI o f = f x A := by
  rw [h]
  rfl
theorem bV_pre {o : Option tz_RR} {A : tz_Mem} (h : o = some (none, A)) (f : tz_Mem → Option tz_RR) : tz_bV o f = f A := by
  rw [h]
  rfl
theorem nj_ix8 {s n : Nat} (hs : s < n) (hn : n ≤ 2000000) : (tz_j s < tz_j 0 ∨ n ≤ s) = False := by
  have := nj_ix (l := s) (n := n) hs (by omega)
  rw [nj_cl (by omega)] at this
  exact this
theorem nj_sg (x : Int32) : ((x < tz_j 0) = True ∧ (tz_j 0 ≤ x) = False) ∨ ((x < tz_j 0) = False ∧ (tz_j 0 ≤ x) = True) := by
  by_cases h : x < tz_j 0
  · exact Or.inl ⟨eq_true h, eq_false (by rw [i32_le]; exact fun q => q h)⟩
  · exact Or.inr ⟨eq_false h, eq_true (by rw [i32_le]; exact h)⟩
theorem pr_tf (p : Prop) : p = True ∨ p = False := by
  by_cases h : p
  · exact Or.inl (eq_true h)
  · exact Or.inr (eq_false h)
theorem p_copy (x1 x2 x3 x4 x5 : Int32) : tz_twoI tz_J (f_X11_copy x1 x2 x3 x4 x5) (f_X12_copy x1 x2 x3 x4 x5) := by
  refine two_of (fun N S K U V A hN c ww => ?_)
  have W := ww.1.1
  have h8 := W.1
  rcases nj_three x1 8 (by omega) with ⟨s1, hs1, rfl⟩ | h
  · have k1 : (tz_j s1).toNatClampNeg = s1 := nj_cl (by omega)
    have k2 := nj_ix8 hs1 (by omega)
    have w1 := fun A => m_in7 (A := A) hs1
    have a0 := x_ror c hs1
    rcases nj_three x2 8 (by omega) with ⟨s2, hs2, rfl⟩ | h
    · have k3 : (tz_j s2).toNatClampNeg = s2 := nj_cl (by omega)
      have k4 := nj_ix8 hs2 (by omega)
      have w2 := fun A => m_in7 (A := A) hs2
      have d0 := x_ror c hs2
      obtain ⟨hu1, l1, hl1, hL1⟩ := lg_rw ww.2.2.2.2 hs1
      obtain ⟨hu2, l2, hl2, hL2⟩ := lg_rw ww.2.2.2.2 hs2
      obtain ⟨q1, q2, q3⟩ := c.2.2.1.1 s1 hs1
      obtain ⟨o1, o2, o3⟩ := c.2.2.1.1 s2 hs2
      rw [hL1] at q2
      rw [hL2] at o2
      rcases hu1 with z | ⟨h1, hh1, z⟩ | ⟨t1, ht1, z⟩
      · have a1 := a0.1 z
        rcases hu2 with y | ⟨h2, hh2, y⟩ | ⟨t2, ht2, y⟩
        · have d1 := d0.1 y
          refine out_ref (v := tz_j 4294967293) 3 (by omega) c ww ?_ (fun A D m => ?_)
          · rw [e_X11_copy]
            simp (disch := omega) only [tz_lit, nj_m1, nj_m2, nj_m3, nj_m4, nj_m5, nj_m6, nj_m7, ↓reduceIte, tz_bI_some, tz_bV_some, tz_bL_some, cj10, cj01, cjm0, eq_self, not_true_eq_false, not_false_eq_true, or_false, false_or, or_true, true_or, or_self, and_true, true_and, and_false, false_and, nj_eqf, nj_ltt, nj_ltf, nj_let, nj_lef, nj_cl, nt_lef, ng_ltt, ng_let, ng_gtf, ng_gef, a1, d1, k1, k2, k3, k4, q1, o1, z, y, e_X8_refusalOfRows, x_ref1, x_ref2, x_ref3, x_ref4, x_ref5, x_ref6, x_ref7, e_X11_refuseLower]
          · have p1 := (m.2.2.1.1 s1 hs1).1
            have r1 := m_isRow0 hs1 (Or.inl (p1.trans z))
            rw [z] at p1
            have p2 := (m.2.2.1.1 s2 hs2).1
            have r2 := m_isRow0 hs2 (Or.inl (p2.trans y))
            rw [y] at p2
            have v1 : ∀ f, tz_bI (f_X12_within (tz_j s1) 0 7 A) f = f (tz_j 1) A := bI_pre (m_in7 hs1)
            have v2 : ∀ f, tz_bI (f_X12_within (tz_j s2) 0 7 A) f = f (tz_j 1) A := bI_pre (m_in7 hs2)
            have v3 := bI_pre r1
            have v4 := bI_pre r2
            rw [e_X12_copy]
            simp (disch := omega) only [tz_lit, nj_m1, nj_m2, nj_m3, nj_m4, nj_m5, nj_m6, nj_m7, ↓reduceIte, tz_bI_some, tz_bV_some, tz_bL_some, cj10, cj01, cjm0, eq_self, not_true_eq_false, not_false_eq_true, or_false, false_or, or_true, true_or, or_self, and_true, true_and, and_false, false_and, nj_eqf, nj_ltt, nj_ltf, nj_let, nj_lef, nj_cl, nt_lef, ng_ltt, ng_let, ng_gtf, ng_gef, ↓v1, ↓v2, ↓v3, ↓v4, k1, k2, k3, k4, p1, p2, m_no1, m_no2, m_no3, m_no4, m_no5, m_no6, m_no7, e_X12_no10]
        · have d1 := d0.2.1 h2 (by omega) y
          refine out_ref (v := tz_j 4294967294) 2 (by omega) c ww ?_ (fun A D m => ?_)
          · rw [e_X11_copy]
            simp (disch := omega) only [tz_lit, nj_m1, nj_m2, nj_m3, nj_m4, nj_m5, nj_m6, nj_m7, ↓reduceIte, tz_bI_some, tz_bV_some, tz_bL_some, cj10, cj01, cjm0, eq_self, not_true_eq_false, not_false_eq_true, or_false, false_or, or_true, true_or, or_self, and_true, true_and, and_false, false_and, nj_eqf, nj_ltt, nj_ltf, nj_let, nj_lef, nj_cl, nt_lef, ng_ltt, ng_let, ng_gtf, ng_gef, a1, d1, k1, k2, k3, k4, q1, o1, z, y, e_X8_refusalOfRows, x_ref1, x_ref2, x_ref3, x_ref4, x_ref5, x_ref6, x_ref7, e_X11_refuseLower]
          · have p1 := (m.2.2.1.1 s1 hs1).1
            have r1 := m_isRow0 hs1 (Or.inl (p1.trans z))
            rw [z] at p1
            have p2 := (m.2.2.1.1 s2 hs2).1
            have r2 := m_isRow0 hs2 (Or.inr ⟨h2, by omega, p2.trans y⟩)
            rw [y] at p2
            have v1 : ∀ f, tz_bI (f_X12_within (tz_j s1) 0 7 A) f = f (tz_j 1) A := bI_pre (m_in7 hs1)
            have v2 : ∀ f, tz_bI (f_X12_within (tz_j s2) 0 7 A) f = f (tz_j 1) A := bI_pre (m_in7 hs2)
            have v3 := bI_pre r1
            have v4 := bI_pre r2
            rw [e_X12_copy]
            simp (disch := omega) only [tz_lit, nj_m1, nj_m2, nj_m3, nj_m4, nj_m5, nj_m6, nj_m7, ↓reduceIte, tz_bI_some, tz_bV_some, tz_bL_some, cj10, cj01, cjm0, eq_self, not_true_eq_false, not_false_eq_true, or_false, false_or, or_true, true_or, or_self, and_true, true_and, and_false, false_and, nj_eqf, nj_ltt, nj_ltf, nj_let, nj_lef, nj_cl, nt_lef, ng_ltt, ng_let, ng_gtf, ng_gef, ↓v1, ↓v2, ↓v3, ↓v4, k1, k2, k3, k4, p1, p2, m_no1, m_no2, m_no3, m_no4, m_no5, m_no6, m_no7, e_X12_no10]
        · have d1 := d0.2.2 t2 ht2 y
          refine out_ref (v := tz_j 4294967293) 3 (by omega) c ww ?_ (fun A D m => ?_)
          · rw [e_X11_copy]
            simp (disch := omega) only [tz_lit, nj_m1, nj_m2, nj_m3, nj_m4, nj_m5, nj_m6, nj_m7, ↓reduceIte, tz_bI_some, tz_bV_some, tz_bL_some, cj10, cj01, cjm0, eq_self, not_true_eq_false, not_false_eq_true, or_false, false_or, or_true, true_or, or_self, and_true, true_and, and_false, false_and, nj_eqf, nj_ltt, nj_ltf, nj_let, nj_lef, nj_cl, nt_lef, ng_ltt, ng_let, ng_gtf, ng_gef, a1, d1, k1, k2, k3, k4, q1, o1, z, y, e_X8_refusalOfRows, x_ref1, x_ref2, x_ref3, x_ref4, x_ref5, x_ref6, x_ref7, e_X11_refuseLower]
          · have p1 := (m.2.2.1.1 s1 hs1).1
            have r1 := m_isRow0 hs1 (Or.inl (p1.trans z))
            rw [z] at p1
            have p2 := (m.2.2.1.1 s2 hs2).1
            have r2 := m_isRow1 hs2 ht2 (p2.trans y)
            rw [y] at p2
            have v1 : ∀ f, tz_bI (f_X12_within (tz_j s1) 0 7 A) f = f (tz_j 1) A := bI_pre (m_in7 hs1)
            have v2 : ∀ f, tz_bI (f_X12_within (tz_j s2) 0 7 A) f = f (tz_j 1) A := bI_pre (m_in7 hs2)
            have v3 := bI_pre r1
            have v4 := bI_pre r2
            rw [e_X12_copy]
            simp (disch := omega) only [tz_lit, nj_m1, nj_m2, nj_m3, nj_m4, nj_m5, nj_m6, nj_m7, ↓reduceIte, tz_bI_some, tz_bV_some, tz_bL_some, cj10, cj01, cjm0, eq_self, not_true_eq_false, not_false_eq_true, or_false, false_or, or_true, true_or, or_self, and_true, true_and, and_false, false_and, nj_eqf, nj_ltt, nj_ltf, nj_let, nj_lef, nj_cl, nt_lef, ng_ltt, ng_let, ng_gtf, ng_gef, ↓v1, ↓v2, ↓v3, ↓v4, k1, k2, k3, k4, p1, p2, m_no1, m_no2, m_no3, m_no4, m_no5, m_no6, m_no7, e_X12_no10]
      · have a1 := a0.2.1 h1 (by omega) z
        rcases hu2 with y | ⟨h2, hh2, y⟩ | ⟨t2, ht2, y⟩
        · have d1 := d0.1 y
          refine out_ref (v := tz_j 4294967294) 2 (by omega) c ww ?_ (fun A D m => ?_)
          · rw [e_X11_copy]
            simp (disch := omega) only [tz_lit, nj_m1, nj_m2, nj_m3, nj_m4, nj_m5, nj_m6, nj_m7, ↓reduceIte, tz_bI_some, tz_bV_some, tz_bL_some, cj10, cj01, cjm0, eq_self, not_true_eq_false, not_false_eq_true, or_false, false_or, or_true, true_or, or_self, and_true, true_and, and_false, false_and, nj_eqf, nj_ltt, nj_ltf, nj_let, nj_lef, nj_cl, nt_lef, ng_ltt, ng_let, ng_gtf, ng_gef, a1, d1, k1, k2, k3, k4, q1, o1, z, y, e_X8_refusalOfRows, x_ref1, x_ref2, x_ref3, x_ref4, x_ref5, x_ref6, x_ref7, e_X11_refuseLower]
          · have p1 := (m.2.2.1.1 s1 hs1).1
            have r1 := m_isRow0 hs1 (Or.inr ⟨h1, by omega, p1.trans z⟩)
            rw [z] at p1
            have p2 := (m.2.2.1.1 s2 hs2).1
            have r2 := m_isRow0 hs2 (Or.inl (p2.trans y))
            rw [y] at p2
            have v1 : ∀ f, tz_bI (f_X12_within (tz_j s1) 0 7 A) f = f (tz_j 1) A := bI_pre (m_in7 hs1)
            have v2 : ∀ f, tz_bI (f_X12_within (tz_j s2) 0 7 A) f = f (tz_j 1) A := bI_pre (m_in7 hs2)
            have v3 := bI_pre r1
            have v4 := bI_pre r2
            rw [e_X12_copy]
            simp (disch := omega) only [tz_lit, nj_m1, nj_m2, nj_m3, nj_m4, nj_m5, nj_m6, nj_m7, ↓reduceIte, tz_bI_some, tz_bV_some, tz_bL_some, cj10, cj01, cjm0, eq_self, not_true_eq_false, not_false_eq_true, or_false, false_or, or_true, true_or, or_self, and_true, true_and, and_false, false_and, nj_eqf, nj_ltt, nj_ltf, nj_let, nj_lef, nj_cl, nt_lef, ng_ltt, ng_let, ng_gtf, ng_gef, ↓v1, ↓v2, ↓v3, ↓v4, k1, k2, k3, k4, p1, p2, m_no1, m_no2, m_no3, m_no4, m_no5, m_no6, m_no7, e_X12_no10]
        · have d1 := d0.2.1 h2 (by omega) y
          refine out_ref (v := tz_j 4294967294) 2 (by omega) c ww ?_ (fun A D m => ?_)
          · rw [e_X11_copy]
            simp (disch := omega) only [tz_lit, nj_m1, nj_m2, nj_m3, nj_m4, nj_m5, nj_m6, nj_m7, ↓reduceIte, tz_bI_some, tz_bV_some, tz_bL_some, cj10, cj01, cjm0, eq_self, not_true_eq_false, not_false_eq_true, or_false, false_or, or_true, true_or, or_self, and_true, true_and, and_false, false_and, nj_eqf, nj_ltt, nj_ltf, nj_let, nj_lef, nj_cl, nt_lef, ng_ltt, ng_let, ng_gtf, ng_gef, a1, d1, k1, k2, k3, k4, q1, o1, z, y, e_X8_refusalOfRows, x_ref1, x_ref2, x_ref3, x_ref4, x_ref5, x_ref6, x_ref7, e_X11_refuseLower]
          · have p1 := (m.2.2.1.1 s1 hs1).1
            have r1 := m_isRow0 hs1 (Or.inr ⟨h1, by omega, p1.trans z⟩)
            rw [z] at p1
            have p2 := (m.2.2.1.1 s2 hs2).1
            have r2 := m_isRow0 hs2 (Or.inr ⟨h2, by omega, p2.trans y⟩)
            rw [y] at p2
            have v1 : ∀ f, tz_bI (f_X12_within (tz_j s1) 0 7 A) f = f (tz_j 1) A := bI_pre (m_in7 hs1)
            have v2 : ∀ f, tz_bI (f_X12_within (tz_j s2) 0 7 A) f = f (tz_j 1) A := bI_pre (m_in7 hs2)
            have v3 := bI_pre r1
            have v4 := bI_pre r2
            rw [e_X12_copy]
            simp (disch := omega) only [tz_lit, nj_m1, nj_m2, nj_m3, nj_m4, nj_m5, nj_m6, nj_m7, ↓reduceIte, tz_bI_some, tz_bV_some, tz_bL_some, cj10, cj01, cjm0, eq_self, not_true_eq_false, not_false_eq_true, or_false, false_or, or_true, true_or, or_self, and_true, true_and, and_false, false_and, nj_eqf, nj_ltt, nj_ltf, nj_let, nj_lef, nj_cl, nt_lef, ng_ltt, ng_let, ng_gtf, ng_gef, ↓v1, ↓v2, ↓v3, ↓v4, k1, k2, k3, k4, p1, p2, m_no1, m_no2, m_no3, m_no4, m_no5, m_no6, m_no7, e_X12_no10]
        · have d1 := d0.2.2 t2 ht2 y
          refine out_ref (v := tz_j 4294967294) 2 (by omega) c ww ?_ (fun A D m => ?_)
          · rw [e_X11_copy]
            simp (disch := omega) only [tz_lit, nj_m1, nj_m2, nj_m3, nj_m4, nj_m5, nj_m6, nj_m7, ↓reduceIte, tz_bI_some, tz_bV_some, tz_bL_some, cj10, cj01, cjm0, eq_self, not_true_eq_false, not_false_eq_true, or_false, false_or, or_true, true_or, or_self, and_true, true_and, and_false, false_and, nj_eqf, nj_ltt, nj_ltf, nj_let, nj_lef, nj_cl, nt_lef, ng_ltt, ng_let, ng_gtf, ng_gef, a1, d1, k1, k2, k3, k4, q1, o1, z, y, e_X8_refusalOfRows, x_ref1, x_ref2, x_ref3, x_ref4, x_ref5, x_ref6, x_ref7, e_X11_refuseLower]
          · have p1 := (m.2.2.1.1 s1 hs1).1
            have r1 := m_isRow0 hs1 (Or.inr ⟨h1, by omega, p1.trans z⟩)
            rw [z] at p1
            have p2 := (m.2.2.1.1 s2 hs2).1
            have r2 := m_isRow1 hs2 ht2 (p2.trans y)
            rw [y] at p2
            have v1 : ∀ f, tz_bI (f_X12_within (tz_j s1) 0 7 A) f = f (tz_j 1) A := bI_pre (m_in7 hs1)
            have v2 : ∀ f, tz_bI (f_X12_within (tz_j s2) 0 7 A) f = f (tz_j 1) A := bI_pre (m_in7 hs2)
            have v3 := bI_pre r1
            have v4 := bI_pre r2
            rw [e_X12_copy]
            simp (disch := omega) only [tz_lit, nj_m1, nj_m2, nj_m3, nj_m4, nj_m5, nj_m6, nj_m7, ↓reduceIte, tz_bI_some, tz_bV_some, tz_bL_some, cj10, cj01, cjm0, eq_self, not_true_eq_false, not_false_eq_true, or_false, false_or, or_true, true_or, or_self, and_true, true_and, and_false, false_and, nj_eqf, nj_ltt, nj_ltf, nj_let, nj_lef, nj_cl, nt_lef, ng_ltt, ng_let, ng_gtf, ng_gef, ↓v1, ↓v2, ↓v3, ↓v4, k1, k2, k3, k4, p1, p2, m_no1, m_no2, m_no3, m_no4, m_no5, m_no6, m_no7, e_X12_no10]
      · have a1 := a0.2.2 t1 ht1 z
        rcases hu2 with y | ⟨h2, hh2, y⟩ | ⟨t2, ht2, y⟩
        · have d1 := d0.1 y
          refine out_ref (v := tz_j 4294967293) 3 (by omega) c ww ?_ (fun A D m => ?_)
          · rw [e_X11_copy]
            simp (disch := omega) only [tz_lit, nj_m1, nj_m2, nj_m3, nj_m4, nj_m5, nj_m6, nj_m7, ↓reduceIte, tz_bI_some, tz_bV_some, tz_bL_some, cj10, cj01, cjm0, eq_self, not_true_eq_false, not_false_eq_true, or_false, false_or, or_true, true_or, or_self, and_true, true_and, and_false, false_and, nj_eqf, nj_ltt, nj_ltf, nj_let, nj_lef, nj_cl, nt_lef, ng_ltt, ng_let, ng_gtf, ng_gef, a1, d1, k1, k2, k3, k4, q1, o1, z, y, e_X8_refusalOfRows, x_ref1, x_ref2, x_ref3, x_ref4, x_ref5, x_ref6, x_ref7, e_X11_refuseLower]
          · have p1 := (m.2.2.1.1 s1 hs1).1
            have r1 := m_isRow1 hs1 ht1 (p1.trans z)
            rw [z] at p1
            have p2 := (m.2.2.1.1 s2 hs2).1
            have r2 := m_isRow0 hs2 (Or.inl (p2.trans y))
            rw [y] at p2
            have v1 : ∀ f, tz_bI (f_X12_within (tz_j s1) 0 7 A) f = f (tz_j 1) A := bI_pre (m_in7 hs1)
            have v2 : ∀ f, tz_bI (f_X12_within (tz_j s2) 0 7 A) f = f (tz_j 1) A := bI_pre (m_in7 hs2)
            have v3 := bI_pre r1
            have v4 := bI_pre r2
            rw [e_X12_copy]
            simp (disch := omega) only [tz_lit, nj_m1, nj_m2, nj_m3, nj_m4, nj_m5, nj_m6, nj_m7, ↓reduceIte, tz_bI_some, tz_bV_some, tz_bL_some, cj10, cj01, cjm0, eq_self, not_true_eq_false, not_false_eq_true, or_false, false_or, or_true, true_or, or_self, and_true, true_and, and_false, false_and, nj_eqf, nj_ltt, nj_ltf, nj_let, nj_lef, nj_cl, nt_lef, ng_ltt, ng_let, ng_gtf, ng_gef, ↓v1, ↓v2, ↓v3, ↓v4, k1, k2, k3, k4, p1, p2, m_no1, m_no2, m_no3, m_no4, m_no5, m_no6, m_no7, e_X12_no10]
        · have d1 := d0.2.1 h2 (by omega) y
          refine out_ref (v := tz_j 4294967294) 2 (by omega) c ww ?_ (fun A D m => ?_)
          · rw [e_X11_copy]
            simp (disch := omega) only [tz_lit, nj_m1, nj_m2, nj_m3, nj_m4, nj_m5, nj_m6, nj_m7, ↓reduceIte, tz_bI_some, tz_bV_some, tz_bL_some, cj10, cj01, cjm0, eq_self, not_true_eq_false, not_false_eq_true, or_false, false_or, or_true, true_or, or_self, and_true, true_and, and_false, false_and, nj_eqf, nj_ltt, nj_ltf, nj_let, nj_lef, nj_cl, nt_lef, ng_ltt, ng_let, ng_gtf, ng_gef, a1, d1, k1, k2, k3, k4, q1, o1, z, y, e_X8_refusalOfRows, x_ref1, x_ref2, x_ref3, x_ref4, x_ref5, x_ref6, x_ref7, e_X11_refuseLower]
          · have p1 := (m.2.2.1.1 s1 hs1).1
            have r1 := m_isRow1 hs1 ht1 (p1.trans z)
            rw [z] at p1
            have p2 := (m.2.2.1.1 s2 hs2).1
            have r2 := m_isRow0 hs2 (Or.inr ⟨h2, by omega, p2.trans y⟩)
            rw [y] at p2
            have v1 : ∀ f, tz_bI (f_X12_within (tz_j s1) 0 7 A) f = f (tz_j 1) A := bI_pre (m_in7 hs1)
            have v2 : ∀ f, tz_bI (f_X12_within (tz_j s2) 0 7 A) f = f (tz_j 1) A := bI_pre (m_in7 hs2)
            have v3 := bI_pre r1
            have v4 := bI_pre r2
            rw [e_X12_copy]
            simp (disch := omega) only [tz_lit, nj_m1, nj_m2, nj_m3, nj_m4, nj_m5, nj_m6, nj_m7, ↓reduceIte, tz_bI_some, tz_bV_some, tz_bL_some, cj10, cj01, cjm0, eq_self, not_true_eq_false, not_false_eq_true, or_false, false_or, or_true, true_or, or_self, and_true, true_and, and_false, false_and, nj_eqf, nj_ltt, nj_ltf, nj_let, nj_lef, nj_cl, nt_lef, ng_ltt, ng_let, ng_gtf, ng_gef, ↓v1, ↓v2, ↓v3, ↓v4, k1, k2, k3, k4, p1, p2, m_no1, m_no2, m_no3, m_no4, m_no5, m_no6, m_no7, e_X12_no10]
        · have d1 := d0.2.2 t2 ht2 y
          by_cases e : t1 = t2
          · subst e
            rcases nj_sg x5 with n5 | n5
            · have n5' := n5.1
              refine out_ref (v := tz_j 4294967292) 4 (by omega) c ww ?_ (fun A D m => ?_)
              · rw [e_X11_copy]
                simp (disch := omega) only [tz_lit, nj_m1, nj_m2, nj_m3, nj_m4, nj_m5, nj_m6, nj_m7, ↓reduceIte, tz_bI_some, tz_bV_some, tz_bL_some, cj10, cj01, cjm0, eq_self, not_true_eq_false, not_false_eq_true, or_false, false_or, or_true, true_or, or_self, and_true, true_and, and_false, false_and, nj_eqf, nj_ltt, nj_ltf, nj_let, nj_lef, nj_cl, nt_lef, ng_ltt, ng_let, ng_gtf, ng_gef, a1, d1, k1, k2, k3, k4, q1, o1, z, y, e_X8_refusalOfRows, x_ref1, x_ref2, x_ref3, x_ref4, x_ref5, x_ref6, x_ref7, e_X11_refuseLower, n5.1, n5.2]
              · have p1 := (m.2.2.1.1 s1 hs1).1
                have r1 := m_isRow1 hs1 ht1 (p1.trans z)
                rw [z] at p1
                have p2 := (m.2.2.1.1 s2 hs2).1
                have r2 := m_isRow1 hs2 ht2 (p2.trans y)
                rw [y] at p2
                have v1 : ∀ f, tz_bI (f_X12_within (tz_j s1) 0 7 A) f = f (tz_j 1) A := bI_pre (m_in7 hs1)
                have v2 : ∀ f, tz_bI (f_X12_within (tz_j s2) 0 7 A) f = f (tz_j 1) A := bI_pre (m_in7 hs2)
                have v3 := bI_pre r1
                have v4 := bI_pre r2
                have u1 := (m.2.2.1.1 s1 hs1).2.1
                have u2 := (m.2.2.1.1 s2 hs2).2.1
                rw [hL1] at u1
                rw [hL2] at u2
                rw [e_X12_copy]
                simp (disch := omega) only [tz_lit, nj_m1, nj_m2, nj_m3, nj_m4, nj_m5, nj_m6, nj_m7, ↓reduceIte, tz_bI_some, tz_bV_some, tz_bL_some, cj10, cj01, cjm0, eq_self, not_true_eq_false, not_false_eq_true, or_false, false_or, or_true, true_or, or_self, and_true, true_and, and_false, false_and, nj_eqf, nj_ltt, nj_ltf, nj_let, nj_lef, nj_cl, nt_lef, ng_ltt, ng_let, ng_gtf, ng_gef, ↓v1, ↓v2, ↓v3, ↓v4, k1, k2, k3, k4, p1, p2, u1, u2, m_no1, m_no2, m_no3, m_no4, m_no5, m_no6, m_no7, e_X12_no10, n5.1, n5.2]
            · rcases nj_sg x3 with n3 | n3
              · have a2 := x_hes0 (n := x5) hs1 q2 (Or.inl n3.1)
                refine out_ref (v := tz_j 4294967291) 5 (by omega) c ww ?_ (fun A D m => ?_)
                · rw [e_X11_copy]
                  simp (disch := omega) only [tz_lit, nj_m1, nj_m2, nj_m3, nj_m4, nj_m5, nj_m6, nj_m7, ↓reduceIte, tz_bI_some, tz_bV_some, tz_bL_some, cj10, cj01, cjm0, eq_self, not_true_eq_false, not_false_eq_true, or_false, false_or, or_true, true_or, or_self, and_true, true_and, and_false, false_and, nj_eqf, nj_ltt, nj_ltf, nj_let, nj_lef, nj_cl, nt_lef, ng_ltt, ng_let, ng_gtf, ng_gef, a1, d1, k1, k2, k3, k4, q1, o1, z, y, e_X8_refusalOfRows, x_ref1, x_ref2, x_ref3, x_ref4, x_ref5, x_ref6, x_ref7, e_X11_refuseLower, n5.1, n5.2, a2]
                · have p1 := (m.2.2.1.1 s1 hs1).1
                  have r1 := m_isRow1 hs1 ht1 (p1.trans z)
                  rw [z] at p1
                  have p2 := (m.2.2.1.1 s2 hs2).1
                  have r2 := m_isRow1 hs2 ht2 (p2.trans y)
                  rw [y] at p2
                  have v1 : ∀ f, tz_bI (f_X12_within (tz_j s1) 0 7 A) f = f (tz_j 1) A := bI_pre (m_in7 hs1)
                  have v2 : ∀ f, tz_bI (f_X12_within (tz_j s2) 0 7 A) f = f (tz_j 1) A := bI_pre (m_in7 hs2)
                  have v3 := bI_pre r1
                  have v4 := bI_pre r2
                  have u1 := (m.2.2.1.1 s1 hs1).2.1
                  have u2 := (m.2.2.1.1 s2 hs2).2.1
                  rw [hL1] at u1
                  rw [hL2] at u2
                  rw [e_X12_copy]
                  simp (disch := omega) only [tz_lit, nj_m1, nj_m2, nj_m3, nj_m4, nj_m5, nj_m6, nj_m7, ↓reduceIte, tz_bI_some, tz_bV_some, tz_bL_some, cj10, cj01, cjm0, eq_self, not_true_eq_false, not_false_eq_true, or_false, false_or, or_true, true_or, or_self, and_true, true_and, and_false, false_and, nj_eqf, nj_ltt, nj_ltf, nj_let, nj_lef, nj_cl, nt_lef, ng_ltt, ng_let, ng_gtf, ng_gef, ↓v1, ↓v2, ↓v3, ↓v4, k1, k2, k3, k4, p1, p2, u1, u2, m_no1, m_no2, m_no3, m_no4, m_no5, m_no6, m_no7, e_X12_no10, n5.1, n5.2, n3.1, n3.2]
              · rcases pr_tf (tz_j 0 < lg_cmp (x3.toInt64 + x5.toInt64) (tz_j l1).toInt64) with g1 | g1
                · have a2 := x_hes0 (n := x5) hs1 q2 (Or.inr ⟨n3.1, g1⟩)
                  rcases nj_sg x4 with n4 | n4
                  · skip
                    refine out_ref (v := tz_j 4294967291) 5 (by omega) c ww ?_ (fun A D m => ?_)
                    · rw [e_X11_copy]
                      simp (disch := omega) only [tz_lit, nj_m1, nj_m2, nj_m3, nj_m4, nj_m5, nj_m6, nj_m7, ↓reduceIte, tz_bI_some, tz_bV_some, tz_bL_some, cj10, cj01, cjm0, eq_self, not_true_eq_false, not_false_eq_true, or_false, false_or, or_true, true_or, or_self, and_true, true_and, and_false, false_and, nj_eqf, nj_ltt, nj_ltf, nj_let, nj_lef, nj_cl, nt_lef, ng_ltt, ng_let, ng_gtf, ng_gef, a1, d1, k1, k2, k3, k4, q1, o1, z, y, e_X8_refusalOfRows, x_ref1, x_ref2, x_ref3, x_ref4, x_ref5, x_ref6, x_ref7, e_X11_refuseLower, n5.1, n5.2, a2]
                    · have p1 := (m.2.2.1.1 s1 hs1).1
                      have r1 := m_isRow1 hs1 ht1 (p1.trans z)
                      rw [z] at p1
                      have p2 := (m.2.2.1.1 s2 hs2).1
                      have r2 := m_isRow1 hs2 ht2 (p2.trans y)
                      rw [y] at p2
                      have v1 : ∀ f, tz_bI (f_X12_within (tz_j s1) 0 7 A) f = f (tz_j 1) A := bI_pre (m_in7 hs1)
                      have v2 : ∀ f, tz_bI (f_X12_within (tz_j s2) 0 7 A) f = f (tz_j 1) A := bI_pre (m_in7 hs2)
                      have v3 := bI_pre r1
                      have v4 := bI_pre r2
                      have u1 := (m.2.2.1.1 s1 hs1).2.1
                      have u2 := (m.2.2.1.1 s2 hs2).2.1
                      rw [hL1] at u1
                      rw [hL2] at u2
                      rw [e_X12_copy]
                      simp (disch := omega) only [tz_lit, nj_m1, nj_m2, nj_m3, nj_m4, nj_m5, nj_m6, nj_m7, ↓reduceIte, tz_bI_some, tz_bV_some, tz_bL_some, cj10, cj01, cjm0, eq_self, not_true_eq_false, not_false_eq_true, or_false, false_or, or_true, true_or, or_self, and_true, true_and, and_false, false_and, nj_eqf, nj_ltt, nj_ltf, nj_let, nj_lef, nj_cl, nt_lef, ng_ltt, ng_let, ng_gtf, ng_gef, ↓v1, ↓v2, ↓v3, ↓v4, k1, k2, k3, k4, p1, p2, u1, u2, m_no1, m_no2, m_no3, m_no4, m_no5, m_no6, m_no7, e_X12_no10, n5.1, n5.2, n3.1, n3.2, n4.1, n4.2, g1]
                  · skip
                    refine out_ref (v := tz_j 4294967291) 5 (by omega) c ww ?_ (fun A D m => ?_)
                    · rw [e_X11_copy]
                      simp (disch := omega) only [tz_lit, nj_m1, nj_m2, nj_m3, nj_m4, nj_m5, nj_m6, nj_m7, ↓reduceIte, tz_bI_some, tz_bV_some, tz_bL_some, cj10, cj01, cjm0, eq_self, not_true_eq_false, not_false_eq_true, or_false, false_or, or_true, true_or, or_self, and_true, true_and, and_false, false_and, nj_eqf, nj_ltt, nj_ltf, nj_let, nj_lef, nj_cl, nt_lef, ng_ltt, ng_let, ng_gtf, ng_gef, a1, d1, k1, k2, k3, k4, q1, o1, z, y, e_X8_refusalOfRows, x_ref1, x_ref2, x_ref3, x_ref4, x_ref5, x_ref6, x_ref7, e_X11_refuseLower, n5.1, n5.2, a2]
                    · have p1 := (m.2.2.1.1 s1 hs1).1
                      have r1 := m_isRow1 hs1 ht1 (p1.trans z)
                      rw [z] at p1
                      have p2 := (m.2.2.1.1 s2 hs2).1
                      have r2 := m_isRow1 hs2 ht2 (p2.trans y)
                      rw [y] at p2
                      have v1 : ∀ f, tz_bI (f_X12_within (tz_j s1) 0 7 A) f = f (tz_j 1) A := bI_pre (m_in7 hs1)
                      have v2 : ∀ f, tz_bI (f_X12_within (tz_j s2) 0 7 A) f = f (tz_j 1) A := bI_pre (m_in7 hs2)
                      have v3 := bI_pre r1
                      have v4 := bI_pre r2
                      have u1 := (m.2.2.1.1 s1 hs1).2.1
                      have u2 := (m.2.2.1.1 s2 hs2).2.1
                      rw [hL1] at u1
                      rw [hL2] at u2
                      rw [e_X12_copy]
                      simp (disch := omega) only [tz_lit, nj_m1, nj_m2, nj_m3, nj_m4, nj_m5, nj_m6, nj_m7, ↓reduceIte, tz_bI_some, tz_bV_some, tz_bL_some, cj10, cj01, cjm0, eq_self, not_true_eq_false, not_false_eq_true, or_false, false_or, or_true, true_or, or_self, and_true, true_and, and_false, false_and, nj_eqf, nj_ltt, nj_ltf, nj_let, nj_lef, nj_cl, nt_lef, ng_ltt, ng_let, ng_gtf, ng_gef, ↓v1, ↓v2, ↓v3, ↓v4, k1, k2, k3, k4, p1, p2, u1, u2, m_no1, m_no2, m_no3, m_no4, m_no5, m_no6, m_no7, e_X12_no10, n5.1, n5.2, n3.1, n3.2, n4.1, n4.2, g1]
                · have a2 := x_hes1 (n := x5) hs1 q2 n3.1 g1
                  rcases nj_sg x4 with n4 | n4
                  · have a3 := x_hes0 (n := x5) hs2 o2 (Or.inl n4.1)
                    refine out_ref (v := tz_j 4294967291) 5 (by omega) c ww ?_ (fun A D m => ?_)
                    · rw [e_X11_copy]
                      simp (disch := omega) only [tz_lit, nj_m1, nj_m2, nj_m3, nj_m4, nj_m5, nj_m6, nj_m7, ↓reduceIte, tz_bI_some, tz_bV_some, tz_bL_some, cj10, cj01, cjm0, eq_self, not_true_eq_false, not_false_eq_true, or_false, false_or, or_true, true_or, or_self, and_true, true_and, and_false, false_and, nj_eqf, nj_ltt, nj_ltf, nj_let, nj_lef, nj_cl, nt_lef, ng_ltt, ng_let, ng_gtf, ng_gef, a1, d1, k1, k2, k3, k4, q1, o1, z, y, e_X8_refusalOfRows, x_ref1, x_ref2, x_ref3, x_ref4, x_ref5, x_ref6, x_ref7, e_X11_refuseLower, n5.1, n5.2, a2, a3]
                    · have p1 := (m.2.2.1.1 s1 hs1).1
                      have r1 := m_isRow1 hs1 ht1 (p1.trans z)
                      rw [z] at p1
                      have p2 := (m.2.2.1.1 s2 hs2).1
                      have r2 := m_isRow1 hs2 ht2 (p2.trans y)
                      rw [y] at p2
                      have v1 : ∀ f, tz_bI (f_X12_within (tz_j s1) 0 7 A) f = f (tz_j 1) A := bI_pre (m_in7 hs1)
                      have v2 : ∀ f, tz_bI (f_X12_within (tz_j s2) 0 7 A) f = f (tz_j 1) A := bI_pre (m_in7 hs2)
                      have v3 := bI_pre r1
                      have v4 := bI_pre r2
                      have u1 := (m.2.2.1.1 s1 hs1).2.1
                      have u2 := (m.2.2.1.1 s2 hs2).2.1
                      rw [hL1] at u1
                      rw [hL2] at u2
                      rw [e_X12_copy]
                      simp (disch := omega) only [tz_lit, nj_m1, nj_m2, nj_m3, nj_m4, nj_m5, nj_m6, nj_m7, ↓reduceIte, tz_bI_some, tz_bV_some, tz_bL_some, cj10, cj01, cjm0, eq_self, not_true_eq_false, not_false_eq_true, or_false, false_or, or_true, true_or, or_self, and_true, true_and, and_false, false_and, nj_eqf, nj_ltt, nj_ltf, nj_let, nj_lef, nj_cl, nt_lef, ng_ltt, ng_let, ng_gtf, ng_gef, ↓v1, ↓v2, ↓v3, ↓v4, k1, k2, k3, k4, p1, p2, u1, u2, m_no1, m_no2, m_no3, m_no4, m_no5, m_no6, m_no7, e_X12_no10, n5.1, n5.2, n3.1, n3.2, n4.1, n4.2, g1]
                  · rcases pr_tf (tz_j 0 < lg_cmp (x4.toInt64 + x5.toInt64) (tz_j l2).toInt64) with g2 | g2
                    · have a3 := x_hes0 (n := x5) hs2 o2 (Or.inr ⟨n4.1, g2⟩)
                      have g3 : (lg_cmp (x4.toInt64 + x5.toInt64) (tz_j l2).toInt64 ≤ tz_j 0) = False := by
                        rw [i32_le, g2]
                        exact not_true_eq_false
                      refine out_ref (v := tz_j 4294967291) 5 (by omega) c ww ?_ (fun A D m => ?_)
                      · rw [e_X11_copy]
                        simp (disch := omega) only [tz_lit, nj_m1, nj_m2, nj_m3, nj_m4, nj_m5, nj_m6, nj_m7, ↓reduceIte, tz_bI_some, tz_bV_some, tz_bL_some, cj10, cj01, cjm0, eq_self, not_true_eq_false, not_false_eq_true, or_false, false_or, or_true, true_or, or_self, and_true, true_and, and_false, false_and, nj_eqf, nj_ltt, nj_ltf, nj_let, nj_lef, nj_cl, nt_lef, ng_ltt, ng_let, ng_gtf, ng_gef, a1, d1, k1, k2, k3, k4, q1, o1, z, y, e_X8_refusalOfRows, x_ref1, x_ref2, x_ref3, x_ref4, x_ref5, x_ref6, x_ref7, e_X11_refuseLower, n5.1, n5.2, a2, a3]
                      · have p1 := (m.2.2.1.1 s1 hs1).1
                        have r1 := m_isRow1 hs1 ht1 (p1.trans z)
                        rw [z] at p1
                        have p2 := (m.2.2.1.1 s2 hs2).1
                        have r2 := m_isRow1 hs2 ht2 (p2.trans y)
                        rw [y] at p2
                        have v1 : ∀ f, tz_bI (f_X12_within (tz_j s1) 0 7 A) f = f (tz_j 1) A := bI_pre (m_in7 hs1)
                        have v2 : ∀ f, tz_bI (f_X12_within (tz_j s2) 0 7 A) f = f (tz_j 1) A := bI_pre (m_in7 hs2)
                        have v3 := bI_pre r1
                        have v4 := bI_pre r2
                        have u1 := (m.2.2.1.1 s1 hs1).2.1
                        have u2 := (m.2.2.1.1 s2 hs2).2.1
                        rw [hL1] at u1
                        rw [hL2] at u2
                        rw [e_X12_copy]
                        simp (disch := omega) only [tz_lit, nj_m1, nj_m2, nj_m3, nj_m4, nj_m5, nj_m6, nj_m7, ↓reduceIte, tz_bI_some, tz_bV_some, tz_bL_some, cj10, cj01, cjm0, eq_self, not_true_eq_false, not_false_eq_true, or_false, false_or, or_true, true_or, or_self, and_true, true_and, and_false, false_and, nj_eqf, nj_ltt, nj_ltf, nj_let, nj_lef, nj_cl, nt_lef, ng_ltt, ng_let, ng_gtf, ng_gef, ↓v1, ↓v2, ↓v3, ↓v4, k1, k2, k3, k4, p1, p2, u1, u2, m_no1, m_no2, m_no3, m_no4, m_no5, m_no6, m_no7, e_X12_no10, n5.1, n5.2, n3.1, n3.2, n4.1, n4.2, g1, g3]
                    · have a3 := x_hes1 (n := x5) hs2 o2 n4.1 g2
                      have g3 : (lg_cmp (x4.toInt64 + x5.toInt64) (tz_j l2).toInt64 ≤ tz_j 0) = True := by
                        rw [i32_le, g2]
                        exact not_false_eq_true
                      obtain ⟨i1, hi1, rfl⟩ := nj_of (x := x3) (of_eq_true n3.2)
                      obtain ⟨i2, hi2, rfl⟩ := nj_of (x := x4) (of_eq_true n4.2)
                      obtain ⟨n, hn, rfl⟩ := nj_of (x := x5) (of_eq_true n5.2)
                      have b1 := g1
                      have b2 := g2
                      rw [lc_gt _ _ (by omega), nj_i hi1, nj_i hn] at b1
                      rw [lc_gt _ _ (by omega), nj_i hi2, nj_i hn] at b2
                      have b3 := of_eq_false b1
                      have b4 := of_eq_false b2
                      have y1 : i1 + n ≤ 160 := by omega
                      have y2 : i2 + n ≤ 160 := by omega
                      have k5 : (tz_j i1).toNatClampNeg = i1 := nj_cl hi1
                      have k6 : (tz_j i2).toNatClampNeg = i2 := nj_cl hi2
                      have k7 : (tz_j n).toNatClampNeg = n := nj_cl hn
                      have k8 : (160 < i1 + n) = False := eq_false (by omega)
                      have k9 : (160 < i2 + n) = False := eq_false (by omega)
                      refine out_copy (i1 := i1) (i2 := i2) (n := n) hs1 hs2 y1 y2 c ww ?_ (fun A D m => ?_)
                      · rw [e_X11_copy]
                        simp (disch := omega) only [tz_lit, nj_m1, nj_m2, nj_m3, nj_m4, nj_m5, nj_m6, nj_m7, ↓reduceIte, tz_bI_some, tz_bV_some, tz_bL_some, cj10, cj01, cjm0, eq_self, not_true_eq_false, not_false_eq_true, or_false, false_or, or_true, true_or, or_self, and_true, true_and, and_false, false_and, nj_eqf, nj_ltt, nj_ltf, nj_let, nj_lef, nj_cl, nt_lef, ng_ltt, ng_let, ng_gtf, ng_gef, a1, d1, k1, k2, k3, k4, q1, o1, z, y, e_X8_refusalOfRows, x_ref1, x_ref2, x_ref3, x_ref4, x_ref5, x_ref6, x_ref7, e_X11_refuseLower, n5.1, n5.2, n3.1, n4.1, a2, a3, k5, k6, k7, k8, k9]
                      · have u1 := (m.2.2.1.1 s1 hs1).2.1
                        have u2 := (m.2.2.1.1 s2 hs2).2.1
                        rw [hL1] at u1
                        rw [hL2] at u2
                        have p1 := (m.2.2.1.1 s1 hs1).1
                        have r1 := m_isRow1 hs1 ht1 (p1.trans z)
                        rw [z] at p1
                        have p2 := (m.2.2.1.1 s2 hs2).1
                        have r2 := m_isRow1 hs2 ht2 (p2.trans y)
                        rw [y] at p2
                        have v1 : ∀ f, tz_bI (f_X12_within (tz_j s1) 0 7 A) f = f (tz_j 1) A := bI_pre (m_in7 hs1)
                        have v2 : ∀ f, tz_bI (f_X12_within (tz_j s2) 0 7 A) f = f (tz_j 1) A := bI_pre (m_in7 hs2)
                        have v3 := bI_pre r1
                        have v4 := bI_pre r2
                        by_cases e1 : s1 = s2
                        · subst e1
                          have e9 : l1 = l2 := nj_inj (by omega) (by omega) (u1.symm.trans u2)
                          subst e9
                          by_cases e2 : i2 ≤ i1
                          · obtain ⟨A2, f, fr, g⟩ := m_cpf (s1 := s1) (s2 := s1) hs1 hs1 y1 y2 (fun j m _ _ => by omega) n 0 A (by omega)
                            have j1 : (tz_j i2 ≤ tz_j i1) = True := nj_let (by omega) (by omega)
                            refine ⟨A2, ?_, fr, fun j hj => g j (by omega) hj⟩
                            rw [e_X12_copy]
                            simp (disch := omega) only [tz_lit, nj_m1, nj_m2, nj_m3, nj_m4, nj_m5, nj_m6, nj_m7, ↓reduceIte, tz_bI_some, tz_bV_some, tz_bL_some, cj10, cj01, cjm0, eq_self, not_true_eq_false, not_false_eq_true, or_false, false_or, or_true, true_or, or_self, and_true, true_and, and_false, false_and, nj_eqf, nj_ltt, nj_ltf, nj_let, nj_lef, nj_cl, nt_lef, ng_ltt, ng_let, ng_gtf, ng_gef, ↓v1, ↓v2, ↓v3, ↓v4, k1, k2, k3, k4, p1, p2, u1, u2, m_no1, m_no2, m_no3, m_no4, m_no5, m_no6, m_no7, e_X12_no10, n5.1, n5.2, n3.1, n3.2, n4.1, n4.2, g1, g3, j1, f]
                          · obtain ⟨A2, f, fr, g⟩ := m_cpb (s1 := s1) (s2 := s1) hs1 hs1 y1 y2 (fun j m _ _ => by omega) n A (by omega)
                            have j1 : (tz_j i2 ≤ tz_j i1) = False := nj_lef (by omega) (by omega)
                            refine ⟨A2, ?_, fr, g⟩
                            rw [e_X12_copy]
                            simp (disch := omega) only [tz_lit, nj_m1, nj_m2, nj_m3, nj_m4, nj_m5, nj_m6, nj_m7, ↓reduceIte, tz_bI_some, tz_bV_some, tz_bL_some, cj10, cj01, cjm0, eq_self, not_true_eq_false, not_false_eq_true, or_false, false_or, or_true, true_or, or_self, and_true, true_and, and_false, false_and, nj_eqf, nj_ltt, nj_ltf, nj_let, nj_lef, nj_cl, nt_lef, ng_ltt, ng_let, ng_gtf, ng_gef, ↓v1, ↓v2, ↓v3, ↓v4, k1, k2, k3, k4, p1, p2, u1, u2, m_no1, m_no2, m_no3, m_no4, m_no5, m_no6, m_no7, e_X12_no10, n5.1, n5.2, n3.1, n3.2, n4.1, n4.2, g1, g3, j1, nj_p1, f]
                        · have j1 : (tz_j s1 = tz_j s2) = False := nj_eqf e1 (by omega) (by omega)
                          obtain ⟨A2, f, fr, g⟩ := m_cpf (s1 := s1) (s2 := s2) hs1 hs2 y1 y2 (fun j m _ _ => by omega) n 0 A (by omega)
                          refine ⟨A2, ?_, fr, fun j hj => g j (by omega) hj⟩
                          rw [e_X12_copy]
                          simp (disch := omega) only [tz_lit, nj_m1, nj_m2, nj_m3, nj_m4, nj_m5, nj_m6, nj_m7, ↓reduceIte, tz_bI_some, tz_bV_some, tz_bL_some, cj10, cj01, cjm0, eq_self, not_true_eq_false, not_false_eq_true, or_false, false_or, or_true, true_or, or_self, and_true, true_and, and_false, false_and, nj_eqf, nj_ltt, nj_ltf, nj_let, nj_lef, nj_cl, nt_lef, ng_ltt, ng_let, ng_gtf, ng_gef, ↓v1, ↓v2, ↓v3, ↓v4, k1, k2, k3, k4, p1, p2, u1, u2, m_no1, m_no2, m_no3, m_no4, m_no5, m_no6, m_no7, e_X12_no10, n5.1, n5.2, n3.1, n3.2, n4.1, n4.2, g1, g3, j1, f]
          · have n9 : (tz_j (100 + t1) = tz_j (100 + t2)) = False := nj_eqf (by omega) (by omega) (by omega)
            refine out_ref (v := tz_j 4294967294) 2 (by omega) c ww ?_ (fun A D m => ?_)
            · rw [e_X11_copy]
              simp (disch := omega) only [tz_lit, nj_m1, nj_m2, nj_m3, nj_m4, nj_m5, nj_m6, nj_m7, ↓reduceIte, tz_bI_some, tz_bV_some, tz_bL_some, cj10, cj01, cjm0, eq_self, not_true_eq_false, not_false_eq_true, or_false, false_or, or_true, true_or, or_self, and_true, true_and, and_false, false_and, nj_eqf, nj_ltt, nj_ltf, nj_let, nj_lef, nj_cl, nt_lef, ng_ltt, ng_let, ng_gtf, ng_gef, a1, d1, k1, k2, k3, k4, q1, o1, z, y, e_X8_refusalOfRows, x_ref1, x_ref2, x_ref3, x_ref4, x_ref5, x_ref6, x_ref7, e_X11_refuseLower, n9]
            · have p1 := (m.2.2.1.1 s1 hs1).1
              have r1 := m_isRow1 hs1 ht1 (p1.trans z)
              rw [z] at p1
              have p2 := (m.2.2.1.1 s2 hs2).1
              have r2 := m_isRow1 hs2 ht2 (p2.trans y)
              rw [y] at p2
              have v1 : ∀ f, tz_bI (f_X12_within (tz_j s1) 0 7 A) f = f (tz_j 1) A := bI_pre (m_in7 hs1)
              have v2 : ∀ f, tz_bI (f_X12_within (tz_j s2) 0 7 A) f = f (tz_j 1) A := bI_pre (m_in7 hs2)
              have v3 := bI_pre r1
              have v4 := bI_pre r2
              rw [e_X12_copy]
              simp (disch := omega) only [tz_lit, nj_m1, nj_m2, nj_m3, nj_m4, nj_m5, nj_m6, nj_m7, ↓reduceIte, tz_bI_some, tz_bV_some, tz_bL_some, cj10, cj01, cjm0, eq_self, not_true_eq_false, not_false_eq_true, or_false, false_or, or_true, true_or, or_self, and_true, true_and, and_false, false_and, nj_eqf, nj_ltt, nj_ltf, nj_let, nj_lef, nj_cl, nt_lef, ng_ltt, ng_let, ng_gtf, ng_gef, ↓v1, ↓v2, ↓v3, ↓v4, k1, k2, k3, k4, p1, p2, m_no1, m_no2, m_no3, m_no4, m_no5, m_no6, m_no7, e_X12_no10, n9]
    · refine out_ref (v := tz_j 4294967295) 1 (by omega) c ww ?_ (fun A D m => ?_)
      · have d1 := x_roro (A := A) h
        obtain ⟨hu1, l1, hl1, hL1⟩ := lg_rw ww.2.2.2.2 hs1
        rcases hu1 with z | ⟨h1, hh1, z⟩ | ⟨t1, ht1, z⟩
        · have a1 := a0.1 z
          rw [e_X11_copy]
          simp (disch := omega) only [tz_lit, nj_m1, nj_m2, nj_m3, nj_m4, nj_m5, nj_m6, nj_m7, ↓reduceIte, tz_bI_some, tz_bV_some, tz_bL_some, cj10, cj01, cjm0, eq_self, not_true_eq_false, not_false_eq_true, or_false, false_or, or_true, true_or, or_self, and_true, true_and, and_false, false_and, nj_eqf, nj_ltt, nj_ltf, nj_let, nj_lef, nj_cl, nt_lef, ng_ltt, ng_let, ng_gtf, ng_gef, a1, d1, k1, k2, e_X8_refusalOfRows, x_ref1, x_ref2, x_ref3, x_ref4, x_ref5, x_ref6, x_ref7, e_X11_refuseLower]
        · have a1 := a0.2.1 h1 (by omega) z
          rw [e_X11_copy]
          simp (disch := omega) only [tz_lit, nj_m1, nj_m2, nj_m3, nj_m4, nj_m5, nj_m6, nj_m7, ↓reduceIte, tz_bI_some, tz_bV_some, tz_bL_some, cj10, cj01, cjm0, eq_self, not_true_eq_false, not_false_eq_true, or_false, false_or, or_true, true_or, or_self, and_true, true_and, and_false, false_and, nj_eqf, nj_ltt, nj_ltf, nj_let, nj_lef, nj_cl, nt_lef, ng_ltt, ng_let, ng_gtf, ng_gef, a1, d1, k1, k2, e_X8_refusalOfRows, x_ref1, x_ref2, x_ref3, x_ref4, x_ref5, x_ref6, x_ref7, e_X11_refuseLower]
        · have a1 := a0.2.2 t1 ht1 z
          rw [e_X11_copy]
          simp (disch := omega) only [tz_lit, nj_m1, nj_m2, nj_m3, nj_m4, nj_m5, nj_m6, nj_m7, ↓reduceIte, tz_bI_some, tz_bV_some, tz_bL_some, cj10, cj01, cjm0, eq_self, not_true_eq_false, not_false_eq_true, or_false, false_or, or_true, true_or, or_self, and_true, true_and, and_false, false_and, nj_eqf, nj_ltt, nj_ltf, nj_let, nj_lef, nj_cl, nt_lef, ng_ltt, ng_let, ng_gtf, ng_gef, a1, d1, k1, k2, e_X8_refusalOfRows, x_ref1, x_ref2, x_ref3, x_ref4, x_ref5, x_ref6, x_ref7, e_X11_refuseLower]
      · have v1 : ∀ f, tz_bI (f_X12_within (tz_j s1) 0 7 A) f = f (tz_j 1) A := bI_pre (m_in7 hs1)
        have v2 : ∀ f, tz_bI (f_X12_within x2 0 7 A) f = f (tz_j 0) A := bI_pre (m_out7 h)
        rw [e_X12_copy]
        simp (disch := omega) only [tz_lit, nj_m1, nj_m2, nj_m3, nj_m4, nj_m5, nj_m6, nj_m7, ↓reduceIte, tz_bI_some, tz_bV_some, tz_bL_some, cj10, cj01, cjm0, eq_self, not_true_eq_false, not_false_eq_true, or_false, false_or, or_true, true_or, or_self, and_true, true_and, and_false, false_and, nj_eqf, nj_ltt, nj_ltf, nj_let, nj_lef, nj_cl, nt_lef, ng_ltt, ng_let, ng_gtf, ng_gef, ↓v1, ↓v2, k1, k2, m_no1, m_no2, m_no3, m_no4, m_no5, m_no6, m_no7, e_X12_no10]
  · refine out_ref (v := tz_j 4294967295) 1 (by omega) c ww ?_ (fun A D m => ?_)
    · have a1 := x_roro (A := A) h
      obtain ⟨y2, hy⟩ : ∃ y2, f_X8_refusalOfRow x2 A = some (some (.int y2), A) := by
        rcases nj_three x2 8 (by omega) with ⟨s2, hs2, rfl⟩ | h
        · have d0 := x_ror c hs2
          obtain ⟨hu2, l2, hl2, hL2⟩ := lg_rw ww.2.2.2.2 hs2
          rcases hu2 with y | ⟨h2, hh2, y⟩ | ⟨t2, ht2, y⟩
          · exact ⟨_, d0.1 y⟩
          · exact ⟨_, d0.2.1 h2 (by omega) y⟩
          · exact ⟨_, d0.2.2 t2 ht2 y⟩
        · exact ⟨_, x_roro h⟩
      rw [e_X11_copy]
      simp (disch := omega) only [tz_lit, nj_m1, nj_m2, nj_m3, nj_m4, nj_m5, nj_m6, nj_m7, ↓reduceIte, tz_bI_some, tz_bV_some, tz_bL_some, cj10, cj01, cjm0, eq_self, not_true_eq_false, not_false_eq_true, or_false, false_or, or_true, true_or, or_self, and_true, true_and, and_false, false_and, nj_eqf, nj_ltt, nj_ltf, nj_let, nj_lef, nj_cl, nt_lef, ng_ltt, ng_let, ng_gtf, ng_gef, a1, hy, e_X8_refusalOfRows, x_ref1, x_ref2, x_ref3, x_ref4, x_ref5, x_ref6, x_ref7, e_X11_refuseLower]
    · have v1 : ∀ f, tz_bI (f_X12_within x1 0 7 A) f = f (tz_j 0) A := bI_pre (m_out7 h)
      rw [e_X12_copy]
      simp (disch := omega) only [tz_lit, nj_m1, nj_m2, nj_m3, nj_m4, nj_m5, nj_m6, nj_m7, ↓reduceIte, tz_bI_some, tz_bV_some, tz_bL_some, cj10, cj01, cjm0, eq_self, not_true_eq_false, not_false_eq_true, or_false, false_or, or_true, true_or, or_self, and_true, true_and, and_false, false_and, nj_eqf, nj_ltt, nj_ltf, nj_let, nj_lef, nj_cl, nt_lef, ng_ltt, ng_let, ng_gtf, ng_gef, ↓v1, m_no1, m_no2, m_no3, m_no4, m_no5, m_no6, m_no7, e_X12_no10]
