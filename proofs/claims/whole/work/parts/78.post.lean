/-! postage, meet, hours, drought -/
/-- a letter that is there stays -/
theorem sayL_stay {t h l : Nat} (ht : t < 4) : ∀ k i S, i + k = S 15 0 → sp_W1 S → sp_W2 S → sp_WE S → h < S 1 0 → 200 ≤ S 20 l → sp_sayL t h k i S 20 l = S 20 l ∧ sp_sayL t h k i S 21 l = S 21 l := by
  intro k
  induction k with
  | zero => exact fun i S _ _ _ _ _ _ => ⟨rfl, rfl⟩
  | succ k ih =>
    intro i S hi W W2 WE hh hw
    have h8 := W.1
    have hl := W.2.2.2.2.2.2.1 i (by omega)
    show sp_sayL t h k (i + 1) (if S 20 (S 22 i) = 100 + t then sp_say (S 22 i) h S else S) 20 l = _ ∧ sp_sayL t h k (i + 1) (if S 20 (S 22 i) = 100 + t then sp_say (S 22 i) h S else S) 21 l = _
    by_cases q : S 20 (S 22 i) = 100 + t
    · rw [if_pos q]
      have hne : l ≠ S 22 i := fun z => by rw [z] at hw; omega
      have g := say_G W W2 WE hl hh (by omega)
      have sg := (say_get (l := S 22 i) (h := h) (S := S) (by omega)).1
      have s20 := sg 20 l (by omega) (by omega) (by omega) (by omega) (by omega)
      have s21 := sg 21 l (by omega) (by omega) (by omega) (by omega) (by omega)
      obtain ⟨a, b⟩ := ih (i + 1) _ (by rw [g.1 15 0 (by unfold sp_kp; omega)]; omega) g.2.1 g.2.2.1 g.2.2.2.1 (by rw [g.1 1 0 (by unfold sp_kp; omega)]; exact hh) (by rw [s20]; exact hw)
      exact ⟨a.trans s20, b.trans s21⟩
    · rw [if_neg q]
      exact ih (i + 1) S (by omega) W W2 WE hh hw
theorem take_stay {t h l : Nat} : ∀ k i left S, h < 100 → 200 ≤ S 20 l → sp_take t h k i left S 20 l = S 20 l ∧ sp_take t h k i left S 21 l = S 21 l := by
  intro k
  induction k with
  | zero => exact fun _ _ _ _ _ => ⟨rfl, rfl⟩
  | succ k ih =>
    intro i left S hh hw
    show (if left = 0 then S else if S 20 (S 22 i) = h ∧ S 19 (S 22 i) ≤ S 9 t then sp_take t h k (i + 1) (left - 1) (tz_t S 20 (S 22 i) (100 + t)) else sp_take t h k (i + 1) left S) 20 l = _ ∧ (if left = 0 then S else if S 20 (S 22 i) = h ∧ S 19 (S 22 i) ≤ S 9 t then sp_take t h k (i + 1) (left - 1) (tz_t S 20 (S 22 i) (100 + t)) else sp_take t h k (i + 1) left S) 21 l = _
    by_cases c0 : left = 0
    · rw [if_pos c0]
      exact ⟨rfl, rfl⟩
    rw [if_neg c0]
    by_cases c1 : S 20 (S 22 i) = h ∧ S 19 (S 22 i) ≤ S 9 t
    · rw [if_pos c1]
      have hne : l ≠ S 22 i := fun z => by rw [z] at hw; omega
      have e20 : tz_t S 20 (S 22 i) (100 + t) 20 l = S 20 l := tz_ti hne
      have e21 : tz_t S 20 (S 22 i) (100 + t) 21 l = S 21 l := tz_tk (by omega)
      obtain ⟨a, b⟩ := ih (i + 1) (left - 1) (tz_t S 20 (S 22 i) (100 + t)) hh (by rw [e20]; exact hw)
      exact ⟨a.trans e20, b.trans e21⟩
    · rw [if_neg c1]
      exact ih (i + 1) left S hh hw
theorem com_stay {t l : Nat} {S : tz_S} (W : sp_W1 S) (W2 : sp_W2 S) (WE : sp_WE S) (ht : t < S 7 0) (hw : 200 ≤ S 20 l) : sp_com t S 20 l = S 20 l ∧ sp_com t S 21 l = S 21 l := by
  have h4 := W.2.1
  have h8 := W.1
  have g := adv_G W W2 WE ht
  have ht1 : t < sp_adv t S 7 0 := ht
  have hh := at_lt g.2.1 g.2.2.1 ht1
  have hh2 : sp_at (sp_adv t S) t < 8 := Nat.lt_of_lt_of_le hh (by rw [g.1 1 0 (by unfold sp_kp; omega)]; exact h8)
  obtain ⟨a, b⟩ := sayL_stay (l := l) (t := t) (h := sp_at (sp_adv t S) t) (by omega) (S 15 0) 0 (sp_adv t S) (Nat.zero_add _) g.2.1 g.2.2.1 g.2.2.2.1 hh hw
  obtain ⟨a2, b2⟩ := take_stay (l := l) (t := t) (h := sp_at (sp_adv t S) t) (S 15 0) 0 (S 10 t) (sp_sayL t (sp_at (sp_adv t S) t) (S 15 0) 0 (sp_adv t S)) (by omega) (by rw [a]; exact hw)
  exact ⟨a2.trans a, b2.trans b⟩
theorem tkL_stay {l : Nat} : ∀ k t S, t + k = S 7 0 → sp_W1 S → sp_W2 S → sp_WE S → 200 ≤ S 20 l → sp_tkL k t S 20 l = S 20 l ∧ sp_tkL k t S 21 l = S 21 l := by
  intro k
  induction k with
  | zero => exact fun _ _ _ _ _ _ _ => ⟨rfl, rfl⟩
  | succ k ih =>
    intro t S ht W W2 WE hw
    show sp_tkL k (t + 1) (if S 0 3 % S 8 t = 0 ∧ t ≠ S 0 6 then sp_com t S else S) 20 l = _ ∧ sp_tkL k (t + 1) (if S 0 3 % S 8 t = 0 ∧ t ≠ S 0 6 then sp_com t S else S) 21 l = _
    by_cases q : S 0 3 % S 8 t = 0 ∧ t ≠ S 0 6
    · rw [if_pos q]
      have g := com_G W W2 WE (show t < S 7 0 by omega)
      obtain ⟨a, b⟩ := com_stay (l := l) W W2 WE (show t < S 7 0 by omega) hw
      obtain ⟨a2, b2⟩ := ih (t + 1) _ (by rw [g.1 7 0 (by unfold sp_kp; omega)]; omega) g.2.1 g.2.2.1 g.2.2.2.1 (by rw [a]; exact hw)
      exact ⟨a2.trans a, b2.trans b⟩
    · rw [if_neg q]
      exact ih (t + 1) S (by omega) W W2 WE hw
theorem tk_stay {N l : Nat} {S : tz_S} (H : sp_H N S) (hw : 200 ≤ S 20 l) : sp_tk S 20 l = S 20 l ∧ sp_tk S 21 l = S 21 l := by
  obtain ⟨a, b, c⟩ := tk0 H.1 H.2.1 H.2.2.1
  exact tkL_stay (S 7 0) 0 (tz_t S 0 3 (S 0 3 + 1)) (Nat.zero_add _) a b c hw
theorem n_stay {l : Nat} : ∀ k N S, sp_H N S → 200 ≤ S 20 l → sp_n k S 21 l = S 21 l := by
  intro k
  induction k with
  | zero => exact fun _ _ _ _ => rfl
  | succ k ih =>
    intro N S H hw
    obtain ⟨a, b⟩ := tk_stay H hw
    exact (ih (N + 1) _ (tk_G H).1 (by rw [a]; exact hw)).trans b
theorem n_ar {l : Nat} : ∀ k N S, sp_H N S → sp_n k S 21 l = sp_ar l k S 21 l := by
  intro k
  induction k with
  | zero => exact fun _ _ _ => rfl
  | succ k ih =>
    intro N S H
    show sp_n k (sp_tk S) 21 l = (if S 20 l < 200 then sp_ar l k (sp_tk S) else S) 21 l
    by_cases z : S 20 l < 200
    · rw [if_pos z]
      exact ih (N + 1) _ (tk_G H).1
    · rw [if_neg z]
      exact n_stay (k + 1) N S H (by omega)
/-- coins -/
def sp_po (S : tz_S) : Nat → Nat → Int32 → Int32
  | 0, _, z => z
  | k + 1, l, z => if S 20 l < 200 then (if sp_ar l 500 S 21 l = 4294967295 then sp_po S k (l + 1) (z + tz_j 500 * tz_j (S 19 l)) else sp_po S k (l + 1) (z + (tz_j (sp_ar l 500 S 21 l) - tz_j (S 0 3)) * tz_j (S 19 l))) else sp_po S k (l + 1) z
theorem x_poL {N : Nat} {S : tz_S} {A : tz_Mem} (hN : N ≤ 1100000) (H : sp_H N S) (c : rx_c 30 S A) (c2 : rx_c 76 (sp_n 500 S) A) : ∀ k l z, l + k = S 15 0 → q_X11_postage_25 z (tz_j l) A = some (some (.int (sp_po S k l z)), A) := by
  have h12 := H.1.2.2.1
  have h8 := H.1.1
  have h4 := H.1.2.1
  have q15 : tz_g A 45 0 = tz_j (S 15 0) := cz_15 c
  intro k
  induction k with
  | zero =>
    intro l z hl
    have n1 : (tz_j (S 15 0) ≤ tz_j l) = True := nj_let (by omega) (by omega)
    rw [e_X11_postage_25]
    simp only [tz_lit, nj_m1, nj_m2, nj_m3, nj_m4, nj_m5, nj_m6, nj_m7, ↓reduceIte, tz_bI_some, tz_bV_some, tz_bL_some, cj10, cj01, cjm0, eq_self, not_true_eq_false, not_false_eq_true, or_false, false_or, or_true, true_or, or_self, and_true, true_and, and_false, false_and, q15, n1]
    rfl
  | succ k ih =>
    intro l z hl
    have n1 : (tz_j (S 15 0) ≤ tz_j l) = False := nj_lef (by omega) (by omega)
    have hwl := (H.2.1.2.1 l (by omega)).2.1
    unfold sp_wh at hwl
    have hcl : (tz_j l).toNatClampNeg = l := nj_cl (by omega)
    have n3 : (tz_j l < tz_j 0 ∨ 12 ≤ l) = False := by
      have := nj_ix (l := l) (n := 12) (by omega) (by omega)
      rw [nj_cl (by omega)] at this
      exact this
    have eu : f_X4_isUnderWay 30 (tz_j l) A = some (some (.int (if S 20 l < 200 then tz_j 1 else tz_j 0)), A) := by
      rw [e_X4_isUnderWay _ _ h30]
      by_cases y : S 20 l < 200
      · simp (disch := omega) only [tz_lit, nj_m1, ↓reduceIte, nj_cl, nj_ltt, nj_ltf, nj_let, nj_lef, nj_eqf, nj_lt, nj_le, nj_eq, nj_add, nj_mul, nj_modx, nj_and7, nj_div, tz_bI_some, tz_bV_some, or_false, false_or, or_self, and_false, false_and, and_true, true_and, not_true_eq_false, not_false_eq_true, nt_lef, nt_let, nt_ltf, nt_ltt, nt_eqf, nj_m2, nj_m3, nj_m4, nj_m5, nj_m6, nj_m7, tz_bL_some, nj_sub, ng_ltt, ng_let, ng_gtf, ng_gef, cx_20 c, if_pos y]
      · simp (disch := omega) only [tz_lit, nj_m1, ↓reduceIte, nj_cl, nj_ltt, nj_ltf, nj_let, nj_lef, nj_eqf, nj_lt, nj_le, nj_eq, nj_add, nj_mul, nj_modx, nj_and7, nj_div, tz_bI_some, tz_bV_some, or_false, false_or, or_self, and_false, false_and, and_true, true_and, not_true_eq_false, not_false_eq_true, nt_lef, nt_let, nt_ltf, nt_ltt, nt_eqf, nj_m2, nj_m3, nj_m4, nj_m5, nj_m6, nj_m7, tz_bL_some, nj_sub, ng_ltt, ng_let, ng_gtf, ng_gef, cx_20 c, if_neg y]
    have q21 : tz_g A 97 l = tz_j (sp_ar l 500 S 21 l) := by
      rw [← n_ar 500 N S H]
      exact cg_21 c2 (by omega)
    have q3 : tz_g A 30 3 = tz_j (S 0 3) := cx_0_3 c
    have q19 : tz_g A 49 l = tz_j (S 19 l) := cz_19 c (by omega)
    have ha := ar_hi (l := l) H (by omega)
    rw [e_X11_postage_25]
    show _ = some (some (Value.int (if S 20 l < 200 then (if sp_ar l 500 S 21 l = 4294967295 then sp_po S k (l + 1) (z + tz_j 500 * tz_j (S 19 l)) else sp_po S k (l + 1) (z + (tz_j (sp_ar l 500 S 21 l) - tz_j (S 0 3)) * tz_j (S 19 l))) else sp_po S k (l + 1) z)), A)
    generalize sp_ar l 500 S 21 l = a at *
    by_cases y : S 20 l < 200
    · rw [if_pos y] at eu
      rw [if_pos (c := S 20 l < 200) y]
      by_cases x : a = 4294967295
      · rw [if_pos (c := a = 4294967295) x]
        rw [x] at q21
        simp only [tz_lit, nj_m1, nj_m2, nj_m3, nj_m4, nj_m5, nj_m6, nj_m7, ↓reduceIte, tz_bI_some, tz_bV_some, tz_bL_some, cj10, cj01, cjm0, eq_self, not_true_eq_false, not_false_eq_true, or_false, false_or, or_true, true_or, or_self, and_true, true_and, and_false, false_and, q15, n1, hcl, n3, eu, q21, q3, q19, nj_add]
        exact ih (l + 1) _ (by omega)
      · have n2 : (tz_j a = tz_j 4294967295) = False := nj_eqf x (by omega) (by omega)
        rw [if_neg (c := a = 4294967295) x]
        simp only [tz_lit, nj_m1, nj_m2, nj_m3, nj_m4, nj_m5, nj_m6, nj_m7, ↓reduceIte, tz_bI_some, tz_bV_some, tz_bL_some, cj10, cj01, cjm0, eq_self, not_true_eq_false, not_false_eq_true, or_false, false_or, or_true, true_or, or_self, and_true, true_and, and_false, false_and, q15, n1, hcl, n3, eu, q21, n2, q3, q19, nj_add]
        exact ih (l + 1) _ (by omega)
    · rw [if_neg y] at eu
      rw [if_neg (c := S 20 l < 200) y]
      simp only [tz_lit, nj_m1, nj_m2, nj_m3, nj_m4, nj_m5, nj_m6, nj_m7, ↓reduceIte, tz_bI_some, tz_bV_some, tz_bL_some, cj10, cj01, cjm0, eq_self, not_true_eq_false, not_false_eq_true, or_false, false_or, or_true, true_or, or_self, and_true, true_and, and_false, false_and, q15, n1, hcl, n3, eu, nj_add]
      exact ih (l + 1) _ (by omega)
theorem m_poL {N : Nat} {S K : tz_S} {U : tz_U} {V : tz_V} (hN : N ≤ 1100000) (hst : sp_st S) (H : sp_H N S) : ∀ k l z A D, l + k = S 15 0 → MX D S K U V A → ∃ A' D', q_X12_postage_4 z (tz_j l) A = some (some (.int (sp_po S k l z)), A') ∧ MX D' S K U V A' ∧ mg A A' := by
  have h12 := H.1.2.2.1
  have h8 := H.1.1
  have h4 := H.1.2.1
  intro k
  induction k with
  | zero =>
    intro l z A D hl m
    have q15 : tz_g A 157 15 = tz_j (S 15 0) := cm_15 m.1.1
    have n1 : (tz_j (S 15 0) ≤ tz_j l) = True := nj_let (by omega) (by omega)
    refine ⟨A, D, ?_, m, rfl, fun _ _ _ => ⟨rfl, rfl⟩, fun _ _ => rfl⟩
    rw [e_X12_postage_4]
    simp only [tz_lit, nj_m1, nj_m2, nj_m3, nj_m4, nj_m5, nj_m6, nj_m7, ↓reduceIte, tz_bI_some, tz_bV_some, tz_bL_some, cj10, cj01, cjm0, eq_self, not_true_eq_false, not_false_eq_true, or_false, false_or, or_true, true_or, or_self, and_true, true_and, and_false, false_and, q15, n1]
    rfl
  | succ k ih =>
    intro l z A D hl m
    have q15 : tz_g A 157 15 = tz_j (S 15 0) := cm_15 m.1.1
    have n1 : (tz_j (S 15 0) ≤ tz_j l) = False := nj_lef (by omega) (by omega)
    have hwl := (H.2.1.2.1 l (by omega)).2.1
    unfold sp_wh at hwl
    have hcl : (tz_j l).toNatClampNeg = l := nj_cl (by omega)
    have n3 : (tz_j l < tz_j 0 ∨ 12 ≤ l) = False := by
      have := nj_ix (l := l) (n := 12) (by omega) (by omega)
      rw [nj_cl (by omega)] at this
      exact this
    have q20 : tz_g A 175 l = tz_j (S 20 l) := cm_175 m.1.1 (by omega)
    have ha := ar_hi (l := l) H (by omega)
    rw [e_X12_postage_4]
    show ∃ A' D', _ = some (some (Value.int (if S 20 l < 200 then (if sp_ar l 500 S 21 l = 4294967295 then sp_po S k (l + 1) (z + tz_j 500 * tz_j (S 19 l)) else sp_po S k (l + 1) (z + (tz_j (sp_ar l 500 S 21 l) - tz_j (S 0 3)) * tz_j (S 19 l))) else sp_po S k (l + 1) z)), A') ∧ _
    by_cases y : S 20 l < 200
    · have n4 : (tz_j (S 20 l) < tz_j 200) = True := nj_ltt (by omega) (by omega)
      rw [if_pos (c := S 20 l < 200) y]
      obtain ⟨C, f3, fC, gC, h34, h36⟩ := m_by (l := l) hN m.1 H hst.2 (by omega)
      obtain ⟨D1, m1, gg⟩ := MX_back H.1 hst m fC gC h34 (by rw [h36]; exact (m.1.2.2.2.2.2 (by rw [hst.2]; omega)).symm)
      have q19 : tz_g C 174 l = tz_j (S 19 l) := cm_174 m1.1.1 (by omega)
      have q3 : tz_g C 157 22 = tz_j (S 0 3) := cm_22 m1.1.1
      generalize sp_ar l 500 S 21 l = a at *
      by_cases x : a = 4294967295
      · rw [if_pos (c := a = 4294967295) x]
        rw [x] at f3
        obtain ⟨A', D', e, m', g⟩ := ih (l + 1) (z + tz_j 500 * tz_j (S 19 l)) C D1 (by omega) m1
        refine ⟨A', D', ?_, m', mg_tr gg g⟩
        simp only [tz_lit, nj_m1, nj_m2, nj_m3, nj_m4, nj_m5, nj_m6, nj_m7, ↓reduceIte, tz_bI_some, tz_bV_some, tz_bL_some, cj10, cj01, cjm0, eq_self, not_true_eq_false, not_false_eq_true, or_false, false_or, or_true, true_or, or_self, and_true, true_and, and_false, false_and, q15, n1, hcl, n3, q20, n4, f3, q19, nj_add]
        rw [Int32.mul_comm]
        exact e
      · have n2 : (tz_j a = tz_j 4294967295) = False := nj_eqf x (by omega) (by omega)
        rw [if_neg (c := a = 4294967295) x]
        obtain ⟨A', D', e, m', g⟩ := ih (l + 1) (z + (tz_j a - tz_j (S 0 3)) * tz_j (S 19 l)) C D1 (by omega) m1
        refine ⟨A', D', ?_, m', mg_tr gg g⟩
        simp only [tz_lit, nj_m1, nj_m2, nj_m3, nj_m4, nj_m5, nj_m6, nj_m7, ↓reduceIte, tz_bI_some, tz_bV_some, tz_bL_some, cj10, cj01, cjm0, eq_self, not_true_eq_false, not_false_eq_true, or_false, false_or, or_true, true_or, or_self, and_true, true_and, and_false, false_and, q15, n1, hcl, n3, q20, n4, f3, n2, q19, q3, nj_add]
        rw [Int32.mul_comm]
        exact e
    · have n4 : (tz_j (S 20 l) < tz_j 200) = False := nj_ltf (by omega) (by omega)
      rw [if_neg (c := S 20 l < 200) y]
      obtain ⟨A', D', e, m', g⟩ := ih (l + 1) z A D (by omega) m
      refine ⟨A', D', ?_, m', g⟩
      simp only [tz_lit, nj_m1, nj_m2, nj_m3, nj_m4, nj_m5, nj_m6, nj_m7, ↓reduceIte, tz_bI_some, tz_bV_some, tz_bL_some, cj10, cj01, cjm0, eq_self, not_true_eq_false, not_false_eq_true, or_false, false_or, or_true, true_or, or_self, and_true, true_and, and_false, false_and, q15, n1, hcl, n3, q20, n4, nj_add]
      exact e

theorem p_postage : tz_twoI tz_J (f_X11_postage ) (f_X12_postage ) := by
  refine two_of (fun N S K U V A hN c ww => ?_)
  have W := ww.1.1
  have W2 := ww.1.2.1
  have h8 := W.1
  have h4 := W.2.1
  have h12 := W.2.2.1
  have cc := c.1.1
  obtain ⟨A1, f1, r1, g1⟩ := x_bec2 h76 h30 (by omega) W ww.2.1 c.1
  obtain ⟨A2, f2, r2, g2⟩ := x_pass (n := 500) h76 (show N + 500 ≤ 2000000 by omega) r1 ww.1
  have g := fx_tr (fx_mo g1 (fun k i => th_b)) (fx_mo (fx_fr g2) (fun k i => th_r))
  have c2 := CX_th ww.2.1 ww.2.2.2.1 g c
  refine out_th (v := sp_po S (S 15 0) 0 (tz_j 0)) c ww ⟨A2, ?_, g⟩ (fun A D m => ?_)
  · have f3 := x_poL hN ww.1 c2.1.1 r2.1 (S 15 0) 0 (tz_j 0) (Nat.zero_add _)
    rw [e_X11_postage]
    simp only [tz_lit, nj_m1, nj_m2, nj_m3, nj_m4, nj_m5, nj_m6, nj_m7, ↓reduceIte, tz_bI_some, tz_bV_some, tz_bL_some, cj10, cj01, cjm0, eq_self, not_true_eq_false, not_false_eq_true, or_false, false_or, or_true, true_or, or_self, and_true, true_and, and_false, false_and, f1, f2, f3]
  · obtain ⟨A', D', e, m', gg⟩ := m_poL hN ww.2.1 ww.1 (S 15 0) 0 (tz_j 0) A D (Nat.zero_add _) m
    refine ⟨A', D', ?_, m', mf_mg gg⟩
    rw [e_X12_postage]
    exact e

def sp_mt (t u : Nat) : Nat → tz_S → Int32
  | 0, _ => tz_j 4294967295
  | k + 1, S => if sp_at (sp_tk S) t = sp_at (sp_tk S) u then tz_j (sp_tk S 0 3) else sp_mt t u k (sp_tk S)
theorem x_mtL {t u : Nat} : ∀ k i N S A, i + k = 500 → N + k ≤ 2000000 → rx 76 99 S A → sp_H N S → t < S 7 0 → u < S 7 0 → ∃ A', q_X11_meet_53 (tz_j t) (tz_j u) (tz_j i) A = some (some (.int (sp_mt t u k S)), A') ∧ tz_fr (rx_p 76) A A' := by
  intro k
  induction k with
  | zero =>
    intro i N S A hi hN r H ht hu
    obtain rfl : i = 500 := by omega
    have n1 : (tz_j 500 ≤ tz_j 500) = True := nj_let (by omega) (by omega)
    refine ⟨A, ?_, fr_rfl⟩
    rw [e_X11_meet_53]
    simp only [tz_lit, nj_m1, nj_m2, nj_m3, nj_m4, nj_m5, nj_m6, nj_m7, ↓reduceIte, tz_bI_some, tz_bV_some, tz_bL_some, cj10, cj01, cjm0, eq_self, not_true_eq_false, not_false_eq_true, or_false, false_or, or_true, true_or, or_self, and_true, true_and, and_false, false_and, n1]
    rfl
  | succ k ih =>
    intro i N S A hi hN r H ht hu
    have n1 : (tz_j 500 ≤ tz_j i) = False := nj_lef (by omega) (by omega)
    obtain ⟨A1, e1, r1, f1⟩ := x_tk h76 (by omega) r H
    obtain ⟨g1, g2, g3⟩ := tk_G H
    have ht1 : t < sp_tk S 7 0 := by rw [g3 7 0 (by unfold sp_kp; omega) (by omega)]; exact ht
    have hu1 : u < sp_tk S 7 0 := by rw [g3 7 0 (by unfold sp_kp; omega) (by omega)]; exact hu
    have e2 := x_at h76 r1.1 g1.1 g1.2.1 ht1
    have e3 := x_at h76 r1.1 g1.1 g1.2.1 hu1
    have a2 := at_lt g1.1 g1.2.1 ht1
    have a3 := at_lt g1.1 g1.2.1 hu1
    have h8 := g1.1.1
    have q3 : tz_g A1 76 3 = tz_j (sp_tk S 0 3) := cx_0_3 r1.1
    rw [e_X11_meet_53]
    show ∃ A', _ = some (some (Value.int (if sp_at (sp_tk S) t = sp_at (sp_tk S) u then tz_j (sp_tk S 0 3) else sp_mt t u k (sp_tk S))), A') ∧ _
    by_cases z : sp_at (sp_tk S) t = sp_at (sp_tk S) u
    · rw [if_pos (c := sp_at (sp_tk S) t = sp_at (sp_tk S) u) z]
      refine ⟨A1, ?_, f1⟩
      simp only [tz_lit, nj_m1, nj_m2, nj_m3, nj_m4, nj_m5, nj_m6, nj_m7, ↓reduceIte, tz_bI_some, tz_bV_some, tz_bL_some, cj10, cj01, cjm0, eq_self, not_true_eq_false, not_false_eq_true, or_false, false_or, or_true, true_or, or_self, and_true, true_and, and_false, false_and, n1, e1, e2, e3, z, q3]
    · have n2 : (tz_j (sp_at (sp_tk S) t) = tz_j (sp_at (sp_tk S) u)) = False := nj_eqf z (by omega) (by omega)
      rw [if_neg (c := sp_at (sp_tk S) t = sp_at (sp_tk S) u) z]
      obtain ⟨A', e, f'⟩ := ih (i + 1) (N + 1) _ A1 (by omega) (by omega) r1 g1 ht1 hu1
      refine ⟨A', ?_, fr_tr f1 f'⟩
      simp only [tz_lit, nj_m1, nj_m2, nj_m3, nj_m4, nj_m5, nj_m6, nj_m7, ↓reduceIte, tz_bI_some, tz_bV_some, tz_bL_some, cj10, cj01, cjm0, eq_self, not_true_eq_false, not_false_eq_true, or_false, false_or, or_true, true_or, or_self, and_true, true_and, and_false, false_and, n1, e1, e2, e3, n2, nj_add]
      exact e
theorem m_mtL {D : Nat → Int32} {t u : Nat} : ∀ k i N S A, i + k = 500 → N + k ≤ 2000000 → rm D S A → sp_H N S → S 200 0 ≠ 2 → t < S 7 0 → u < S 7 0 → ∃ B S', q_X12_meet_41 (tz_j t) (tz_j u) (tz_j 4294967295) (tz_j i) A = tz_bV (f_X12_again_s181 B) (fun A1 => some (some (.int (sp_mt t u k S)), A1)) ∧ rm D S' B ∧ S' 200 0 = S 200 0 ∧ tz_fr mo_p A B := by
  intro k
  induction k with
  | zero =>
    intro i N S A hi hN r H h2 ht hu
    obtain rfl : i = 500 := by omega
    have n1 : (tz_j 500 ≤ tz_j 500) = True := nj_let (by omega) (by omega)
    refine ⟨A, S, ?_, r, rfl, fr_rfl⟩
    rw [e_X12_meet_41]
    simp only [tz_lit, nj_m1, nj_m2, nj_m3, nj_m4, nj_m5, nj_m6, nj_m7, ↓reduceIte, tz_bI_some, tz_bV_some, tz_bL_some, cj10, cj01, cjm0, eq_self, not_true_eq_false, not_false_eq_true, or_false, false_or, or_true, true_or, or_self, and_true, true_and, and_false, false_and, n1]
    rfl
  | succ k ih =>
    intro i N S A hi hN r H h2 ht hu
    have n1 : (tz_j 500 ≤ tz_j i) = False := nj_lef (by omega) (by omega)
    obtain ⟨A1, e1, r1, f1⟩ := m_tk (by omega) r H h2
    obtain ⟨g1, g2, g3⟩ := tk_G H
    have g200 := g3 200 0 (by unfold sp_kp; omega) (by omega)
    have ht1 : t < sp_tk S 7 0 := by rw [g3 7 0 (by unfold sp_kp; omega) (by omega)]; exact ht
    have hu1 : u < sp_tk S 7 0 := by rw [g3 7 0 (by unfold sp_kp; omega) (by omega)]; exact hu
    have e2 := m_at r1.1 g1.1 g1.2.1 ht1
    have e3 := m_at r1.1 g1.1 g1.2.1 hu1
    have a2 := at_lt g1.1 g1.2.1 ht1
    have a3 := at_lt g1.1 g1.2.1 hu1
    have h8 := g1.1.1
    have h3 := g1.2.2.2.1
    have q3 : tz_g A1 157 22 = tz_j (sp_tk S 0 3) := cm_22 r1.1
    rw [e_X12_meet_41]
    show ∃ B S', _ = tz_bV (f_X12_again_s181 B) (fun A1 => some (some (Value.int (if sp_at (sp_tk S) t = sp_at (sp_tk S) u then tz_j (sp_tk S 0 3) else sp_mt t u k (sp_tk S))), A1)) ∧ _
    by_cases z : sp_at (sp_tk S) t = sp_at (sp_tk S) u
    · rw [if_pos (c := sp_at (sp_tk S) t = sp_at (sp_tk S) u) z]
      refine ⟨A1, sp_tk S, ?_, r1, g200, f1⟩
      have n4 : (tz_j (sp_tk S 0 3) = tz_j 4294967295) = False := nj_eqf (by omega) (by omega) (by omega)
      simp only [tz_lit, nj_m1, nj_m2, nj_m3, nj_m4, nj_m5, nj_m6, nj_m7, ↓reduceIte, tz_bI_some, tz_bV_some, tz_bL_some, cj10, cj01, cjm0, eq_self, not_true_eq_false, not_false_eq_true, or_false, false_or, or_true, true_or, or_self, and_true, true_and, and_false, false_and, n1, e1, e2, e3, z, q3, nj_add]
      rw [e_X12_meet_41]
      simp only [tz_lit, nj_m1, nj_m2, nj_m3, nj_m4, nj_m5, nj_m6, nj_m7, ↓reduceIte, tz_bI_some, tz_bV_some, tz_bL_some, cj10, cj01, cjm0, eq_self, not_true_eq_false, not_false_eq_true, or_false, false_or, or_true, true_or, or_self, and_true, true_and, and_false, false_and, n4]
      split <;> rfl
    · have n2 : (tz_j (sp_at (sp_tk S) t) = tz_j (sp_at (sp_tk S) u)) = False := nj_eqf z (by omega) (by omega)
      rw [if_neg (c := sp_at (sp_tk S) t = sp_at (sp_tk S) u) z]
      obtain ⟨B, S', e, r', e200, f'⟩ := ih (i + 1) (N + 1) _ A1 (by omega) (by omega) r1 g1 (by rw [g200]; exact h2) ht1 hu1
      refine ⟨B, S', ?_, r', e200.trans g200, fr_tr f1 f'⟩
      simp only [tz_lit, nj_m1, nj_m2, nj_m3, nj_m4, nj_m5, nj_m6, nj_m7, ↓reduceIte, tz_bI_some, tz_bV_some, tz_bL_some, cj10, cj01, cjm0, eq_self, not_true_eq_false, not_false_eq_true, or_false, false_or, or_true, true_or, or_self, and_true, true_and, and_false, false_and, n1, e1, e2, e3, n2, nj_add]
      exact e

theorem p_meet (x1 x2 : Int32) : tz_twoI tz_J (f_X11_meet x1 x2) (f_X12_meet x1 x2) := by
  refine two_of (fun N S K U V A hN c ww => ?_)
  have W := ww.1.1
  have W2 := ww.1.2.1
  have h8 := W.1
  have h4 := W.2.1
  have h12 := W.2.2.1
  have cc := c.1.1
  rcases nj_three x1 (S 7 0) (by omega) with ⟨t, ht, rfl⟩ | h
  · have e1 := x_hast1 h30 cc ht (by omega)
    have e2 := fun {D} {A} (m : MX D S K U V A) => m_hast1 m.1.1 ht (by omega)
    rcases nj_three x2 (S 7 0) (by omega) with ⟨u, hu, rfl⟩ | h2
    · have e3 := x_hast1 h30 cc hu (by omega)
      have e4 := fun {D} {A} (m : MX D S K U V A) => m_hast1 m.1.1 hu (by omega)
      by_cases z : t = u
      · subst z

        refine out_ref (v := tz_j 4294967291 - tz_j 10) 5 (by omega) c ww ?_ (fun A D m => ?_)
        · rw [e_X11_meet]
          simp only [tz_lit, nj_m1, nj_m2, nj_m3, nj_m4, nj_m5, nj_m6, nj_m7, ↓reduceIte, tz_bI_some, tz_bV_some, tz_bL_some, cj10, cj01, cjm0, eq_self, not_true_eq_false, not_false_eq_true, or_false, false_or, or_true, true_or, or_self, and_true, true_and, and_false, false_and, e1, x_ref1, x_ref2, x_ref3, x_ref4, x_ref5, x_ref6, x_ref7, e_X11_refuseLower]
        · rw [e_X12_meet]
          simp only [tz_lit, nj_m1, nj_m2, nj_m3, nj_m4, nj_m5, nj_m6, nj_m7, ↓reduceIte, tz_bI_some, tz_bV_some, tz_bL_some, cj10, cj01, cjm0, eq_self, not_true_eq_false, not_false_eq_true, or_false, false_or, or_true, true_or, or_self, and_true, true_and, and_false, false_and, e2 m, m_no1, m_no2, m_no3, m_no4, m_no5, m_no6, m_no7, e_X12_no10]

      · have n0 : (tz_j t = tz_j u) = False := nj_eqf z (by omega) (by omega)
        obtain ⟨A1, f1, r1, g1⟩ := x_bec2 h76 h30 (by omega) W ww.2.1 c.1
        obtain ⟨A2, f2, g2⟩ := x_mtL (t := t) (u := u) 500 0 N S A1 (by omega) (by omega) r1 ww.1 ht hu
        refine out_th (v := sp_mt t u 500 S) c ww ⟨A2, ?_, fx_tr (fx_mo g1 (fun k i => th_b)) (fx_mo (fx_fr g2) (fun k i => th_r))⟩ (fun A D m => ?_)
        · rw [e_X11_meet]
          simp only [tz_lit, nj_m1, nj_m2, nj_m3, nj_m4, nj_m5, nj_m6, nj_m7, ↓reduceIte, tz_bI_some, tz_bV_some, tz_bL_some, cj10, cj01, cjm0, eq_self, not_true_eq_false, not_false_eq_true, or_false, false_or, or_true, true_or, or_self, and_true, true_and, and_false, false_and, e1, e3, n0, f1, f2]
        · obtain ⟨M1, k1, rk, hk34, hback⟩ := m_think W ww.2.1 m
          obtain ⟨B, S', eB, rB, e200, fB⟩ := m_mtL (D := D) (t := t) (u := u) 500 0 N S M1 (by omega) (by omega) rk ww.1 (by rw [ww.2.1.2]; omega) ht hu
          obtain ⟨C, D', eC, mC, fC, _⟩ := hback B (fr_mo fB (fun k i => mo_mt)) (fun j => fB.2.2 181 j mo_181) ((fB.2.2 157 34 mo_34).trans hk34) (rB.2.2.2.2.2 (by rw [e200, ww.2.1.2]; omega))
          refine ⟨C, D', ?_, mC, fC⟩
          rw [e_X12_meet]
          simp only [tz_lit, nj_m1, nj_m2, nj_m3, nj_m4, nj_m5, nj_m6, nj_m7, ↓reduceIte, tz_bI_some, tz_bV_some, tz_bL_some, cj10, cj01, cjm0, eq_self, not_true_eq_false, not_false_eq_true, or_false, false_or, or_true, true_or, or_self, and_true, true_and, and_false, false_and, e2 m, e4 m, n0, k1, eB, eC]
    · have e3 := x_hast0 h30 cc h2 (by omega)
      have e4 := fun {D} {A} (m : MX D S K U V A) => m_hast0 m.1.1 h2 (by omega)

      refine out_ref (v := tz_j 4294967291 - tz_j 10) 5 (by omega) c ww ?_ (fun A D m => ?_)
      · rw [e_X11_meet]
        simp only [tz_lit, nj_m1, nj_m2, nj_m3, nj_m4, nj_m5, nj_m6, nj_m7, ↓reduceIte, tz_bI_some, tz_bV_some, tz_bL_some, cj10, cj01, cjm0, eq_self, not_true_eq_false, not_false_eq_true, or_false, false_or, or_true, true_or, or_self, and_true, true_and, and_false, false_and, e1, e3, x_ref1, x_ref2, x_ref3, x_ref4, x_ref5, x_ref6, x_ref7, e_X11_refuseLower]
      · rw [e_X12_meet]
        simp only [tz_lit, nj_m1, nj_m2, nj_m3, nj_m4, nj_m5, nj_m6, nj_m7, ↓reduceIte, tz_bI_some, tz_bV_some, tz_bL_some, cj10, cj01, cjm0, eq_self, not_true_eq_false, not_false_eq_true, or_false, false_or, or_true, true_or, or_self, and_true, true_and, and_false, false_and, e2 m, e4 m, m_no1, m_no2, m_no3, m_no4, m_no5, m_no6, m_no7, e_X12_no10]

  · have e1 := x_hast0 h30 cc h (by omega)
    have e2 := fun {D} {A} (m : MX D S K U V A) => m_hast0 m.1.1 h (by omega)
    refine out_ref (v := tz_j 4294967291 - tz_j 10) 5 (by omega) c ww ?_ (fun A D m => ?_)
    · rw [e_X11_meet]
      simp only [tz_lit, nj_m1, nj_m2, nj_m3, nj_m4, nj_m5, nj_m6, nj_m7, ↓reduceIte, tz_bI_some, tz_bV_some, tz_bL_some, cj10, cj01, cjm0, eq_self, not_true_eq_false, not_false_eq_true, or_false, false_or, or_true, true_or, or_self, and_true, true_and, and_false, false_and, e1, x_ref1, x_ref2, x_ref3, x_ref4, x_ref5, x_ref6, x_ref7, e_X11_refuseLower]
    · rw [e_X12_meet]
      simp only [tz_lit, nj_m1, nj_m2, nj_m3, nj_m4, nj_m5, nj_m6, nj_m7, ↓reduceIte, tz_bI_some, tz_bV_some, tz_bL_some, cj10, cj01, cjm0, eq_self, not_true_eq_false, not_false_eq_true, or_false, false_or, or_true, true_or, or_self, and_true, true_and, and_false, false_and, e2 m, m_no1, m_no2, m_no3, m_no4, m_no5, m_no6, m_no7, e_X12_no10]

theorem p_hours (x1 : Int32) : tz_twoI tz_J (f_X11_hours x1) (f_X12_hours x1) := by
  refine two_of (fun N S K U V A hN c ww => ?_)
  have W := ww.1.1
  have W2 := ww.1.2.1
  have h8 := W.1
  have h4 := W.2.1
  have h12 := W.2.2.1
  have cc := c.1.1
  rcases nj_three x1 501 (by omega) with ⟨n, hn, rfl⟩ | h
  · by_cases z : n = 0
    · subst z
      have n1 : (tz_j 0 < tz_j 1) = True := nj_ltt (by omega) (by omega)
      have w1 : ∀ A, f_X12_within (tz_j 0) (tz_j 1) (tz_j 500) A = some (some (.int (tz_j 0)), A) := fun A => by
        rw [e_X12_within]
        simp only [tz_lit, nj_m1, nj_m2, nj_m3, nj_m4, nj_m5, nj_m6, nj_m7, ↓reduceIte, tz_bI_some, tz_bV_some, tz_bL_some, cj10, cj01, cjm0, eq_self, not_true_eq_false, not_false_eq_true, or_false, false_or, or_true, true_or, or_self, and_true, true_and, and_false, false_and, n1]

      refine out_ref (v := tz_j 4294967290) 6 (by omega) c ww ?_ (fun A D m => ?_)
      · rw [e_X11_hours]
        simp only [tz_lit, nj_m1, nj_m2, nj_m3, nj_m4, nj_m5, nj_m6, nj_m7, ↓reduceIte, tz_bI_some, tz_bV_some, tz_bL_some, cj10, cj01, cjm0, eq_self, not_true_eq_false, not_false_eq_true, or_false, false_or, or_true, true_or, or_self, and_true, true_and, and_false, false_and, n1, x_ref1, x_ref2, x_ref3, x_ref4, x_ref5, x_ref6, x_ref7, e_X11_refuseLower]
      · rw [e_X12_hours]
        simp only [tz_lit, nj_m1, nj_m2, nj_m3, nj_m4, nj_m5, nj_m6, nj_m7, ↓reduceIte, tz_bI_some, tz_bV_some, tz_bL_some, cj10, cj01, cjm0, eq_self, not_true_eq_false, not_false_eq_true, or_false, false_or, or_true, true_or, or_self, and_true, true_and, and_false, false_and, w1, m_no1, m_no2, m_no3, m_no4, m_no5, m_no6, m_no7, e_X12_no10]

    · have n1 : (tz_j n < tz_j 1) = False := nj_ltf (by omega) (by omega)
      have n2 : (tz_j n ≤ tz_j 500) = True := nj_let (by omega) (by omega)
      have w1 := fun A => w_in1 (A := A) (u := n) (n := 500) (by omega) (by omega) (by omega)
      have k1 := x_cw (b := 30) (p := 200) h30 cc W W2 (by omega)
      obtain ⟨A2, f2, r2, g2⟩ := x_pass (n := n) h30 (show N + n ≤ 2000000 by omega) c.1 ww.1
      obtain ⟨Hn, Hn3, Hnk⟩ := n_G n S ww.1
      have k2 := x_cw (b := 30) (p := 200) h30 r2.1 Hn.1 Hn.2.1 (by omega)
      have e15 := Hnk 15 0 (by unfold sp_kp; omega) (by omega)
      refine out_sky (v := tz_j (sp_cw 200 (sp_n n S 15 0) (sp_n n S)) - tz_j (sp_cw 200 (S 15 0) S)) (S' := sp_n n S) c ww (sp_H_mo Hn (by omega)) ⟨by rw [Hnk 0 6 (by unfold sp_kp; omega) (by omega)]; exact ww.2.1.1, by rw [Hnk 200 0 (by unfold sp_kp; omega) (by omega)]; exact ww.2.1.2⟩ (by rw [Hnk 1 0 (by unfold sp_kp; omega) (by omega)]; exact Nat.le_refl _) ⟨A2, ?_, r2, fx_mo (fx_fr g2) (fun k i h => by unfold rx_p at h; unfold th_p; omega)⟩ (fun A D m => ?_)
      · rw [e_X11_hours]
        simp only [tz_lit, nj_m1, nj_m2, nj_m3, nj_m4, nj_m5, nj_m6, nj_m7, ↓reduceIte, tz_bI_some, tz_bV_some, tz_bL_some, cj10, cj01, cjm0, eq_self, not_true_eq_false, not_false_eq_true, or_false, false_or, or_true, true_or, or_self, and_true, true_and, and_false, false_and, n1, n2, k1, f2, k2]
      · have k3 := m_there m.1.1 W W2
        obtain ⟨B, eB, rB, fB⟩ := m_n (D := D) (q := fun i A => q_X12_hours_25 (tz_j n) (tz_j (sp_cw 200 (S 15 0) S)) i A) (n := n) (fun i A hi => by
          show q_X12_hours_25 (tz_j n) (tz_j (sp_cw 200 (S 15 0) S)) (tz_j i) A = _
          have n3 : (tz_j n ≤ tz_j i) = False := nj_lef (by omega) (by omega)
          rw [e_X12_hours_25]
          simp only [tz_lit, nj_m1, nj_m2, nj_m3, nj_m4, nj_m5, nj_m6, nj_m7, ↓reduceIte, tz_bI_some, tz_bV_some, tz_bL_some, cj10, cj01, cjm0, eq_self, not_true_eq_false, not_false_eq_true, or_false, false_or, or_true, true_or, or_self, and_true, true_and, and_false, false_and, n3, nj_add]) n 0 N S A (by omega) (by omega) m.1 ww.1 (by rw [ww.2.1.2]; omega)
        have eB2 : q_X12_hours_25 (tz_j n) (tz_j (sp_cw 200 (S 15 0) S)) (tz_j 0) A = q_X12_hours_25 (tz_j n) (tz_j (sp_cw 200 (S 15 0) S)) (tz_j n) B := eB
        have k4 := m_there rB.1 Hn.1 Hn.2.1
        have n4 : (tz_j n ≤ tz_j n) = True := nj_let (by omega) (by omega)
        refine ⟨B, D, ?_, rB, fr_mo fB (fun k i => mo_mt)⟩
        rw [e_X12_hours]
        simp only [tz_lit, nj_m1, nj_m2, nj_m3, nj_m4, nj_m5, nj_m6, nj_m7, ↓reduceIte, tz_bI_some, tz_bV_some, tz_bL_some, cj10, cj01, cjm0, eq_self, not_true_eq_false, not_false_eq_true, or_false, false_or, or_true, true_or, or_self, and_true, true_and, and_false, false_and, w1, k3, eB2]
        rw [e_X12_hours_25]
        simp only [tz_lit, nj_m1, nj_m2, nj_m3, nj_m4, nj_m5, nj_m6, nj_m7, ↓reduceIte, tz_bI_some, tz_bV_some, tz_bL_some, cj10, cj01, cjm0, eq_self, not_true_eq_false, not_false_eq_true, or_false, false_or, or_true, true_or, or_self, and_true, true_and, and_false, false_and, n4, k4]
  · have w1 : ∀ A, f_X12_within x1 (tz_j 1) (tz_j 500) A = some (some (.int (tz_j 0)), A) := fun A => by
      rw [e_X12_within]
      rcases h with h | h
      · simp (disch := omega) only [tz_lit, nj_m1, ↓reduceIte, nj_cl, nj_ltt, nj_ltf, nj_let, nj_lef, nj_eqf, nj_lt, nj_le, nj_eq, nj_add, nj_mul, nj_modx, nj_and7, nj_div, tz_bI_some, tz_bV_some, or_false, false_or, or_self, and_false, false_and, and_true, true_and, not_true_eq_false, not_false_eq_true, nt_lef, nt_let, nt_ltf, nt_ltt, nt_eqf, nj_m2, nj_m3, nj_m4, nj_m5, nj_m6, nj_m7, tz_bL_some, nj_sub, ng_ltt, ng_let, ng_gtf, ng_gef, ob_l h]
      · simp (disch := omega) only [tz_lit, nj_m1, ↓reduceIte, nj_cl, nj_ltt, nj_ltf, nj_let, nj_lef, nj_eqf, nj_lt, nj_le, nj_eq, nj_add, nj_mul, nj_modx, nj_and7, nj_div, tz_bI_some, tz_bV_some, or_false, false_or, or_self, and_false, false_and, and_true, true_and, not_true_eq_false, not_false_eq_true, nt_lef, nt_let, nt_ltf, nt_ltt, nt_eqf, nj_m2, nj_m3, nj_m4, nj_m5, nj_m6, nj_m7, tz_bL_some, nj_sub, ng_ltt, ng_let, ng_gtf, ng_gef, ob_h (show 501 < 2147483648 by omega) h]
    refine out_ref (v := tz_j 4294967290) 6 (by omega) c ww ?_ (fun A D m => ?_)
    · rw [e_X11_hours]
      rcases h with h | h
      · have n1 : (x1 < tz_j 1) = True := ((ob_l h).2.2 1 (by omega)).2.2.1
        simp only [tz_lit, nj_m1, nj_m2, nj_m3, nj_m4, nj_m5, nj_m6, nj_m7, ↓reduceIte, tz_bI_some, tz_bV_some, tz_bL_some, cj10, cj01, cjm0, eq_self, not_true_eq_false, not_false_eq_true, or_false, false_or, or_true, true_or, or_self, and_true, true_and, and_false, false_and, n1, x_ref1, x_ref2, x_ref3, x_ref4, x_ref5, x_ref6, x_ref7, e_X11_refuseLower]
      · have n1 : (x1 < tz_j 1) = False := ((ob_h (show 501 < 2147483648 by omega) h).1 1 (by omega)).1
        have n2 : (x1 ≤ tz_j 500) = False := ((ob_h (show 501 < 2147483648 by omega) h).2 500 (by omega)).1
        simp only [tz_lit, nj_m1, nj_m2, nj_m3, nj_m4, nj_m5, nj_m6, nj_m7, ↓reduceIte, tz_bI_some, tz_bV_some, tz_bL_some, cj10, cj01, cjm0, eq_self, not_true_eq_false, not_false_eq_true, or_false, false_or, or_true, true_or, or_self, and_true, true_and, and_false, false_and, n1, n2, x_ref1, x_ref2, x_ref3, x_ref4, x_ref5, x_ref6, x_ref7, e_X11_refuseLower]
    · rw [e_X12_hours]
      simp only [tz_lit, nj_m1, nj_m2, nj_m3, nj_m4, nj_m5, nj_m6, nj_m7, ↓reduceIte, tz_bI_some, tz_bV_some, tz_bL_some, cj10, cj01, cjm0, eq_self, not_true_eq_false, not_false_eq_true, or_false, false_or, or_true, true_or, or_self, and_true, true_and, and_false, false_and, w1, m_no1, m_no2, m_no3, m_no4, m_no5, m_no6, m_no7, e_X12_no10]

