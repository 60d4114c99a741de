/-! postage, meet, hours, drought -/
/-- a letter that is there stays -/
theorem sayL_stay {t h l : Nat} (ht : t < 4) : ∀ k i S, i + k = S 15 0 → sp_W1 S → sp_W2 S → sp_WE S → h < S 1 0 → 200 ≤ S 20 l → sp_sayL t h k i S 20 l = S 20 l ∧ sp_sayL t h k i S 21 l = S 21 l := by
  intro k
  induction k with
  | zero => exact fun i S _ _ _ _ _ _ => ⟨rfl, rfl⟩
  | succ k ih =>
    intro i S hi W W2 WE hh hw
    have h8 := W.1
    have hl := W.2.2.2.2.2.2.1 i (by omega)
    show sp_sayL t h k (i + 1) (if S 20 (S 22 i) = 100 + t then sp_say (S 22 i) h S else S) 20 l = _ ∧ sp_sayL t h k (i + 1) (if S 20 (S 22 i) = 100 + t then sp_say (S 22 i) h S else S) 21 l = _
    by_cases q : S 20 (S 22 i) = 100 + t
    · rw [if_pos q]
      have hne : l ≠ S 22 i := fun z => by rw [z] at hw; omega
      have g := say_G W W2 WE hl hh (by omega)
      have sg := (say_get (l := S 22 i) (h := h) (S := S) (by omega)).1
      have s20 := sg 20 l (by omega) (by omega) (by omega) (by omega) (by omega)
      have s21 := sg 21 l (by omega) (by omega) (by omega) (by omega) (by omega)
      obtain ⟨a, b⟩ := ih (i + 1) _ (by rw [g.1 15 0 (by unfold sp_kp; omega)]; omega) g.2.1 g.2.2.1 g.2.2.2.1 (by rw [g.1 1 0 (by unfold sp_kp; omega)]; exact hh) (by rw [s20]; exact hw)
      exact ⟨a.trans s20, b.trans s21⟩
    · rw [if_neg q]
      exact ih (i + 1) S (by omega) W W2 WE hh hw
theorem take_stay {t h l : Nat} : ∀ k i left S, h < 100 → 200 ≤ S 20 l → sp_take t h k i left S 20 l = S 20 l ∧ sp_take t h k i left S 21 l = S 21 l := by
  intro k
  induction k with
  | zero => exact fun _ _ _ _ _ => ⟨rfl, rfl⟩
  | succ k ih =>
    intro i left S hh hw
    show (if left = 0 then S else if S 20 (S 22 i) = h ∧ S 19 (S 22 i) ≤ S 9 t then sp_take t h k (i + 1) (left - 1) (tz_t S 20 (S 22 i) (100 + t)) else sp_take t h k (i + 1) left S) 20 l = _ ∧ (if left = 0 then S else if S 20 (S 22 i) = h ∧ S 19 (S 22 i) ≤ S 9 t then sp_take t h k (i + 1) (left - 1) (tz_t S 20 (S 22 i) (100 + t)) else sp_take t h k (i + 1) left S) 21 l = _
    by_cases c0 : left = 0
    · rw [if_pos c0]
      exact ⟨rfl, rfl⟩
    rw [if_neg c0]
    by_cases c1 : S 20 (S 22 i) = h ∧ S 19 (S 22 i) ≤ S 9 t
    · rw [if_pos c1]
      have hne : l ≠ S 22 i := fun z => by rw [z] at hw; omega
      have e20 : tz_t S 20 (S 22 i) (100 + t) 20 l = S 20 l := tz_ti hne
      have e21 : tz_t S 20 (S 22 i) (100 + t) 21 l = S 21 l := tz_tk (by omega)
      obtain ⟨a, b⟩ := ih (i + 1) (left - 1) (tz_t S 20 (S 22 i) (100 + t)) hh (by rw [e20]; exact hw)
      exact ⟨a.trans e20, b.trans e21⟩
    · rw [if_neg c1]
      exact ih (i + 1) left S hh hw
theorem com_stay {t l : Nat} {S : tz_S} (W : sp_W1 S) (W2 : sp_W2 S) (WE : sp_WE S) (ht : t < S 7 0) (hw : 200 ≤ S 20 l) : sp_com t S 20 l = S 20 l ∧ sp_com t S 21 l = S 21 l := by
  have h4 := W.2.1
  have h8 := W.1
  have g := adv_G W W2 WE ht
  have ht1 : t < sp_adv t S 7 0 := ht
  have hh := at_lt g.2.1 g.2.2.1 ht1
  have hh2 : sp_at (sp_adv t S) t < 8 := Nat.lt_of_lt_of_le hh (by rw [g.1 1 0 (by unfold sp_kp; omega)]; exact h8)
  obtain ⟨a, b⟩ := sayL_stay (l := l) (t := t) (h := sp_at (sp_adv t S) t) (by omega) (S 15 0) 0 (sp_adv t S) (Nat.zero_add _) g.2.1 g.2.2.1 g.2.2.2.1 hh hw
  obtain ⟨a2, b2⟩ := take_stay (l := l) (t := t) (h := sp_at (sp_adv t S) t) (S 15 0) 0 (S 10 t) (sp_sayL t (sp_at (sp_adv t S) t) (S 15 0) 0 (sp_adv t S)) (by omega) (by rw [a]; exact hw)
  exact ⟨a2.trans a, b2.trans b⟩
theorem tkL_stay {l : Nat} : ∀ k t S, t + k = S 7 0 → sp_W1 S → sp_W2 S → sp_WE S → 200 ≤ S 20 l → sp_tkL k t S 20 l = S 20 l ∧ sp_tkL k t S 21 l = S 21 l := by
  intro k
  induction k with
  | zero => exact fun _ _ _ _ _ _ _ => ⟨rfl, rfl⟩
  | succ k ih =>
    intro t S ht W W2 WE hw
    show sp_tkL k (t + 1) (if S 0 3 % S 8 t = 0 ∧ t ≠ S 0 6 then sp_com t S else S) 20 l = _ ∧ sp_tkL k (t + 1) (if S 0 3 % S 8 t = 0 ∧ t ≠ S 0 6 then sp_com t S else S) 21 l = _
    by_cases q : S 0 3 % S 8 t = 0 ∧ t ≠ S 0 6
    · rw [if_pos q]
      have g := com_G W W2 WE (show t < S 7 0 by omega)
      obtain ⟨a, b⟩ := com_stay (l := l) W W2 WE (show t < S 7 0 by omega) hw
      obtain ⟨a2, b2⟩ := ih (t + 1) _ (by rw [g.1 7 0 (by unfold sp_kp; omega)]; omega) g.2.1 g.2.2.1 g.2.2.2.1 (by rw [a]; exact hw)
      exact ⟨a2.trans a, b2.trans b⟩
    · rw [if_neg q]
      exact ih (t + 1) S (by omega) W W2 WE hw
theorem tk_stay {N l : Nat} {S : tz_S} (H : sp_H N S) (hw : 200 ≤ S 20 l) : sp_tk S 20 l = S 20 l ∧ sp_tk S 21 l = S 21 l := by
  obtain ⟨a, b, c⟩ := tk0 H.1 H.2.1 H.2.2.1
  exact tkL_stay (S 7 0) 0 (tz_t S 0 3 (S 0 3 + 1)) (Nat.zero_add _) a b c hw
theorem n_stay {l : Nat} : ∀ k N S, sp_H N S → 200 ≤ S 20 l → sp_n k S 21 l = S 21 l := by
  intro k
  induction k with
  | zero => exact fun _ _ _ _ => rfl
  | succ k ih =>
    intro N S H hw
    obtain ⟨a, b⟩ := tk_stay H hw
    exact (ih (N + 1) _ (tk_G H).1 (by rw [a]; exact hw)).trans b
theorem n_ar {l : Nat} : ∀ k N S, sp_H N S → sp_n k S 21 l = sp_ar l k S 21 l := by
  intro k
  induction k with
  | zero => exact fun _ _ _ => rfl
  | succ k ih =>
    intro N S H
    show sp_n k (sp_tk S) 21 l = (if S 20 l < 200 then sp_ar l k (sp_tk S) else S) 21 l
    by_cases z : S 20 l < 200
    · rw [if_pos z]
      exact ih (N + 1) _ (tk_G H).1
    · rw [if_neg z]
      exact n_stay (k + 1) N S H (by omega)
/-- coins -/
def sp_po (S : tz_S) : Nat → Nat → Int32 → Int32
  | 0, _, z => z
  | k + 1, l, z => if S 20 l < 200 then (if sp_ar l 500 S 21 l = 4294967295 then sp_po S k (l + 1) (z + tz_j 500 * tz_j (S 19 l)) else sp_po S k (l + 1) (z + (tz_j (sp_ar l 500 S 21 l) - tz_j (S 0 3)) * tz_j (S 19 l))) else sp_po S k (l + 1) z
theorem x_poL {N : Nat} {S : tz_S} {A : tz_Mem} (hN : N ≤ 1100000) (H : sp_H N S) (c : rx_c 30 S A) (c2 : rx_c 76 (sp_n 500 S) A) : ∀ k l z, l + k = S 15 0 → q_X11_postage_25 z (tz_j l) A = some (some (.int (sp_po S k l z)), A) := by
  have h12 := H.1.2.2.1
  have h8 := H.1.1
  have h4 := H.1.2.1
  have q15 : tz_g A 45 0 = tz_j (S 15 0) := cz_15 c
  intro k
  induction k with
  | zero =>
    intro l z hl
    have n1 : (tz_j (S 15 0) ≤ tz_j l) = True := nj_let (by omega) (by omega)
    rw [e_X11_postage_25]
    simp only [tz_lit, nj_m1, nj_m2, nj_m3, nj_m4, nj_m5, nj_m6, nj_m7, ↓reduceIte, tz_bI_some, tz_bV_some, tz_bL_some, cj10, cj01, cjm0, eq_self, not_true_eq_false, not_false_eq_true, or_false, false_or, or_true, true_or, or_self, and_true, true_and, and_false, false_and, q15, n1]
    rfl
  | succ k ih =>
    intro l z hl
    have n1 : (tz_j (S 15 0) ≤ tz_j l) = False := nj_lef (by omega) (by omega)
    have hwl := (H.2.1.2.1 l (by omega)).2.1
    unfold sp_wh at hwl
    have hcl : (tz_j l).toNatClampNeg = l := nj_cl (by omega)
    have n3 : (tz_j l < tz_j 0 ∨ 12 ≤ l) = False := by
      have := nj_ix (l := l) (n := 12) (by omega) (by omega)
      rw [nj_cl (by omega)] at this
      exact this
    have eu : f_X4_isUnderWay 30 (tz_j l) A = some (some (.int (if S 20 l < 200 then tz_j 1 else tz_j 0)), A) := by
      rw [e_X4_isUnderWay _ _ h30]
      by_cases y : S 20 l < 200
      · simp (disch := omega) only [tz_lit, nj_m1, ↓reduceIte, nj_cl, nj_ltt, nj_ltf, nj_let, nj_lef, nj_eqf, nj_lt, nj_le, nj_eq, nj_add, nj_mul, nj_modx, nj_and7, nj_div, tz_bI_some, tz_bV_some, or_false, false_or, or_self, and_false, false_and, and_true, true_and, not_true_eq_false, not_false_eq_true, nt_lef, nt_let, nt_ltf, nt_ltt, nt_eqf, nj_m2, nj_m3, nj_m4, nj_m5, nj_m6, nj_m7, tz_bL_some, nj_sub, ng_ltt, ng_let, ng_gtf, ng_gef, cx_20 c, if_pos y]
      · simp (disch := omega) only [tz_lit, nj_m1, ↓reduceIte, nj_cl, nj_ltt, nj_ltf, nj_let, nj_lef, nj_eqf, nj_lt, nj_le, nj_eq, nj_add, nj_mul, nj_modx, nj_and7, nj_div, tz_bI_some, tz_bV_some, or_false, false_or, or_self, and_false, false_and, and_true, true_and, not_true_eq_false, not_false_eq_true, nt_lef, nt_let, nt_ltf, nt_ltt, nt_eqf, nj_m2, nj_m3, nj_m4, nj_m5, nj_m6, nj_m7, tz_bL_some, nj_sub, ng_ltt, ng_let, ng_gtf, ng_gef, cx_20 c, if_neg y]
    have q21 : tz_g A 97 l = tz_j (sp_ar l 500 S 21 l) := by
      rw [← n_ar 500 N S H]
      exact cg_21 c2 (by omega)
    have q3 : tz_g A 30 3 = tz_j (S 0 3) := cx_0_3 c
    have q19 : tz_g A 49 l = tz_j (S 19 l) := cz_19 c (by omega)
    have ha := ar_hi (l := l) H (by omega)
    rw [e_X11_postage_25]
    show _ = some (some (Value.int (if S 20 l < 200 then (if sp_ar l 500 S 21 l = 4294967295 then sp_po S k (l + 1) (z + tz_j 500 * tz_j (S 19 l)) else sp_po S k (l + 1) (z + (tz_j (sp_ar l 500 S 21 l) - tz_j (S 0 3)) * tz_j (S 19 l))) else sp_po S k (l + 1) z)), A)
    generalize sp_ar l 500 S 21 l = a at *
    by_cases y : S 20 l < 200
    · rw [if_pos y] at eu
      rw [if_pos (c := S 20 l < 200) y]
      by_cases x : a = 4294967295
      · rw [if_pos (c := a = 4294967295) x]
        rw [x] at q21
        simp only [tz_lit, nj_m1, nj_m2, nj_m3, nj_m4, nj_m5, nj_m6, nj_m7, ↓reduceIte, tz_bI_some, tz_bV_some, tz_bL_some, cj10, cj01, cjm0, eq_self, not_true_eq_false, not_false_eq_true, or_false, false_or, or_true, true_or, or_self, and_true, true_and, and_false, false_and, q15, n1, hcl, n3, eu, q21, q3, q19, nj_add]
        exact ih (l + 1) _ (by omega)
      · have n2 : (tz_j a = tz_j 4294967295) = False := nj_eqf x (by omega) (by omega)
        rw [if_neg (c := a = 4294967295) x]
        simp only [tz_lit, nj_m1, nj_m2, nj_m3, nj_m4, nj_m5, nj_m6, nj_m7, ↓reduceIte, tz_bI_some, tz_bV_some, tz_bL_some, cj10, cj01, cjm0, eq_self, not_true_eq_false, not_false_eq_true, or_false, false_or, or_true, true_or, or_self, and_true, true_and, and_false, false_and, q15, n1, hcl, n3, eu, q21, n2, q3, q19, nj_add]
        exact ih (l + 1) _ (by omega)
    · rw [if_neg y] at eu
      rw [if_neg (c := S 20 l < 200) y]
      simp only [tz_lit, nj_m1, nj_m2, nj_m3, nj_m4, nj_m5, nj_m6, nj_m7, ↓reduceIte, tz_bI_some, tz_bV_some, tz_bL_some, cj10, cj01, cjm0, eq_self, not_true_eq_false, not_false_eq_true, or_false, false_or, or_true, true_or, or_self, and_true, true_and, and_false, false_and, q15, n1, hcl, n3, eu, nj_add]
      exact ih (l + 1) _ (by omega)
