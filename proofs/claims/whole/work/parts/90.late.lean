/-! when a letter is there by; the latest hour, the lightest weight -/
theorem sayL21 {t h m : Nat} (ht : t < 4) : ∀ k i S, i + k = S 15 0 → sp_W1 S → sp_W2 S → sp_WE S → h < S 1 0 → sp_sayL t h k i S 21 m = S 21 m ∨ sp_sayL t h k i S 21 m = S 0 3 := by
  intro k
  induction k with
  | zero => exact fun i S _ _ _ _ _ => Or.inl rfl
  | succ k ih =>
    intro i S hi W W2 WE hh
    have h8 := W.1
    have hl := W.2.2.2.2.2.2.1 i (by omega)
    show sp_sayL t h k (i + 1) (if S 20 (S 22 i) = 100 + t then sp_say (S 22 i) h S else S) 21 m = _ ∨ sp_sayL t h k (i + 1) (if S 20 (S 22 i) = 100 + t then sp_say (S 22 i) h S else S) 21 m = _
    by_cases q : S 20 (S 22 i) = 100 + t
    · rw [if_pos q]
      have g := say_G W W2 WE hl hh (by omega)
      have sg := say_get (l := S 22 i) (h := h) (S := S) (by omega)
      have e3 : sp_say (S 22 i) h S 0 3 = S 0 3 := g.1 0 3 (by unfold sp_kp; omega)
      have e21 : sp_say (S 22 i) h S 21 m = S 21 m ∨ sp_say (S 22 i) h S 21 m = S 0 3 := by
        by_cases z : m = S 22 i
        · rw [z, sg.2.2.2.1]
          by_cases y : S 18 (S 22 i) = h
          · rw [if_pos y]
            exact Or.inr rfl
          · rw [if_neg y]
            exact Or.inl rfl
        · exact Or.inl (sg.1 21 m (by omega) (by omega) (by omega) (by omega) (by omega))
      have a := ih (i + 1) _ (by rw [g.1 15 0 (by unfold sp_kp; omega)]; omega) g.2.1 g.2.2.1 g.2.2.2.1 (by rw [g.1 1 0 (by unfold sp_kp; omega)]; exact hh)
      omega
    · rw [if_neg q]
      exact ih (i + 1) S (by omega) W W2 WE hh
theorem take21 {t h m : Nat} : ∀ k i left S, sp_take t h k i left S 21 m = S 21 m := by
  intro k
  induction k with
  | zero => exact fun _ _ _ => rfl
  | succ k ih =>
    intro i left S
    show (if left = 0 then S else if S 20 (S 22 i) = h ∧ S 19 (S 22 i) ≤ S 9 t then sp_take t h k (i + 1) (left - 1) (tz_t S 20 (S 22 i) (100 + t)) else sp_take t h k (i + 1) left S) 21 m = _
    by_cases c0 : left = 0
    · rw [if_pos c0]
    rw [if_neg c0]
    by_cases c1 : S 20 (S 22 i) = h ∧ S 19 (S 22 i) ≤ S 9 t
    · rw [if_pos c1]
      exact (ih _ _ _).trans (tz_tk (by omega))
    · rw [if_neg c1]
      exact ih _ _ _
theorem com21 {t m : Nat} {S : tz_S} (W : sp_W1 S) (W2 : sp_W2 S) (WE : sp_WE S) (ht : t < S 7 0) : sp_com t S 21 m = S 21 m ∨ sp_com t S 21 m = S 0 3 := by
  have h4 := W.2.1
  have g := adv_G W W2 WE ht
  have ht1 : t < sp_adv t S 7 0 := ht
  have hh := at_lt g.2.1 g.2.2.1 ht1
  have a := sayL21 (m := m) (t := t) (h := sp_at (sp_adv t S) t) (by omega) (S 15 0) 0 (sp_adv t S) (Nat.zero_add _) g.2.1 g.2.2.1 g.2.2.2.1 hh
  have b : sp_com t S 21 m = sp_sayL t (sp_at (sp_adv t S) t) (S 15 0) 0 (sp_adv t S) 21 m := take21 _ _ _ _
  rw [b]
  exact a
theorem tkL21 {m : Nat} : ∀ k t S, t + k = S 7 0 → sp_W1 S → sp_W2 S → sp_WE S → sp_tkL k t S 21 m = S 21 m ∨ sp_tkL k t S 21 m = S 0 3 := by
  intro k
  induction k with
  | zero => exact fun _ _ _ _ _ _ => Or.inl rfl
  | succ k ih =>
    intro t S ht W W2 WE
    show sp_tkL k (t + 1) (if S 0 3 % S 8 t = 0 ∧ t ≠ S 0 6 then sp_com t S else S) 21 m = _ ∨ sp_tkL k (t + 1) (if S 0 3 % S 8 t = 0 ∧ t ≠ S 0 6 then sp_com t S else S) 21 m = _
    by_cases q : S 0 3 % S 8 t = 0 ∧ t ≠ S 0 6
    · rw [if_pos q]
      have g := com_G W W2 WE (show t < S 7 0 by omega)
      have a := com21 (m := m) W W2 WE (show t < S 7 0 by omega)
      have e3 : sp_com t S 0 3 = S 0 3 := g.1 0 3 (by unfold sp_kp; omega)
      have b := ih (t + 1) _ (by rw [g.1 7 0 (by unfold sp_kp; omega)]; omega) g.2.1 g.2.2.1 g.2.2.2.1
      omega
    · rw [if_neg q]
      exact ih (t + 1) S (by omega) W W2 WE
theorem tk21 {N m : Nat} {S : tz_S} (H : sp_H N S) : sp_tk S 21 m = S 21 m ∨ sp_tk S 21 m = S 0 3 + 1 := by
  obtain ⟨a, b, c⟩ := tk0 H.1 H.2.1 H.2.2.1
  exact tkL21 (S 7 0) 0 (tz_t S 0 3 (S 0 3 + 1)) (Nat.zero_add _) a b c
theorem ar_hi2 {l N k : Nat} {S : tz_S} (H : sp_H N S) (hl : l < S 15 0) : sp_ar l k S 21 l = 4294967295 ∨ sp_ar l k S 21 l ≤ N + k := by
  obtain ⟨g, gk⟩ := ar_G (l := l) k N S H
  have hw := g.2.1.2.1 l (by rw [gk 15 0 (by unfold sp_kp; omega) (by omega)]; exact hl)
  have h3 := g.2.2.2.1
  by_cases z : sp_ar l k S 20 l = 200
  · have := hw.2.2.1 z
    omega
  · exact Or.inl (hw.2.2.2 z)
theorem ar_lo {l : Nat} : ∀ k N S, sp_H N S → l < S 15 0 → S 20 l < 200 → sp_ar l k S 21 l = 4294967295 ∨ S 0 3 < sp_ar l k S 21 l := by
  intro k
  induction k with
  | zero => exact fun N S H hl hu => Or.inl ((H.2.1.2.1 l hl).2.2.2 (by omega))
  | succ k ih =>
    intro N S H hl hu
    obtain ⟨g1, g2, g3⟩ := tk_G H
    have m1 := (H.2.1.2.1 l hl).2.2.2 (by omega)
    have e15 := g3 15 0 (by unfold sp_kp; omega) (by omega)
    have e : sp_ar l (k + 1) S = sp_ar l k (sp_tk S) := if_pos hu
    rw [e]
    by_cases z : sp_tk S 20 l < 200
    · have a := ih (N + 1) (sp_tk S) g1 (by omega) z
      omega
    · have e2 : sp_ar l k (sp_tk S) = sp_tk S := by
        cases k with
        | zero => rfl
        | succ k => exact if_neg z
      rw [e2]
      have a := tk21 (m := l) H
      omega
def sp_al (l : Nat) (z : Int32) : Nat → tz_S → tz_S
  | 0, S => S
  | k + 1, S => if z ≤ tz_j (S 0 3) then S else if S 20 l < 200 then sp_al l z k (sp_tk S) else S
theorem j_lt {z : Int32} {a b : Nat} (h : z ≤ tz_j a) (hab : a < b) (hb : b < 2147483648) : z < tz_j b := by
  rw [Int32.le_iff_toInt_le, nj_i (by omega)] at h
  rw [Int32.lt_iff_toInt_lt, nj_i hb]
  omega
theorem j_nl {z : Int32} {a : Nat} (h : ¬ z ≤ tz_j a) (ha : a + 1 < 2147483648) : ¬ z < tz_j (a + 1) := by
  rw [Int32.le_iff_toInt_le, nj_i (by omega)] at h
  rw [Int32.lt_iff_toInt_lt, nj_i ha]
  omega
theorem al_eq {l : Nat} {z : Int32} : ∀ k N S, sp_H N S → N + k ≤ 2000000 → l < S 15 0 → S 20 l < 200 → sp_al l z k S 21 l = if sp_ar l k S 21 l = 4294967295 ∨ z < tz_j (sp_ar l k S 21 l) then 4294967295 else sp_ar l k S 21 l := by
  intro k
  induction k with
  | zero =>
    intro N S H hN hl hu
    have m1 := (H.2.1.2.1 l hl).2.2.2 (by omega)
    show S 21 l = if S 21 l = 4294967295 ∨ z < tz_j (S 21 l) then 4294967295 else S 21 l
    rw [if_pos (Or.inl m1)]
    exact m1
  | succ k ih =>
    intro N S H hN hl hu
    obtain ⟨g1, g2, g3⟩ := tk_G H
    have m1 := (H.2.1.2.1 l hl).2.2.2 (by omega)
    have e15 := g3 15 0 (by unfold sp_kp; omega) (by omega)
    have h3 := H.2.2.2.1
    have lo := ar_lo (k + 1) N S H hl hu
    have hi := ar_hi2 (k := k + 1) H hl
    have e : sp_ar l (k + 1) S = sp_ar l k (sp_tk S) := if_pos hu
    show (if z ≤ tz_j (S 0 3) then S else if S 20 l < 200 then sp_al l z k (sp_tk S) else S) 21 l = _
    by_cases y : z ≤ tz_j (S 0 3)
    · rw [if_pos y, m1]
      rcases lo with lo | lo
      · rw [if_pos (Or.inl lo)]
      · rcases hi with hi | hi
        · rw [if_pos (Or.inl hi)]
        · rw [if_pos (Or.inr (j_lt y lo (by omega)))]
    · rw [if_neg y, if_pos hu, e]
      by_cases x : sp_tk S 20 l < 200
      · exact ih (N + 1) (sp_tk S) g1 (by omega) (by omega) x
      · have e2 : sp_ar l k (sp_tk S) = sp_tk S := by
          cases k with
          | zero => rfl
          | succ k => exact if_neg x
        have e3 : sp_al l z k (sp_tk S) = sp_tk S := by
          cases k with
          | zero => rfl
          | succ k =>
            show (if z ≤ tz_j (sp_tk S 0 3) then sp_tk S else if sp_tk S 20 l < 200 then sp_al l z k (sp_tk (sp_tk S)) else sp_tk S) = sp_tk S
            rw [if_neg x]
            split <;> rfl
        rw [e2, e3]
        rcases tk21 (m := l) H with a | a
        · rw [a, m1, if_pos (Or.inl rfl)]
        · rw [a, if_neg]
          intro b
          rcases b with b | b
          · omega
          · exact j_nl y (by omega) b
theorem x_alL {b l : Nat} {z : Int32} (hb : tz_sky b) : ∀ k i N S A, i + k = 500 → N + k ≤ 2000000 → rx b 99 S A → sp_H N S → l < S 15 0 → ∃ A', q_X9_arrival_2 b (tz_j l) z (tz_j i) A = some (some (.int (tz_j (sp_al l z k S 21 l))), A') ∧ tz_fr (rx_p b) A A' := by
  intro k
  induction k with
  | zero =>
    intro i N S A hi hN r H hl
    have h12 := H.1.2.2.1
    have c := r.1
    obtain rfl : i = 500 := by omega
    refine ⟨A, ?_, fr_rfl⟩
    rw [e_X9_arrival_2 _ _ _ _ hb]
    simp (disch := omega) only [tz_lit, nj_m1, ↓reduceIte, nj_cl, nj_ltt, nj_ltf, nj_let, nj_lef, nj_eqf, nj_lt, nj_le, nj_eq, nj_add, nj_mul, nj_modx, nj_and7, nj_div, tz_bI_some, tz_bV_some, or_false, false_or, or_self, and_false, false_and, and_true, true_and, not_true_eq_false, not_false_eq_true, nt_lef, nt_let, nt_ltf, nt_ltt, nt_eqf, nj_m2, nj_m3, nj_m4, nj_m5, nj_m6, nj_m7, tz_bL_some, nj_sub, ng_ltt, ng_let, ng_gtf, ng_gef, cx_21 c]
    rfl
  | succ k ih =>
    intro i N S A hi hN r H hl
    have h12 := H.1.2.2.1
    have h8 := H.1.1
    have h4 := H.1.2.1
    have h3 := H.2.2.2.1
    have c := r.1
    have hwl := (H.2.1.2.1 l hl).2.1
    unfold sp_wh at hwl
    rw [e_X9_arrival_2 _ _ _ _ hb]
    show ∃ A', _ = some (some (Value.int (tz_j ((if z ≤ tz_j (S 0 3) then S else if S 20 l < 200 then sp_al l z k (sp_tk S) else S) 21 l))), A') ∧ _
    have eu : f_X4_isUnderWay b (tz_j l) A = some (some (.int (if S 20 l < 200 then tz_j 1 else tz_j 0)), A) := by
      rw [e_X4_isUnderWay _ _ hb]
      by_cases z : S 20 l < 200
      · simp (disch := omega) only [tz_lit, nj_m1, ↓reduceIte, nj_cl, nj_ltt, nj_ltf, nj_let, nj_lef, nj_eqf, nj_lt, nj_le, nj_eq, nj_add, nj_mul, nj_modx, nj_and7, nj_div, tz_bI_some, tz_bV_some, or_false, false_or, or_self, and_false, false_and, and_true, true_and, not_true_eq_false, not_false_eq_true, nt_lef, nt_let, nt_ltf, nt_ltt, nt_eqf, nj_m2, nj_m3, nj_m4, nj_m5, nj_m6, nj_m7, tz_bL_some, nj_sub, ng_ltt, ng_let, ng_gtf, ng_gef, cx_20 c, z, if_pos z]
      · simp (disch := omega) only [tz_lit, nj_m1, ↓reduceIte, nj_cl, nj_ltt, nj_ltf, nj_let, nj_lef, nj_eqf, nj_lt, nj_le, nj_eq, nj_add, nj_mul, nj_modx, nj_and7, nj_div, tz_bI_some, tz_bV_some, or_false, false_or, or_self, and_false, false_and, and_true, true_and, not_true_eq_false, not_false_eq_true, nt_lef, nt_let, nt_ltf, nt_ltt, nt_eqf, nj_m2, nj_m3, nj_m4, nj_m5, nj_m6, nj_m7, tz_bL_some, nj_sub, ng_ltt, ng_let, ng_gtf, ng_gef, cx_20 c, if_neg z]
    have n1 : (tz_j 500 ≤ tz_j i) = False := nj_lef (by omega) (by omega)
    have n3 := nj_ix8 (s := l) (n := 12) (by omega) (by omega)
    have hcl : (tz_j l).toNatClampNeg = l := nj_cl (by omega)
    have q3 : tz_g A b 3 = tz_j (S 0 3) := cx_0_3 c
    have q21 : tz_g A (b + 21) l = tz_j (S 21 l) := cx_21 c (by omega)
    have n4 : tz_j i + tz_j 1 = tz_j (i + 1) := nj_add
    by_cases y : z ≤ tz_j (S 0 3)
    · rw [if_pos y]
      refine ⟨A, ?_, fr_rfl⟩
      have n2 := eq_true y
      simp only [tz_lit, nj_m1, nj_m2, nj_m3, nj_m4, nj_m5, nj_m6, nj_m7, ↓reduceIte, tz_bI_some, tz_bV_some, tz_bL_some, cj10, cj01, cjm0, eq_self, not_true_eq_false, not_false_eq_true, or_false, false_or, or_true, true_or, or_self, and_true, true_and, and_false, false_and, n1, n2, n3, hcl, q3, q21]
    · rw [if_neg y]
      have n2 := eq_false y
      by_cases x : S 20 l < 200
      · rw [if_pos x] at eu ⊢
        obtain ⟨A1, e1, r1, f1⟩ := x_tk hb (by omega) r H
        obtain ⟨g1, g2, g3⟩ := tk_G H
        obtain ⟨A', e, f'⟩ := ih (i + 1) (N + 1) _ A1 (by omega) (by omega) r1 g1 (by rw [g3 15 0 (by unfold sp_kp; omega) (by omega)]; exact hl)
        refine ⟨A', ?_, fr_tr f1 f'⟩
        simp only [tz_lit, nj_m1, nj_m2, nj_m3, nj_m4, nj_m5, nj_m6, nj_m7, ↓reduceIte, tz_bI_some, tz_bV_some, tz_bL_some, cj10, cj01, cjm0, eq_self, not_true_eq_false, not_false_eq_true, or_false, false_or, or_true, true_or, or_self, and_true, true_and, and_false, false_and, n1, n2, n3, hcl, q3, eu, e1, n4]
        exact e
      · rw [if_neg x] at eu ⊢
        refine ⟨A, ?_, fr_rfl⟩
        simp only [tz_lit, nj_m1, nj_m2, nj_m3, nj_m4, nj_m5, nj_m6, nj_m7, ↓reduceIte, tz_bI_some, tz_bV_some, tz_bL_some, cj10, cj01, cjm0, eq_self, not_true_eq_false, not_false_eq_true, or_false, false_or, or_true, true_or, or_self, and_true, true_and, and_false, false_and, n1, n2, n3, hcl, q3, q21, eu]
/-- a letter handed in at this hour is there by the hour z, or not -/
abbrev la_no (f t v : Nat) (z : Int32) (i : Nat) (S : tz_S) : Prop := sp_ar (S 15 0) 500 (sp_hd 0 f t v i S) 21 (S 15 0) = 4294967295 ∨ z < tz_j (sp_ar (S 15 0) 500 (sp_hd 0 f t v i S) 21 (S 15 0))
/-- the thought letter: from sky b2, at sky 76 -/
theorem x_la {b2 f t v N i : Nat} {z : Int32} {S : tz_S} {A : tz_Mem} (hb2 : tz_sky b2) (hd : 76 + 23 ≤ b2 ∨ b2 + 23 ≤ 76) (hN : N + i + 500 ≤ 2000000) (r : rx b2 99 (sp_n i S) A) (H : sp_H N S) (hst : sp_st S) (hn : S 15 0 < 12) (hf : f < S 1 0) (ht : t < S 1 0) (hv : 1 ≤ v ∧ v ≤ 99) : ∃ A1 A2 A3 y, f_X9_become 76 b2 A = some (none, A1) ∧ f_X9_addLetter 76 (tz_j 0) (tz_j f) (tz_j t) (tz_j v) A1 = some (some (.int (tz_j (S 15 0))), A2) ∧ f_X9_arrival 76 (tz_j (S 15 0)) z A2 = some (some (.int y), A3) ∧ (la_no f t v z i S → y = tz_j 4294967295) ∧ (¬ la_no f t v z i S → (y = tz_j 4294967295) = False) ∧ tz_fx (fun k _ => (76 ≤ k ∧ k < 99) ∨ (150 ≤ k ∧ k < 155)) A A3 := by
  have gn := n_G i S H
  have hst' : sp_st (sp_n i S) := ⟨(gn.2.2 0 6 (by unfold sp_kp; omega) (by omega)).trans hst.1, (gn.2.2 200 0 (by unfold sp_kp; omega) (by omega)).trans hst.2⟩
  obtain ⟨g1, g2, g3, g4, g5, g6, g7⟩ := hd_H (n := i) H hn (show 0 ≤ 9999 by omega) hf ht hv
  obtain ⟨A1, f1, r1, ff1⟩ := x_bec2 h76 hb2 hd gn.1.1 hst' r
  obtain ⟨A2, f2, r2, ff2⟩ := x_addL (a := 0) (f := f) (t := t) (v := v) h76 r1 gn.1.1 (by rw [g7]; exact hn) (by rw [gn.2.2 1 0 (by unfold sp_kp; omega) (by omega)]; exact hf) hv.2
  rw [g7] at f2
  obtain ⟨A3, f3, ff3⟩ := x_alL (l := S 15 0) (z := z) h76 500 0 (N + i) _ A2 (by omega) hN r2 g1 (by show S 15 0 < sp_hd 0 f t v i S 15 0; omega)
  have hf8 : f < 200 := by
    have := H.1.1
    omega
  have ea := al_eq (l := S 15 0) (z := z) 500 (N + i) (sp_hd 0 f t v i S) g1 hN (by omega) (by rw [g3]; exact hf8)
  have hi := ar_hi2 (l := S 15 0) (k := 500) g1 (by omega)
  refine ⟨A1, A2, A3, _, f1, f2, (e_X9_arrival _ _ _ h76 _).trans f3, fun y => ?_, fun y => ?_, fx_tr (fx_mo ff1 (fun k i h => by unfold bc_p at h; omega)) (fx_tr (fx_mo (fx_fr ff2) (fun k i h => by unfold rx_p at h; omega)) (fx_mo (fx_fr ff3) (fun k i h => by unfold rx_p at h; omega)))⟩
  · unfold la_no at y
    show tz_j (sp_al (S 15 0) z 500 (sp_hd 0 f t v i S) 21 (S 15 0)) = _
    rw [ea, if_pos y]
  · unfold la_no at y
    show (tz_j (sp_al (S 15 0) z 500 (sp_hd 0 f t v i S) 21 (S 15 0)) = _) = False
    rw [ea, if_neg y]
    exact nj_eqf (fun q => y (Or.inl q)) (by rcases hi with hi | hi <;> omega) (by omega)
theorem n_succ {S : tz_S} : ∀ i (S : tz_S), sp_n (i + 1) S = sp_tk (sp_n i S) := by
  intro i
  induction i with
  | zero => exact fun _ => rfl
  | succ i ih => exact fun S => ih (sp_tk S)
def la_mx (f t v : Nat) (z : Int32) (S : tz_S) : Nat → Int32
  | 0 => tz_j 4294967295
  | n + 1 => if la_no f t v z n S then la_mx f t v z S n else tz_j n
theorem la_stop {f t v N : Nat} {z : Int32} {S : tz_S} (hN : N ≤ 1100000) (H : sp_H N S) (hn : S 15 0 < 12) (hf : f < S 1 0) (ht : t < S 1 0) (hv : 1 ≤ v ∧ v ≤ 99) {i : Nat} (h : z ≤ tz_j (S 0 3 + i)) : ∀ d, i + d ≤ 100 → la_mx f t v z S (i + d) = la_mx f t v z S i := by
  intro d
  induction d with
  | zero => exact fun _ => rfl
  | succ d ih =>
    intro hd
    obtain ⟨g1, g2, g3, g4, g5, g6, g7⟩ := hd_H (n := i + d) H hn (show 0 ≤ 9999 by omega) hf ht hv
    have hf8 : f < 200 := by
      have := H.1.1
      omega
    have h3 := H.2.2.2.1
    have lo := ar_lo (l := S 15 0) 500 (N + (i + d)) (sp_hd 0 f t v (i + d) S) g1 (by omega) (by rw [g3]; exact hf8)
    have hi := ar_hi2 (l := S 15 0) (k := 500) g1 (by omega)
    have no : la_no f t v z (i + d) S := by
      unfold la_no
      rcases lo with lo | lo
      · exact Or.inl lo
      · rcases hi with hi | hi
        · exact Or.inl hi
        · exact Or.inr (j_lt h (by omega) (by omega))
    show (if la_no f t v z (i + d) S then la_mx f t v z S (i + d) else tz_j (i + d)) = _
    rw [if_pos no]
    exact ih (by omega)
theorem x_latL {f t v N : Nat} {z : Int32} {S : tz_S} (hN : N ≤ 1100000) (H : sp_H N S) (hst : sp_st S) (hn : S 15 0 < 12) (hf : f < S 1 0) (ht : t < S 1 0) (hv : 1 ≤ v ∧ v ≤ 99) : ∀ k i A, i + k = 100 → rx 99 99 (sp_n i S) A → ∃ A', q_X11_latest_39 (tz_j f) (tz_j t) (tz_j v) z (la_mx f t v z S i) (tz_j i) A = some (some (.int (la_mx f t v z S 100)), A') ∧ tz_fx th_p A A' := by
  intro k
  induction k with
  | zero =>
    intro i A hi r
    obtain rfl : i = 100 := by omega
    refine ⟨A, ?_, fx_rfl⟩
    have n1 : (tz_j 99 < tz_j 100) = True := nj_ltt (by omega) (by omega)
    rw [e_X11_latest_39]
    simp only [tz_lit, nj_m1, nj_m2, nj_m3, nj_m4, nj_m5, nj_m6, nj_m7, ↓reduceIte, tz_bI_some, tz_bV_some, tz_bL_some, cj10, cj01, cjm0, eq_self, not_true_eq_false, not_false_eq_true, or_false, false_or, or_true, true_or, or_self, and_true, true_and, and_false, false_and, n1]
  | succ k ih =>
    intro i A hi r
    have gn := n_G i S H
    have n1 : (tz_j 99 < tz_j i) = False := nj_ltf (by omega) (by omega)
    have q3 : tz_g A 99 3 = tz_j (S 0 3 + i) := (cx_0_3 r.1).trans (by rw [gn.2.1])
    by_cases y : z ≤ tz_j (S 0 3 + i)
    · have n2 := eq_true y
      have s := la_stop hN H hn hf ht hv y (100 - i) (by omega)
      rw [show i + (100 - i) = 100 by omega] at s
      refine ⟨A, ?_, fx_rfl⟩
      rw [e_X11_latest_39]
      simp only [tz_lit, nj_m1, nj_m2, nj_m3, nj_m4, nj_m5, nj_m6, nj_m7, ↓reduceIte, tz_bI_some, tz_bV_some, tz_bL_some, cj10, cj01, cjm0, eq_self, not_true_eq_false, not_false_eq_true, or_false, false_or, or_true, true_or, or_self, and_true, true_and, and_false, false_and, n1, q3, n2, s]
    · have n2 := eq_false y
      obtain ⟨A1, A2, A3, y3, f1, f2, f3, y1, y2, ff⟩ := x_la (b2 := 99) (z := z) h99 (by omega) (show N + i + 500 ≤ 2000000 by omega) r H hst hn hf ht hv
      have r3 : rx 99 99 (sp_n i S) A3 := rx_mv r (fun k i h1 h2 => ff.2.2.1 k i (by omega)) (ff.2.2.2 99 7 (fun q => by have := q.1; omega)) (Or.inl ((gn.2.2 200 0 (by unfold sp_kp; omega) (by omega)).trans hst.2))
      obtain ⟨A4, f4, r4, ff4⟩ := x_tk h99 (show N + i ≤ 2000000 by omega) r3 gn.1
      rw [← n_succ (S := S)] at r4
      obtain ⟨A', f5, ff5⟩ := ih (i + 1) A4 (by omega) r4
      have n4 : tz_j i + tz_j 1 = tz_j (i + 1) := nj_add
      refine ⟨A', ?_, fx_tr (fx_mo ff (fun k i h => by unfold th_p; omega)) (fx_tr (fx_mo (fx_fr ff4) (fun k i h => by unfold rx_p at h; unfold th_p; omega)) ff5)⟩
      have em : la_mx f t v z S (i + 1) = if la_no f t v z i S then la_mx f t v z S i else tz_j i := rfl
      by_cases x : la_no f t v z i S
      · have y4 := y1 x
        rw [y4] at f3
        rw [em, if_pos x] at f5
        rw [e_X11_latest_39]
        simp only [tz_lit, nj_m1, nj_m2, nj_m3, nj_m4, nj_m5, nj_m6, nj_m7, ↓reduceIte, tz_bI_some, tz_bV_some, tz_bL_some, cj10, cj01, cjm0, eq_self, not_true_eq_false, not_false_eq_true, or_false, false_or, or_true, true_or, or_self, and_true, true_and, and_false, false_and, n1, q3, n2, f1, f2, f3, f4, n4, f5]
      · have y4 := y2 x
        rw [em, if_neg x] at f5
        rw [e_X11_latest_39]
        simp only [tz_lit, nj_m1, nj_m2, nj_m3, nj_m4, nj_m5, nj_m6, nj_m7, ↓reduceIte, tz_bI_some, tz_bV_some, tz_bL_some, cj10, cj01, cjm0, eq_self, not_true_eq_false, not_false_eq_true, or_false, false_or, or_true, true_or, or_self, and_true, true_and, and_false, false_and, n1, q3, n2, f1, f2, f3, y4, f4, n4, f5]
theorem m_latL {f t v N : Nat} {z : Int32} {S K : tz_S} {U : tz_U} {V : tz_V} (hN : N ≤ 1100000) (H : sp_H N S) (hst : sp_st S) (hn : S 15 0 < 12) (hf : f < S 1 0) (ht : t < S 1 0) (hv : 1 ≤ v ∧ v ≤ 99) : ∀ n A D, n ≤ 100 → MX D S K U V A → ∃ A' D', q_X12_latest_31 (tz_j f) (tz_j t) (tz_j v) z (tz_j n + tz_j 4294967295) A = some (some (.int (la_mx f t v z S n)), A') ∧ MX D' S K U V A' ∧ mg A A' := by
  intro n
  induction n with
  | zero =>
    intro A D hn m
    refine ⟨A, D, ?_, m, ⟨rfl, fun _ _ _ => ⟨rfl, rfl⟩, fun _ _ => rfl⟩⟩
    have n1 : (tz_j 0 + tz_j 4294967295 < tz_j 0) = True := eq_true (by decide)
    rw [e_X12_latest_31]
    simp only [tz_lit, nj_m1, nj_m2, nj_m3, nj_m4, nj_m5, nj_m6, nj_m7, ↓reduceIte, tz_bI_some, tz_bV_some, tz_bL_some, cj10, cj01, cjm0, eq_self, not_true_eq_false, not_false_eq_true, or_false, false_or, or_true, true_or, or_self, and_true, true_and, and_false, false_and, n1]
    rfl
  | succ n ih =>
    intro A D hn' m
    have n0 : tz_j (n + 1) + tz_j 4294967295 = tz_j n := nj_dec (by omega)
    have n1 : (tz_j n < tz_j 0) = False := nj_ltf (by omega) (by omega)
    obtain ⟨C, D', e1, m', gg⟩ := MX_handed (a := 0) (n := n) hN m H hst hn (by omega) hf ht hv (by omega)
    obtain ⟨g1, g2, g3, g4, g5, g6, g7⟩ := hd_H (n := n) H hn (show 0 ≤ 9999 by omega) hf ht hv
    have hi := ar_hi2 (l := S 15 0) (k := 500) g1 (by omega)
    have em : la_mx f t v z S (n + 1) = if la_no f t v z n S then la_mx f t v z S n else tz_j n := rfl
    rw [n0, em]
    by_cases x : la_no f t v z n S
    · rw [if_pos x]
      obtain ⟨A', D2, e2, m2, g2⟩ := ih C D' (by omega) m'
      refine ⟨A', D2, ?_, m2, mg_tr gg g2⟩
      unfold la_no at x
      rw [e_X12_latest_31]
      by_cases x1 : sp_ar (S 15 0) 500 (sp_hd 0 f t v n S) 21 (S 15 0) = 4294967295
      · rw [x1] at e1
        simp only [tz_lit, nj_m1, nj_m2, nj_m3, nj_m4, nj_m5, nj_m6, nj_m7, ↓reduceIte, tz_bI_some, tz_bV_some, tz_bL_some, cj10, cj01, cjm0, eq_self, not_true_eq_false, not_false_eq_true, or_false, false_or, or_true, true_or, or_self, and_true, true_and, and_false, false_and, n1, e1, e2]
      · have x2 : (tz_j (sp_ar (S 15 0) 500 (sp_hd 0 f t v n S) 21 (S 15 0)) = tz_j 4294967295) = False := nj_eqf x1 (by rcases hi with hi | hi <;> omega) (by omega)
        have x3 := eq_true (x.resolve_left x1)
        simp only [tz_lit, nj_m1, nj_m2, nj_m3, nj_m4, nj_m5, nj_m6, nj_m7, ↓reduceIte, tz_bI_some, tz_bV_some, tz_bL_some, cj10, cj01, cjm0, eq_self, not_true_eq_false, not_false_eq_true, or_false, false_or, or_true, true_or, or_self, and_true, true_and, and_false, false_and, n1, e1, x2, x3, e2]
    · rw [if_neg x]
      refine ⟨C, D', ?_, m', gg⟩
      unfold la_no at x
      have x2 : (tz_j (sp_ar (S 15 0) 500 (sp_hd 0 f t v n S) 21 (S 15 0)) = tz_j 4294967295) = False := nj_eqf (fun q => x (Or.inl q)) (by rcases hi with hi | hi <;> omega) (by omega)
      have x3 := eq_false (fun q => x (Or.inr q))
      rw [e_X12_latest_31]
      simp only [tz_lit, nj_m1, nj_m2, nj_m3, nj_m4, nj_m5, nj_m6, nj_m7, ↓reduceIte, tz_bI_some, tz_bV_some, tz_bL_some, cj10, cj01, cjm0, eq_self, not_true_eq_false, not_false_eq_true, or_false, false_or, or_true, true_or, or_self, and_true, true_and, and_false, false_and, n1, e1, x2, x3]
def lg_mn (f t : Nat) (z : Int32) (S : tz_S) : Nat → Nat → Int32
  | 0, _ => tz_j 4294967295
  | k + 1, v => if la_no f t v z 0 S then lg_mn f t z S k (v + 1) else tz_j v
theorem x_ligL {f t N : Nat} {z : Int32} {S K : tz_S} {U : tz_U} {V : tz_V} (hN : N ≤ 1100000) (H : sp_H N S) (hst : sp_st S) (hk : sp_st K) (hn : S 15 0 < 12) (hf : f < S 1 0) (ht : t < S 1 0) : ∀ k v A, v + k = 100 → 1 ≤ v → CX S K U V A → ∃ A', q_X11_lightest_25 (tz_j f) (tz_j t) z (tz_j v) A = some (some (.int (lg_mn f t z S k v)), A') ∧ tz_fx th_p A A' := by
  intro k
  induction k with
  | zero =>
    intro v A hv h1 c
    obtain rfl : v = 100 := by omega
    refine ⟨A, ?_, fx_rfl⟩
    have n1 : (tz_j 99 < tz_j 100) = True := nj_ltt (by omega) (by omega)
    rw [e_X11_lightest_25]
    simp only [tz_lit, nj_m1, nj_m2, nj_m3, nj_m4, nj_m5, nj_m6, nj_m7, ↓reduceIte, tz_bI_some, tz_bV_some, tz_bL_some, cj10, cj01, cjm0, eq_self, not_true_eq_false, not_false_eq_true, or_false, false_or, or_true, true_or, or_self, and_true, true_and, and_false, false_and, n1]
    rfl
  | succ k ih =>
    intro v A hv h1 c
    have n1 : (tz_j 99 < tz_j v) = False := nj_ltf (by omega) (by omega)
    have n4 : tz_j v + tz_j 1 = tz_j (v + 1) := nj_add
    obtain ⟨A1, A2, A3, y3, f1, f2, f3, y1, y2, ff⟩ := x_la (b2 := 30) (i := 0) (z := z) h30 (by omega) (show N + 0 + 500 ≤ 2000000 by omega) c.1 H hst hn hf ht ⟨h1, show v ≤ 99 by omega⟩
    have ff' : tz_fx th_p A A3 := fx_mo ff (fun k i h => by unfold th_p; omega)
    show ∃ A', _ = some (some (Value.int (if la_no f t v z 0 S then lg_mn f t z S k (v + 1) else tz_j v)), A') ∧ _
    by_cases x : la_no f t v z 0 S
    · rw [if_pos x]
      have y4 := y1 x
      rw [y4] at f3
      obtain ⟨A', f5, ff5⟩ := ih (v + 1) A3 (by omega) (by omega) (CX_th hst hk ff' c)
      refine ⟨A', ?_, fx_tr ff' ff5⟩
      rw [e_X11_lightest_25]
      simp only [tz_lit, nj_m1, nj_m2, nj_m3, nj_m4, nj_m5, nj_m6, nj_m7, ↓reduceIte, tz_bI_some, tz_bV_some, tz_bL_some, cj10, cj01, cjm0, eq_self, not_true_eq_false, not_false_eq_true, or_false, false_or, or_true, true_or, or_self, and_true, true_and, and_false, false_and, n1, f1, f2, f3, n4, f5]
    · rw [if_neg x]
      have y4 := y2 x
      refine ⟨A3, ?_, ff'⟩
      rw [e_X11_lightest_25]
      simp only [tz_lit, nj_m1, nj_m2, nj_m3, nj_m4, nj_m5, nj_m6, nj_m7, ↓reduceIte, tz_bI_some, tz_bV_some, tz_bL_some, cj10, cj01, cjm0, eq_self, not_true_eq_false, not_false_eq_true, or_false, false_or, or_true, true_or, or_self, and_true, true_and, and_false, false_and, n1, f1, f2, f3, y4]
theorem m_ligL {f t N : Nat} {z : Int32} {S K : tz_S} {U : tz_U} {V : tz_V} (hN : N ≤ 1100000) (H : sp_H N S) (hst : sp_st S) (hn : S 15 0 < 12) (hf : f < S 1 0) (ht : t < S 1 0) : ∀ k v A D, v + k = 100 → 1 ≤ v → MX D S K U V A → ∃ A' D', q_X12_lightest_24 (tz_j f) (tz_j t) z (tz_j v) A = some (some (.int (lg_mn f t z S k v)), A') ∧ MX D' S K U V A' ∧ mg A A' := by
  intro k
  induction k with
  | zero =>
    intro v A D hv h1 m
    obtain rfl : v = 100 := by omega
    refine ⟨A, D, ?_, m, ⟨rfl, fun _ _ _ => ⟨rfl, rfl⟩, fun _ _ => rfl⟩⟩
    have n1 : (tz_j 100 ≤ tz_j 100) = True := nj_let (by omega) (by omega)
    rw [e_X12_lightest_24]
    simp only [tz_lit, nj_m1, nj_m2, nj_m3, nj_m4, nj_m5, nj_m6, nj_m7, ↓reduceIte, tz_bI_some, tz_bV_some, tz_bL_some, cj10, cj01, cjm0, eq_self, not_true_eq_false, not_false_eq_true, or_false, false_or, or_true, true_or, or_self, and_true, true_and, and_false, false_and, n1]
    rfl
  | succ k ih =>
    intro v A D hv h1 m
    have n1 : (tz_j 100 ≤ tz_j v) = False := nj_lef (by omega) (by omega)
    have n4 : tz_j v + tz_j 1 = tz_j (v + 1) := nj_add
    obtain ⟨C, D', e1, m', gg⟩ := MX_handed (a := 0) (n := 0) hN m H hst hn (by omega) hf ht ⟨h1, show v ≤ 99 by omega⟩ (by omega)
    obtain ⟨g1, g2, g3, g4, g5, g6, g7⟩ := hd_H (n := 0) (v := v) H hn (show 0 ≤ 9999 by omega) hf ht ⟨h1, (by omega)⟩
    have hi := ar_hi2 (l := S 15 0) (k := 500) g1 (by omega)
    show ∃ A' D', _ = some (some (Value.int (if la_no f t v z 0 S then lg_mn f t z S k (v + 1) else tz_j v)), A') ∧ _
    by_cases x : la_no f t v z 0 S
    · rw [if_pos x]
      obtain ⟨A', D2, e2, m2, g2⟩ := ih (v + 1) C D' (by omega) (by omega) m'
      refine ⟨A', D2, ?_, m2, mg_tr gg g2⟩
      unfold la_no at x
      rw [e_X12_lightest_24]
      by_cases x1 : sp_ar (S 15 0) 500 (sp_hd 0 f t v 0 S) 21 (S 15 0) = 4294967295
      · rw [x1] at e1
        simp only [tz_lit, nj_m1, nj_m2, nj_m3, nj_m4, nj_m5, nj_m6, nj_m7, ↓reduceIte, tz_bI_some, tz_bV_some, tz_bL_some, cj10, cj01, cjm0, eq_self, not_true_eq_false, not_false_eq_true, or_false, false_or, or_true, true_or, or_self, and_true, true_and, and_false, false_and, n1, e1, n4, e2]
      · have x2 : (tz_j (sp_ar (S 15 0) 500 (sp_hd 0 f t v 0 S) 21 (S 15 0)) = tz_j 4294967295) = False := nj_eqf x1 (by rcases hi with hi | hi <;> omega) (by omega)
        have x3 := eq_true (x.resolve_left x1)
        simp only [tz_lit, nj_m1, nj_m2, nj_m3, nj_m4, nj_m5, nj_m6, nj_m7, ↓reduceIte, tz_bI_some, tz_bV_some, tz_bL_some, cj10, cj01, cjm0, eq_self, not_true_eq_false, not_false_eq_true, or_false, false_or, or_true, true_or, or_self, and_true, true_and, and_false, false_and, n1, e1, x2, x3, n4, e2]
    · rw [if_neg x]
      refine ⟨C, D', ?_, m', gg⟩
      unfold la_no at x
      have x2 : (tz_j (sp_ar (S 15 0) 500 (sp_hd 0 f t v 0 S) 21 (S 15 0)) = tz_j 4294967295) = False := nj_eqf (fun q => x (Or.inl q)) (by rcases hi with hi | hi <;> omega) (by omega)
      have x3 := eq_false (fun q => x (Or.inr q))
      rw [e_X12_lightest_24]
      simp only [tz_lit, nj_m1, nj_m2, nj_m3, nj_m4, nj_m5, nj_m6, nj_m7, ↓reduceIte, tz_bI_some, tz_bV_some, tz_bL_some, cj10, cj01, cjm0, eq_self, not_true_eq_false, not_false_eq_true, or_false, false_or, or_true, true_or, or_self, and_true, true_and, and_false, false_and, n1, e1, x2, x3]
theorem p_latest (x1 x2 x3 x4 : Int32) : tz_twoI tz_J (f_X11_latest x1 x2 x3 x4) (f_X12_latest x1 x2 x3 x4) := by
  refine two_of (fun N S K U V A hN c ww => ?_)
  have W := ww.1.1
  have h8 := W.1
  have h4 := W.2.1
  have h12 := W.2.2.1
  have wv := fun (A : tz_Mem) (x a b : Int32) => wi_v (x := x) (a := a) (b := b) A
  rcases x_rol c.1.1 W (tz_j 0) x1 x2 x3 with ⟨a, f, t, v, ea, ha, rfl, hf, rfl, ht, hne, rfl, hv1, hv, hn12, a1⟩ | ⟨a1, ho⟩ | ⟨a1, f, t, rfl, hf, rfl, ht, ho⟩ | ⟨a1, h15, a, f, t, v, ea, ha, rfl, hf, rfl, ht, hne, rfl, hv1, hv⟩
  · have b4 : ∀ A, f_X12_within (tz_j v) (tz_j 1) (tz_j 99) A = some (some (.int (tz_j 1)), A) := fun A => by
      rw [m_within (by omega) (by omega) (by omega), if_pos ⟨(by omega), (by omega)⟩]
    obtain ⟨A1, f1, r1, ff1⟩ := x_bec2 h99 h30 (by omega) W ww.2.1 c.1
    obtain ⟨A2, f2, ff2⟩ := x_latL (z := x4) hN ww.1 ww.2.1 hn12 hf ht ⟨hv1, hv⟩ 100 0 A1 (by omega) r1
    refine out_th (v := la_mx f t v x4 S 100) c ww ⟨A2, ?_, fx_tr (fx_mo ff1 (fun k i h => by unfold bc_p at h; unfold th_p; omega)) ff2⟩ (fun A D m => ?_)
    · have e0 : la_mx f t v x4 S 0 = tz_j 4294967295 := rfl
      rw [e0] at f2
      rw [e_X11_latest]
      simp only [tz_lit, nj_m1, nj_m2, nj_m3, nj_m4, nj_m5, nj_m6, nj_m7, ↓reduceIte, tz_bI_some, tz_bV_some, tz_bL_some, cj10, cj01, cjm0, eq_self, not_true_eq_false, not_false_eq_true, or_false, false_or, or_true, true_or, or_self, and_true, true_and, and_false, false_and, a1, f1, f2]
    · obtain ⟨A3, D', e3, m', gg⟩ := m_latL (z := x4) hN ww.1 ww.2.1 hn12 hf ht ⟨hv1, hv⟩ 100 A D (Nat.le_refl _) m
      rw [nj_dec (by omega)] at e3
      refine ⟨A3, D', ?_, m', mf_mg gg⟩
      have e2 := nhD m.1.1 h8 hf ht hne hn12
      rw [e_X12_latest]
      simp (disch := omega) only [tz_lit, nj_m1, nj_m2, nj_m3, nj_m4, nj_m5, nj_m6, nj_m7, ↓reduceIte, tz_bI_some, tz_bV_some, tz_bL_some, cj10, cj01, cjm0, eq_self, not_true_eq_false, not_false_eq_true, or_false, false_or, or_true, true_or, or_self, and_true, true_and, and_false, false_and, nj_eqf, nj_ltt, nj_ltf, nj_let, nj_lef, nj_cl, nt_lef, ng_ltt, ng_let, ng_gtf, ng_gef, b4, e2, e3]
  · refine out_ref (v := tz_j 4294967295 - tz_j 10) 1 (by omega) c ww ?_ (fun A D m => ?_)
    · rw [e_X11_latest]
      simp (disch := omega) only [tz_lit, nj_m1, nj_m2, nj_m3, nj_m4, nj_m5, nj_m6, nj_m7, ↓reduceIte, tz_bI_some, tz_bV_some, tz_bL_some, cj10, cj01, cjm0, eq_self, not_true_eq_false, not_false_eq_true, or_false, false_or, or_true, true_or, or_self, and_true, true_and, and_false, false_and, nj_eqf, nj_ltt, nj_ltf, nj_let, nj_lef, nj_cl, nt_lef, ng_ltt, ng_let, ng_gtf, ng_gef, a1, e_X11_refuseLower, x_ref1, x_ref2, x_ref3, x_ref4, x_ref5, x_ref6, x_ref7, e_X11_refuseLower]
    · have e2 : ∀ g, f_X12_noHanding x1 x2 g A = some (some (.int (tz_j 4294967295)), A) := fun g => nhA m.1.1 h8 ho
      rw [e_X12_latest]
      rcases wv A x3 (tz_j 1) (tz_j 99) with y1 | y1
      · simp (disch := omega) only [tz_lit, nj_m1, nj_m2, nj_m3, nj_m4, nj_m5, nj_m6, nj_m7, ↓reduceIte, tz_bI_some, tz_bV_some, tz_bL_some, cj10, cj01, cjm0, eq_self, not_true_eq_false, not_false_eq_true, or_false, false_or, or_true, true_or, or_self, and_true, true_and, and_false, false_and, nj_eqf, nj_ltt, nj_ltf, nj_let, nj_lef, nj_cl, nt_lef, ng_ltt, ng_let, ng_gtf, ng_gef, y1, e2, e_X12_no10, m_no1, m_no2, m_no3, m_no4, m_no5, m_no6, m_no7, e_X12_no10]
      · simp (disch := omega) only [tz_lit, nj_m1, nj_m2, nj_m3, nj_m4, nj_m5, nj_m6, nj_m7, ↓reduceIte, tz_bI_some, tz_bV_some, tz_bL_some, cj10, cj01, cjm0, eq_self, not_true_eq_false, not_false_eq_true, or_false, false_or, or_true, true_or, or_self, and_true, true_and, and_false, false_and, nj_eqf, nj_ltt, nj_ltf, nj_let, nj_lef, nj_cl, nt_lef, ng_ltt, ng_let, ng_gtf, ng_gef, y1, e2, e_X12_no10, m_no1, m_no2, m_no3, m_no4, m_no5, m_no6, m_no7, e_X12_no10]
  · refine out_ref (v := tz_j 4294967290 - tz_j 10) 6 (by omega) c ww ?_ (fun A D m => ?_)
    · rw [e_X11_latest]
      simp (disch := omega) only [tz_lit, nj_m1, nj_m2, nj_m3, nj_m4, nj_m5, nj_m6, nj_m7, ↓reduceIte, tz_bI_some, tz_bV_some, tz_bL_some, cj10, cj01, cjm0, eq_self, not_true_eq_false, not_false_eq_true, or_false, false_or, or_true, true_or, or_self, and_true, true_and, and_false, false_and, nj_eqf, nj_ltt, nj_ltf, nj_let, nj_lef, nj_cl, nt_lef, ng_ltt, ng_let, ng_gtf, ng_gef, a1, e_X11_refuseLower, x_ref1, x_ref2, x_ref3, x_ref4, x_ref5, x_ref6, x_ref7, e_X11_refuseLower]
    · rw [e_X12_latest]
      rcases ho with y | y | y
      · have y2 := y A
        rw [m_within (by omega) (by omega) (by omega), if_pos ⟨(by omega), (by omega)⟩] at y2
        exact absurd y2 (by simp [cj10])
      · have e2 := nhC m.1.1 h8 hf ht
        simp (disch := omega) only [tz_lit, nj_m1, nj_m2, nj_m3, nj_m4, nj_m5, nj_m6, nj_m7, ↓reduceIte, tz_bI_some, tz_bV_some, tz_bL_some, cj10, cj01, cjm0, eq_self, not_true_eq_false, not_false_eq_true, or_false, false_or, or_true, true_or, or_self, and_true, true_and, and_false, false_and, nj_eqf, nj_ltt, nj_ltf, nj_let, nj_lef, nj_cl, nt_lef, ng_ltt, ng_let, ng_gtf, ng_gef, y, e2, e_X12_no10, m_no1, m_no2, m_no3, m_no4, m_no5, m_no6, m_no7, e_X12_no10]
      · subst y
        have e3 : ∀ g, f_X12_noHanding (tz_j f) (tz_j f) g A = some (some (.int (tz_j 4294967290)), A) := fun g => nhB m.1.1 h8 hf
        rcases wv A x3 (tz_j 1) (tz_j 99) with y1 | y1
        · simp (disch := omega) only [tz_lit, nj_m1, nj_m2, nj_m3, nj_m4, nj_m5, nj_m6, nj_m7, ↓reduceIte, tz_bI_some, tz_bV_some, tz_bL_some, cj10, cj01, cjm0, eq_self, not_true_eq_false, not_false_eq_true, or_false, false_or, or_true, true_or, or_self, and_true, true_and, and_false, false_and, nj_eqf, nj_ltt, nj_ltf, nj_let, nj_lef, nj_cl, nt_lef, ng_ltt, ng_let, ng_gtf, ng_gef, y1, e3, e_X12_no10, m_no1, m_no2, m_no3, m_no4, m_no5, m_no6, m_no7, e_X12_no10]
        · simp (disch := omega) only [tz_lit, nj_m1, nj_m2, nj_m3, nj_m4, nj_m5, nj_m6, nj_m7, ↓reduceIte, tz_bI_some, tz_bV_some, tz_bL_some, cj10, cj01, cjm0, eq_self, not_true_eq_false, not_false_eq_true, or_false, false_or, or_true, true_or, or_self, and_true, true_and, and_false, false_and, nj_eqf, nj_ltt, nj_ltf, nj_let, nj_lef, nj_cl, nt_lef, ng_ltt, ng_let, ng_gtf, ng_gef, y1, e3, e_X12_no10, m_no1, m_no2, m_no3, m_no4, m_no5, m_no6, m_no7, e_X12_no10]
  · have b4 : ∀ A, f_X12_within (tz_j v) (tz_j 1) (tz_j 99) A = some (some (.int (tz_j 1)), A) := fun A => by
      rw [m_within (by omega) (by omega) (by omega), if_pos ⟨(by omega), (by omega)⟩]
    refine out_ref (v := tz_j 4294967289 - tz_j 10) 7 (by omega) c ww ?_ (fun A D m => ?_)
    · rw [e_X11_latest]
      simp (disch := omega) only [tz_lit, nj_m1, nj_m2, nj_m3, nj_m4, nj_m5, nj_m6, nj_m7, ↓reduceIte, tz_bI_some, tz_bV_some, tz_bL_some, cj10, cj01, cjm0, eq_self, not_true_eq_false, not_false_eq_true, or_false, false_or, or_true, true_or, or_self, and_true, true_and, and_false, false_and, nj_eqf, nj_ltt, nj_ltf, nj_let, nj_lef, nj_cl, nt_lef, ng_ltt, ng_let, ng_gtf, ng_gef, a1, e_X11_refuseLower, x_ref1, x_ref2, x_ref3, x_ref4, x_ref5, x_ref6, x_ref7, e_X11_refuseLower]
    · have e2 := nhE m.1.1 h8 hf ht hne h15
      rw [e_X12_latest]
      simp (disch := omega) only [tz_lit, nj_m1, nj_m2, nj_m3, nj_m4, nj_m5, nj_m6, nj_m7, ↓reduceIte, tz_bI_some, tz_bV_some, tz_bL_some, cj10, cj01, cjm0, eq_self, not_true_eq_false, not_false_eq_true, or_false, false_or, or_true, true_or, or_self, and_true, true_and, and_false, false_and, nj_eqf, nj_ltt, nj_ltf, nj_let, nj_lef, nj_cl, nt_lef, ng_ltt, ng_let, ng_gtf, ng_gef, b4, e2, e_X12_no10, m_no1, m_no2, m_no3, m_no4, m_no5, m_no6, m_no7, e_X12_no10]
theorem p_lightest (x1 x2 x3 : Int32) : tz_twoI tz_J (f_X11_lightest x1 x2 x3) (f_X12_lightest x1 x2 x3) := by
  refine two_of (fun N S K U V A hN c ww => ?_)
  have W := ww.1.1
  have h8 := W.1
  have h4 := W.2.1
  have h12 := W.2.2.1
  rcases x_rol c.1.1 W (tz_j 0) x1 x2 (tz_j 1) with ⟨a, f, t, v, ea, ha, rfl, hf, rfl, ht, hne, ev, hv1, hv, hn12, a1⟩ | ⟨a1, ho⟩ | ⟨a1, f, t, rfl, hf, rfl, ht, ho⟩ | ⟨a1, h15, a, f, t, v, ea, ha, rfl, hf, rfl, ht, hne, ev, hv1, hv⟩
  · obtain ⟨A2, f2, ff2⟩ := x_ligL (z := x3) hN ww.1 ww.2.1 ww.2.2.2.1 hn12 hf ht 99 1 A (by omega) (by omega) c
    refine out_th (v := lg_mn f t x3 S 99 1) c ww ⟨A2, ?_, ff2⟩ (fun A D m => ?_)
    · rw [e_X11_lightest]
      simp only [tz_lit, nj_m1, nj_m2, nj_m3, nj_m4, nj_m5, nj_m6, nj_m7, ↓reduceIte, tz_bI_some, tz_bV_some, tz_bL_some, cj10, cj01, cjm0, eq_self, not_true_eq_false, not_false_eq_true, or_false, false_or, or_true, true_or, or_self, and_true, true_and, and_false, false_and, a1, f2]
    · obtain ⟨A3, D', e3, m', gg⟩ := m_ligL (z := x3) hN ww.1 ww.2.1 hn12 hf ht 99 1 A D (by omega) (by omega) m
      refine ⟨A3, D', ?_, m', mf_mg gg⟩
      have e2 := nhD m.1.1 h8 hf ht hne hn12
      rw [e_X12_lightest]
      simp (disch := omega) only [tz_lit, nj_m1, nj_m2, nj_m3, nj_m4, nj_m5, nj_m6, nj_m7, ↓reduceIte, tz_bI_some, tz_bV_some, tz_bL_some, cj10, cj01, cjm0, eq_self, not_true_eq_false, not_false_eq_true, or_false, false_or, or_true, true_or, or_self, and_true, true_and, and_false, false_and, nj_eqf, nj_ltt, nj_ltf, nj_let, nj_lef, nj_cl, nt_lef, ng_ltt, ng_let, ng_gtf, ng_gef, e2, e3]
  · refine out_ref (v := tz_j 4294967295 - tz_j 10) 1 (by omega) c ww ?_ (fun A D m => ?_)
    · rw [e_X11_lightest]
      simp (disch := omega) only [tz_lit, nj_m1, nj_m2, nj_m3, nj_m4, nj_m5, nj_m6, nj_m7, ↓reduceIte, tz_bI_some, tz_bV_some, tz_bL_some, cj10, cj01, cjm0, eq_self, not_true_eq_false, not_false_eq_true, or_false, false_or, or_true, true_or, or_self, and_true, true_and, and_false, false_and, nj_eqf, nj_ltt, nj_ltf, nj_let, nj_lef, nj_cl, nt_lef, ng_ltt, ng_let, ng_gtf, ng_gef, a1, e_X11_refuseLower, x_ref1, x_ref2, x_ref3, x_ref4, x_ref5, x_ref6, x_ref7, e_X11_refuseLower]
    · have e2 : ∀ g, f_X12_noHanding x1 x2 g A = some (some (.int (tz_j 4294967295)), A) := fun g => nhA m.1.1 h8 ho
      rw [e_X12_lightest]
      simp (disch := omega) only [tz_lit, nj_m1, nj_m2, nj_m3, nj_m4, nj_m5, nj_m6, nj_m7, ↓reduceIte, tz_bI_some, tz_bV_some, tz_bL_some, cj10, cj01, cjm0, eq_self, not_true_eq_false, not_false_eq_true, or_false, false_or, or_true, true_or, or_self, and_true, true_and, and_false, false_and, nj_eqf, nj_ltt, nj_ltf, nj_let, nj_lef, nj_cl, nt_lef, ng_ltt, ng_let, ng_gtf, ng_gef, e2, e_X12_no10, m_no1, m_no2, m_no3, m_no4, m_no5, m_no6, m_no7, e_X12_no10]
  · refine out_ref (v := tz_j 4294967290 - tz_j 10) 6 (by omega) c ww ?_ (fun A D m => ?_)
    · rw [e_X11_lightest]
      simp (disch := omega) only [tz_lit, nj_m1, nj_m2, nj_m3, nj_m4, nj_m5, nj_m6, nj_m7, ↓reduceIte, tz_bI_some, tz_bV_some, tz_bL_some, cj10, cj01, cjm0, eq_self, not_true_eq_false, not_false_eq_true, or_false, false_or, or_true, true_or, or_self, and_true, true_and, and_false, false_and, nj_eqf, nj_ltt, nj_ltf, nj_let, nj_lef, nj_cl, nt_lef, ng_ltt, ng_let, ng_gtf, ng_gef, a1, e_X11_refuseLower, x_ref1, x_ref2, x_ref3, x_ref4, x_ref5, x_ref6, x_ref7, e_X11_refuseLower]
    · rw [e_X12_lightest]
      rcases ho with y | y | y
      · have y2 := y A
        rw [m_within (by omega) (by omega) (by omega), if_pos ⟨(by omega), (by omega)⟩] at y2
        exact absurd y2 (by simp [cj10])
      · have y2 := y A
        rw [m_within (by omega) (by omega) (by omega), if_pos ⟨(by omega), (by omega)⟩] at y2
        exact absurd y2 (by simp [cj10])
      · subst y
        have e3 : ∀ g, f_X12_noHanding (tz_j f) (tz_j f) g A = some (some (.int (tz_j 4294967290)), A) := fun g => nhB m.1.1 h8 hf
        simp (disch := omega) only [tz_lit, nj_m1, nj_m2, nj_m3, nj_m4, nj_m5, nj_m6, nj_m7, ↓reduceIte, tz_bI_some, tz_bV_some, tz_bL_some, cj10, cj01, cjm0, eq_self, not_true_eq_false, not_false_eq_true, or_false, false_or, or_true, true_or, or_self, and_true, true_and, and_false, false_and, nj_eqf, nj_ltt, nj_ltf, nj_let, nj_lef, nj_cl, nt_lef, ng_ltt, ng_let, ng_gtf, ng_gef, e3, e_X12_no10, m_no1, m_no2, m_no3, m_no4, m_no5, m_no6, m_no7, e_X12_no10]
  · refine out_ref (v := tz_j 4294967289 - tz_j 10) 7 (by omega) c ww ?_ (fun A D m => ?_)
    · rw [e_X11_lightest]
      simp (disch := omega) only [tz_lit, nj_m1, nj_m2, nj_m3, nj_m4, nj_m5, nj_m6, nj_m7, ↓reduceIte, tz_bI_some, tz_bV_some, tz_bL_some, cj10, cj01, cjm0, eq_self, not_true_eq_false, not_false_eq_true, or_false, false_or, or_true, true_or, or_self, and_true, true_and, and_false, false_and, nj_eqf, nj_ltt, nj_ltf, nj_let, nj_lef, nj_cl, nt_lef, ng_ltt, ng_let, ng_gtf, ng_gef, a1, e_X11_refuseLower, x_ref1, x_ref2, x_ref3, x_ref4, x_ref5, x_ref6, x_ref7, e_X11_refuseLower]
    · have e2 := nhE m.1.1 h8 hf ht hne h15
      rw [e_X12_lightest]
      simp (disch := omega) only [tz_lit, nj_m1, nj_m2, nj_m3, nj_m4, nj_m5, nj_m6, nj_m7, ↓reduceIte, tz_bI_some, tz_bV_some, tz_bL_some, cj10, cj01, cjm0, eq_self, not_true_eq_false, not_false_eq_true, or_false, false_or, or_true, true_or, or_self, and_true, true_and, and_false, false_and, nj_eqf, nj_ltt, nj_ltf, nj_let, nj_lef, nj_cl, nt_lef, ng_ltt, ng_let, ng_gtf, ng_gef, e2, e_X12_no10, m_no1, m_no2, m_no3, m_no4, m_no5, m_no6, m_no7, e_X12_no10]
