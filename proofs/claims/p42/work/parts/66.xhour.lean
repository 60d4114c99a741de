/-! the class: storms and hours -/
theorem rx_weak {b t : Nat} {S : tz_S} {A : tz_Mem} (h4 : S 7 0 ≤ 4) (r : rx b 99 S A) : rx b t S A := ⟨r.1, r.2.1, fun u hu _ => r.2.2.1 u hu (by omega), r.2.2.2⟩
theorem rx_14 {b t : Nat} {S : tz_S} {A : tz_Mem} {v : Int32} (hb : tz_sky b) (r : rx b t S A) : rx b t S (tz_s A (b + 14) t v) := by
  have hs := sky_lo hb
  obtain ⟨c, l, kk, ww, e⟩ := r
  exact ⟨rx_c_mv c (fun _ _ _ => rfl) (fun k i hp => tz_gsk (by unfold rx_pl at hp; omega)), rx_l_mv l rfl rfl (fun _ => rfl) (fun _ _ => tz_gsk (by omega)), rx_k_mv kk rfl rfl (fun _ => rfl) (fun u _ hx => tz_gsi hx), rx_w_mv ww rfl (fun _ => rfl) (fun _ _ => rfl) (fun _ => tz_gsk (by omega)), rx_e_mv e (fun _ _ _ _ => rfl) rfl (fun _ _ _ _ => tz_gsk (by omega))⟩
theorem rx_full {b t : Nat} {S : tz_S} {A : tz_Mem} (r : rx b t S A) (h0 : tz_g A (b + 14) t = tz_j 0) (hn : ∀ l, l < S 15 0 → S 20 l ≠ 100 + t) : rx b 99 S A := by
  refine ⟨r.1, r.2.1, fun u hu _ => ?_, r.2.2.2⟩
  by_cases q : u = t
  · subst q
    rw [h0]
    refine bt_congr bj_zero (fun l _ => ?_)
    symm
    rw [decide_eq_false_iff_not]
    exact fun z => hn l z.1 z.2
  · exact r.2.2.1 u hu q
theorem x_adv {b x t : Nat} {S : tz_S} {A : tz_Mem} (hb : tz_sky b) (r : rx b x S A) (W : sp_W1 S) (W2 : sp_W2 S) (ht : t < S 7 0) : ∃ A', f_X10_goOn b (tz_j t) A = some (none, A') ∧ rx b x (sp_adv t S) A' ∧ tz_fr (rx_p b) A A' := by
  have hs := sky_lo hb
  have h4 := W.2.1
  have c := r.1
  have ht2 := W.2.2.2.2.1 t ht
  have hp := W2.1 t ht
  rw [e_X10_goOn _ _ hb]
  unfold sp_adv
  by_cases q : S 13 t + 1 < S 11 t
  · simp (disch := omega) only [tz_lit, nj_m1, ↓reduceIte, nj_cl, nj_ltt, nj_ltf, nj_let, nj_lef, nj_eqf, nj_lt, nj_le, nj_eq, nj_add, nj_mul, nj_mod, nj_and7, nj_div, tz_bI_some, tz_bV_some, or_false, false_or, or_self, and_false, false_and, and_true, true_and, not_true_eq_false, not_false_eq_true, nt_lef, nt_let, nt_ltf, nt_ltt, nt_eqf, cx_11 c, cx_13 c, if_pos q]
    exact ⟨_, rfl, rx_s hb (by omega) (by omega) (by omega) (by omega) (by omega) (by omega) (by omega) (by omega) (by omega) r, fr_s fr_rfl (Or.inl (by omega))⟩
  · simp (disch := omega) only [tz_lit, nj_m1, ↓reduceIte, nj_cl, nj_ltt, nj_ltf, nj_let, nj_lef, nj_eqf, nj_lt, nj_le, nj_eq, nj_add, nj_mul, nj_mod, nj_and7, nj_div, tz_bI_some, tz_bV_some, or_false, false_or, or_self, and_false, false_and, and_true, true_and, not_true_eq_false, not_false_eq_true, nt_lef, nt_let, nt_ltf, nt_ltt, nt_eqf, cx_11 c, cx_13 c, if_neg q]
    exact ⟨_, rfl, rx_s hb (by omega) (by omega) (by omega) (by omega) (by omega) (by omega) (by omega) (by omega) (by omega) r, fr_s fr_rfl (Or.inl (by omega))⟩
theorem x_at {b t : Nat} {S : tz_S} {A : tz_Mem} (hb : tz_sky b) (c : rx_c b S A) (W : sp_W1 S) (W2 : sp_W2 S) (ht : t < S 7 0) : f_X10_hillOfStorm b (tz_j t) A = some (some (.int (tz_j (sp_at S t))), A) := by
  have h4 := W.2.1
  have ht2 := W.2.2.2.2.1 t ht
  have hp := W2.1 t ht
  rw [e_X10_hillOfStorm _ _ hb]
  simp (disch := omega) only [tz_lit, nj_m1, ↓reduceIte, nj_cl, nj_ltt, nj_ltf, nj_let, nj_lef, nj_eqf, nj_lt, nj_le, nj_eq, nj_add, nj_mul, nj_mod, nj_and7, nj_div, tz_bI_some, tz_bV_some, or_false, false_or, or_self, and_false, false_and, and_true, true_and, not_true_eq_false, not_false_eq_true, nt_lef, nt_let, nt_ltf, nt_ltt, nt_eqf, cx_13 c, e_X10_wayHill _ _ _ hb, cx_12 c]
  unfold sp_at
  rw [Nat.mul_comm]
theorem x_takeL {b t h : Nat} (hb : tz_sky b) : ∀ k i left S A, i + k = S 15 0 → left ≤ S 10 t → rx b 99 S A → sp_W1 S → t < S 7 0 → h < S 1 0 → ∃ A', q_X9_takeUp_5 b (tz_j t) (tz_j h) (tz_j (S 10 t - left)) (tz_j i) A = some (none, A') ∧ rx b 99 (sp_take t h k i left S) A' ∧ tz_fr (rx_p b) A A' := by
  have hs := sky_lo hb
  intro k
  induction k with
  | zero =>
    intro i left S A hi hle r W ht hh
    have c := r.1
    have h12 := W.2.2.1
    refine ⟨A, ?_, r, fr_rfl⟩
    rw [e_X9_takeUp_5 _ _ _ _ _ hb]
    simp (disch := omega) only [tz_lit, nj_m1, ↓reduceIte, nj_cl, nj_ltt, nj_ltf, nj_let, nj_lef, nj_eqf, nj_lt, nj_le, nj_eq, nj_add, nj_mul, nj_mod, nj_and7, nj_div, tz_bI_some, tz_bV_some, or_false, false_or, or_self, and_false, false_and, and_true, true_and, not_true_eq_false, not_false_eq_true, nt_lef, nt_let, nt_ltf, nt_ltt, nt_eqf, cx_15 c]
  | succ k ih =>
    intro i left S A hi hle r W ht hh
    have c := r.1
    have h8 := W.1
    have h4 := W.2.1
    have h12 := W.2.2.1
    have ht2 := W.2.2.2.2.1 t ht
    have ho := W.2.2.2.2.2.2.1 i (by omega)
    have hg := (W.2.2.2.2.2.1 (S 22 i) ho).2.2
    have et := bj_test (l := S 22 i) (by omega) (r.2.1 h hh)
    show ∃ A', _ = some (none, A') ∧ rx b 99 (if left = 0 then S else if S 20 (S 22 i) = h ∧ S 19 (S 22 i) ≤ S 9 t then sp_take t h k (i + 1) (left - 1) (tz_t S 20 (S 22 i) (100 + t)) else sp_take t h k (i + 1) left S) A' ∧ _
    by_cases c0 : left = 0
    · rw [if_pos c0]
      rw [e_X9_takeUp_5 _ _ _ _ _ hb]
      simp (disch := omega) only [tz_lit, nj_m1, ↓reduceIte, nj_cl, nj_ltt, nj_ltf, nj_let, nj_lef, nj_eqf, nj_lt, nj_le, nj_eq, nj_add, nj_mul, nj_mod, nj_and7, nj_div, tz_bI_some, tz_bV_some, or_false, false_or, or_self, and_false, false_and, and_true, true_and, not_true_eq_false, not_false_eq_true, nt_lef, nt_let, nt_ltf, nt_ltt, nt_eqf, cx_15 c, cx_10 c]
      exact ⟨A, rfl, r, fr_rfl⟩
    rw [if_neg c0]
    by_cases c1 : S 20 (S 22 i) = h
    · by_cases c2 : S 19 (S 22 i) ≤ S 9 t
      · rw [if_pos ⟨c1, c2⟩]
        rw [e_X9_takeUp_5 _ _ _ _ _ hb]
        simp (disch := omega) only [tz_lit, nj_m1, ↓reduceIte, nj_cl, nj_ltt, nj_ltf, nj_let, nj_lef, nj_eqf, nj_lt, nj_le, nj_eq, nj_add, nj_mul, nj_mod, nj_and7, nj_div, tz_bI_some, tz_bV_some, or_false, false_or, or_self, and_false, false_and, and_true, true_and, not_true_eq_false, not_false_eq_true, nt_lef, nt_let, nt_ltf, nt_ltt, nt_eqf, cx_15 c, cx_10 c, cx_22 c, cx_19 c, cx_9 c, et, ho, c1, decide_true, reduceCtorEq, decide_eq_false_iff_not, not_true_eq_false]
        have r2 : rx b 99 (tz_t S 20 (S 22 i) (100 + t)) (tz_s (tz_s (tz_s A (b + 4) h (tz_g A (b + 4) h &&& ((tz_j 1 <<< (tz_j (S 22 i) &&& tz_j 31)) ^^^ tz_j 4294967295))) (b + 14) t (tz_g (tz_s A (b + 4) h (tz_g A (b + 4) h &&& ((tz_j 1 <<< (tz_j (S 22 i) &&& tz_j 31)) ^^^ tz_j 4294967295))) (b + 14) t ||| (tz_j 1 <<< (tz_j (S 22 i) &&& tz_j 31)))) (b + 20) (S 22 i) (tz_j (100 + t))) := by
          refine rx_move hb r h8 (fun g hg => ?_) (fun u hu hx => ?_) (fun k i a1 a2 a3 => ?_) ?_ rfl
          · rw [tz_gsk (by omega), tz_gsk (by omega)]
            by_cases q : g = h
            · subst q
              rw [tz_gs1]
              refine bt_congr (bj_clr (by omega) (r.2.1 g hg)) (fun m _ => ?_)
              by_cases z : m = S 22 i
              · have z1 : ¬ 100 + t = g := by omega
                simp [z, z1]
              · have z2 : ¬ S 22 i = m := fun y => z y.symm
                simp [z, z2]
            · rw [tz_gsi q]
              refine bt_congr (r.2.1 g hg) (fun m _ => ?_)
              by_cases z : m = S 22 i
              · subst z
                have z1 : ¬ 100 + t = g := by omega
                have z2 : ¬ S 20 (S 22 i) = g := by omega
                simp [z1, z2]
              · simp [z]
          · rw [tz_gsk (by omega)]
            by_cases q : u = t
            · subst q
              rw [tz_gs1, tz_gsk (by omega)]
              refine bt_congr (bj_or (by omega) (r.2.2.1 u hu (by omega))) (fun m _ => ?_)
              by_cases z : m = S 22 i
              · simp [z, ho]
              · have z2 : ¬ S 22 i = m := fun y => z y.symm
                simp [z, z2]
            · rw [tz_gsi q, tz_gsk (by omega)]
              refine bt_congr (r.2.2.1 u hu (by omega)) (fun m _ => ?_)
              by_cases z : m = S 22 i
              · subst z
                have z1 : ¬ t = u := fun y => q y.symm
                have z2 : ¬ S 20 (S 22 i) = 100 + u := by omega
                simp [z1, z2]
              · simp [z]
          · rw [tz_gS, if_neg (by omega), tz_gsk (by omega), tz_gsk (by omega)]
          · rw [tz_gs1]
        have f : sp_f S (tz_t S 20 (S 22 i) (100 + t)) := sf_t (by unfold sp_kp; omega)
        obtain ⟨A', e, r', f'⟩ := ih (i + 1) (left - 1) _ _ (by rw [f 15 0 (by unfold sp_kp; omega)]; omega) (by rw [f 10 t (by unfold sp_kp; omega)]; omega) r2 (sf_W1 f W) (by rw [f 7 0 (by unfold sp_kp; omega)]; exact ht) (by rw [f 1 0 (by unfold sp_kp; omega)]; exact hh)
        rw [f 10 t (by unfold sp_kp; omega), show S 10 t - (left - 1) = S 10 t - left + 1 from by omega] at e
        exact ⟨A', e, r', fr_tr (fr_s (fr_s (fr_s fr_rfl (Or.inl (by omega))) (Or.inl (by omega))) (Or.inl (by omega))) f'⟩
      · rw [if_neg (fun q => c2 q.2)]
        rw [e_X9_takeUp_5 _ _ _ _ _ hb]
        simp (disch := omega) only [tz_lit, nj_m1, ↓reduceIte, nj_cl, nj_ltt, nj_ltf, nj_let, nj_lef, nj_eqf, nj_lt, nj_le, nj_eq, nj_add, nj_mul, nj_mod, nj_and7, nj_div, tz_bI_some, tz_bV_some, or_false, false_or, or_self, and_false, false_and, and_true, true_and, not_true_eq_false, not_false_eq_true, nt_lef, nt_let, nt_ltf, nt_ltt, nt_eqf, cx_15 c, cx_10 c, cx_22 c, cx_19 c, cx_9 c, et, ho, c1, decide_true, reduceCtorEq, decide_eq_false_iff_not, not_true_eq_false]
        exact ih (i + 1) left S A (by omega) hle r W ht hh
    · rw [if_neg (fun q => c1 q.1)]
      rw [e_X9_takeUp_5 _ _ _ _ _ hb]
      simp (disch := omega) only [tz_lit, nj_m1, ↓reduceIte, nj_cl, nj_ltt, nj_ltf, nj_let, nj_lef, nj_eqf, nj_lt, nj_le, nj_eq, nj_add, nj_mul, nj_mod, nj_and7, nj_div, tz_bI_some, tz_bV_some, or_false, false_or, or_self, and_false, false_and, and_true, true_and, not_true_eq_false, not_false_eq_true, nt_lef, nt_let, nt_ltf, nt_ltt, nt_eqf, cx_15 c, cx_10 c, cx_22 c, cx_19 c, cx_9 c, et, ho, c1, decide_false, decide_eq_false_iff_not]
      exact ih (i + 1) left S A (by omega) hle r W ht hh
theorem take_id {t h : Nat} : ∀ k i left S, i + k = S 15 0 → sp_W1 S → (∀ l, l < S 15 0 → S 20 l ≠ h) → sp_take t h k i left S = S := by
  intro k
  induction k with
  | zero => exact fun _ _ _ _ _ _ => rfl
  | succ k ih =>
    intro i left S hi W hn
    have ho := W.2.2.2.2.2.2.1 i (by omega)
    show (if left = 0 then S else if S 20 (S 22 i) = h ∧ S 19 (S 22 i) ≤ S 9 t then sp_take t h k (i + 1) (left - 1) (tz_t S 20 (S 22 i) (100 + t)) else sp_take t h k (i + 1) left S) = S
    split
    · rfl
    · rw [if_neg (fun q => hn _ ho q.1)]
      exact ih (i + 1) left S (by omega) W hn
theorem sayL_id {t h : Nat} : ∀ k i S, i + k = S 15 0 → sp_W1 S → (∀ l, l < S 15 0 → S 20 l ≠ 100 + t) → sp_sayL t h k i S = S := by
  intro k
  induction k with
  | zero => exact fun _ _ _ _ _ => rfl
  | succ k ih =>
    intro i S hi W hn
    have ho := W.2.2.2.2.2.2.1 i (by omega)
    show sp_sayL t h k (i + 1) (if S 20 (S 22 i) = 100 + t then sp_say (S 22 i) h S else S) = S
    rw [if_neg (hn _ ho)]
    exact ih (i + 1) S (by omega) W hn
theorem x_goOnE {b t h : Nat} {S : tz_S} {A : tz_Mem} (hb : tz_sky b) (r : rx b 99 S A) (W : sp_W1 S) (ht : t < S 7 0) (hh : h < S 1 0) : ∃ A', (if tz_g A (b + 4) h = tz_j 0 then some (none, A) else tz_bV (f_X9_takeUp b (tz_j t) (tz_j h) A) (fun A1 => some (none, A1)) : tz_X) = some (none, A') ∧ rx b 99 (sp_take t h (S 15 0) 0 (S 10 t) S) A' ∧ tz_fr (rx_p b) A A' := by
  have h12 := W.2.2.1
  by_cases q : tz_g A (b + 4) h = tz_j 0
  · rw [if_pos q]
    rw [bj_is0 (r.2.1 h hh)] at q
    rw [take_id _ _ _ _ (Nat.zero_add _) W (fun l hl z => by
      have := q l (by omega)
      rw [decide_eq_false_iff_not] at this
      exact this ⟨hl, z⟩)]
    exact ⟨A, rfl, r, fr_rfl⟩
  · rw [if_neg q, e_X9_takeUp _ _ _ hb]
    obtain ⟨A', e, r', f'⟩ := x_takeL hb (S 15 0) 0 (S 10 t) S A (Nat.zero_add _) (Nat.le_refl _) r W ht hh
    rw [Nat.sub_self] at e
    have e2 : q_X9_takeUp_5 b (tz_j t) (tz_j h) 0 0 A = some (none, A') := e
    rw [e2]
    exact ⟨A', rfl, r', f'⟩
theorem x_goOnL {b t h : Nat} (hb : tz_sky b) : ∀ k i S A said, i + k = S 15 0 → rx b t S A → sp_W1 S → sp_W2 S → sp_WE S → t < S 7 0 → h < S 1 0 → tz_g A (b + 14) t = tz_j 0 → bt_is said (fun l => decide (l < S 15 0 ∧ S 20 l = 100 + t)) → (∀ j, j < i → S 20 (S 22 j) ≠ 100 + t) → S 0 0 + 11 * k < 2147483648 → S 0 3 < 2147483648 → ∃ A', q_X9_goOn_40 b (tz_j t) (tz_j h) said (tz_j i) A = some (none, A') ∧ rx b 99 (sp_take t h (S 15 0) 0 (S 10 t) (sp_sayL t h k i S)) A' ∧ tz_fr (rx_p b) A A' := by
  have hs := sky_lo hb
  intro k
  induction k with
  | zero =>
    intro i S A said hi r W W2 WE ht hh h0 hsd hord hT h3
    have c := r.1
    have h8 := W.1
    have h12 := W.2.2.1
    have r9 := rx_full r h0 (fun l hl z => by
      obtain ⟨j, hj, ej⟩ := W.2.2.2.2.2.2.2.2 l hl
      exact hord j (by omega) (by rw [ej]; exact z))
    obtain ⟨A', e, r', f'⟩ := x_goOnE hb r9 W ht hh
    refine ⟨A', ?_, r', f'⟩
    rw [e_X9_goOn_40 _ _ _ _ _ hb]
    simp (disch := omega) only [tz_lit, nj_m1, ↓reduceIte, nj_cl, nj_ltt, nj_ltf, nj_let, nj_lef, nj_eqf, nj_lt, nj_le, nj_eq, nj_add, nj_mul, nj_mod, nj_and7, nj_div, tz_bI_some, tz_bV_some, or_false, false_or, or_self, and_false, false_and, and_true, true_and, not_true_eq_false, not_false_eq_true, nt_lef, nt_let, nt_ltf, nt_ltt, nt_eqf, cx_15 c]
    exact e
  | succ k ih =>
    intro i S A said hi r W W2 WE ht hh h0 hsd hord hT h3
    have c := r.1
    have h8 := W.1
    have h4 := W.2.1
    have h12 := W.2.2.1
    have ho := W.2.2.2.2.2.2.1 i (by omega)
    by_cases q : said = tz_j 0
    · have hno : ∀ l, l < S 15 0 → S 20 l ≠ 100 + t := fun l hl z => by
        have q2 := q
        rw [bj_is0 hsd] at q2
        have := q2 l (by omega)
        rw [decide_eq_false_iff_not] at this
        exact this ⟨hl, z⟩
      have r9 := rx_full r h0 hno
      obtain ⟨A', e, r', f'⟩ := x_goOnE hb r9 W ht hh
      rw [sayL_id _ _ _ hi W hno]
      refine ⟨A', ?_, r', f'⟩
      rw [e_X9_goOn_40 _ _ _ _ _ hb]
      simp (disch := omega) only [tz_lit, nj_m1, ↓reduceIte, nj_cl, nj_ltt, nj_ltf, nj_let, nj_lef, nj_eqf, nj_lt, nj_le, nj_eq, nj_add, nj_mul, nj_mod, nj_and7, nj_div, tz_bI_some, tz_bV_some, or_false, false_or, or_self, and_false, false_and, and_true, true_and, not_true_eq_false, not_false_eq_true, nt_lef, nt_let, nt_ltf, nt_ltt, nt_eqf, cx_15 c, q]
      exact e
    have et := bj_test (l := S 22 i) (by omega) hsd
    show ∃ A', _ = some (none, A') ∧ rx b 99 (sp_take t h (S 15 0) 0 (S 10 t) (sp_sayL t h k (i + 1) (if S 20 (S 22 i) = 100 + t then sp_say (S 22 i) h S else S))) A' ∧ _
    by_cases c1 : S 20 (S 22 i) = 100 + t
    · rw [if_pos c1]
      obtain ⟨A1, e1, r1, f1⟩ := x_say hb r W W2 WE ho hh (by omega) c1 (by omega) h3
      have g := say_G W W2 WE ho hh (by omega)
      have sg := (say_get (l := S 22 i) (h := h) (S := S) (by omega))
      have k15 := g.1 15 0 (by unfold sp_kp; omega)
      have k22 : ∀ j, sp_say (S 22 i) h S 22 j = S 22 j := fun j => g.1 22 j (by unfold sp_kp; omega)
      have k20 : ∀ l, sp_say (S 22 i) h S 20 l = if l = S 22 i then (if S 18 (S 22 i) = h then 200 else h) else S 20 l := fun l => by
        by_cases z : l = S 22 i
        · rw [if_pos z, z]
          exact sg.2.2.1
        · rw [if_neg z]
          exact sg.1 20 l (by omega) (by omega) (by omega) (by omega) (by omega)
      have hx : ∀ l : Nat, (if S 18 (S 22 i) = h then 200 else h) ≠ 100 + t := fun l => by split <;> omega
      obtain ⟨A', e, r', f'⟩ := ih (i + 1) _ A1 (said &&& ((tz_j 1 <<< (tz_j (S 22 i) &&& tz_j 31)) ^^^ tz_j 4294967295)) (by rw [k15]; omega) r1 g.2.1 g.2.2.1 g.2.2.2.1 (by rw [g.1 7 0 (by unfold sp_kp; omega)]; exact ht) (by rw [g.1 1 0 (by unfold sp_kp; omega)]; exact hh) (by rw [f1.2.2 (b + 14) t (by unfold rx_q; omega)]; exact h0) (by
        refine bt_congr (bj_clr (by omega) hsd) (fun m _ => ?_)
        rw [k15, k20]
        by_cases z : m = S 22 i
        · have := hx 0
          simp [z, this]
        · have z2 : ¬ S 22 i = m := fun y => z y.symm
          simp [z, z2]) (fun j hj => by
        rw [k22, k20]
        by_cases z : S 22 j = S 22 i
        · rw [if_pos z]
          exact hx 0
        · rw [if_neg z]
          by_cases y : j < i
          · exact hord j y
          · exact absurd (by rw [show j = i from by omega]) z) (by have := g.2.2.2.2.2; omega) (by rw [g.1 0 3 (by unfold sp_kp; omega)]; exact h3)
      rw [k15, g.1 10 t (by unfold sp_kp; omega)] at r'
      refine ⟨A', ?_, r', fr_tr (fr_qp f1) f'⟩
      rw [e_X9_goOn_40 _ _ _ _ _ hb]
      simp (disch := omega) only [tz_lit, nj_m1, ↓reduceIte, nj_cl, nj_ltt, nj_ltf, nj_let, nj_lef, nj_eqf, nj_lt, nj_le, nj_eq, nj_add, nj_mul, nj_mod, nj_and7, nj_div, tz_bI_some, tz_bV_some, or_false, false_or, or_self, and_false, false_and, and_true, true_and, not_true_eq_false, not_false_eq_true, nt_lef, nt_let, nt_ltf, nt_ltt, nt_eqf, cx_15 c, q, cx_22 c, et, ho, c1, decide_true, reduceCtorEq, decide_eq_false_iff_not, e1]
      exact e
    · rw [if_neg c1]
      obtain ⟨A', e, r', f'⟩ := ih (i + 1) S A said (by omega) r W W2 WE ht hh h0 hsd (fun j hj => by
        by_cases y : j < i
        · exact hord j y
        · rw [show j = i from by omega]
          exact c1) (by omega) h3
      refine ⟨A', ?_, r', f'⟩
      rw [e_X9_goOn_40 _ _ _ _ _ hb]
      simp (disch := omega) only [tz_lit, nj_m1, ↓reduceIte, nj_cl, nj_ltt, nj_ltf, nj_let, nj_lef, nj_eqf, nj_lt, nj_le, nj_eq, nj_add, nj_mul, nj_mod, nj_and7, nj_div, tz_bI_some, tz_bV_some, or_false, false_or, or_self, and_false, false_and, and_true, true_and, not_true_eq_false, not_false_eq_true, nt_lef, nt_let, nt_ltf, nt_ltt, nt_eqf, cx_15 c, q, cx_22 c, et, ho, c1, decide_false, decide_eq_false_iff_not]
      exact e


theorem x_com {b t : Nat} {S : tz_S} {A : tz_Mem} (hb : tz_sky b) (r : rx b 99 S A) (W : sp_W1 S) (W2 : sp_W2 S) (WE : sp_WE S) (ht : t < S 7 0) (hT : S 0 0 + 132 < 2147483648) (h3 : S 0 3 < 2147483648) : ∃ A', f_X9_goOn b (tz_j t) A = some (none, A') ∧ rx b 99 (sp_com t S) A' ∧ tz_fr (rx_p b) A A' := by
  have h4 := W.2.1
  have h12 := W.2.2.1
  obtain ⟨A1, e1, r1, f1⟩ := x_adv hb r W W2 ht
  have g := adv_G W W2 WE ht
  have ht1 : t < sp_adv t S 7 0 := ht
  have hh := at_lt g.2.1 g.2.2.1 ht1
  have e2 := x_at hb r1.1 g.2.1 g.2.2.1 ht1
  have hbt := r1.2.2.1 t ht1 (by omega)
  obtain ⟨A', e, r', f'⟩ := x_goOnL (h := sp_at (sp_adv t S) t) hb (S 15 0) 0 (sp_adv t S) (tz_s A1 (b + 14) t (tz_j 0)) (tz_g A1 (b + 14) t) (Nat.zero_add _) (rx_14 hb (rx_weak h4 r1)) g.2.1 g.2.2.1 g.2.2.2.1 ht1 hh tz_gs1 hbt (fun j hj => absurd hj (Nat.not_lt_zero j)) (by rw [show sp_adv t S 0 0 = S 0 0 from rfl]; omega) h3
  refine ⟨A', ?_, r', fr_tr f1 (fr_tr (fr_s fr_rfl (Or.inl (by omega))) f')⟩
  rw [e_X9_goOn _ _ hb]
  simp (disch := omega) only [tz_lit, nj_m1, ↓reduceIte, nj_cl, nj_ltt, nj_ltf, nj_let, nj_lef, nj_eqf, nj_lt, nj_le, nj_eq, nj_add, nj_mul, nj_mod, nj_and7, nj_div, tz_bI_some, tz_bV_some, or_false, false_or, or_self, and_false, false_and, and_true, true_and, not_true_eq_false, not_false_eq_true, nt_lef, nt_let, nt_ltf, nt_ltt, nt_eqf, e1, e2]
  exact e
theorem nj_modx {a b : Nat} : tz_j a - tz_j (a / b * b) = tz_j (a % b) := by
  rw [nj_sub (Nat.div_mul_le_self a b)]
  congr 1
  have := Nat.div_add_mod' a b
  omega
theorem x_turn {b t x : Nat} {S : tz_S} {A : tz_Mem} (hb : tz_sky b) (c : rx_c b S A) (W : sp_W1 S) (ht : t < S 7 0) (h3 : S 0 3 < 2147483648) : f_X10_hasTurn b (tz_j t) (tz_j (S 0 3)) A = some (some (.int (if S 0 3 % S 8 t = 0 then tz_j 1 else tz_j 0)), A) := by
  have h4 := W.2.1
  have ht2 := W.2.2.2.2.1 t ht
  have hm : S 0 3 % S 8 t < 9 := by
    have := Nat.mod_lt (S 0 3) (show 0 < S 8 t by omega)
    omega
  rw [e_X10_hasTurn _ _ _ hb]
  by_cases q : S 0 3 % S 8 t = 0
  · simp (disch := omega) only [tz_lit, nj_m1, ↓reduceIte, nj_cl, nj_ltt, nj_ltf, nj_let, nj_lef, nj_eqf, nj_lt, nj_le, nj_eq, nj_add, nj_mul, nj_modx, nj_and7, nj_div, tz_bI_some, tz_bV_some, or_false, false_or, or_self, and_false, false_and, and_true, true_and, not_true_eq_false, not_false_eq_true, nt_lef, nt_let, nt_ltf, nt_ltt, nt_eqf, cx_8 c, q]
  · simp (disch := omega) only [tz_lit, nj_m1, ↓reduceIte, nj_cl, nj_ltt, nj_ltf, nj_let, nj_lef, nj_eqf, nj_lt, nj_le, nj_eq, nj_add, nj_mul, nj_modx, nj_and7, nj_div, tz_bI_some, tz_bV_some, or_false, false_or, or_self, and_false, false_and, and_true, true_and, not_true_eq_false, not_false_eq_true, nt_lef, nt_let, nt_ltf, nt_ltt, nt_eqf, cx_8 c, if_neg q]
theorem x_tkL {b : Nat} (hb : tz_sky b) : ∀ k t S A, t + k = S 7 0 → rx b 99 S A → sp_W1 S → sp_W2 S → sp_WE S → S 0 0 + 132 * k < 2147483648 → S 0 3 < 2147483648 → ∃ A', q_X9_tick_12 b (tz_j t) A = some (none, A') ∧ rx b 99 (sp_tkL k t S) A' ∧ tz_fr (rx_p b) A A' := by
  intro k
  induction k with
  | zero =>
    intro t S A ht r W W2 WE hT h3
    have c := r.1
    have h4 := W.2.1
    refine ⟨A, ?_, r, fr_rfl⟩
    rw [e_X9_tick_12 _ _ hb]
    simp (disch := omega) only [tz_lit, nj_m1, ↓reduceIte, nj_cl, nj_ltt, nj_ltf, nj_let, nj_lef, nj_eqf, nj_lt, nj_le, nj_eq, nj_add, nj_mul, nj_mod, nj_and7, nj_div, tz_bI_some, tz_bV_some, or_false, false_or, or_self, and_false, false_and, and_true, true_and, not_true_eq_false, not_false_eq_true, nt_lef, nt_let, nt_ltf, nt_ltt, nt_eqf, cx_7 c]
  | succ k ih =>
    intro t S A ht r W W2 WE hT h3
    have c := r.1
    have h4 := W.2.1
    have h6 := W2.2.2.2.2.2.2
    have e0 := x_turn (x := 0) hb c W (show t < S 7 0 by omega) h3
    show ∃ A', _ = some (none, A') ∧ rx b 99 (sp_tkL k (t + 1) (if S 0 3 % S 8 t = 0 ∧ t ≠ S 0 6 then sp_com t S else S)) A' ∧ _
    by_cases q : S 0 3 % S 8 t = 0
    · by_cases z : t = S 0 6
      · rw [if_neg (fun y => y.2 z)]
        rw [e_X9_tick_12 _ _ hb]
        simp (disch := omega) only [tz_lit, nj_m1, ↓reduceIte, nj_cl, nj_ltt, nj_ltf, nj_let, nj_lef, nj_eqf, nj_lt, nj_le, nj_eq, nj_add, nj_mul, nj_mod, nj_and7, nj_div, tz_bI_some, tz_bV_some, or_false, false_or, or_self, and_false, false_and, and_true, true_and, not_true_eq_false, not_false_eq_true, nt_lef, nt_let, nt_ltf, nt_ltt, nt_eqf, cx_7 c, cx_0_3 c, e0, q, cx_0_6 c, if_pos z]
        exact ih (t + 1) S A (by omega) r W W2 WE (by omega) h3
      · rw [if_pos ⟨q, z⟩]
        obtain ⟨A1, e1, r1, f1⟩ := x_com hb r W W2 WE (show t < S 7 0 by omega) (by omega) h3
        have g := com_G W W2 WE (show t < S 7 0 by omega)
        have gg := g.2.2.2.2
        obtain ⟨A', e, r', f'⟩ := ih (t + 1) _ A1 (by rw [g.1 7 0 (by unfold sp_kp; omega)]; omega) r1 g.2.1 g.2.2.1 g.2.2.2.1 (by omega) (by rw [g.1 0 3 (by unfold sp_kp; omega)]; exact h3)
        refine ⟨A', ?_, r', fr_tr f1 f'⟩
        rw [e_X9_tick_12 _ _ hb]
        simp (disch := omega) only [tz_lit, nj_m1, ↓reduceIte, nj_cl, nj_ltt, nj_ltf, nj_let, nj_lef, nj_eqf, nj_lt, nj_le, nj_eq, nj_add, nj_mul, nj_mod, nj_and7, nj_div, tz_bI_some, tz_bV_some, or_false, false_or, or_self, and_false, false_and, and_true, true_and, not_true_eq_false, not_false_eq_true, nt_lef, nt_let, nt_ltf, nt_ltt, nt_eqf, cx_7 c, cx_0_3 c, e0, q, cx_0_6 c, if_neg z, e1]
        exact e
    · rw [if_neg (fun y => q y.1)]
      rw [e_X9_tick_12 _ _ hb]
      simp (disch := omega) only [tz_lit, nj_m1, ↓reduceIte, nj_cl, nj_ltt, nj_ltf, nj_let, nj_lef, nj_eqf, nj_lt, nj_le, nj_eq, nj_add, nj_mul, nj_mod, nj_and7, nj_div, tz_bI_some, tz_bV_some, or_false, false_or, or_self, and_false, false_and, and_true, true_and, not_true_eq_false, not_false_eq_true, nt_lef, nt_let, nt_ltf, nt_ltt, nt_eqf, cx_7 c, cx_0_3 c, e0, if_neg q]
      exact ih (t + 1) S A (by omega) r W W2 WE (by omega) h3
/-- an hour: what is known ahead and behind -/
def sp_H (N : Nat) (S : tz_S) : Prop := sp_W1 S ∧ sp_W2 S ∧ sp_WE S ∧ S 0 3 ≤ N ∧ S 0 0 ≤ 528 * S 0 3
theorem tk0 {S : tz_S} (W : sp_W1 S) (W2 : sp_W2 S) (WE : sp_WE S) : sp_W1 (tz_t S 0 3 (S 0 3 + 1)) ∧ sp_W2 (tz_t S 0 3 (S 0 3 + 1)) ∧ sp_WE (tz_t S 0 3 (S 0 3 + 1)) := by
  have g : ∀ k i, k ≠ 0 → tz_t S 0 3 (S 0 3 + 1) k i = S k i := fun k i hk => tz_tk hk
  have g0 : ∀ i, i ≠ 3 → tz_t S 0 3 (S 0 3 + 1) 0 i = S 0 i := fun i hi => tz_ti hi
  refine ⟨?_, ?_, we_mv WE (fun k i h1 h2 => g k i (by omega))⟩
  · unfold sp_W1 sp_lt at W ⊢
    simp only [g 1 _ (by omega), g 2 _ (by omega), g 3 _ (by omega), g 7 _ (by omega), g 8 _ (by omega), g 9 _ (by omega), g 10 _ (by omega), g 11 _ (by omega), g 12 _ (by omega), g 15 _ (by omega), g 17 _ (by omega), g 18 _ (by omega), g 19 _ (by omega), g 22 _ (by omega)]
    exact W
  · obtain ⟨a, b, c, d, e1, e2, e3⟩ := W2
    refine ⟨a, fun l hl => ?_, c, ?_, e1, e2, e3⟩
    · obtain ⟨b1, b2, b3, b4⟩ := b l hl
      exact ⟨b1, b2, fun q => Nat.le_succ_of_le (b3 q), b4⟩
    · exact (sum_mv (S := S) (S' := tz_t S 0 3 (S 0 3 + 1)) (S 1 0) (fun _ _ => rfl)).trans d
theorem tk_G {N : Nat} {S : tz_S} (H : sp_H N S) : sp_H (N + 1) (sp_tk S) ∧ sp_tk S 0 3 = S 0 3 + 1 ∧ ∀ k i, sp_kp k i → k ≠ 0 ∨ i ≠ 3 → sp_tk S k i = S k i := by
  obtain ⟨W, W2, WE, hN, hT⟩ := H
  obtain ⟨a, b, c⟩ := tk0 W W2 WE
  have h4 := W.2.1
  have g := tkL_G (S 7 0) 0 (tz_t S 0 3 (S 0 3 + 1)) (Nat.zero_add _) a b c
  have e3 : sp_tk S 0 3 = S 0 3 + 1 := g.1 0 3 (by unfold sp_kp; omega)
  refine ⟨⟨g.2.1, g.2.2.1, g.2.2.2.1, by omega, ?_⟩, e3, fun k i hp hk => ?_⟩
  · have h1 := g.2.2.2.2.2
    have h2 : tz_t S 0 3 (S 0 3 + 1) 0 0 = S 0 0 := rfl
    rw [h2] at h1
    have h5 : sp_tk S 0 0 ≤ S 0 0 + 132 * S 7 0 := h1
    omega
  · exact (g.1 k i hp).trans (by rw [tz_ta, if_neg (by omega)])
theorem x_tk {b N : Nat} {S : tz_S} {A : tz_Mem} (hb : tz_sky b) (hN : N ≤ 2000000) (r : rx b 99 S A) (H : sp_H N S) : ∃ A', f_X9_tick b A = some (none, A') ∧ rx b 99 (sp_tk S) A' ∧ tz_fr (rx_p b) A A' := by
  obtain ⟨W, W2, WE, h3, hT⟩ := H
  obtain ⟨a, b2, c⟩ := tk0 W W2 WE
  have h4 := W.2.1
  have hr : rx b 99 (tz_t S 0 3 (S 0 3 + 1)) (tz_s A (b + 0) 3 (tz_j (S 0 3 + 1))) := rx_s hb (by omega) (by omega) (by omega) (by omega) (by omega) (by omega) (by omega) (by omega) (by omega) r
  obtain ⟨A', e, r', f'⟩ := x_tkL hb (S 7 0) 0 (tz_t S 0 3 (S 0 3 + 1)) (tz_s A (b + 0) 3 (tz_j (S 0 3 + 1))) (Nat.zero_add _) hr a b2 c (by rw [show tz_t S 0 3 (S 0 3 + 1) 0 0 = S 0 0 from rfl]; omega) (by rw [show tz_t S 0 3 (S 0 3 + 1) 0 3 = S 0 3 + 1 from rfl]; omega)
  refine ⟨A', ?_, r', fr_tr (fr_s fr_rfl (Or.inl (by omega))) f'⟩
  rw [e_X9_tick _ hb]
  simp (disch := omega) only [tz_lit, nj_m1, ↓reduceIte, nj_cl, nj_ltt, nj_ltf, nj_let, nj_lef, nj_eqf, nj_lt, nj_le, nj_eq, nj_add, nj_mul, nj_mod, nj_and7, nj_div, tz_bI_some, tz_bV_some, or_false, false_or, or_self, and_false, false_and, and_true, true_and, not_true_eq_false, not_false_eq_true, nt_lef, nt_let, nt_ltf, nt_ltt, nt_eqf, cx_0_3 r.1]
  exact e
theorem n_G {N : Nat} : ∀ n S, sp_H N S → sp_H (N + n) (sp_n n S) ∧ sp_n n S 0 3 = S 0 3 + n ∧ ∀ k i, sp_kp k i → k ≠ 0 ∨ i ≠ 3 → sp_n n S k i = S k i := by
  intro n
  induction n generalizing N with
  | zero => exact fun S H => ⟨H, rfl, fun _ _ _ _ => rfl⟩
  | succ n ih =>
    intro S H
    obtain ⟨g1, g2, g3⟩ := tk_G H
    obtain ⟨i1, i2, i3⟩ := ih (sp_tk S) g1
    refine ⟨by rw [show N + (n + 1) = N + 1 + n from by omega]; exact i1, ?_, fun k i hp hk => (i3 k i hp hk).trans (g3 k i hp hk)⟩
    show sp_n n (sp_tk S) 0 3 = _
    omega
theorem x_passL {b n : Nat} (hb : tz_sky b) (hn : n < 2147483648) : ∀ k i N S A, i + k = n → N + k ≤ 2000000 → rx b 99 S A → sp_H N S → ∃ A', q_X9_pass_2 b (tz_j n) (tz_j i) A = some (none, A') ∧ rx b 99 (sp_n k S) A' ∧ tz_fr (rx_p b) A A' := by
  intro k
  induction k with
  | zero =>
    intro i N S A hi hN r H
    refine ⟨A, ?_, r, fr_rfl⟩
    rw [e_X9_pass_2 _ _ _ hb]
    simp (disch := omega) only [tz_lit, nj_m1, ↓reduceIte, nj_cl, nj_ltt, nj_ltf, nj_let, nj_lef, nj_eqf, nj_lt, nj_le, nj_eq, nj_add, nj_mul, nj_mod, nj_and7, nj_div, tz_bI_some, tz_bV_some, or_false, false_or, or_self, and_false, false_and, and_true, true_and, not_true_eq_false, not_false_eq_true, nt_lef, nt_let, nt_ltf, nt_ltt, nt_eqf]
  | succ k ih =>
    intro i N S A hi hN r H
    obtain ⟨A1, e1, r1, f1⟩ := x_tk hb (by omega) r H
    obtain ⟨A', e, r', f'⟩ := ih (i + 1) (N + 1) _ A1 (by omega) (by omega) r1 (tk_G H).1
    refine ⟨A', ?_, r', fr_tr f1 f'⟩
    rw [e_X9_pass_2 _ _ _ hb]
    simp (disch := omega) only [tz_lit, nj_m1, ↓reduceIte, nj_cl, nj_ltt, nj_ltf, nj_let, nj_lef, nj_eqf, nj_lt, nj_le, nj_eq, nj_add, nj_mul, nj_mod, nj_and7, nj_div, tz_bI_some, tz_bV_some, or_false, false_or, or_self, and_false, false_and, and_true, true_and, not_true_eq_false, not_false_eq_true, nt_lef, nt_let, nt_ltf, nt_ltt, nt_eqf, e1]
    exact e
theorem x_pass {b n N : Nat} {S : tz_S} {A : tz_Mem} (hb : tz_sky b) (hN : N + n ≤ 2000000) (r : rx b 99 S A) (H : sp_H N S) : ∃ A', f_X9_pass b (tz_j n) A = some (none, A') ∧ rx b 99 (sp_n n S) A' ∧ tz_fr (rx_p b) A A' := by
  rw [e_X9_pass _ _ hb]
  exact x_passL hb (by omega) n 0 N S A (Nat.zero_add _) hN r H
