/-! the class: a letter is said, a storm goes on, an hour goes by -/
theorem lis_WE {l h w m : Nat} {S : tz_S} (W : sp_WE S) (hh : h < 8) : sp_WE (sp_lis l h w m S) := by
  obtain ⟨w0, w1, w2, w3⟩ := W
  unfold sp_lis
  by_cases a1 : S 200 0 = 1
  · rw [if_pos a1]
    split
    · refine ⟨by rw [tz_tk (by omega)]; exact w0, fun _ => ⟨by rw [tz_ti (by omega)]; exact (w1 a1).1, by rw [tz_t1]; omega⟩, fun q => ?_, fun q => ?_⟩
      · rw [tz_tk (by omega)] at q
        omega
      · rw [tz_tk (by omega)] at q
        omega
    · exact ⟨w0, w1, w2, w3⟩
  rw [if_neg a1]
  by_cases a2 : S 200 0 = 2
  · rw [if_pos a2]
    split
    · exact ni_WE ⟨w0, w1, w2, w3⟩ m a2
    · exact ⟨w0, w1, w2, w3⟩
  rw [if_neg a2]
  by_cases a3 : S 200 0 = 3
  · rw [if_pos a3]
    split
    · refine ⟨by rw [tz_tk (by omega), tz_tk (by omega)]; exact w0, fun q => ?_, fun q => ?_, fun q => ⟨by rw [tz_t1]; omega, by rw [tz_ti (by omega), tz_tk (by omega)]; exact (w3 a3).2⟩⟩
      · rw [tz_tk (by omega), tz_tk (by omega)] at q
        omega
      · rw [tz_tk (by omega), tz_tk (by omega)] at q
        omega
    · exact ⟨w0, w1, w2, w3⟩
  rw [if_neg a3]
  exact ⟨w0, w1, w2, w3⟩
theorem we_mv {S S' : tz_S} (W : sp_WE S) (e : ∀ k i, 200 ≤ k → k ≤ 204 → S' k i = S k i) : sp_WE S' := by
  unfold sp_WE at W ⊢
  simp only [e 200 _ (by omega) (by omega), e 201 _ (by omega) (by omega), e 202 _ (by omega) (by omega), e 203 _ (by omega) (by omega), e 204 _ (by omega) (by omega)]
  exact W
theorem say_WE {l h : Nat} {S : tz_S} (W : sp_WE S) (hh : h < 8) : sp_WE (sp_say l h S) := by
  unfold sp_say
  refine we_mv (lis_WE (S := sp_hr h (sp_bec S h (S 16 l)) (sp_tim S h (S 19 l)) (tz_t S 16 l (sp_bec S h (S 16 l)))) (we_mv W (fun k i h1 h2 => ?_)) hh) (fun k i h1 h2 => fin_get (by omega))
  rw [(hr_get _ _).1 k i (by omega) (by omega) (by omega), tz_tk (by omega)]
theorem x_bec {b h v : Nat} {S : tz_S} {A : tz_Mem} (hb : tz_sky b) (c : rx_c b S A) (W : sp_W1 S) (hh : h < S 1 0) (hv : v ≤ 9999) : f_X3_becomes b (tz_j h) (tz_j v) A = some (some (.int (tz_j (sp_bec S h v))), A) := by
  have h8 := W.1
  have hk := W.2.2.2.1 h hh
  rw [e_X3_becomes _ _ _ hb]
  unfold sp_bec
  by_cases c2 : S 2 h = 2
  · simp (disch := omega) only [tz_lit, nj_m1, ↓reduceIte, nj_cl, nj_ltt, nj_ltf, nj_let, nj_lef, nj_eqf, nj_lt, nj_le, nj_eq, nj_add, nj_mul, nj_mod, nj_and7, nj_div, tz_bI_some, tz_bV_some, or_false, false_or, or_self, and_false, false_and, and_true, true_and, not_true_eq_false, not_false_eq_true, nt_lef, nt_let, nt_ltf, nt_ltt, nt_eqf, cx_2 c, c2]
  by_cases c5 : S 2 h = 5
  · simp (disch := omega) only [tz_lit, nj_m1, ↓reduceIte, nj_cl, nj_ltt, nj_ltf, nj_let, nj_lef, nj_eqf, nj_lt, nj_le, nj_eq, nj_add, nj_mul, nj_mod, nj_and7, nj_div, tz_bI_some, tz_bV_some, or_false, false_or, or_self, and_false, false_and, and_true, true_and, not_true_eq_false, not_false_eq_true, nt_lef, nt_let, nt_ltf, nt_ltt, nt_eqf, cx_2 c, cx_3 c, c5]
  simp (disch := omega) only [tz_lit, nj_m1, ↓reduceIte, nj_cl, nj_ltt, nj_ltf, nj_let, nj_lef, nj_eqf, nj_lt, nj_le, nj_eq, nj_add, nj_mul, nj_mod, nj_and7, nj_div, tz_bI_some, tz_bV_some, or_false, false_or, or_self, and_false, false_and, and_true, true_and, not_true_eq_false, not_false_eq_true, nt_lef, nt_let, nt_ltf, nt_ltt, nt_eqf, cx_2 c]
theorem x_tim {b h g : Nat} {S : tz_S} {A : tz_Mem} (hb : tz_sky b) (c : rx_c b S A) (W : sp_W1 S) (hh : h < S 1 0) (hg : g ≤ 99) : f_X3_timesHeard b (tz_j h) (tz_j g) A = some (some (.int (tz_j (sp_tim S h g))), A) := by
  have h8 := W.1
  have hk := W.2.2.2.1 h hh
  rw [e_X3_timesHeard _ _ _ hb]
  unfold sp_tim
  by_cases c1 : S 2 h = 1
  · simp (disch := omega) only [tz_lit, nj_m1, ↓reduceIte, nj_cl, nj_ltt, nj_ltf, nj_let, nj_lef, nj_eqf, nj_lt, nj_le, nj_eq, nj_add, nj_mul, nj_mod, nj_and7, nj_div, tz_bI_some, tz_bV_some, or_false, false_or, or_self, and_false, false_and, and_true, true_and, not_true_eq_false, not_false_eq_true, nt_lef, nt_let, nt_ltf, nt_ltt, nt_eqf, cx_2 c, c1]
  by_cases c2 : S 2 h = 2
  · simp (disch := omega) only [tz_lit, nj_m1, ↓reduceIte, nj_cl, nj_ltt, nj_ltf, nj_let, nj_lef, nj_eqf, nj_lt, nj_le, nj_eq, nj_add, nj_mul, nj_mod, nj_and7, nj_div, tz_bI_some, tz_bV_some, or_false, false_or, or_self, and_false, false_and, and_true, true_and, not_true_eq_false, not_false_eq_true, nt_lef, nt_let, nt_ltf, nt_ltt, nt_eqf, cx_2 c, c2]
  by_cases c3 : S 2 h = 3
  · simp (disch := omega) only [tz_lit, nj_m1, ↓reduceIte, nj_cl, nj_ltt, nj_ltf, nj_let, nj_lef, nj_eqf, nj_lt, nj_le, nj_eq, nj_add, nj_mul, nj_mod, nj_and7, nj_div, tz_bI_some, tz_bV_some, or_false, false_or, or_self, and_false, false_and, and_true, true_and, not_true_eq_false, not_false_eq_true, nt_lef, nt_let, nt_ltf, nt_ltt, nt_eqf, cx_2 c, cx_3 c, c3]
  by_cases c4 : S 2 h = 4
  · simp (disch := omega) only [tz_lit, nj_m1, ↓reduceIte, nj_cl, nj_ltt, nj_ltf, nj_let, nj_lef, nj_eqf, nj_lt, nj_le, nj_eq, nj_add, nj_mul, nj_mod, nj_and7, nj_div, tz_bI_some, tz_bV_some, or_false, false_or, or_self, and_false, false_and, and_true, true_and, not_true_eq_false, not_false_eq_true, nt_lef, nt_let, nt_ltf, nt_ltt, nt_eqf, cx_2 c, cx_3 c, c4]
    split <;> rfl
  by_cases c5 : S 2 h = 5
  · simp (disch := omega) only [tz_lit, nj_m1, ↓reduceIte, nj_cl, nj_ltt, nj_ltf, nj_let, nj_lef, nj_eqf, nj_lt, nj_le, nj_eq, nj_add, nj_mul, nj_mod, nj_and7, nj_div, tz_bI_some, tz_bV_some, or_false, false_or, or_self, and_false, false_and, and_true, true_and, not_true_eq_false, not_false_eq_true, nt_lef, nt_let, nt_ltf, nt_ltt, nt_eqf, cx_2 c, c5]
  by_cases c6 : S 2 h = 6
  · simp (disch := omega) only [tz_lit, nj_m1, ↓reduceIte, nj_cl, nj_ltt, nj_ltf, nj_let, nj_lef, nj_eqf, nj_lt, nj_le, nj_eq, nj_add, nj_mul, nj_mod, nj_and7, nj_div, tz_bI_some, tz_bV_some, or_false, false_or, or_self, and_false, false_and, and_true, true_and, not_true_eq_false, not_false_eq_true, nt_lef, nt_let, nt_ltf, nt_ltt, nt_eqf, cx_2 c, c6]
  simp (disch := omega) only [tz_lit, nj_m1, ↓reduceIte, nj_cl, nj_ltt, nj_ltf, nj_let, nj_lef, nj_eqf, nj_lt, nj_le, nj_eq, nj_add, nj_mul, nj_mod, nj_and7, nj_div, tz_bI_some, tz_bV_some, or_false, false_or, or_self, and_false, false_and, and_true, true_and, not_true_eq_false, not_false_eq_true, nt_lef, nt_let, nt_ltf, nt_ltt, nt_eqf, cx_2 c]
theorem rx_move {b x x' l v : Nat} {S : tz_S} {A A' : tz_Mem} (hb : tz_sky b) (r : rx b x S A) (h8 : S 1 0 ≤ 8)
    (hl : ∀ h, h < S 1 0 → bt_is (tz_g A' (b + 4) h) (fun m => decide (m < S 15 0 ∧ (if m = l then v else S 20 m) = h)))
    (hk : ∀ t, t < S 7 0 → t ≠ x' → bt_is (tz_g A' (b + 14) t) (fun m => decide (m < S 15 0 ∧ (if m = l then v else S 20 m) = 100 + t)))
    (eA : ∀ k i, k ≠ b + 4 → k ≠ b + 14 → (k ≠ b + 20 ∨ i ≠ l) → tz_g A' k i = tz_g A k i) (e20 : tz_g A' (b + 20) l = tz_j v) (er : tz_gr A' b 7 = tz_gr A b 7) : rx b x' (tz_t S 20 l v) A' := by
  have hs := sky_lo hb
  obtain ⟨c, l0, k0, ww, e⟩ := r
  refine ⟨fun k i hp => ?_, fun h hh => ?_, fun t ht hx => ?_, rx_w_mv ww (tz_tk (by omega)) (fun _ => tz_tk (by omega)) (fun _ _ => tz_tk (by omega)) (fun _ => eA _ _ (by omega) (by omega) (by omega)), rx_e_mv e (fun _ _ _ _ => tz_tk (by omega)) er (fun _ _ _ _ => eA _ _ (by omega) (by omega) (by omega))⟩
  · by_cases q : k = 20 ∧ i = l
    · rw [q.1, q.2, e20, tz_t1]
    · rw [eA _ _ (by unfold rx_pl at hp; omega) (by unfold rx_pl at hp; omega) (by omega), tz_ta, if_neg q]
      exact c k i hp
  · rw [tz_tk (by omega)] at hh
    refine bt_congr (hl h hh) (fun m _ => ?_)
    rw [tz_tk (by omega), tz_ta]
    simp
  · rw [tz_tk (by omega)] at ht
    refine bt_congr (hk t ht hx) (fun m _ => ?_)
    rw [tz_tk (by omega), tz_ta]
    simp
theorem rx_fin1 {b t l h : Nat} {S : tz_S} {A : tz_Mem} (hb : tz_sky b) (r : rx b t S A) (h8 : S 1 0 ≤ 8) (h4 : S 7 0 ≤ 4) (h12 : S 15 0 ≤ 12) (hl : l < S 15 0) (hh : h < S 1 0) (ht : t < 4) (hw : S 20 l = 100 + t) (hto : ¬ S 18 l = h) : rx b t (sp_fin l h S) (tz_s (tz_s A (b + 20) l (tz_j h)) (b + 4) h (tz_g A (b + 4) h ||| (tz_j 1 <<< (tz_j l &&& tz_j 31)))) := by
  unfold sp_fin
  rw [if_neg hto]
  refine rx_move hb r h8 (fun g hg => ?_) (fun u hu hx => ?_) (fun k i a1 a2 a3 => ?_) ?_ rfl
  · by_cases q : g = h
    · subst q
      rw [tz_gs1]
      refine bt_congr (bj_or (by omega) (r.2.1 g hg)) (fun m _ => ?_)
      by_cases z : m = l
      · subst z
        simp [hl]
      · have z2 : l ≠ m := fun y => z y.symm
        simp [z, z2]
    · rw [tz_gsi q, tz_gsk (by omega)]
      refine bt_congr (r.2.1 g hg) (fun m _ => ?_)
      by_cases z : m = l
      · subst z
        have z1 : ¬ S 20 m = g := by omega
        have z2 : ¬ h = g := fun y => q y.symm
        simp [z1, z2]
      · simp [z]
  · rw [tz_gsk (by omega), tz_gsk (by omega)]
    refine bt_congr (r.2.2.1 u hu hx) (fun m _ => ?_)
    by_cases z : m = l
    · subst z
      have z1 : ¬ S 20 m = 100 + u := by omega
      have z2 : ¬ h = 100 + u := by omega
      simp [z1, z2]
    · simp [z]
  · rw [tz_gsk a1, tz_gS, if_neg (by omega)]
  · rw [tz_gsk (by omega), tz_gs1]
theorem rx_fin2 {b t l h : Nat} {S : tz_S} {A : tz_Mem} (hb : tz_sky b) (r : rx b t S A) (h8 : S 1 0 ≤ 8) (h4 : S 7 0 ≤ 4) (h12 : S 15 0 ≤ 12) (hl : l < S 15 0) (hh : h < S 1 0) (ht : t < 4) (hw : S 20 l = 100 + t) (hto : S 18 l = h) : rx b t (sp_fin l h S) (tz_s (tz_s A (b + 20) l (tz_j 200)) (b + 21) l (tz_j (S 0 3))) := by
  unfold sp_fin
  rw [if_pos hto]
  refine rx_s hb (by omega) (by omega) (by omega) (by omega) (by omega) (by omega) (by omega) (by omega) (by omega) ?_
  refine rx_move hb r h8 (fun g hg => ?_) (fun u hu hx => ?_) (fun k i a1 a2 a3 => ?_) ?_ rfl
  · rw [tz_gsk (by omega)]
    refine bt_congr (r.2.1 g hg) (fun m _ => ?_)
    by_cases z : m = l
    · subst z
      have z1 : ¬ S 20 m = g := by omega
      have z2 : ¬ 200 = g := by omega
      simp [z1, z2]
    · simp [z]
  · rw [tz_gsk (by omega)]
    refine bt_congr (r.2.2.1 u hu hx) (fun m _ => ?_)
    by_cases z : m = l
    · subst z
      have z1 : ¬ S 20 m = 100 + u := by omega
      have z2 : ¬ 200 = 100 + u := by omega
      simp [z1, z2]
    · simp [z]
  · rw [tz_gS, if_neg (by omega)]
  · rw [tz_gs1]
theorem x_say {b t l h : Nat} {S : tz_S} {A : tz_Mem} (hb : tz_sky b) (r : rx b t S A) (W : sp_W1 S) (W2 : sp_W2 S) (WE : sp_WE S) (hl : l < S 15 0) (hh : h < S 1 0) (ht : t < 4) (hw : S 20 l = 100 + t) (hT : S 0 0 + 11 < 2147483648) (h3 : S 0 3 < 2147483648) : ∃ A', f_X9_sayLetter b (tz_j l) (tz_j h) A = some (none, A') ∧ rx b t (sp_say l h S) A' ∧ tz_fr (rx_q b) A A' := by
  have hs := sky_lo hb
  have h8 := W.1
  have h4 := W.2.1
  have h12 := W.2.2.1
  have h99 := W.2.2.2.2.2.1 l hl
  have hwd := (W2.2.1 l hl).1
  have hev := W2.2.2.1 h hh
  have c := r.1
  have e1 := x_bec hb c W hh hwd
  have e2 := x_tim hb c W hh h99.2.2.2
  have htm := tim_le (g := S 19 l) W hh
  have hbc := bec_le (S := S) (h := h) hwd
  have r1 : rx b t (tz_t S 16 l (sp_bec S h (S 16 l))) (tz_s A (b + 16) l (tz_j (sp_bec S h (S 16 l)))) := rx_s hb (by omega) (by omega) (by omega) (by omega) (by omega) (by omega) (by omega) (by omega) (by omega) r
  have f1 : tz_fr (rx_q b) A (tz_s A (b + 16) l (tz_j (sp_bec S h (S 16 l)))) := fr_s fr_rfl (Or.inl (by omega))
  unfold sp_say
  generalize hSS : tz_t S 16 l (sp_bec S h (S 16 l)) = S1 at r1 ⊢
  generalize hAA : tz_s A (b + 16) l (tz_j (sp_bec S h (S 16 l))) = A1 at r1 f1
  generalize hbcg : sp_bec S h (S 16 l) = v at *
  generalize htmg : sp_tim S h (S 19 l) = m at *
  have s1 : ∀ k i, k ≠ 16 → S1 k i = S k i := fun k i hk => by rw [← hSS]; exact tz_tk hk
  obtain ⟨A2, e3, r3, f3⟩ := x_hear_3 (w := v) (m := m) hb (by omega) m 0 S1 A1 (by omega) r1 (by rw [s1 1 0 (by omega)]; exact h8) (by rw [s1 1 0 (by omega)]; exact hh) (by rw [s1 5 h (by omega)]; omega)
  have hg := (hr_get (h := h) (w := v) m S1).1
  generalize hS2 : sp_hr h v m S1 = S2 at *
  have s2 : ∀ k i, (k ≠ 0 ∨ i ≠ 0) → k ≠ 5 → k ≠ 16 → k ≠ 100 + h → S2 k i = S k i := fun k i a1 a2 a3 a4 => by rw [hg k i a1 (by omega) a4, s1 k i a3]
  have WE2 : sp_WE S2 := we_mv WE (fun k i a1 a2 => s2 k i (by omega) (by omega) (by omega) (by omega))
  have h82 : S2 1 0 ≤ 8 := by rw [s2 1 0 (by omega) (by omega) (by omega) (by omega)]; exact h8
  have eg := r3.2.2.2.2.1
  rw [e_X9_sayLetter _ _ _ hb]
  have fin : ∀ A3, rx b t (sp_lis l h v m S2) A3 → tz_fr (rx_q b) A2 A3 → ∃ A', (if ¬ tz_g A3 (b + 18) l = tz_j h then some (none, tz_s (tz_s A3 (b + 20) l (tz_j h)) (b + 4) h (tz_g A3 (b + 4) h ||| (tz_j 1 <<< (tz_j l &&& tz_j 31)))) else some (none, tz_s (tz_s A3 (b + 20) l (tz_j 200)) (b + 21) l (tz_g A3 b 3)) : tz_X) = some (none, A') ∧ rx b t (sp_fin l h (sp_lis l h v m S2)) A' ∧ tz_fr (rx_q b) A A' := by
    intro A3 r4 f4
    have c4 := r4.1
    have s3 : ∀ k i, k = 1 ∨ k = 7 ∨ k = 15 ∨ k = 18 ∨ k = 20 ∨ (k = 0 ∧ i = 3) → sp_lis l h v m S2 k i = S k i := fun k i hk => by rw [lis_get (by omega), s2 k i (by omega) (by omega) (by omega) (by omega)]
    have hto := (W.2.2.2.2.2.1 l hl).2.1
    rw [cx_18 c4 (by omega), cx_0_3 c4, s3 18 l (by omega)]
    have en : (tz_j (S 18 l) = tz_j h) = (S 18 l = h) := nj_eq (by omega) (by omega)
    by_cases q : S 18 l = h
    · rw [if_neg (fun z => z (by rw [q]))]
      exact ⟨_, rfl, rx_fin2 hb r4 (by rw [s3 1 0 (by omega)]; exact h8) (by rw [s3 7 0 (by omega)]; exact h4) (by rw [s3 15 0 (by omega)]; exact h12) (by rw [s3 15 0 (by omega)]; exact hl) (by rw [s3 1 0 (by omega)]; exact hh) ht (by rw [s3 20 l (by omega)]; exact hw) (by rw [s3 18 l (by omega)]; exact q), fr_s (fr_s (fr_tr f1 (fr_tr f3 f4)) (Or.inl (by omega))) (Or.inl (by omega))⟩
    · rw [if_pos (fun z => q (by rw [en] at z; exact z))]
      exact ⟨_, rfl, rx_fin1 hb r4 (by rw [s3 1 0 (by omega)]; exact h8) (by rw [s3 7 0 (by omega)]; exact h4) (by rw [s3 15 0 (by omega)]; exact h12) (by rw [s3 15 0 (by omega)]; exact hl) (by rw [s3 1 0 (by omega)]; exact hh) ht (by rw [s3 20 l (by omega)]; exact hw) (by rw [s3 18 l (by omega)]; exact q), fr_s (fr_s (fr_tr f1 (fr_tr f3 f4)) (Or.inl (by omega))) (Or.inl (by omega))⟩
  by_cases a1 : S2 200 0 = 1
  · rw [if_pos a1] at eg
    obtain ⟨A3, e4, r4, f4⟩ := x_lis1 (l := l) (h := h) (w := v) (m := m) hb r3 WE2 h82 a1 (by omega) (by omega) (by omega) (by omega)
    obtain ⟨A', e5, r5, f5⟩ := fin A3 r4 f4
    refine ⟨A', ?_, r5, f5⟩
    simp (disch := omega) only [tz_lit, nj_m1, ↓reduceIte, nj_cl, nj_ltt, nj_ltf, nj_let, nj_lef, nj_eqf, nj_lt, nj_le, nj_eq, nj_add, nj_mul, nj_mod, nj_and7, nj_div, tz_bI_some, tz_bV_some, or_false, false_or, or_self, and_false, false_and, and_true, true_and, not_true_eq_false, not_false_eq_true, nt_lef, nt_let, nt_ltf, nt_ltt, nt_eqf, cx_16 c, cx_19 c, e1, e2, hAA, e_X3_hear _ _ _ _ hb, e3, eg, e4, tz_gsk]
    exact e5
  by_cases a2 : S2 200 0 = 2
  · rw [if_neg a1, if_pos a2] at eg
    obtain ⟨A3, e4, r4, f4⟩ := x_lis2 (l := l) (h := h) (w := v) (m := m) hb r3 WE2 h82 a2 (by omega) (by omega) (by omega) (by omega)
    obtain ⟨A', e5, r5, f5⟩ := fin A3 r4 f4
    refine ⟨A', ?_, r5, f5⟩
    simp (disch := omega) only [tz_lit, nj_m1, ↓reduceIte, nj_cl, nj_ltt, nj_ltf, nj_let, nj_lef, nj_eqf, nj_lt, nj_le, nj_eq, nj_add, nj_mul, nj_mod, nj_and7, nj_div, tz_bI_some, tz_bV_some, or_false, false_or, or_self, and_false, false_and, and_true, true_and, not_true_eq_false, not_false_eq_true, nt_lef, nt_let, nt_ltf, nt_ltt, nt_eqf, cx_16 c, cx_19 c, e1, e2, hAA, e_X3_hear _ _ _ _ hb, e3, eg, e4, tz_gsk]
    exact e5
  by_cases a3 : S2 200 0 = 3
  · rw [if_neg a1, if_neg a2, if_pos a3] at eg
    obtain ⟨A3, e4, r4, f4⟩ := x_lis3 (l := l) (h := h) (w := v) (m := m) hb r3 WE2 h82 a3 (by omega) (by omega) (by omega) (by omega)
    obtain ⟨A', e5, r5, f5⟩ := fin A3 r4 f4
    refine ⟨A', ?_, r5, f5⟩
    simp (disch := omega) only [tz_lit, nj_m1, ↓reduceIte, nj_cl, nj_ltt, nj_ltf, nj_let, nj_lef, nj_eqf, nj_lt, nj_le, nj_eq, nj_add, nj_mul, nj_mod, nj_and7, nj_div, tz_bI_some, tz_bV_some, or_false, false_or, or_self, and_false, false_and, and_true, true_and, not_true_eq_false, not_false_eq_true, nt_lef, nt_let, nt_ltf, nt_ltt, nt_eqf, cx_16 c, cx_19 c, e1, e2, hAA, e_X3_hear _ _ _ _ hb, e3, eg, e4, tz_gsk]
    exact e5
  · rw [if_neg a1, if_neg a2, if_neg a3] at eg
    have e0 : sp_lis l h v m S2 = S2 := by
      unfold sp_lis
      rw [if_neg a1, if_neg a2, if_neg a3]
    obtain ⟨A', e5, r5, f5⟩ := fin A2 (by rw [e0]; exact r3) fr_rfl
    refine ⟨A', ?_, r5, f5⟩
    simp (disch := omega) only [tz_lit, nj_m1, ↓reduceIte, nj_cl, nj_ltt, nj_ltf, nj_let, nj_lef, nj_eqf, nj_lt, nj_le, nj_eq, nj_add, nj_mul, nj_mod, nj_and7, nj_div, tz_bI_some, tz_bV_some, or_false, false_or, or_self, and_false, false_and, and_true, true_and, not_true_eq_false, not_false_eq_true, nt_lef, nt_let, nt_ltf, nt_ltt, nt_eqf, cx_16 c, cx_19 c, e1, e2, hAA, e_X3_hear _ _ _ _ hb, e3, eg, tz_gsk]
    exact e5
