/-! what stays in an hour; the class's listening and saying -/
def sp_kp (k i : Nat) : Prop := k = 1 ∨ k = 2 ∨ k = 3 ∨ (7 ≤ k ∧ k ≤ 12) ∨ k = 15 ∨ (17 ≤ k ∧ k ≤ 19) ∨ k = 22 ∨ (k = 0 ∧ i ≠ 0) ∨ k = 200 ∨ (k = 201 ∧ i = 1) ∨ (k = 202 ∧ (i = 1 ∨ i = 2)) ∨ k = 203 ∨ (k = 204 ∧ i = 1)
def sp_f (S S' : tz_S) : Prop := ∀ k i, sp_kp k i → S' k i = S k i
theorem sf_rfl {S : tz_S} : sp_f S S := fun _ _ _ => rfl
theorem sf_tr {S T U : tz_S} (h1 : sp_f S T) (h2 : sp_f T U) : sp_f S U := fun k i hp => (h2 k i hp).trans (h1 k i hp)
theorem sf_t {S : tz_S} {k i v : Nat} (h : ¬ sp_kp k i) : sp_f S (tz_t S k i v) := fun k' i' hp => if_neg (fun q => h (by rw [← q.1, ← q.2]; exact hp))
theorem hr_get {h w : Nat} : ∀ m S, (∀ k i, (k ≠ 0 ∨ i ≠ 0) → (k ≠ 5 ∨ i ≠ h) → k ≠ 100 + h → sp_hr h w m S k i = S k i) ∧ sp_hr h w m S 0 0 = S 0 0 + m ∧ sp_hr h w m S 5 h = S 5 h + m := by
  intro m
  induction m with
  | zero => exact fun S => ⟨fun _ _ _ _ _ => rfl, rfl, rfl⟩
  | succ m ih =>
    intro S
    obtain ⟨a, b, c⟩ := ih (sp_hr1 h w S)
    have q1 : ∀ k i, (k ≠ 0 ∨ i ≠ 0) → (k ≠ 5 ∨ i ≠ h) → k ≠ 100 + h → sp_hr1 h w S k i = S k i := fun k i a1 a2 a3 => by
      show tz_t (tz_t (tz_t S (100 + h) (S 5 h) w) 5 h (S 5 h + 1)) 0 0 (S 0 0 + 1) k i = _
      rw [tz_ta, if_neg (by omega), tz_ta, if_neg (by omega), tz_tk a3]
    refine ⟨fun k i a1 a2 a3 => ?_, ?_, ?_⟩
    · exact (a k i a1 a2 a3).trans (q1 k i a1 a2 a3)
    · show sp_hr h w m (sp_hr1 h w S) 0 0 = _
      rw [b, show sp_hr1 h w S 0 0 = S 0 0 + 1 from rfl]
      omega
    · show sp_hr h w m (sp_hr1 h w S) 5 h = _
      rw [c, show sp_hr1 h w S 5 h = S 5 h + 1 from by
        show tz_t (tz_t (tz_t S (100 + h) (S 5 h) w) 5 h (S 5 h + 1)) 0 0 (S 0 0 + 1) 5 h = _
        rw [tz_tk (by omega), tz_t1]]
      omega
theorem sf_hr {h w m : Nat} {S : tz_S} (hh : h < 8) : sp_f S (sp_hr h w m S) := fun k i hp => (hr_get m S).1 k i (by unfold sp_kp at hp; omega) (by unfold sp_kp at hp; omega) (by unfold sp_kp at hp; omega)
theorem ni_get {w : Nat} : ∀ m S, ∀ k i, k ≠ 202 ∨ i = 1 ∨ i = 2 → sp_ni w m S k i = S k i := by
  intro m
  induction m with
  | zero => exact fun S k i _ => rfl
  | succ m ih =>
    intro S k i h
    show sp_ni w m (sp_ni1 w S) k i = _
    rw [ih _ k i h]
    unfold sp_ni1
    split
    · split
      · rw [tz_ta, if_neg (by omega)]
      · rw [tz_ta, if_neg (by omega)]
    · rfl
theorem lis_get {l h w m : Nat} {S : tz_S} {k i : Nat} (hk : k ≤ 200 ∨ sp_kp k i ∨ 206 ≤ k) : sp_lis l h w m S k i = S k i := by
  unfold sp_lis
  by_cases a1 : S 200 0 = 1
  · rw [if_pos a1]
    split
    · rw [tz_ta, if_neg (by unfold sp_kp at hk; omega)]
    · rfl
  rw [if_neg a1]
  by_cases a2 : S 200 0 = 2
  · rw [if_pos a2]
    split
    · exact ni_get m S k i (by unfold sp_kp at hk; omega)
    · rfl
  rw [if_neg a2]
  by_cases a3 : S 200 0 = 3
  · rw [if_pos a3]
    split
    · rw [tz_ta, if_neg (by unfold sp_kp at hk; omega), tz_ta, if_neg (by unfold sp_kp at hk; omega)]
    · rfl
  rw [if_neg a3]
theorem fin_get {l h : Nat} {S : tz_S} {k i : Nat} (hk : (k ≠ 20 ∧ k ≠ 21) ∨ i ≠ l) : sp_fin l h S k i = S k i := by
  unfold sp_fin
  split
  · rw [tz_ta, if_neg (by omega), tz_ta, if_neg (by omega)]
  · rw [tz_ta, if_neg (by omega)]
theorem fin_20 {l h : Nat} {S : tz_S} : sp_fin l h S 20 l = if S 18 l = h then 200 else h := by
  unfold sp_fin
  split
  · rw [tz_tk (by omega), tz_t1]
  · rw [tz_t1]
theorem fin_21 {l h : Nat} {S : tz_S} : sp_fin l h S 21 l = if S 18 l = h then S 0 3 else S 21 l := by
  unfold sp_fin
  split
  · rw [tz_t1]
  · rw [tz_tk (by omega)]
/-- what saying a letter leaves -/
theorem say_get {l h : Nat} {S : tz_S} (hh : h < 8) : (∀ k i, (k ≠ 0 ∨ i ≠ 0) → (k ≠ 5 ∨ i ≠ h) → k ≠ 100 + h → (k ≤ 200 ∨ sp_kp k i ∨ 206 ≤ k) → ((k ≠ 16 ∧ k ≠ 20 ∧ k ≠ 21) ∨ i ≠ l) → sp_say l h S k i = S k i)
    ∧ sp_say l h S 16 l = sp_bec S h (S 16 l) ∧ sp_say l h S 20 l = (if S 18 l = h then 200 else h) ∧ sp_say l h S 21 l = (if S 18 l = h then S 0 3 else S 21 l)
    ∧ sp_say l h S 0 0 = S 0 0 + sp_tim S h (S 19 l) ∧ sp_say l h S 5 h = S 5 h + sp_tim S h (S 19 l) := by
  obtain ⟨a, b, c⟩ := hr_get (h := h) (w := sp_bec S h (S 16 l)) (sp_tim S h (S 19 l)) (tz_t S 16 l (sp_bec S h (S 16 l)))
  unfold sp_say
  refine ⟨fun k i k1 k2 k3 k4 k5 => ?_, ?_, ?_, ?_, ?_, ?_⟩
  · rw [fin_get (by omega), lis_get k4, a k i k1 k2 k3, tz_ta, if_neg (by omega)]
  · rw [fin_get (by omega), lis_get (by omega), a 16 l (by omega) (by omega) (by omega), tz_t1]
  · rw [fin_20, lis_get (by omega), a 18 l (by omega) (by omega) (by omega), tz_tk (by omega)]
  · rw [fin_21, lis_get (by omega), a 18 l (by omega) (by omega) (by omega), tz_tk (by omega), lis_get (by omega), a 0 3 (by omega) (by omega) (by omega), tz_tk (by omega), lis_get (by omega), a 21 l (by omega) (by omega) (by omega), tz_tk (by omega)]
  · rw [fin_get (by omega), lis_get (by omega), b, tz_tk (by omega)]
  · rw [fin_get (by omega), lis_get (by omega), c, tz_tk (by omega)]
theorem sf_say {l h : Nat} {S : tz_S} (hh : h < 8) : sp_f S (sp_say l h S) := fun k i hp => (say_get hh).1 k i (by unfold sp_kp at hp; omega) (by unfold sp_kp at hp; omega) (by unfold sp_kp at hp; omega) (by exact Or.inr (Or.inl hp)) (by unfold sp_kp at hp; omega)
theorem sf_W1 {S S' : tz_S} (f : sp_f S S') (h : sp_W1 S) : sp_W1 S' := by
  have g : ∀ k i, (k = 1 ∨ k = 2 ∨ k = 3 ∨ (7 ≤ k ∧ k ≤ 12) ∨ k = 15 ∨ (17 ≤ k ∧ k ≤ 19) ∨ k = 22) → S' k i = S k i := fun k i hk => f k i (by unfold sp_kp; omega)
  unfold sp_W1 sp_lt at h ⊢
  simp only [g 1 _ (by omega), g 2 _ (by omega), g 3 _ (by omega), g 7 _ (by omega), g 8 _ (by omega), g 9 _ (by omega), g 10 _ (by omega), g 11 _ (by omega), g 12 _ (by omega), g 15 _ (by omega), g 17 _ (by omega), g 18 _ (by omega), g 19 _ (by omega), g 22 _ (by omega)]
  exact h
theorem tim_le {S : tz_S} {h g : Nat} (W : sp_W1 S) (hh : h < S 1 0) : sp_tim S h g ≤ 11 := by
  have := W.2.2.2.1 h hh
  unfold sp_tim
  split
  · omega
  split
  · omega
  split
  · split <;> omega
  split <;> omega
theorem bec_le {S : tz_S} {h v : Nat} (hw : v ≤ 9999) : sp_bec S h v ≤ 9999 := by
  unfold sp_bec
  split
  · omega
  split
  · split <;> omega
  omega


theorem rx_ear {b x : Nat} {S S' : tz_S} {A A' : tz_Mem} (hb : tz_sky b) (r : rx b x S A) (e : ∀ k i, k < 200 → S' k i = S k i) (eA : ∀ k i, k < 150 ∨ 155 ≤ k → tz_g A' k i = tz_g A k i) (he : rx_e b S' A') (hn : S 1 0 ≤ 8) : rx b x S' A' := by
  have hs := sky_lo hb
  obtain ⟨c, l, kk, ww, _⟩ := r
  refine ⟨rx_c_mv c (fun k i hp => e k i (by unfold rx_pl at hp; omega)) (fun k i hp => eA _ _ (by unfold rx_pl at hp; omega)), rx_l_mv l (e _ _ (by omega)) (e _ _ (by omega)) (fun _ => e _ _ (by omega)) (fun _ _ => eA _ _ (by omega)), rx_k_mv kk (e _ _ (by omega)) (e _ _ (by omega)) (fun _ => e _ _ (by omega)) (fun _ _ _ => eA _ _ (by omega)), ?_, he⟩
  intro q hq j h1 h2
  rw [e 1 0 (by omega)] at hq
  rw [e 5 q (by omega)] at h1 h2
  rw [eA _ _ (by omega), e (100 + q) j (by omega)]
  exact ww q hq j h1 h2
theorem x_lis1 {b x l h w m : Nat} {S : tz_S} {A : tz_Mem} (hb : tz_sky b) (r : rx b x S A) (W : sp_WE S) (hn : S 1 0 ≤ 8) (h1 : S 200 0 = 1) (hl : l < 12) (hh : h < 8) (hw : w ≤ 9999) (hm : m ≤ 11) : ∃ A', f_X2_listen (tz_j l) (tz_j h) (tz_j w) (tz_j m) A = some (none, A') ∧ rx b x (sp_lis l h w m S) A' ∧ tz_fr (rx_q b) A A' := by
  have hs := sky_lo hb
  obtain ⟨e1, e2, _, _⟩ := r.2.2.2.2
  obtain ⟨a0, a1⟩ := e2 h1
  obtain ⟨_, w1, _, _⟩ := W
  obtain ⟨b1, b2⟩ := w1 h1
  rw [if_pos h1] at e1
  unfold sp_lis
  rw [if_pos h1, e_X2_listen]
  have hup : ∃ A', (some (none, tz_s A 150 0 (tz_j h)) : tz_X) = some (none, A') ∧ rx b x (tz_t S 201 0 h) A' ∧ tz_fr (rx_q b) A A' := by
    refine ⟨_, rfl, rx_ear hb r (fun k i hk => tz_tk (by omega)) (fun k i hk => tz_gsk (by omega)) ?_ hn, fr_s fr_rfl (Or.inr (by omega))⟩
    unfold rx_e
    rw [tz_tk (by omega), if_pos h1]
    refine ⟨e1, fun _ => ⟨by rw [tz_gs1, tz_t1], by rw [tz_gsi (by omega), tz_ti (by omega), a1]⟩, fun q => by omega, fun q => by omega⟩
  by_cases c1 : w = S 201 1
  · by_cases c2 : 0 < m
    · rcases b2 with b2 | b2
      · rw [if_pos (c := w = S 201 1 ∧ 0 < m ∧ (S 201 0 = 4294967295 ∨ h < S 201 0)) ⟨c1, c2, Or.inl b2⟩]
        simp (disch := omega) only [tz_lit, nj_m1, ↓reduceIte, nj_cl, nj_ltt, nj_ltf, nj_let, nj_lef, nj_eqf, nj_lt, nj_le, nj_eq, nj_add, nj_mul, nj_mod, nj_and7, nj_div, tz_bI_some, tz_bV_some, or_false, false_or, or_self, and_false, false_and, and_true, true_and, not_true_eq_false, not_false_eq_true, nt_lef, nt_let, nt_ltf, nt_ltt, nt_eqf, a0, a1, b2, c1]
        exact hup
      · by_cases c3 : h < S 201 0
        · rw [if_pos (c := w = S 201 1 ∧ 0 < m ∧ (S 201 0 = 4294967295 ∨ h < S 201 0)) ⟨c1, c2, Or.inr c3⟩]
          simp (disch := omega) only [tz_lit, nj_m1, ↓reduceIte, nj_cl, nj_ltt, nj_ltf, nj_let, nj_lef, nj_eqf, nj_lt, nj_le, nj_eq, nj_add, nj_mul, nj_mod, nj_and7, nj_div, tz_bI_some, tz_bV_some, or_false, false_or, or_self, and_false, false_and, and_true, true_and, not_true_eq_false, not_false_eq_true, nt_lef, nt_let, nt_ltf, nt_ltt, nt_eqf, a0, a1, c1]
          exact hup
        · rw [if_neg (c := w = S 201 1 ∧ 0 < m ∧ (S 201 0 = 4294967295 ∨ h < S 201 0)) (by omega)]
          simp (disch := omega) only [tz_lit, nj_m1, ↓reduceIte, nj_cl, nj_ltt, nj_ltf, nj_let, nj_lef, nj_eqf, nj_lt, nj_le, nj_eq, nj_add, nj_mul, nj_mod, nj_and7, nj_div, tz_bI_some, tz_bV_some, or_false, false_or, or_self, and_false, false_and, and_true, true_and, not_true_eq_false, not_false_eq_true, nt_lef, nt_let, nt_ltf, nt_ltt, nt_eqf, a0, a1, c1]
          exact ⟨A, rfl, r, fr_rfl⟩
    · rw [if_neg (c := w = S 201 1 ∧ 0 < m ∧ (S 201 0 = 4294967295 ∨ h < S 201 0)) (by omega)]
      simp (disch := omega) only [tz_lit, nj_m1, ↓reduceIte, nj_cl, nj_ltt, nj_ltf, nj_let, nj_lef, nj_eqf, nj_lt, nj_le, nj_eq, nj_add, nj_mul, nj_mod, nj_and7, nj_div, tz_bI_some, tz_bV_some, or_false, false_or, or_self, and_false, false_and, and_true, true_and, not_true_eq_false, not_false_eq_true, nt_lef, nt_let, nt_ltf, nt_ltt, nt_eqf, a0, a1, c1]
      exact ⟨A, rfl, r, fr_rfl⟩
  · rw [if_neg (c := w = S 201 1 ∧ 0 < m ∧ (S 201 0 = 4294967295 ∨ h < S 201 0)) (fun q => c1 q.1)]
    simp (disch := omega) only [tz_lit, nj_m1, ↓reduceIte, nj_cl, nj_ltt, nj_ltf, nj_let, nj_lef, nj_eqf, nj_lt, nj_le, nj_eq, nj_add, nj_mul, nj_mod, nj_and7, nj_div, tz_bI_some, tz_bV_some, or_false, false_or, or_self, and_false, false_and, and_true, true_and, not_true_eq_false, not_false_eq_true, nt_lef, nt_let, nt_ltf, nt_ltt, nt_eqf, a0, a1]
    exact ⟨A, rfl, r, fr_rfl⟩


theorem ni_WE {w : Nat} {S : tz_S} (W : sp_WE S) : ∀ m, S 200 0 = 2 → sp_WE (sp_ni w m S) := by
  intro m
  induction m generalizing S with
  | zero => exact fun _ => W
  | succ m ih =>
    intro h2
    have q := W.2.2.1 h2
    have h3 : sp_ni1 w S 200 0 = 2 := by
      rw [← h2]
      unfold sp_ni1
      split
      · split
        · exact tz_tk (by omega)
        · exact tz_tk (by omega)
      · rfl
    refine ih ?_ h3
    unfold sp_WE
    rw [h3]
    refine ⟨by omega, fun q => by omega, fun _ => ?_, fun q => by omega⟩
    unfold sp_ni1
    split
    · split
      · simp only [tz_t1, tz_ti (show (1 : Nat) ≠ 0 by omega), tz_ti (show (2 : Nat) ≠ 0 by omega), tz_ti (show (3 : Nat) ≠ 0 by omega), tz_tk (show (203 : Nat) ≠ 202 by omega)]
        exact ⟨by omega, q.2.1, q.2.2.1, q.2.2.2.1, q.2.2.2.2⟩
      · simp only [tz_t1, tz_ti (show (0 : Nat) ≠ 3 by omega), tz_ti (show (1 : Nat) ≠ 3 by omega), tz_ti (show (2 : Nat) ≠ 3 by omega), tz_tk (show (203 : Nat) ≠ 202 by omega)]
        exact ⟨q.1, q.2.1, q.2.2.1, by omega, q.2.2.2.2⟩
    · exact q
theorem x_lis2L {b x w m : Nat} (hb : tz_sky b) (hw : w ≤ 9999) (hm : m ≤ 11) : ∀ k i S A, i + k = m → rx b x S A → sp_WE S → S 1 0 ≤ 8 → S 200 0 = 2 → ∃ A', q_X5_listen_12 (tz_j w) (tz_j m) (tz_j i) A = some (none, A') ∧ rx b x (sp_ni w k S) A' ∧ tz_fr (rx_q b) A A' := by
  have hs := sky_lo hb
  intro k
  induction k with
  | zero =>
    intro i S A hi r W hn h2
    refine ⟨A, ?_, r, fr_rfl⟩
    rw [e_X5_listen_12]
    simp (disch := omega) only [tz_lit, nj_m1, ↓reduceIte, nj_cl, nj_ltt, nj_ltf, nj_let, nj_lef, nj_eqf, nj_lt, nj_le, nj_eq, nj_add, nj_mul, nj_mod, nj_and7, nj_div, tz_bI_some, tz_bV_some, or_false, false_or, or_self, and_false, false_and, and_true, true_and, not_true_eq_false, not_false_eq_true, nt_lef, nt_let, nt_ltf, nt_ltt, nt_eqf]
  | succ k ih =>
    intro i S A hi r W hn h2
    obtain ⟨e1, _, e2, _⟩ := r.2.2.2.2
    obtain ⟨a0, a1, a2, a3, a4⟩ := e2 h2
    obtain ⟨b0, b1, b2, b3, b4⟩ := W.2.2.1 h2
    rw [if_neg (by omega), if_pos h2] at e1
    have hW : sp_WE (sp_ni1 w S) := ni_WE (w := w) W 1 h2
    have h3 : sp_ni1 w S 200 0 = 2 := by rw [← h2]; exact ni_get (w := w) 1 S 200 0 (by omega)
    have hn3 : sp_ni1 w S 1 0 ≤ 8 := by rw [show sp_ni1 w S 1 0 = S 1 0 from ni_get (w := w) 1 S 1 0 (by omega)]; exact hn
    rw [e_X5_listen_12]
    show ∃ A', _ = some (none, A') ∧ rx b x (sp_ni w k (sp_ni1 w S)) A' ∧ tz_fr (rx_q b) A A'
    by_cases c1 : S 202 3 = 0 ∧ S 202 0 < S 202 1
    · have hb4 := b4 (S 202 0)
      by_cases c2 : S 203 (S 202 0) = w
      · have en : sp_ni1 w S = tz_t S 202 0 (S 202 0 + 1) := by unfold sp_ni1; rw [if_pos c1, if_pos c2]
        simp (disch := omega) only [tz_lit, nj_m1, ↓reduceIte, nj_cl, nj_ltt, nj_ltf, nj_let, nj_lef, nj_eqf, nj_lt, nj_le, nj_eq, nj_add, nj_mul, nj_mod, nj_and7, nj_div, tz_bI_some, tz_bV_some, or_false, false_or, or_self, and_false, false_and, and_true, true_and, not_true_eq_false, not_false_eq_true, nt_lef, nt_let, nt_ltf, nt_ltt, nt_eqf, e_X5_listens, a0, a1, a2, a3, c1.1, a4 _ c1.2, c2]
        have r2 : rx b x (sp_ni1 w S) (tz_s A 151 0 (tz_j (S 202 0 + 1))) := by
          rw [en]
          refine rx_ear hb r (fun k i hk => tz_tk (by omega)) (fun k i hk => tz_gsk (by omega)) ?_ hn
          unfold rx_e
          rw [tz_tk (by omega), if_neg (by omega), if_pos h2]
          refine ⟨e1, fun q => by omega, fun _ => ⟨by rw [tz_gs1, tz_t1], by rw [tz_gsi (by omega), tz_ti (by omega), a1], by rw [tz_gsi (by omega), tz_ti (by omega), a2], by rw [tz_gsi (by omega), tz_ti (by omega), a3], ?_⟩, fun q => by omega⟩
          intro j hj
          rw [tz_ti (by omega)] at hj
          rw [tz_gsk (by omega), tz_tk (by omega)]
          exact a4 j hj
        obtain ⟨A', e, r', f⟩ := ih (i + 1) _ _ (by omega) r2 hW hn3 h3
        exact ⟨A', e, r', fr_tr (fr_s fr_rfl (Or.inr (by omega))) f⟩
      · have en : sp_ni1 w S = tz_t S 202 3 1 := by unfold sp_ni1; rw [if_pos c1, if_neg c2]
        simp (disch := omega) only [tz_lit, nj_m1, ↓reduceIte, nj_cl, nj_ltt, nj_ltf, nj_let, nj_lef, nj_eqf, nj_lt, nj_le, nj_eq, nj_add, nj_mul, nj_mod, nj_and7, nj_div, tz_bI_some, tz_bV_some, or_false, false_or, or_self, and_false, false_and, and_true, true_and, not_true_eq_false, not_false_eq_true, nt_lef, nt_let, nt_ltf, nt_ltt, nt_eqf, e_X5_listens, a0, a1, a2, a3, c1.1, a4 _ c1.2]
        have r2 : rx b x (sp_ni1 w S) (tz_s A 151 4 (tz_j 1)) := by
          rw [en]
          refine rx_ear hb r (fun k i hk => tz_tk (by omega)) (fun k i hk => tz_gsk (by omega)) ?_ hn
          unfold rx_e
          rw [tz_tk (by omega), if_neg (by omega), if_pos h2]
          refine ⟨e1, fun q => by omega, fun _ => ⟨by rw [tz_gsi (by omega), tz_ti (by omega), a0], by rw [tz_gsi (by omega), tz_ti (by omega), a1], by rw [tz_gsi (by omega), tz_ti (by omega), a2], by rw [tz_gs1, tz_t1], ?_⟩, fun q => by omega⟩
          intro j hj
          rw [tz_ti (by omega)] at hj
          rw [tz_gsk (by omega), tz_tk (by omega)]
          exact a4 j hj
        obtain ⟨A', e, r', f⟩ := ih (i + 1) _ _ (by omega) r2 hW hn3 h3
        exact ⟨A', e, r', fr_tr (fr_s fr_rfl (Or.inr (by omega))) f⟩
    · have en : ∀ n, sp_ni w n S = S := by
        intro n
        induction n with
        | zero => rfl
        | succ n ihn =>
          show sp_ni w n (sp_ni1 w S) = S
          rw [show sp_ni1 w S = S from by unfold sp_ni1; rw [if_neg c1]]
          exact ihn
      have en1 : sp_ni1 w S = S := by unfold sp_ni1; rw [if_neg c1]
      rw [en1, en]
      refine ⟨A, ?_, r, fr_rfl⟩
      by_cases c2 : S 202 3 = 0
      · simp (disch := omega) only [tz_lit, nj_m1, ↓reduceIte, nj_cl, nj_ltt, nj_ltf, nj_let, nj_lef, nj_eqf, nj_lt, nj_le, nj_eq, nj_add, nj_mul, nj_mod, nj_and7, nj_div, tz_bI_some, tz_bV_some, or_false, false_or, or_self, and_false, false_and, and_true, true_and, not_true_eq_false, not_false_eq_true, nt_lef, nt_let, nt_ltf, nt_ltt, nt_eqf, e_X5_listens, a0, a1, a2, a3, c2]
      · simp (disch := omega) only [tz_lit, nj_m1, ↓reduceIte, nj_cl, nj_ltt, nj_ltf, nj_let, nj_lef, nj_eqf, nj_lt, nj_le, nj_eq, nj_add, nj_mul, nj_mod, nj_and7, nj_div, tz_bI_some, tz_bV_some, or_false, false_or, or_self, and_false, false_and, and_true, true_and, not_true_eq_false, not_false_eq_true, nt_lef, nt_let, nt_ltf, nt_ltt, nt_eqf, e_X5_listens, a0, a1, a2, a3]
theorem x_lis2 {b x l h w m : Nat} {S : tz_S} {A : tz_Mem} (hb : tz_sky b) (r : rx b x S A) (W : sp_WE S) (hn : S 1 0 ≤ 8) (h1 : S 200 0 = 2) (hl : l < 12) (hh : h < 8) (hw : w ≤ 9999) (hm : m ≤ 11) : ∃ A', f_X5_listen (tz_j l) (tz_j h) (tz_j w) (tz_j m) A = some (none, A') ∧ rx b x (sp_lis l h w m S) A' ∧ tz_fr (rx_q b) A A' := by
  obtain ⟨a0, a1, a2, a3, a4⟩ := r.2.2.2.2.2.2.1 h1
  obtain ⟨b0, b1, b2, b3, b4⟩ := W.2.2.1 h1
  unfold sp_lis
  rw [if_neg (by omega), if_pos h1, e_X5_listen]
  by_cases c : h = S 202 2
  · simp (disch := omega) only [tz_lit, nj_m1, ↓reduceIte, nj_cl, nj_ltt, nj_ltf, nj_let, nj_lef, nj_eqf, nj_lt, nj_le, nj_eq, nj_add, nj_mul, nj_mod, nj_and7, nj_div, tz_bI_some, tz_bV_some, or_false, false_or, or_self, and_false, false_and, and_true, true_and, not_true_eq_false, not_false_eq_true, nt_lef, nt_let, nt_ltf, nt_ltt, nt_eqf, a2, c]
    exact x_lis2L hb hw hm m 0 S A (by omega) r W hn h1
  · simp (disch := omega) only [tz_lit, nj_m1, ↓reduceIte, nj_cl, nj_ltt, nj_ltf, nj_let, nj_lef, nj_eqf, nj_lt, nj_le, nj_eq, nj_add, nj_mul, nj_mod, nj_and7, nj_div, tz_bI_some, tz_bV_some, or_false, false_or, or_self, and_false, false_and, and_true, true_and, not_true_eq_false, not_false_eq_true, nt_lef, nt_let, nt_ltf, nt_ltt, nt_eqf, a2]
    exact ⟨A, rfl, r, fr_rfl⟩
theorem x_lis3 {b x l h w m : Nat} {S : tz_S} {A : tz_Mem} (hb : tz_sky b) (r : rx b x S A) (W : sp_WE S) (hn : S 1 0 ≤ 8) (h1 : S 200 0 = 3) (hl : l < 12) (hh : h < 8) (hw : w ≤ 9999) (hm : m ≤ 11) : ∃ A', f_X6_listen (tz_j l) (tz_j h) (tz_j w) (tz_j m) A = some (none, A') ∧ rx b x (sp_lis l h w m S) A' ∧ tz_fr (rx_q b) A A' := by
  have hs := sky_lo hb
  obtain ⟨e1, _, _, e2⟩ := r.2.2.2.2
  obtain ⟨a0, a1, a2⟩ := e2 h1
  obtain ⟨b0, b1⟩ := W.2.2.2 h1
  rw [if_neg (by omega), if_neg (by omega), if_pos h1] at e1
  unfold sp_lis
  rw [if_neg (by omega), if_neg (by omega), if_pos h1, e_X6_listen]
  by_cases c : l = S 204 1
  · by_cases c2 : S 204 0 < 500
    · rw [if_pos (c := l = S 204 1 ∧ S 204 0 < 500) ⟨c, c2⟩]
      simp (disch := omega) only [tz_lit, nj_m1, ↓reduceIte, nj_cl, nj_ltt, nj_ltf, nj_let, nj_lef, nj_eqf, nj_lt, nj_le, nj_eq, nj_add, nj_mul, nj_mod, nj_and7, nj_div, tz_bI_some, tz_bV_some, or_false, false_or, or_self, and_false, false_and, and_true, true_and, not_true_eq_false, not_false_eq_true, nt_lef, nt_let, nt_ltf, nt_ltt, nt_eqf, a0, a1, c, tz_gsk]
      refine ⟨_, rfl, rx_ear hb r (fun k i hk => by rw [tz_tk (by omega), tz_tk (by omega)]) (fun k i hk => by rw [tz_gsk (by omega), tz_gsk (by omega)]) ?_ hn, fr_s (fr_s fr_rfl (Or.inr (by omega))) (Or.inr (by omega))⟩
      unfold rx_e
      rw [tz_tk (by omega), tz_tk (by omega), if_neg (by omega), if_neg (by omega), if_pos h1]
      refine ⟨e1, fun q => by omega, fun q => by omega, fun _ => ⟨by rw [tz_gs1, tz_t1], by rw [tz_gsi (by omega), tz_gsk (by omega), tz_ti (by omega), tz_tk (by omega), a1], ?_⟩⟩
      intro j hj
      rw [tz_t1] at hj
      rw [tz_gsk (by omega), tz_tk (by omega), tz_gS, tz_ta]
      by_cases q : j = S 204 0
      · rw [if_pos ⟨rfl, q⟩, if_pos ⟨rfl, q⟩]
      · rw [if_neg (fun z => q z.2), if_neg (fun z => q z.2)]
        exact a2 j (by omega)
    · rw [if_neg (c := l = S 204 1 ∧ S 204 0 < 500) (fun q => c2 q.2)]
      simp (disch := omega) only [tz_lit, nj_m1, ↓reduceIte, nj_cl, nj_ltt, nj_ltf, nj_let, nj_lef, nj_eqf, nj_lt, nj_le, nj_eq, nj_add, nj_mul, nj_mod, nj_and7, nj_div, tz_bI_some, tz_bV_some, or_false, false_or, or_self, and_false, false_and, and_true, true_and, not_true_eq_false, not_false_eq_true, nt_lef, nt_let, nt_ltf, nt_ltt, nt_eqf, a0, a1, c]
      exact ⟨A, rfl, r, fr_rfl⟩
  · rw [if_neg (c := l = S 204 1 ∧ S 204 0 < 500) (fun q => c q.1)]
    simp (disch := omega) only [tz_lit, nj_m1, ↓reduceIte, nj_cl, nj_ltt, nj_ltf, nj_let, nj_lef, nj_eqf, nj_lt, nj_le, nj_eq, nj_add, nj_mul, nj_mod, nj_and7, nj_div, tz_bI_some, tz_bV_some, or_false, false_or, or_self, and_false, false_and, and_true, true_and, not_true_eq_false, not_false_eq_true, nt_lef, nt_let, nt_ltf, nt_ltt, nt_eqf, a0, a1]
    exact ⟨A, rfl, r, fr_rfl⟩
