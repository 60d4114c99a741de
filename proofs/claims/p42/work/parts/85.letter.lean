/-! a letter more -/
/-- its place in the order: from the end towards the heavier ones -/
def sp_io (v n : Nat) : Nat → tz_S → tz_S
  | 0, S => tz_t S 22 0 n
  | z + 1, S => if v ≤ S 19 (S 22 z) then tz_t S 22 (z + 1) n else sp_io v n z (tz_t S 22 (z + 1) (S 22 z))
theorem io_eq {v n : Nat} : ∀ z S, ∃ p, p ≤ z ∧ (∀ i, p ≤ i → i < z → S 19 (S 22 i) < v) ∧ (p = 0 ∨ v ≤ S 19 (S 22 (p - 1))) ∧ ∀ k i, sp_io v n z S k i = if k = 22 then (if i = p then n else if p < i ∧ i ≤ z then S 22 (i - 1) else S 22 i) else S k i := by
  intro z
  induction z with
  | zero =>
    intro S
    refine ⟨0, Nat.le_refl _, fun i h1 h2 => by omega, Or.inl rfl, fun k i => ?_⟩
    show tz_t S 22 0 n k i = _
    rw [tz_ta]
    by_cases k1 : k = 22
    · subst k1
      rw [if_pos rfl]
      by_cases k2 : i = 0
      · rw [if_pos ⟨rfl, k2⟩, if_pos k2]
      · rw [if_neg (fun q => k2 q.2), if_neg k2, if_neg (by omega)]
    · rw [if_neg (fun q => k1 q.1), if_neg k1]
  | succ z ih =>
    intro S
    unfold sp_io
    by_cases c1 : v ≤ S 19 (S 22 z)
    · rw [if_pos c1]
      refine ⟨z + 1, Nat.le_refl _, fun i h1 h2 => by omega, Or.inr c1, fun k i => ?_⟩
      rw [tz_ta]
      by_cases k1 : k = 22
      · subst k1
        rw [if_pos rfl]
        by_cases k2 : i = z + 1
        · rw [if_pos ⟨rfl, k2⟩, if_pos k2]
        · rw [if_neg (fun q => k2 q.2), if_neg k2, if_neg (by omega)]
      · rw [if_neg (fun q => k1 q.1), if_neg k1]
    · rw [if_neg c1]
      obtain ⟨p, hp, h1, h2, h3⟩ := ih (tz_t S 22 (z + 1) (S 22 z))
      have g : ∀ i, i ≠ z + 1 → tz_t S 22 (z + 1) (S 22 z) 22 i = S 22 i := fun i hi => tz_ti hi
      have g19 : ∀ i, tz_t S 22 (z + 1) (S 22 z) 19 i = S 19 i := fun i => tz_tk (by omega)
      refine ⟨p, by omega, fun i a1 a2 => ?_, ?_, fun k i => ?_⟩
      · by_cases e : i = z
        · rw [e]
          omega
        · have := h1 i a1 (by omega)
          rw [g19, g i (by omega)] at this
          exact this
      · rcases h2 with h2 | h2
        · exact Or.inl h2
        · rw [g19, g _ (by omega)] at h2
          exact Or.inr h2
      · rw [h3 k i]
        by_cases k1 : k = 22
        · subst k1
          rw [if_pos rfl, if_pos rfl]
          by_cases k2 : i = p
          · rw [if_pos k2, if_pos k2]
          · rw [if_neg k2, if_neg k2]
            by_cases k3 : p < i ∧ i ≤ z
            · rw [if_pos k3, if_pos ⟨k3.1, by omega⟩, g _ (by omega)]
            · rw [if_neg k3]
              by_cases k4 : i = z + 1
              · rw [k4, tz_t1, if_pos ⟨by omega, by omega⟩]
                rfl
              · rw [g i k4, if_neg (by omega)]
        · rw [if_neg k1, if_neg k1, tz_tk k1]
/-- its fields, at its number -/
def sp_fl (n a f t v : Nat) (S : tz_S) : tz_S := tz_t (tz_t (tz_t (tz_t (tz_t (tz_t S 16 n a) 17 n f) 18 n t) 19 n v) 20 n f) 21 n 4294967295
def sp_addL (a f t v : Nat) (S : tz_S) : tz_S := tz_t (sp_io v (S 15 0) (S 15 0) (sp_fl (S 15 0) a f t v S)) 15 0 (S 15 0 + 1)
theorem fl_g1 {n a f t v k i : Nat} {S : tz_S} (h : i ≠ n ∨ k < 16 ∨ 21 < k) : sp_fl n a f t v S k i = S k i := by
  unfold sp_fl
  rw [tz_ta, if_neg (by omega), tz_ta, if_neg (by omega), tz_ta, if_neg (by omega), tz_ta, if_neg (by omega), tz_ta, if_neg (by omega), tz_ta, if_neg (by omega)]
theorem fl_16 {n a f t v : Nat} {S : tz_S} : sp_fl n a f t v S 16 n = a := by
  unfold sp_fl
  rw [tz_tk (by omega), tz_tk (by omega), tz_tk (by omega), tz_tk (by omega), tz_tk (by omega), tz_t1]
theorem fl_17 {n a f t v : Nat} {S : tz_S} : sp_fl n a f t v S 17 n = f := by
  unfold sp_fl
  rw [tz_tk (by omega), tz_tk (by omega), tz_tk (by omega), tz_tk (by omega), tz_t1]
theorem fl_18 {n a f t v : Nat} {S : tz_S} : sp_fl n a f t v S 18 n = t := by
  unfold sp_fl
  rw [tz_tk (by omega), tz_tk (by omega), tz_tk (by omega), tz_t1]
theorem fl_19 {n a f t v : Nat} {S : tz_S} : sp_fl n a f t v S 19 n = v := by
  unfold sp_fl
  rw [tz_tk (by omega), tz_tk (by omega), tz_t1]
theorem fl_20 {n a f t v : Nat} {S : tz_S} : sp_fl n a f t v S 20 n = f := by
  unfold sp_fl
  rw [tz_tk (by omega), tz_t1]
theorem fl_21 {n a f t v : Nat} {S : tz_S} : sp_fl n a f t v S 21 n = 4294967295 := by
  unfold sp_fl
  rw [tz_t1]
theorem addL_15 {a f t v : Nat} {S : tz_S} : sp_addL a f t v S 15 0 = S 15 0 + 1 := tz_t1
theorem addL_f {a f t v k i : Nat} {S : tz_S} (h : k ≠ 22) (h2 : k ≠ 15) : sp_addL a f t v S k i = sp_fl (S 15 0) a f t v S k i := by
  unfold sp_addL
  rw [tz_tk h2]
  obtain ⟨p, hp, h3, h4, h5⟩ := io_eq (v := v) (n := S 15 0) (S 15 0) (sp_fl (S 15 0) a f t v S)
  rw [h5, if_neg h]
theorem addL_g {a f t v k i : Nat} {S : tz_S} (h : k ≠ 22) (h2 : k ≠ 15) (h3 : i ≠ S 15 0 ∨ k < 16 ∨ 21 < k) : sp_addL a f t v S k i = S k i := (addL_f h h2).trans (fl_g1 h3)
theorem addL_o {a f t v : Nat} {S : tz_S} (W : sp_W1 S) : ∃ p, p ≤ S 15 0 ∧ (∀ i, p ≤ i → i < S 15 0 → S 19 (S 22 i) < v) ∧ (p = 0 ∨ v ≤ S 19 (S 22 (p - 1))) ∧ ∀ i, sp_addL a f t v S 22 i = if i = p then S 15 0 else if p < i ∧ i ≤ S 15 0 then S 22 (i - 1) else S 22 i := by
  obtain ⟨p, hp, h3, h4, h5⟩ := io_eq (v := v) (n := S 15 0) (S 15 0) (sp_fl (S 15 0) a f t v S)
  have e22 : ∀ i, sp_fl (S 15 0) a f t v S 22 i = S 22 i := fun i => fl_g1 (by omega)
  have e19 : ∀ i, i < S 15 0 → sp_fl (S 15 0) a f t v S 19 (S 22 i) = S 19 (S 22 i) := fun i hi => fl_g1 (Or.inl (by have := W.2.2.2.2.2.2.1 i hi; omega))
  refine ⟨p, hp, fun i a1 a2 => ?_, ?_, fun i => ?_⟩
  · have := h3 i a1 a2
    rw [e22, e19 i a2] at this
    exact this
  · rcases h4 with h4 | h4
    · exact Or.inl h4
    · by_cases p0 : p = 0
      · exact Or.inl p0
      · rw [e22, e19 _ (by omega)] at h4
        exact Or.inr h4
  · unfold sp_addL
    rw [tz_tk (by omega), h5, if_pos rfl, e22, e22]
theorem addL_H {N a f t v : Nat} {S : tz_S} (H : sp_H N S) (hn : S 15 0 < 12) (ha : a ≤ 9999) (hf : f < S 1 0) (ht : t < S 1 0) (hv : 1 ≤ v ∧ v ≤ 99) : sp_H N (sp_addL a f t v S) := by
  obtain ⟨W, W2, WE, h3, hT⟩ := H
  obtain ⟨p, hp, o1, o2, o3⟩ := addL_o (a := a) (f := f) (t := t) (v := v) W
  obtain ⟨a1, a2, a3, a4, a5, a6, a7, a8, a9⟩ := W
  obtain ⟨b1, b2, b3, b4, b5, b6, b7⟩ := W2
  have g : ∀ k i, k < 15 ∨ 22 < k → sp_addL a f t v S k i = S k i := fun k i h => addL_g (by omega) (by omega) (by omega)
  have gl : ∀ k i, k ≠ 22 → k ≠ 15 → i < S 15 0 → sp_addL a f t v S k i = S k i := fun k i h h2 hi => addL_g h h2 (by omega)
  have n16 : sp_addL a f t v S 16 (S 15 0) = a := (addL_f (by omega) (by omega)).trans fl_16
  have n17 : sp_addL a f t v S 17 (S 15 0) = f := (addL_f (by omega) (by omega)).trans fl_17
  have n18 : sp_addL a f t v S 18 (S 15 0) = t := (addL_f (by omega) (by omega)).trans fl_18
  have n19 : sp_addL a f t v S 19 (S 15 0) = v := (addL_f (by omega) (by omega)).trans fl_19
  have n20 : sp_addL a f t v S 20 (S 15 0) = f := (addL_f (by omega) (by omega)).trans fl_20
  have n21 : sp_addL a f t v S 21 (S 15 0) = 4294967295 := (addL_f (by omega) (by omega)).trans fl_21
  refine ⟨⟨?_, ?_, ?_, fun h hh => ?_, fun t ht => ?_, fun l hl => ?_, ?_, fun i j hi hj => ?_, ?_⟩, ⟨fun t ht => ?_, fun l hl => ?_, fun h hh => ?_, ?_, ?_, ?_, ?_⟩, we_mv WE (fun k i h1 h2 => g k i (by omega)), ?_, ?_⟩
  · rw [g 1 0 (by omega)]
    exact a1
  · rw [g 7 0 (by omega)]
    exact a2
  · rw [addL_15]
    omega
  · rw [g 1 0 (by omega)] at hh
    rw [g 2 h (by omega), g 3 h (by omega)]
    exact a4 h hh
  · rw [g 7 0 (by omega)] at ht
    obtain ⟨c1, c2, c3, c4, c5, c6, c7, c8, c9⟩ := a5 t ht
    rw [g 8 t (by omega), g 9 t (by omega), g 10 t (by omega), g 11 t (by omega), g 1 0 (by omega)]
    refine ⟨c1, c2, c3, c4, c5, c6, c7, c8, fun i hi => ?_⟩
    rw [g 12 _ (by omega)]
    exact c9 i hi
  · rw [addL_15] at hl
    rw [g 1 0 (by omega)]
    by_cases e : l = S 15 0
    · subst e
      rw [n17, n18, n19]
      exact ⟨hf, ht, hv⟩
    · rw [gl 17 l (by omega) (by omega) (by omega), gl 18 l (by omega) (by omega) (by omega), gl 19 l (by omega) (by omega) (by omega)]
      exact a6 l (by omega)
  · rw [addL_15]
    intro i hi
    rw [o3 i]
    by_cases q1 : i = p
    · rw [if_pos q1]
      omega
    · rw [if_neg q1]
      by_cases q2 : p < i ∧ i ≤ S 15 0
      · rw [if_pos q2]
        have := a7 (i - 1) (by omega)
        omega
      · rw [if_neg q2]
        have := a7 i (by omega)
        omega
  · rw [addL_15] at hj
    have gg : ∀ i, i < S 15 0 → sp_addL a f t v S 19 (S 22 i) = S 19 (S 22 i) := fun i hi => gl 19 _ (by omega) (by omega) (a7 i hi)
    have mo : ∀ i, i < p → v ≤ S 19 (S 22 i) := fun i hi => by
      have o2' : v ≤ S 19 (S 22 (p - 1)) := by
        rcases o2 with o2 | o2
        · omega
        · exact o2
      by_cases q : i = p - 1
      · rw [q]
        exact o2'
      · have := a8 i (p - 1) (by omega) (by omega)
        unfold sp_lt at this
        omega
    rw [o3 i, o3 j]
    unfold sp_lt
    by_cases i1 : i = p
    · rw [if_pos i1, if_neg (show ¬ j = p by omega), if_pos (show p < j ∧ j ≤ S 15 0 by omega), n19, gg (j - 1) (by omega)]
      exact Or.inl (o1 (j - 1) (by omega) (by omega))
    · rw [if_neg i1]
      by_cases i2 : p < i
      · rw [if_pos (show p < i ∧ i ≤ S 15 0 by omega), if_neg (show ¬ j = p by omega), if_pos (show p < j ∧ j ≤ S 15 0 by omega), gg (j - 1) (by omega), gg (i - 1) (by omega)]
        exact a8 (i - 1) (j - 1) (by omega) (by omega)
      · rw [if_neg (show ¬ (p < i ∧ i ≤ S 15 0) by omega), gg i (by omega)]
        by_cases j1 : j = p
        · rw [if_pos j1, n19]
          have m1 := mo i (by omega)
          have m2 := a7 i (by omega)
          omega
        · rw [if_neg j1]
          by_cases j2 : p < j
          · rw [if_pos (show p < j ∧ j ≤ S 15 0 by omega), gg (j - 1) (by omega)]
            by_cases ij : i < j - 1
            · exact a8 i (j - 1) ij (by omega)
            · omega
          · rw [if_neg (show ¬ (p < j ∧ j ≤ S 15 0) by omega), gg j (by omega)]
            exact a8 i j hi (by omega)
  · rw [addL_15]
    intro l hl
    by_cases e : l = S 15 0
    · exact ⟨p, (by omega), by rw [o3, if_pos rfl]; exact e.symm⟩
    · obtain ⟨i, hi, ei⟩ := a9 l (by omega)
      by_cases q : i < p
      · exact ⟨i, (by omega), by rw [o3, if_neg (by omega), if_neg (by omega)]; exact ei⟩
      · exact ⟨i + 1, (by omega), by rw [o3, if_neg (by omega), if_pos (show p < i + 1 ∧ i + 1 ≤ S 15 0 by omega)]; exact ei⟩
  · rw [g 7 0 (by omega)] at ht
    rw [g 13 _ (by omega), g 11 _ (by omega)]
    exact b1 t ht
  · rw [addL_15] at hl
    have wh : ∀ z, sp_wh S z → sp_wh (sp_addL a f t v S) z := fun z hz => by
      unfold sp_wh at hz ⊢
      rw [g 1 0 (by omega), g 7 0 (by omega)]
      exact hz
    by_cases e : l = S 15 0
    · subst e
      rw [n16, n20, n21]
      exact ⟨ha, wh f (Or.inl hf), fun q => by omega, fun _ => rfl⟩
    · obtain ⟨c1, c2, c3, c4⟩ := b2 l (by omega)
      rw [gl 16 l (by omega) (by omega) (by omega), gl 20 l (by omega) (by omega) (by omega), gl 21 l (by omega) (by omega) (by omega), g 0 3 (by omega)]
      exact ⟨c1, wh _ c2, c3, c4⟩
  · rw [g 1 0 (by omega)] at hh
    rw [g 5 h (by omega), g 0 0 (by omega)]
    exact b3 h hh
  · rw [g 1 0 (by omega), g 0 0 (by omega), sum_mv (S := S) (S 1 0) (fun h hh => g 5 h (by omega))]
    exact b4
  · rw [g 0 4 (by omega)]
    exact b5
  · rw [g 0 5 (by omega)]
    exact b6
  · rw [g 0 6 (by omega)]
    exact b7
  · rw [g 0 3 (by omega)]
    exact h3
  · rw [g 0 0 (by omega), g 0 3 (by omega)]
    exact hT
/-- a cell of a number not yet used -/
theorem rx_20 {b n v : Nat} {S : tz_S} {A : tz_Mem} (hb : tz_sky b) (hn : S 15 0 = n) (r : rx b 99 S A) : rx b 99 (tz_t S 20 n v) (tz_s A (b + 20) n (tz_j v)) := by
  have hs := sky_lo hb
  obtain ⟨c, l0, k0, w0, e0⟩ := r
  have g : ∀ k i, k ≠ 20 → tz_t S 20 n v k i = S k i := fun k i h => tz_tk h
  refine ⟨rx_c_s c, fun h hh => ?_, fun t ht hx => ?_, rx_w_mv w0 (g 1 0 (by omega)) (fun _ => g 5 _ (by omega)) (fun _ _ => g _ _ (by omega)) (fun _ => tz_gsk (by omega)), rx_e_mv e0 (fun _ _ _ _ => g _ _ (by omega)) rfl (fun _ _ _ _ => tz_gsk (by omega))⟩
  · rw [tz_gsk (by omega)]
    refine bt_congr (l0 h hh) (fun l hl => ?_)
    by_cases q : l = n
    · have q1 : ¬ l < S 15 0 := by omega
      have q2 : ¬ l < tz_t S 20 n v 15 0 := by rw [g 15 0 (by omega)]; exact q1
      simp [q1, q2]
    · rw [g 15 0 (by omega), tz_ti q]
  · rw [tz_gsk (by omega)]
    refine bt_congr (k0 t ht hx) (fun l hl => ?_)
    by_cases q : l = n
    · have q1 : ¬ l < S 15 0 := by omega
      have q2 : ¬ l < tz_t S 20 n v 15 0 := by rw [g 15 0 (by omega)]; exact q1
      simp [q1, q2]
    · rw [g 15 0 (by omega), tz_ti q]
/-- one number more is used, and its letter lies -/
theorem rx_15 {b n h : Nat} {S : tz_S} {A : tz_Mem} (hb : tz_sky b) (h8 : S 1 0 ≤ 8) (h4 : S 7 0 ≤ 4) (hn : S 15 0 = n) (hn12 : n < 12) (hh : h < S 1 0) (e20 : S 20 n = h) (r : rx b 99 S A) : rx b 99 (tz_t S 15 0 (n + 1)) (tz_s (tz_s A (b + 15) 0 (tz_j (n + 1))) (b + 4) h (tz_g (tz_s A (b + 15) 0 (tz_j (n + 1))) (b + 4) h ||| (tz_j 1 <<< (tz_j n &&& tz_j 31)))) := by
  have hs := sky_lo hb
  obtain ⟨c, l0, k0, w0, e0⟩ := r
  have g : ∀ k i, k ≠ 15 → tz_t S 15 0 (n + 1) k i = S k i := fun k i h => tz_tk h
  refine ⟨rx_c_mv (rx_c_s (k := 15) (i := 0) (v := n + 1) c) (fun _ _ _ => rfl) (fun k i hp => tz_gsk (by unfold rx_pl at hp; omega)), fun q hq => ?_, fun t ht hx => ?_, rx_w_mv w0 (g 1 0 (by omega)) (fun _ => g 5 _ (by omega)) (fun _ _ => g _ _ (by omega)) (fun _ => by rw [tz_gsk (by omega), tz_gsk (by omega)]), rx_e_mv e0 (fun _ _ _ _ => g _ _ (by omega)) rfl (fun _ _ _ _ => by rw [tz_gsk (by omega), tz_gsk (by omega)])⟩
  · by_cases y : q = h
    · subst y
      rw [tz_gs1, tz_gsk (by omega)]
      refine bt_congr (bj_or (by omega) (l0 q hh)) (fun l hl => ?_)
      rw [tz_t1, g 20 l (by omega)]
      by_cases z : l = n
      · subst z
        simp [e20]
      · have z2 : ¬ n = l := fun y => z y.symm
        have z3 : (l < n + 1) = (l < S 15 0) := propext (by omega)
        simp [z2, z3]
    · rw [tz_gsi y, tz_gsk (by omega)]
      refine bt_congr (l0 q hq) (fun l hl => ?_)
      rw [tz_t1, g 20 l (by omega)]
      by_cases z : l = n
      · subst z
        have z1 : ¬ S 20 l = q := by omega
        simp [z1]
      · have z3 : (l < n + 1) = (l < S 15 0) := propext (by omega)
        simp only [z3]
  · rw [tz_gsk (by omega), tz_gsk (by omega)]
    refine bt_congr (k0 t ht hx) (fun l hl => ?_)
    rw [tz_t1, g 20 l (by omega)]
    by_cases z : l = n
    · subst z
      have z1 : ¬ S 20 l = 100 + t := by omega
      simp [z1]
    · have z3 : (l < n + 1) = (l < S 15 0) := propext (by omega)
      simp only [z3]
theorem x_io {b v n : Nat} (hb : tz_sky b) (hv : v ≤ 99) (hn : n < 12) : ∀ z S A, z ≤ n → S 15 0 = n → (∀ i, i < n → S 22 i < n) → (∀ l, l < n → S 19 l ≤ 99) → rx b 99 S A → ∃ A', q_X4_add_59 b (tz_j v) (tz_j n) (tz_j z) A = some (some (.int (tz_j n)), tz_s A' (b + 15) 0 (tz_j (n + 1))) ∧ rx b 99 (sp_io v n z S) A' ∧ tz_fr (rx_p b) A A' := by
  have hs := sky_lo hb
  intro z
  induction z with
  | zero =>
    intro S A hz h15 ho h19 r
    have q15 := cx_15 r.1
    rw [h15] at q15
    have q16 : tz_g (tz_s A (b + 22) 0 (tz_j n)) (b + 15) 0 = tz_j n := (tz_gsk (by omega)).trans q15
    have a1 : tz_j n + tz_j 1 = tz_j (n + 1) := nj_add
    refine ⟨tz_s A (b + 22) 0 (tz_j n), ?_, rx_s hb (by omega) (by omega) (by omega) (by omega) (by omega) (by omega) (by omega) (by omega) (by omega) r, fr_s fr_rfl (Or.inl (by omega))⟩
    rw [e_X4_add_59 _ _ _ _ hb]
    simp (disch := omega) only [tz_lit, nj_m1, nj_m2, nj_m3, nj_m4, nj_m5, nj_m6, nj_m7, ↓reduceIte, tz_bI_some, tz_bV_some, tz_bL_some, cj10, cj01, cjm0, eq_self, not_true_eq_false, not_false_eq_true, or_false, false_or, or_true, true_or, or_self, and_true, true_and, and_false, false_and, nj_eqf, nj_ltt, nj_ltf, nj_let, nj_lef, nj_cl, nt_lef, ng_ltt, ng_let, ng_gtf, ng_gef, q16, a1]
  | succ z ih =>
    intro S A hz h15 ho h19 r
    have q15 := cx_15 r.1
    rw [h15] at q15
    have q22 : tz_g A (b + 22) z = tz_j (S 22 z) := cx_22 r.1 (by omega)
    have hoz := ho z (by omega)
    have q19 : tz_g A (b + 19) (S 22 z) = tz_j (S 19 (S 22 z)) := cx_19 r.1 (by omega)
    have h99 := h19 _ hoz
    have n1 : tz_j (z + 1) - tz_j 1 = tz_j z := by
      rw [nj_sub (by omega)]
      rfl
    have n2 : tz_j (z + 1) + tz_j 4294967295 = tz_j z := nj_dec (by omega)
    have n3 : (tz_j (z + 1) ≤ tz_j 0) = False := nj_lef (by omega) (by omega)
    have n4 := nj_ix8 (s := z) (n := 12) (by omega) (by omega)
    have n5 := nj_ix8 (s := z + 1) (n := 12) (by omega) (by omega)
    have n6 := nj_ix8 (s := S 22 z) (n := 12) (by omega) (by omega)
    have c1 : (tz_j z).toNatClampNeg = z := nj_cl (by omega)
    have c2 : (tz_j (z + 1)).toNatClampNeg = z + 1 := nj_cl (by omega)
    have c3 : (tz_j (S 22 z)).toNatClampNeg = S 22 z := nj_cl (by omega)
    unfold sp_io
    by_cases y : v ≤ S 19 (S 22 z)
    · rw [if_pos y]
      have y1 : (tz_j v ≤ tz_j (S 19 (S 22 z))) = True := nj_let y (by omega)
      have q16 : tz_g (tz_s A (b + 22) (z + 1) (tz_j n)) (b + 15) 0 = tz_j n := (tz_gsk (by omega)).trans q15
      have a1 : tz_j n + tz_j 1 = tz_j (n + 1) := nj_add
      refine ⟨tz_s A (b + 22) (z + 1) (tz_j n), ?_, rx_s hb (by omega) (by omega) (by omega) (by omega) (by omega) (by omega) (by omega) (by omega) (by omega) r, fr_s fr_rfl (Or.inl (by omega))⟩
      rw [e_X4_add_59 _ _ _ _ hb]
      simp only [tz_lit, nj_m1, nj_m2, nj_m3, nj_m4, nj_m5, nj_m6, nj_m7, ↓reduceIte, tz_bI_some, tz_bV_some, tz_bL_some, cj10, cj01, cjm0, eq_self, not_true_eq_false, not_false_eq_true, or_false, false_or, or_true, true_or, or_self, and_true, true_and, and_false, false_and, n1, n3, n4, n5, n6, c1, c2, c3, q22, q19, y1, q16, a1]
    · rw [if_neg y]
      have y1 : (tz_j v ≤ tz_j (S 19 (S 22 z))) = False := nj_lef (by omega) (by omega)
      obtain ⟨A', e, r', f'⟩ := ih (tz_t S 22 (z + 1) (S 22 z)) (tz_s A (b + 22) (z + 1) (tz_j (S 22 z))) (by omega) h15 (fun i hi => by
        by_cases q : i = z + 1
        · rw [q, tz_t1]
          exact hoz
        · rw [tz_ti q]
          exact ho i hi) (fun l hl => h19 l hl) (rx_s hb (by omega) (by omega) (by omega) (by omega) (by omega) (by omega) (by omega) (by omega) (by omega) r)
      refine ⟨A', ?_, r', fr_tr (fr_s fr_rfl (Or.inl (by omega))) f'⟩
      rw [e_X4_add_59 _ _ _ _ hb]
      simp only [tz_lit, nj_m1, nj_m2, nj_m3, nj_m4, nj_m5, nj_m6, nj_m7, ↓reduceIte, tz_bI_some, tz_bV_some, tz_bL_some, cj10, cj01, cjm0, eq_self, not_true_eq_false, not_false_eq_true, or_false, false_or, or_true, true_or, or_self, and_true, true_and, and_false, false_and, n1, n2, n3, n4, n5, n6, c1, c2, c3, q22, q19, y1, e]
theorem x_addL {b a f t v : Nat} {S : tz_S} {A : tz_Mem} (hb : tz_sky b) (r : rx b 99 S A) (W : sp_W1 S) (hn : S 15 0 < 12) (hf : f < S 1 0) (hv : v ≤ 99) : ∃ A', f_X9_addLetter b (tz_j a) (tz_j f) (tz_j t) (tz_j v) A = some (some (.int (tz_j (S 15 0))), A') ∧ rx b 99 (sp_addL a f t v S) A' ∧ tz_fr (rx_p b) A A' := by
  have hs := sky_lo hb
  have h8 := W.1
  have h4 := W.2.1
  have r1 : rx b 99 (tz_t (tz_t (tz_t (tz_t S 16 (S 15 0) a) 17 (S 15 0) f) 18 (S 15 0) t) 19 (S 15 0) v) (tz_s (tz_s (tz_s (tz_s A (b + 16) (S 15 0) (tz_j a)) (b + 17) (S 15 0) (tz_j f)) (b + 18) (S 15 0) (tz_j t)) (b + 19) (S 15 0) (tz_j v)) := rx_s hb (by omega) (by omega) (by omega) (by omega) (by omega) (by omega) (by omega) (by omega) (by omega) (rx_s hb (by omega) (by omega) (by omega) (by omega) (by omega) (by omega) (by omega) (by omega) (by omega) (rx_s hb (by omega) (by omega) (by omega) (by omega) (by omega) (by omega) (by omega) (by omega) (by omega) (rx_s hb (by omega) (by omega) (by omega) (by omega) (by omega) (by omega) (by omega) (by omega) (by omega) r)))
  have r2 : rx b 99 (sp_fl (S 15 0) a f t v S) (tz_s (tz_s (tz_s (tz_s (tz_s (tz_s A (b + 16) (S 15 0) (tz_j a)) (b + 17) (S 15 0) (tz_j f)) (b + 18) (S 15 0) (tz_j t)) (b + 19) (S 15 0) (tz_j v)) (b + 20) (S 15 0) (tz_j f)) (b + 21) (S 15 0) (tz_j 4294967295)) := rx_s hb (by omega) (by omega) (by omega) (by omega) (by omega) (by omega) (by omega) (by omega) (by omega) (rx_20 hb rfl r1)
  have e15 : sp_fl (S 15 0) a f t v S 15 0 = S 15 0 := fl_g1 (by omega)
  obtain ⟨A1, e1, r3, f1⟩ := x_io hb hv hn (S 15 0) (sp_fl (S 15 0) a f t v S) (tz_s (tz_s (tz_s (tz_s (tz_s (tz_s A (b + 16) (S 15 0) (tz_j a)) (b + 17) (S 15 0) (tz_j f)) (b + 18) (S 15 0) (tz_j t)) (b + 19) (S 15 0) (tz_j v)) (b + 20) (S 15 0) (tz_j f)) (b + 21) (S 15 0) (tz_j 4294967295)) (Nat.le_refl _) e15 (fun i hi => by rw [fl_g1 (by omega)]; exact W.2.2.2.2.2.2.1 i hi) (fun l hl => by rw [fl_g1 (Or.inl (by omega))]; exact (W.2.2.2.2.2.1 l hl).2.2.2) r2
  obtain ⟨p, hp, o1, o2, o3⟩ := io_eq (v := v) (n := S 15 0) (S 15 0) (sp_fl (S 15 0) a f t v S)
  have r4 := rx_15 (n := S 15 0) (h := f) hb (by rw [o3, if_neg (by omega), fl_g1 (by omega)]; exact h8) (by rw [o3, if_neg (by omega), fl_g1 (by omega)]; exact h4) (by rw [o3, if_neg (by omega), e15]) hn (by rw [o3, if_neg (by omega), fl_g1 (by omega)]; exact hf) (by rw [o3, if_neg (by omega), fl_20]) r3
  refine ⟨_, ?_, r4, fr_s (fr_s (fr_tr (fr_s (fr_s (fr_s (fr_s (fr_s (fr_s fr_rfl (Or.inl (by omega))) (Or.inl (by omega))) (Or.inl (by omega))) (Or.inl (by omega))) (Or.inl (by omega))) (Or.inl (by omega))) f1) (Or.inl (by omega))) (Or.inl (by omega))⟩
  have q15 := cx_15 r.1
  have n1 := nj_ix8 (s := S 15 0) (n := 12) (by omega) (by omega)
  have c1 : (tz_j (S 15 0)).toNatClampNeg = S 15 0 := nj_cl (by omega)
  have e2 : f_X4_add b (tz_j a) (tz_j f) (tz_j t) (tz_j v) A = some (some (.int (tz_j (S 15 0))), tz_s A1 (b + 15) 0 (tz_j (S 15 0 + 1))) := by
    rw [e_X4_add _ _ _ _ _ hb]
    simp only [tz_lit, nj_m1, nj_m2, nj_m3, nj_m4, nj_m5, nj_m6, nj_m7, ↓reduceIte, tz_bI_some, tz_bV_some, tz_bL_some, cj10, cj01, cjm0, eq_self, not_true_eq_false, not_false_eq_true, or_false, false_or, or_true, true_or, or_self, and_true, true_and, and_false, false_and, q15, n1, c1, e1]
  have n2 := nj_ix8 (s := f) (n := 8) (by omega) (by omega)
  have c2 : (tz_j f).toNatClampNeg = f := nj_cl (by omega)
  rw [e_X9_addLetter _ _ _ _ _ hb]
  simp only [tz_lit, nj_m1, nj_m2, nj_m3, nj_m4, nj_m5, nj_m6, nj_m7, ↓reduceIte, tz_bI_some, tz_bV_some, tz_bL_some, cj10, cj01, cjm0, eq_self, not_true_eq_false, not_false_eq_true, or_false, false_or, or_true, true_or, or_self, and_true, true_and, and_false, false_and, e2, n2, c2]
theorem x_isWord1 {m : Nat} {A : tz_Mem} (h : m < 10000) : f_X11_isWord (tz_j m) A = some (some (.int (tz_j 1)), A) := by
  rw [e_X11_isWord]
  simp (disch := omega) only [tz_lit, nj_m1, ↓reduceIte, nj_cl, nj_ltt, nj_ltf, nj_let, nj_lef, nj_eqf, nj_lt, nj_le, nj_eq, nj_add, nj_mul, nj_modx, nj_and7, nj_div, tz_bI_some, tz_bV_some, or_false, false_or, or_self, and_false, false_and, and_true, true_and, not_true_eq_false, not_false_eq_true, nt_lef, nt_let, nt_ltf, nt_ltt, nt_eqf, nj_m2, nj_m3, nj_m4, nj_m5, nj_m6, nj_m7, tz_bL_some, nj_sub, ng_ltt, ng_let, ng_gtf, ng_gef]
theorem x_isWord0 {x : Int32} {A : tz_Mem} (h : x < tz_j 0 ∨ tz_j 10000 ≤ x) : f_X11_isWord x A = some (some (.int (tz_j 0)), A) := by
  rw [e_X11_isWord]
  rcases h with h | h
  · simp (disch := omega) only [tz_lit, nj_m1, ↓reduceIte, nj_cl, nj_ltt, nj_ltf, nj_let, nj_lef, nj_eqf, nj_lt, nj_le, nj_eq, nj_add, nj_mul, nj_modx, nj_and7, nj_div, tz_bI_some, tz_bV_some, or_false, false_or, or_self, and_false, false_and, and_true, true_and, not_true_eq_false, not_false_eq_true, nt_lef, nt_let, nt_ltf, nt_ltt, nt_eqf, nj_m2, nj_m3, nj_m4, nj_m5, nj_m6, nj_m7, tz_bL_some, nj_sub, ng_ltt, ng_let, ng_gtf, ng_gef, ob_l h]
  · simp (disch := omega) only [tz_lit, nj_m1, ↓reduceIte, nj_cl, nj_ltt, nj_ltf, nj_let, nj_lef, nj_eqf, nj_lt, nj_le, nj_eq, nj_add, nj_mul, nj_modx, nj_and7, nj_div, tz_bI_some, tz_bV_some, or_false, false_or, or_self, and_false, false_and, and_true, true_and, not_true_eq_false, not_false_eq_true, nt_lef, nt_let, nt_ltf, nt_ltt, nt_eqf, nj_m2, nj_m3, nj_m4, nj_m5, nj_m6, nj_m7, tz_bL_some, nj_sub, ng_ltt, ng_let, ng_gtf, ng_gef, ob_h (show 10000 < 2147483648 by omega) h]
