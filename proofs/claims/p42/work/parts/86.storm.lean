/-! a storm more -/
def sp_wc (n len : Nat) (wy : Nat → Nat) (S : tz_S) : tz_S := fun k i => if k = 12 ∧ (6 * n ≤ i ∧ i < 6 * n + len) then wy (i - 6 * n) else S k i
def sp_addT (len p fo ro : Nat) (wy : Nat → Nat) (S : tz_S) : tz_S := tz_t (tz_t (tz_t (tz_t (tz_t (tz_t (sp_wc (S 7 0) len wy S) 11 (S 7 0) len) 8 (S 7 0) p) 9 (S 7 0) fo) 10 (S 7 0) ro) 13 (S 7 0) 0) 7 0 (S 7 0 + 1)
theorem addT_g {len p fo ro k i : Nat} {wy : Nat → Nat} {S : tz_S} (h : (k < 7 ∨ 13 < k) ∨ (k ≠ 7 ∧ k ≠ 12 ∧ i ≠ S 7 0) ∨ (k = 12 ∧ i < 6 * S 7 0)) : sp_addT len p fo ro wy S k i = S k i := by
  unfold sp_addT
  rw [tz_ta, if_neg (by omega), tz_ta, if_neg (by omega), tz_ta, if_neg (by omega), tz_ta, if_neg (by omega), tz_ta, if_neg (by omega), tz_ta, if_neg (by omega)]
  exact if_neg (by omega)
theorem addT_7 {len p fo ro : Nat} {wy : Nat → Nat} {S : tz_S} : sp_addT len p fo ro wy S 7 0 = S 7 0 + 1 := tz_t1
theorem addT_12 {len p fo ro i : Nat} {wy : Nat → Nat} {S : tz_S} (h : i < len) : sp_addT len p fo ro wy S 12 (6 * S 7 0 + i) = wy i := by
  unfold sp_addT
  rw [tz_tk (by omega), tz_tk (by omega), tz_tk (by omega), tz_tk (by omega), tz_tk (by omega), tz_tk (by omega)]
  refine (if_pos ⟨rfl, (by omega), (by omega)⟩).trans ?_
  rw [show 6 * S 7 0 + i - 6 * S 7 0 = i by omega]
theorem addT_13 {len p fo ro : Nat} {wy : Nat → Nat} {S : tz_S} : sp_addT len p fo ro wy S 13 (S 7 0) = 0 := by
  unfold sp_addT
  rw [tz_tk (by omega), tz_t1]
theorem addT_10 {len p fo ro : Nat} {wy : Nat → Nat} {S : tz_S} : sp_addT len p fo ro wy S 10 (S 7 0) = ro := by
  unfold sp_addT
  rw [tz_tk (by omega), tz_tk (by omega), tz_t1]
theorem addT_9 {len p fo ro : Nat} {wy : Nat → Nat} {S : tz_S} : sp_addT len p fo ro wy S 9 (S 7 0) = fo := by
  unfold sp_addT
  rw [tz_tk (by omega), tz_tk (by omega), tz_tk (by omega), tz_t1]
theorem addT_8 {len p fo ro : Nat} {wy : Nat → Nat} {S : tz_S} : sp_addT len p fo ro wy S 8 (S 7 0) = p := by
  unfold sp_addT
  rw [tz_tk (by omega), tz_tk (by omega), tz_tk (by omega), tz_tk (by omega), tz_t1]
theorem addT_11 {len p fo ro : Nat} {wy : Nat → Nat} {S : tz_S} : sp_addT len p fo ro wy S 11 (S 7 0) = len := by
  unfold sp_addT
  rw [tz_tk (by omega), tz_tk (by omega), tz_tk (by omega), tz_tk (by omega), tz_tk (by omega), tz_t1]
theorem addT_H {N len p fo ro : Nat} {wy : Nat → Nat} {S : tz_S} (H : sp_H N S) (hn : S 7 0 < 4) (hl : 2 ≤ len ∧ len ≤ 6) (hp : 1 ≤ p ∧ p ≤ 9) (hfo : 1 ≤ fo ∧ fo ≤ 99) (hro : 1 ≤ ro ∧ ro ≤ 9) (hw : ∀ i, i < len → wy i < S 1 0) : sp_H N (sp_addT len p fo ro wy S) := by
  obtain ⟨⟨a1, a2, a3, a4, a5, a6, a7, a8, a9⟩, ⟨b1, b2, b3, b4, b5, b6, b7⟩, WE, h3, hT⟩ := H
  have g : ∀ k i, k < 7 ∨ 13 < k → sp_addT len p fo ro wy S k i = S k i := fun k i h => addT_g (Or.inl h)
  have gt : ∀ k i, k ≠ 7 → k ≠ 12 → i ≠ S 7 0 → sp_addT len p fo ro wy S k i = S k i := fun k i h h1 h2 => addT_g (Or.inr (Or.inl ⟨h, h1, h2⟩))
  refine ⟨⟨?_, ?_, ?_, fun h hh => ?_, fun t ht => ?_, fun l hl => ?_, ?_, fun i j hi hj => ?_, ?_⟩, ⟨fun t ht => ?_, fun l hl => ?_, fun h hh => ?_, ?_, ?_, ?_, ?_⟩, we_mv WE (fun k i h1 h2 => g k i (by omega)), ?_, ?_⟩
  · rw [g 1 0 (by omega)]
    exact a1
  · rw [addT_7]
    omega
  · rw [g 15 0 (by omega)]
    exact a3
  · rw [g 1 0 (by omega)] at hh
    rw [g 2 h (by omega), g 3 h (by omega)]
    exact a4 h hh
  · rw [addT_7] at ht
    rw [g 1 0 (by omega)]
    by_cases e : t = S 7 0
    · subst e
      rw [addT_8, addT_9, addT_10, addT_11]
      refine ⟨hp.1, hp.2, hfo.1, hfo.2, hro.1, hro.2, hl.1, hl.2, fun i hi => ?_⟩
      rw [addT_12 hi]
      exact hw i hi
    · obtain ⟨c1, c2, c3, c4, c5, c6, c7, c8, c9⟩ := a5 t (by omega)
      rw [gt 8 t (by omega) (by omega) e, gt 9 t (by omega) (by omega) e, gt 10 t (by omega) (by omega) e, gt 11 t (by omega) (by omega) e]
      refine ⟨c1, c2, c3, c4, c5, c6, c7, c8, fun i hi => ?_⟩
      rw [addT_g (Or.inr (Or.inr ⟨rfl, (by omega)⟩))]
      exact c9 i hi
  · rw [g 15 0 (by omega)] at hl
    rw [g 17 l (by omega), g 18 l (by omega), g 19 l (by omega), g 1 0 (by omega)]
    exact a6 l hl
  · rw [g 15 0 (by omega)]
    intro i hi
    rw [g 22 _ (by omega)]
    exact a7 i hi
  · rw [g 15 0 (by omega)] at hj
    unfold sp_lt
    rw [g 22 _ (by omega), g 22 _ (by omega), g 19 _ (by omega), g 19 _ (by omega)]
    exact a8 i j hi hj
  · rw [g 15 0 (by omega)]
    intro l hl
    obtain ⟨i, hi, e⟩ := a9 l hl
    exact ⟨i, hi, (g 22 _ (by omega)).trans e⟩
  · rw [addT_7] at ht
    by_cases e : t = S 7 0
    · subst e
      rw [addT_13, addT_11]
      omega
    · rw [gt 13 t (by omega) (by omega) e, gt 11 t (by omega) (by omega) e]
      exact b1 t (by omega)
  · rw [g 15 0 (by omega)] at hl
    obtain ⟨c1, c2, c3, c4⟩ := b2 l hl
    rw [g 16 _ (by omega), g 20 _ (by omega), g 21 _ (by omega), g 0 _ (by omega)]
    refine ⟨c1, ?_, c3, c4⟩
    unfold sp_wh at c2 ⊢
    rw [addT_7, g 1 0 (by omega)]
    omega
  · rw [g 1 0 (by omega)] at hh
    rw [g 5 h (by omega), g 0 0 (by omega)]
    exact b3 h hh
  · rw [g 1 0 (by omega), g 0 0 (by omega), sum_mv (S := S) (S 1 0) (fun h hh => g 5 h (by omega))]
    exact b4
  · rw [g 0 4 (by omega)]
    exact b5
  · rw [g 0 5 (by omega)]
    exact b6
  · rw [g 0 6 (by omega)]
    exact b7
  · rw [g 0 3 (by omega)]
    exact h3
  · rw [g 0 0 (by omega), g 0 3 (by omega)]
    exact hT
theorem fx_cp2 {P : Nat → Nat → Prop} {A B : tz_Mem} {k1 i1 k2 i2 n : Nat} (h1 : tz_fx P A B) (hp : ∀ i, P k2 i) : tz_fx P A (tz_cp B k1 i1 k2 i2 n) := ⟨h1.1, h1.2.1, fun k' i' hq => (if_neg (fun q => hq (by rw [q.1]; exact hp i'))).trans (h1.2.2.1 k' i' hq), h1.2.2.2⟩
theorem x_addT155 {b len p fo ro : Nat} {wy : Nat → Nat} {S : tz_S} {A : tz_Mem} (hb : tz_sky b) (r : rx b 99 S A) (W : sp_W1 S) (W2 : sp_W2 S) (hn : S 7 0 < 4) (hl : len ≤ 6) (hw : ∀ i, i < len → tz_g A 155 i = tz_j (wy i)) : ∃ A', f_X10_add_s155 b (tz_j len) (tz_j p) (tz_j fo) (tz_j ro) A = some (some (.int (tz_j (S 7 0))), A') ∧ rx b 99 (sp_addT len p fo ro wy S) A' ∧ tz_fx (bc_p b) A A' := by
  have hs := sky_lo hb
  have h8 := W.1
  obtain ⟨c, l0, k0, w0, e0⟩ := r
  have q7 := cx_7 c
  have c0 : rx_c b (sp_wc (S 7 0) len wy S) (tz_cp A 155 0 (b + 12) (6 * S 7 0) len) := fun k i hp => by
    show (if b + k = b + 12 ∧ (6 * S 7 0 ≤ i ∧ i < 6 * S 7 0 + len) then tz_g A 155 (0 + (i - 6 * S 7 0)) else tz_g A (b + k) i) = tz_j (if k = 12 ∧ (6 * S 7 0 ≤ i ∧ i < 6 * S 7 0 + len) then wy (i - 6 * S 7 0) else S k i)
    by_cases z : k = 12 ∧ (6 * S 7 0 ≤ i ∧ i < 6 * S 7 0 + len)
    · rw [if_pos z, if_pos (c := b + k = b + 12 ∧ (6 * S 7 0 ≤ i ∧ i < 6 * S 7 0 + len)) ⟨(by omega), z.2⟩, Nat.zero_add]
      exact hw _ (by omega)
    · rw [if_neg z, if_neg (c := b + k = b + 12 ∧ (6 * S 7 0 ≤ i ∧ i < 6 * S 7 0 + len)) (fun y => z ⟨(by omega), y.2⟩)]
      exact c k i hp
  have c1 : rx_c b (tz_t (tz_t (tz_t (tz_t (tz_t (sp_wc (S 7 0) len wy S) 11 (S 7 0) len) 8 (S 7 0) p) 9 (S 7 0) fo) 10 (S 7 0) ro) 13 (S 7 0) 0) (tz_s (tz_s (tz_s (tz_s (tz_s (tz_cp A 155 0 (b + 12) (6 * S 7 0) len) (b + 11) (S 7 0) (tz_j len)) (b + 8) (S 7 0) (tz_j p)) (b + 9) (S 7 0) (tz_j fo)) (b + 10) (S 7 0) (tz_j ro)) (b + 13) (S 7 0) (tz_j 0)) := rx_c_s (rx_c_s (rx_c_s (rx_c_s (rx_c_s c0))))
  have c3 : rx_c b (sp_addT len p fo ro wy S) (tz_s (tz_s (tz_s (tz_s (tz_s (tz_s (tz_s (tz_cp A 155 0 (b + 12) (6 * S 7 0) len) (b + 11) (S 7 0) (tz_j len)) (b + 8) (S 7 0) (tz_j p)) (b + 9) (S 7 0) (tz_j fo)) (b + 10) (S 7 0) (tz_j ro)) (b + 13) (S 7 0) (tz_j 0)) (b + 14) (S 7 0) (tz_j 0)) (b + 7) 0 (tz_j (S 7 0 + 1))) := rx_c_s (rx_c_mv c1 (fun _ _ _ => rfl) (fun k i hp => tz_gsk (by unfold rx_pl at hp; omega)))
  have e : ∀ k i, k ≠ b + 7 → (k < b + 8 ∨ b + 14 < k) → tz_g (tz_s (tz_s (tz_s (tz_s (tz_s (tz_s (tz_s (tz_cp A 155 0 (b + 12) (6 * S 7 0) len) (b + 11) (S 7 0) (tz_j len)) (b + 8) (S 7 0) (tz_j p)) (b + 9) (S 7 0) (tz_j fo)) (b + 10) (S 7 0) (tz_j ro)) (b + 13) (S 7 0) (tz_j 0)) (b + 14) (S 7 0) (tz_j 0)) (b + 7) 0 (tz_j (S 7 0 + 1))) k i = tz_g A k i := fun k i h1 h2 => by
    rw [tz_gsk h1, tz_gsk (by omega), tz_gsk (by omega), tz_gsk (by omega), tz_gsk (by omega), tz_gsk (by omega), tz_gsk (by omega)]
    exact if_neg (by omega)
  have g : ∀ k i, k < 7 ∨ 13 < k → sp_addT len p fo ro wy S k i = S k i := fun k i h => addT_g (Or.inl h)
  refine ⟨_, ?_, ⟨c3, rx_l_mv l0 (g 1 0 (by omega)) (g 15 0 (by omega)) (fun _ => g 20 _ (by omega)) (fun h _ => e _ _ (by omega) (by omega)), fun t ht hx => ?_, rx_w_mv w0 (g 1 0 (by omega)) (fun _ => g 5 _ (by omega)) (fun _ _ => g _ _ (by omega)) (fun _ => e _ _ (by omega) (by omega)), rx_e_mv e0 (fun k i h1 h2 => g k i (by omega)) rfl (fun k i h1 h2 => e k i (by omega) (by omega))⟩, fx_s (fx_s (fx_s (fx_s (fx_s (fx_s (fx_s (fx_cp2 fx_rfl (fun i => by unfold bc_p; omega)) (by unfold bc_p; omega)) (by unfold bc_p; omega)) (by unfold bc_p; omega)) (by unfold bc_p; omega)) (by unfold bc_p; omega)) (by unfold bc_p; omega)) (by unfold bc_p; omega)⟩
  · have e6 : tz_j (S 7 0) * tz_j 6 = tz_j (6 * S 7 0) := by rw [nj_mul, Nat.mul_comm]
    have n1 := nj_ix8 (s := S 7 0) (n := 4) (by omega) (by omega)
    have d1 : (tz_j (S 7 0)).toNatClampNeg = S 7 0 := nj_cl (by omega)
    have d2 : (tz_j (6 * S 7 0)).toNatClampNeg = 6 * S 7 0 := nj_cl (by omega)
    have d3 : (tz_j len).toNatClampNeg = len := nj_cl (by omega)
    have n2 : (tz_j (6 * S 7 0) < tz_j 0) = False := nj_ltf (by omega) (by omega)
    have n3 : (tz_j len < tz_j 0) = False := nj_ltf (by omega) (by omega)
    have n4 : (tz_j 0 < tz_j 0) = False := nj_ltf (by omega) (by omega)
    have n5 : (6 < 0 + len) = False := eq_false (by omega)
    have n6 : (24 < 6 * S 7 0 + len) = False := eq_false (by omega)
    have a1 : tz_j (S 7 0) + tz_j 1 = tz_j (S 7 0 + 1) := nj_add
    have n7 : tz_g (tz_cp A 155 0 (b + 12) (6 * S 7 0) len) (b + 7) 0 = tz_j (S 7 0) := (if_neg (by omega)).trans q7
    rw [e_X10_add_s155 _ _ _ _ _ hb]
    simp (disch := omega) only [tz_lit, nj_m1, nj_m2, nj_m3, nj_m4, nj_m5, nj_m6, nj_m7, ↓reduceIte, tz_bI_some, tz_bV_some, tz_bL_some, cj10, cj01, cjm0, eq_self, not_true_eq_false, not_false_eq_true, or_false, false_or, or_true, true_or, or_self, and_true, true_and, and_false, false_and, nj_eqf, nj_ltt, nj_ltf, nj_let, nj_lef, nj_cl, nt_lef, ng_ltt, ng_let, ng_gtf, ng_gef, q7, e6, n1, n2, n3, n4, n5, n6, d1, d2, d3, tz_gsk, n7, a1]
  · rw [addT_7] at ht
    by_cases q : t = S 7 0
    · rw [q, tz_gsk (by omega), tz_gs1]
      refine bt_congr bj_zero (fun l hl => ?_)
      symm
      rw [decide_eq_false_iff_not, g 15 0 (by omega), g 20 _ (by omega)]
      intro y
      have hv := (W2.2.1 l y.1).2.1
      unfold sp_wh at hv
      omega
    · have ee : tz_g (tz_s (tz_s (tz_s (tz_s (tz_s (tz_s (tz_s (tz_cp A 155 0 (b + 12) (6 * S 7 0) len) (b + 11) (S 7 0) (tz_j len)) (b + 8) (S 7 0) (tz_j p)) (b + 9) (S 7 0) (tz_j fo)) (b + 10) (S 7 0) (tz_j ro)) (b + 13) (S 7 0) (tz_j 0)) (b + 14) (S 7 0) (tz_j 0)) (b + 7) 0 (tz_j (S 7 0 + 1))) (b + 14) t = tz_g A (b + 14) t := by
        rw [tz_gsk (by omega), tz_gsi q, tz_gsk (by omega), tz_gsk (by omega), tz_gsk (by omega), tz_gsk (by omega), tz_gsk (by omega)]
        exact if_neg (by omega)
      rw [ee]
      refine bt_congr (k0 t (by omega) hx) (fun l hl => ?_)
      rw [g 15 0 (by omega), g 20 _ (by omega)]
theorem x_addT147 {b len p fo ro : Nat} {wy : Nat → Nat} {S : tz_S} {A : tz_Mem} (hb : tz_sky b) (r : rx b 99 S A) (W : sp_W1 S) (W2 : sp_W2 S) (hn : S 7 0 < 4) (hl : len ≤ 6) (hw : ∀ i, i < len → tz_g A 147 i = tz_j (wy i)) : ∃ A', f_X10_add_s147 b (tz_j len) (tz_j p) (tz_j fo) (tz_j ro) A = some (some (.int (tz_j (S 7 0))), A') ∧ rx b 99 (sp_addT len p fo ro wy S) A' ∧ tz_fx (bc_p b) A A' := by
  have hs := sky_lo hb
  have h8 := W.1
  obtain ⟨c, l0, k0, w0, e0⟩ := r
  have q7 := cx_7 c
  have c0 : rx_c b (sp_wc (S 7 0) len wy S) (tz_cp A 147 0 (b + 12) (6 * S 7 0) len) := fun k i hp => by
    show (if b + k = b + 12 ∧ (6 * S 7 0 ≤ i ∧ i < 6 * S 7 0 + len) then tz_g A 147 (0 + (i - 6 * S 7 0)) else tz_g A (b + k) i) = tz_j (if k = 12 ∧ (6 * S 7 0 ≤ i ∧ i < 6 * S 7 0 + len) then wy (i - 6 * S 7 0) else S k i)
    by_cases z : k = 12 ∧ (6 * S 7 0 ≤ i ∧ i < 6 * S 7 0 + len)
    · rw [if_pos z, if_pos (c := b + k = b + 12 ∧ (6 * S 7 0 ≤ i ∧ i < 6 * S 7 0 + len)) ⟨(by omega), z.2⟩, Nat.zero_add]
      exact hw _ (by omega)
    · rw [if_neg z, if_neg (c := b + k = b + 12 ∧ (6 * S 7 0 ≤ i ∧ i < 6 * S 7 0 + len)) (fun y => z ⟨(by omega), y.2⟩)]
      exact c k i hp
  have c1 : rx_c b (tz_t (tz_t (tz_t (tz_t (tz_t (sp_wc (S 7 0) len wy S) 11 (S 7 0) len) 8 (S 7 0) p) 9 (S 7 0) fo) 10 (S 7 0) ro) 13 (S 7 0) 0) (tz_s (tz_s (tz_s (tz_s (tz_s (tz_cp A 147 0 (b + 12) (6 * S 7 0) len) (b + 11) (S 7 0) (tz_j len)) (b + 8) (S 7 0) (tz_j p)) (b + 9) (S 7 0) (tz_j fo)) (b + 10) (S 7 0) (tz_j ro)) (b + 13) (S 7 0) (tz_j 0)) := rx_c_s (rx_c_s (rx_c_s (rx_c_s (rx_c_s c0))))
  have c3 : rx_c b (sp_addT len p fo ro wy S) (tz_s (tz_s (tz_s (tz_s (tz_s (tz_s (tz_s (tz_cp A 147 0 (b + 12) (6 * S 7 0) len) (b + 11) (S 7 0) (tz_j len)) (b + 8) (S 7 0) (tz_j p)) (b + 9) (S 7 0) (tz_j fo)) (b + 10) (S 7 0) (tz_j ro)) (b + 13) (S 7 0) (tz_j 0)) (b + 14) (S 7 0) (tz_j 0)) (b + 7) 0 (tz_j (S 7 0 + 1))) := rx_c_s (rx_c_mv c1 (fun _ _ _ => rfl) (fun k i hp => tz_gsk (by unfold rx_pl at hp; omega)))
  have e : ∀ k i, k ≠ b + 7 → (k < b + 8 ∨ b + 14 < k) → tz_g (tz_s (tz_s (tz_s (tz_s (tz_s (tz_s (tz_s (tz_cp A 147 0 (b + 12) (6 * S 7 0) len) (b + 11) (S 7 0) (tz_j len)) (b + 8) (S 7 0) (tz_j p)) (b + 9) (S 7 0) (tz_j fo)) (b + 10) (S 7 0) (tz_j ro)) (b + 13) (S 7 0) (tz_j 0)) (b + 14) (S 7 0) (tz_j 0)) (b + 7) 0 (tz_j (S 7 0 + 1))) k i = tz_g A k i := fun k i h1 h2 => by
    rw [tz_gsk h1, tz_gsk (by omega), tz_gsk (by omega), tz_gsk (by omega), tz_gsk (by omega), tz_gsk (by omega), tz_gsk (by omega)]
    exact if_neg (by omega)
  have g : ∀ k i, k < 7 ∨ 13 < k → sp_addT len p fo ro wy S k i = S k i := fun k i h => addT_g (Or.inl h)
  refine ⟨_, ?_, ⟨c3, rx_l_mv l0 (g 1 0 (by omega)) (g 15 0 (by omega)) (fun _ => g 20 _ (by omega)) (fun h _ => e _ _ (by omega) (by omega)), fun t ht hx => ?_, rx_w_mv w0 (g 1 0 (by omega)) (fun _ => g 5 _ (by omega)) (fun _ _ => g _ _ (by omega)) (fun _ => e _ _ (by omega) (by omega)), rx_e_mv e0 (fun k i h1 h2 => g k i (by omega)) rfl (fun k i h1 h2 => e k i (by omega) (by omega))⟩, fx_s (fx_s (fx_s (fx_s (fx_s (fx_s (fx_s (fx_cp2 fx_rfl (fun i => by unfold bc_p; omega)) (by unfold bc_p; omega)) (by unfold bc_p; omega)) (by unfold bc_p; omega)) (by unfold bc_p; omega)) (by unfold bc_p; omega)) (by unfold bc_p; omega)) (by unfold bc_p; omega)⟩
  · have e6 : tz_j (S 7 0) * tz_j 6 = tz_j (6 * S 7 0) := by rw [nj_mul, Nat.mul_comm]
    have n1 := nj_ix8 (s := S 7 0) (n := 4) (by omega) (by omega)
    have d1 : (tz_j (S 7 0)).toNatClampNeg = S 7 0 := nj_cl (by omega)
    have d2 : (tz_j (6 * S 7 0)).toNatClampNeg = 6 * S 7 0 := nj_cl (by omega)
    have d3 : (tz_j len).toNatClampNeg = len := nj_cl (by omega)
    have n2 : (tz_j (6 * S 7 0) < tz_j 0) = False := nj_ltf (by omega) (by omega)
    have n3 : (tz_j len < tz_j 0) = False := nj_ltf (by omega) (by omega)
    have n4 : (tz_j 0 < tz_j 0) = False := nj_ltf (by omega) (by omega)
    have n5 : (6 < 0 + len) = False := eq_false (by omega)
    have n6 : (24 < 6 * S 7 0 + len) = False := eq_false (by omega)
    have a1 : tz_j (S 7 0) + tz_j 1 = tz_j (S 7 0 + 1) := nj_add
    have n7 : tz_g (tz_cp A 147 0 (b + 12) (6 * S 7 0) len) (b + 7) 0 = tz_j (S 7 0) := (if_neg (by omega)).trans q7
    rw [e_X10_add_s147 _ _ _ _ _ hb]
    simp (disch := omega) only [tz_lit, nj_m1, nj_m2, nj_m3, nj_m4, nj_m5, nj_m6, nj_m7, ↓reduceIte, tz_bI_some, tz_bV_some, tz_bL_some, cj10, cj01, cjm0, eq_self, not_true_eq_false, not_false_eq_true, or_false, false_or, or_true, true_or, or_self, and_true, true_and, and_false, false_and, nj_eqf, nj_ltt, nj_ltf, nj_let, nj_lef, nj_cl, nt_lef, ng_ltt, ng_let, ng_gtf, ng_gef, q7, e6, n1, n2, n3, n4, n5, n6, d1, d2, d3, tz_gsk, n7, a1]
  · rw [addT_7] at ht
    by_cases q : t = S 7 0
    · rw [q, tz_gsk (by omega), tz_gs1]
      refine bt_congr bj_zero (fun l hl => ?_)
      symm
      rw [decide_eq_false_iff_not, g 15 0 (by omega), g 20 _ (by omega)]
      intro y
      have hv := (W2.2.1 l y.1).2.1
      unfold sp_wh at hv
      omega
    · have ee : tz_g (tz_s (tz_s (tz_s (tz_s (tz_s (tz_s (tz_s (tz_cp A 147 0 (b + 12) (6 * S 7 0) len) (b + 11) (S 7 0) (tz_j len)) (b + 8) (S 7 0) (tz_j p)) (b + 9) (S 7 0) (tz_j fo)) (b + 10) (S 7 0) (tz_j ro)) (b + 13) (S 7 0) (tz_j 0)) (b + 14) (S 7 0) (tz_j 0)) (b + 7) 0 (tz_j (S 7 0 + 1))) (b + 14) t = tz_g A (b + 14) t := by
        rw [tz_gsk (by omega), tz_gsi q, tz_gsk (by omega), tz_gsk (by omega), tz_gsk (by omega), tz_gsk (by omega), tz_gsk (by omega)]
        exact if_neg (by omega)
      rw [ee]
      refine bt_congr (k0 t (by omega) hx) (fun l hl => ?_)
      rw [g 15 0 (by omega), g 20 _ (by omega)]
/-- a told way: hills there, none of them the one before it in the round -/
def sp_iw (c len : Nat) (f : Nat → Int32) : Nat → Nat → Prop
  | 0, _ => True
  | k + 1, i => (∃ h, h < c ∧ f i = tz_j h) ∧ ¬ f i = f (if i = 0 then len - 1 else i - 1) ∧ sp_iw c len f k (i + 1)
theorem iw_h {c len : Nat} {f : Nat → Int32} : ∀ k i, sp_iw c len f k i → ∀ j, i ≤ j → j < i + k → ∃ h, h < c ∧ f j = tz_j h := by
  intro k
  induction k with
  | zero => exact fun i _ j h1 h2 => by omega
  | succ k ih =>
    intro i hw j h1 h2
    by_cases e : j = i
    · rw [e]
      exact hw.1
    · exact ih (i + 1) hw.2.2 j (by omega) (by omega)
theorem x_num {s i : Nat} {A : tz_Mem} {x : Int32} (hs : s < 8) (hi : i < 160) (e : Int64.toInt32 (tz_gl A (22 + s) i) = x) : f_X8_number (tz_j s) (tz_j i) A = some (some (.int x), A) := by
  have n1 := nj_ix8 (s := s) (n := 8) (by omega) (by omega)
  have n2 := nj_ix8 (s := i) (n := 160) (by omega) (by omega)
  have c1 : (tz_j s).toNatClampNeg = s := nj_cl (by omega)
  have c2 : (tz_j i).toNatClampNeg = i := nj_cl (by omega)
  rw [e_X8_number]
  simp only [tz_lit, nj_m1, nj_m2, nj_m3, nj_m4, nj_m5, nj_m6, nj_m7, ↓reduceIte, tz_bI_some, tz_bV_some, tz_bL_some, cj10, cj01, cjm0, eq_self, not_true_eq_false, not_false_eq_true, or_false, false_or, or_true, true_or, or_self, and_true, true_and, and_false, false_and, n1, n2, c1, c2, e]
theorem x_iw1 {s len : Nat} {S : tz_S} {A : tz_Mem} {f : Nat → Int32} (c : rx_c 30 S A) (h8 : S 1 0 ≤ 8) (hl : len ≤ 6) (hf : ∀ i, i < len → f_X8_number (tz_j s) (tz_j i) A = some (some (.int (f i)), A)) : ∀ k i, i + k = len → sp_iw (S 1 0) len f k i → q_X11_isWay_28 (tz_j s) (tz_j len) (f (if i = 0 then len - 1 else i - 1)) (tz_j i) A = some (some (.int (tz_j 1)), A) := by
  intro k
  induction k with
  | zero =>
    intro i hi _
    have n1 : (tz_j len ≤ tz_j i) = True := nj_let (by omega) (by omega)
    rw [e_X11_isWay_28]
    simp only [tz_lit, nj_m1, nj_m2, nj_m3, nj_m4, nj_m5, nj_m6, nj_m7, ↓reduceIte, tz_bI_some, tz_bV_some, tz_bL_some, cj10, cj01, cjm0, eq_self, not_true_eq_false, not_false_eq_true, or_false, false_or, or_true, true_or, or_self, and_true, true_and, and_false, false_and, n1]
  | succ k ih =>
    intro i hi hw
    have n1 : (tz_j len ≤ tz_j i) = False := nj_lef (by omega) (by omega)
    obtain ⟨⟨h, hh, e⟩, hne, hr⟩ := hw
    have a1 := hf i (by omega)
    have a2 := x_hash1 h30 c hh (by omega)
    rw [← e] at a2
    have a3 : tz_j i + tz_j 1 = tz_j (i + 1) := nj_add
    have a4 := eq_false hne
    have a5 := ih (i + 1) (by omega) hr
    rw [if_neg (by omega), show i + 1 - 1 = i by omega] at a5
    rw [e_X11_isWay_28]
    simp only [tz_lit, nj_m1, nj_m2, nj_m3, nj_m4, nj_m5, nj_m6, nj_m7, ↓reduceIte, tz_bI_some, tz_bV_some, tz_bL_some, cj10, cj01, cjm0, eq_self, not_true_eq_false, not_false_eq_true, or_false, false_or, or_true, true_or, or_self, and_true, true_and, and_false, false_and, n1, a1, a2, a3, a4, a5]
theorem x_iw0 {s len : Nat} {S : tz_S} {A : tz_Mem} {f : Nat → Int32} (c : rx_c 30 S A) (h8 : S 1 0 ≤ 8) (hl : len ≤ 6) (hf : ∀ i, i < len → f_X8_number (tz_j s) (tz_j i) A = some (some (.int (f i)), A)) : ∀ k i, i + k = len → ¬ sp_iw (S 1 0) len f k i → q_X11_isWay_28 (tz_j s) (tz_j len) (f (if i = 0 then len - 1 else i - 1)) (tz_j i) A = some (some (.int (tz_j 0)), A) := by
  intro k
  induction k with
  | zero => exact fun i hi hw => absurd trivial hw
  | succ k ih =>
    intro i hi hw
    have n1 : (tz_j len ≤ tz_j i) = False := nj_lef (by omega) (by omega)
    have a1 := hf i (by omega)
    have a3 : tz_j i + tz_j 1 = tz_j (i + 1) := nj_add
    rcases nj_three (f i) (S 1 0) (by omega) with ⟨h, hh, e⟩ | h
    · have a2 := x_hash1 h30 c hh (by omega)
      rw [← e] at a2
      by_cases hne : f i = f (if i = 0 then len - 1 else i - 1)
      · have a4 := eq_true hne
        rw [e_X11_isWay_28]
        simp only [tz_lit, nj_m1, nj_m2, nj_m3, nj_m4, nj_m5, nj_m6, nj_m7, ↓reduceIte, tz_bI_some, tz_bV_some, tz_bL_some, cj10, cj01, cjm0, eq_self, not_true_eq_false, not_false_eq_true, or_false, false_or, or_true, true_or, or_self, and_true, true_and, and_false, false_and, n1, a1, a2, a3, a4]
      · have a4 := eq_false hne
        have a5 := ih (i + 1) (by omega) (fun y => hw ⟨⟨h, hh, e⟩, hne, y⟩)
        rw [if_neg (by omega), show i + 1 - 1 = i by omega] at a5
        rw [e_X11_isWay_28]
        simp only [tz_lit, nj_m1, nj_m2, nj_m3, nj_m4, nj_m5, nj_m6, nj_m7, ↓reduceIte, tz_bI_some, tz_bV_some, tz_bL_some, cj10, cj01, cjm0, eq_self, not_true_eq_false, not_false_eq_true, or_false, false_or, or_true, true_or, or_self, and_true, true_and, and_false, false_and, n1, a1, a2, a3, a4, a5]
    · have a2 := x_hash0 h30 c h (by omega)
      rw [e_X11_isWay_28]
      simp only [tz_lit, nj_m1, nj_m2, nj_m3, nj_m4, nj_m5, nj_m6, nj_m7, ↓reduceIte, tz_bI_some, tz_bV_some, tz_bL_some, cj10, cj01, cjm0, eq_self, not_true_eq_false, not_false_eq_true, or_false, false_or, or_true, true_or, or_self, and_true, true_and, and_false, false_and, n1, a1, a2, a3]
theorem x_cpn {s len : Nat} {f : Nat → Int32} (hs : s < 8) (hl : len ≤ 6) : ∀ k i A, i + k = len → (∀ j, j < len → Int64.toInt32 (tz_gl A (22 + s) j) = f j) → ∃ A', q_X8_copyNumbers_s155_3 (tz_j s) (tz_j len) (tz_j i) A = some (none, A') ∧ (∀ j, i ≤ j → j < len → tz_g A' 155 j = f j) ∧ tz_fx (fun k _ => k = 155) A A' ∧ ∀ j, j < i → tz_g A' 155 j = tz_g A 155 j := by
  intro k
  induction k with
  | zero =>
    intro i A hi hf
    have n1 : (tz_j len ≤ tz_j i) = True := nj_let (by omega) (by omega)
    refine ⟨A, ?_, fun j h1 h2 => by omega, fx_rfl, fun _ _ => rfl⟩
    rw [e_X8_copyNumbers_s155_3]
    simp only [tz_lit, nj_m1, nj_m2, nj_m3, nj_m4, nj_m5, nj_m6, nj_m7, ↓reduceIte, tz_bI_some, tz_bV_some, tz_bL_some, cj10, cj01, cjm0, eq_self, not_true_eq_false, not_false_eq_true, or_false, false_or, or_true, true_or, or_self, and_true, true_and, and_false, false_and, n1]
  | succ k ih =>
    intro i A hi hf
    have n1 : (tz_j len ≤ tz_j i) = False := nj_lef (by omega) (by omega)
    have n2 : (tz_j 6 ≤ tz_j i) = False := nj_lef (by omega) (by omega)
    have a1 := x_num (A := A) hs (show i < 160 by omega) (hf i (by omega))
    have n3 := nj_ix8 (s := i) (n := 6) (by omega) (by omega)
    have c1 : (tz_j i).toNatClampNeg = i := nj_cl (by omega)
    have a3 : tz_j i + tz_j 1 = tz_j (i + 1) := nj_add
    obtain ⟨A', e, g, ff, h⟩ := ih (i + 1) (tz_s A 155 i (f i)) (by omega) hf
    refine ⟨A', ?_, fun j h1 h2 => ?_, fx_tr (fx_s fx_rfl rfl) ff, fun j hj => (h j (by omega)).trans (tz_gsi (by omega))⟩
    · rw [e_X8_copyNumbers_s155_3]
      simp only [tz_lit, nj_m1, nj_m2, nj_m3, nj_m4, nj_m5, nj_m6, nj_m7, ↓reduceIte, tz_bI_some, tz_bV_some, tz_bL_some, cj10, cj01, cjm0, eq_self, not_true_eq_false, not_false_eq_true, or_false, false_or, or_true, true_or, or_self, and_true, true_and, and_false, false_and, n1, n2, n3, c1, a1, a3, e]
    · by_cases z : j = i
      · rw [z, h i (by omega), tz_gs1]
      · exact g j (by omega) h2
