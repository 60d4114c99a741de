/-! frames with ears; one sky becomes another; the model keeps a sky and has it again -/
def tz_fx (P : Nat → Nat → Prop) (A A' : tz_Mem) : Prop := A'.1 = A.1 ∧ A'.2.2.1 = A.2.2.1 ∧ (∀ k i, ¬ P k i → tz_g A' k i = tz_g A k i) ∧ ∀ k i, ¬ (P k i ∧ tz_sky k ∧ i = 7) → tz_gr A' k i = tz_gr A k i
theorem fx_rfl {P : Nat → Nat → Prop} {A : tz_Mem} : tz_fx P A A := ⟨rfl, rfl, fun _ _ _ => rfl, fun _ _ _ => rfl⟩
theorem fx_tr {P : Nat → Nat → Prop} {A B C : tz_Mem} (h1 : tz_fx P A B) (h2 : tz_fx P B C) : tz_fx P A C := ⟨h2.1.trans h1.1, h2.2.1.trans h1.2.1, fun k i hp => (h2.2.2.1 k i hp).trans (h1.2.2.1 k i hp), fun k i hp => (h2.2.2.2 k i hp).trans (h1.2.2.2 k i hp)⟩
theorem fx_mo {P Q : Nat → Nat → Prop} {A B : tz_Mem} (h1 : tz_fx P A B) (h : ∀ k i, P k i → Q k i) : tz_fx Q A B := ⟨h1.1, h1.2.1, fun k i hq => h1.2.2.1 k i (fun p => hq (h k i p)), fun k i hq => h1.2.2.2 k i (fun p => hq ⟨h k i p.1, p.2⟩)⟩
theorem fx_fr {P : Nat → Nat → Prop} {A B : tz_Mem} (h1 : tz_fr P A B) : tz_fx P A B := ⟨h1.1, by rw [h1.2.1], h1.2.2, fun _ _ _ => fr_gr h1⟩
theorem fx_s {P : Nat → Nat → Prop} {A B : tz_Mem} {k i : Nat} {v : Int32} (h1 : tz_fx P A B) (hp : P k i) : tz_fx P A (tz_s B k i v) := ⟨h1.1, h1.2.1, fun k' i' hq => (if_neg (fun q => hq (by rw [q.1, q.2]; exact hp))).trans (h1.2.2.1 k' i' hq), h1.2.2.2⟩
theorem fx_sr {P : Nat → Nat → Prop} {A B : tz_Mem} {k v : Nat} (h1 : tz_fx P A B) (hp : P k 7) (hs : tz_sky k) : tz_fx P A (tz_sr B k 7 v) := ⟨h1.1, h1.2.1, h1.2.2.1, fun k' i' hq => (if_neg (fun q => hq (by rw [q.1, q.2]; exact ⟨hp, hs, rfl⟩))).trans (h1.2.2.2 k' i' hq)⟩
theorem fx_cp {P : Nat → Nat → Prop} {A B : tz_Mem} {k1 k2 n : Nat} (h1 : tz_fx P A B) (hp : ∀ i, i < n → P k2 i) : tz_fx P A (tz_cp B k1 0 k2 0 n) := ⟨h1.1, h1.2.1, fun k' i' hq => (if_neg (fun q => hq (by rw [q.1]; exact hp i' (by have := q.2.2; omega)))).trans (h1.2.2.1 k' i' hq), h1.2.2.2⟩
theorem fx_con {P : Nat → Nat → Prop} {A B : tz_Mem} (h1 : tz_fx P A B) (h : tz_con A) : tz_con B := by
  refine ⟨by rw [h1.1]; exact h.1, fun k f a b c => ?_⟩
  rw [h1.2.2.2 k f (fun q => ?_)]
  · exact h.2 k f a b c
  · obtain ⟨_, hs, rfl⟩ := q
    rcases hs with rfl | rfl | rfl | rfl | rfl <;> exact absurd c (by decide)
theorem fx_sc {P : Nat → Nat → Prop} {A B : tz_Mem} (h1 : tz_fx P A B) (h : ∀ i, ¬ P 0 i) : tz_sc A B := ⟨h1.2.2.2 0 0 (fun q => h 0 q.1), fun i => h1.2.2.1 0 i (h i)⟩
theorem tz_gcp {A : tz_Mem} {k1 k2 n i : Nat} (h : i < n) : tz_g (tz_cp A k1 0 k2 0 n) k2 i = tz_g A k1 i := by
  show (if k2 = k2 ∧ (0 ≤ i ∧ i < 0 + n) then A.2.1 k1 (0 + (i - 0)) else A.2.1 k2 i) = A.2.1 k1 i
  rw [if_pos ⟨rfl, by omega, by omega⟩, Nat.sub_zero, Nat.zero_add]
theorem tz_gck {A : tz_Mem} {k k1 k2 n i : Nat} (h : k ≠ k2) : tz_g (tz_cp A k1 0 k2 0 n) k i = tz_g A k i := if_neg (fun q => h q.1)
theorem tz_gsr {A : tz_Mem} {k i k' i' v : Nat} : tz_g (tz_sr A k' i' v) k i = tz_g A k i := rfl
def bc_r (k i : Nat) : Prop := (k = 0 ∧ 3 ≤ i ∧ i ≤ 5) ∨ ((k = 1 ∨ k = 7 ∨ k = 15) ∧ i = 0) ∨ ((k = 2 ∨ k = 3 ∨ k = 4 ∨ k = 5) ∧ i < 8) ∨ (k = 6 ∧ i < 64) ∨ (((8 ≤ k ∧ k ≤ 11) ∨ k = 13 ∨ k = 14) ∧ i < 4) ∨ (k = 12 ∧ i < 24) ∨ ((16 ≤ k ∧ k ≤ 22) ∧ i < 12)
def bc_p (b : Nat) (k _i : Nat) : Prop := b ≤ k ∧ k < b + 23


theorem x_become {b b2 : Nat} (hb : tz_sky b) (hb2 : tz_sky b2) (hd : b + 23 ≤ b2 ∨ b2 + 23 ≤ b) (A : tz_Mem) : ∃ A', f_X9_become b b2 A = some (none, A') ∧ (∀ k i, bc_r k i → tz_g A' (b + k) i = tz_g A (b2 + k) i) ∧ tz_g A' b 6 = tz_j 4294967295 ∧ tz_gr A' b 7 = 0 ∧ tz_fx (bc_p b) A A' := by
  rw [e_X9_become _ _ hb hb2, e_X3_become _ _ hb hb2, tz_bV_some, e_X10_become _ _ hb hb2, tz_bV_some, e_X4_become _ _ hb hb2, tz_bV_some]
  refine ⟨_, rfl, fun k i hk => ?_, ?_, ?_, ?_⟩
  · unfold bc_r at hk
    have hk2 : k = 0 ∨ k = 1 ∨ k = 2 ∨ k = 3 ∨ k = 4 ∨ k = 5 ∨ k = 6 ∨ k = 7 ∨ k = 8 ∨ k = 9 ∨ k = 10 ∨ k = 11 ∨ k = 12 ∨ k = 13 ∨ k = 14 ∨ k = 15 ∨ k = 16 ∨ k = 17 ∨ k = 18 ∨ k = 19 ∨ k = 20 ∨ k = 21 ∨ k = 22 := by omega
    rcases hk2 with rfl | rfl | rfl | rfl | rfl | rfl | rfl | rfl | rfl | rfl | rfl | rfl | rfl | rfl | rfl | rfl | rfl | rfl | rfl | rfl | rfl | rfl | rfl
    · have hi : i = 3 ∨ i = 4 ∨ i = 5 := by omega
      rcases hi with rfl | rfl | rfl <;> simp (disch := omega) only [Nat.add_zero, tz_gsr, tz_gs1, tz_gsi, tz_gsk, tz_gck]

    · obtain rfl : i = 0 := by omega
      simp (disch := omega) only [tz_gsr, tz_gs1, tz_gsk, tz_gck, tz_gcp]
    · have hi : i < 8 := by omega
      simp (disch := omega) only [tz_gsr, tz_gsk, tz_gck, tz_gcp]
    · have hi : i < 8 := by omega
      simp (disch := omega) only [tz_gsr, tz_gsk, tz_gck, tz_gcp]
    · have hi : i < 8 := by omega
      simp (disch := omega) only [tz_gsr, tz_gsk, tz_gck, tz_gcp]
    · have hi : i < 8 := by omega
      simp (disch := omega) only [tz_gsr, tz_gsk, tz_gck, tz_gcp]
    · have hi : i < 64 := by omega
      simp (disch := omega) only [tz_gsr, tz_gsk, tz_gck, tz_gcp]
    · obtain rfl : i = 0 := by omega
      simp (disch := omega) only [tz_gsr, tz_gs1, tz_gsk, tz_gck, tz_gcp]
    · have hi : i < 4 := by omega
      simp (disch := omega) only [tz_gsr, tz_gsk, tz_gck, tz_gcp]
    · have hi : i < 4 := by omega
      simp (disch := omega) only [tz_gsr, tz_gsk, tz_gck, tz_gcp]
    · have hi : i < 4 := by omega
      simp (disch := omega) only [tz_gsr, tz_gsk, tz_gck, tz_gcp]
    · have hi : i < 4 := by omega
      simp (disch := omega) only [tz_gsr, tz_gsk, tz_gck, tz_gcp]
    · have hi : i < 24 := by omega
      simp (disch := omega) only [tz_gsr, tz_gsk, tz_gck, tz_gcp]
    · have hi : i < 4 := by omega
      simp (disch := omega) only [tz_gsr, tz_gsk, tz_gck, tz_gcp]
    · have hi : i < 4 := by omega
      simp (disch := omega) only [tz_gsr, tz_gsk, tz_gck, tz_gcp]
    · obtain rfl : i = 0 := by omega
      simp (disch := omega) only [tz_gsr, tz_gs1, tz_gsk, tz_gck, tz_gcp]
    · have hi : i < 12 := by omega
      simp (disch := omega) only [tz_gsr, tz_gsk, tz_gck, tz_gcp]
    · have hi : i < 12 := by omega
      simp (disch := omega) only [tz_gsr, tz_gsk, tz_gck, tz_gcp]
    · have hi : i < 12 := by omega
      simp (disch := omega) only [tz_gsr, tz_gsk, tz_gck, tz_gcp]
    · have hi : i < 12 := by omega
      simp (disch := omega) only [tz_gsr, tz_gsk, tz_gck, tz_gcp]
    · have hi : i < 12 := by omega
      simp (disch := omega) only [tz_gsr, tz_gsk, tz_gck, tz_gcp]
    · have hi : i < 12 := by omega
      simp (disch := omega) only [tz_gsr, tz_gsk, tz_gck, tz_gcp]
    · have hi : i < 12 := by omega
      simp (disch := omega) only [tz_gsr, tz_gsk, tz_gck, tz_gcp]
  · rw [tz_gsr, tz_gs1]
    exact nj_m1
  · exact if_pos ⟨rfl, rfl⟩
  · refine fx_sr (fx_s (fx_s (fx_s (fx_s ?_ ?_) ?_) ?_) ?_) ?_ hb
    all_goals first | (unfold bc_p; omega) | skip
    refine fx_cp (fx_cp (fx_cp (fx_cp (fx_cp (fx_cp (fx_cp (fx_s ?_ ?_) ?_) ?_) ?_) ?_) ?_) ?_) ?_
    all_goals first | (unfold bc_p; intros; omega) | (unfold bc_p; omega) | skip
    refine fx_cp (fx_cp (fx_cp (fx_cp (fx_cp (fx_cp (fx_cp (fx_s ?_ ?_) ?_) ?_) ?_) ?_) ?_) ?_) ?_
    all_goals first | (unfold bc_p; intros; omega) | (unfold bc_p; omega) | skip
    refine fx_cp (fx_cp (fx_cp (fx_cp (fx_cp (fx_s fx_rfl ?_) ?_) ?_) ?_) ?_) ?_
    all_goals (unfold bc_p; intros; omega)
/-- a sky at rest: no storm is thought away, nobody listens -/
def sp_st (S : tz_S) : Prop := S 0 6 = 4294967295 ∧ S 200 0 = 0
theorem rx_bc {b b2 : Nat} {S : tz_S} {A A' : tz_Mem} (W : sp_W1 S) (hst : sp_st S) (r : rx b2 99 S A) (e : ∀ k i, bc_r k i → tz_g A' (b + k) i = tz_g A (b2 + k) i) (e6 : tz_g A' b 6 = tz_j 4294967295) (e7 : tz_gr A' b 7 = 0) : rx b 99 S A' := by
  have h8 := W.1
  have h4 := W.2.1
  obtain ⟨c, l, kk, ww, ee⟩ := r
  refine ⟨fun k i hp => ?_, fun h hh => ?_, fun t ht hx => ?_, fun h hh j h1 h2 => ?_, ?_, ?_, ?_, ?_⟩
  · by_cases z : k = 0 ∧ i = 6
    · rw [z.1, z.2, hst.1]
      exact e6
    · rw [e k i (by unfold rx_pl at hp; unfold bc_r; omega)]
      exact c k i hp
  · rw [e 4 h (by unfold bc_r; omega)]
    exact l h hh
  · rw [e 14 t (by unfold bc_r; omega)]
    exact kk t ht hx
  · rw [e 6 _ (by unfold bc_r; omega)]
    exact ww h hh j h1 h2
  · rw [e7, hst.2]
    rfl
  · intro q
    rw [hst.2] at q
    omega
  · intro q
    rw [hst.2] at q
    omega
  · intro q
    rw [hst.2] at q
    omega
theorem x_bec2 {b b2 : Nat} {S : tz_S} {A : tz_Mem} (hb : tz_sky b) (hb2 : tz_sky b2) (hd : b + 23 ≤ b2 ∨ b2 + 23 ≤ b) (W : sp_W1 S) (hst : sp_st S) (r : rx b2 99 S A) : ∃ A', f_X9_become b b2 A = some (none, A') ∧ rx b 99 S A' ∧ tz_fx (bc_p b) A A' := by
  obtain ⟨A', e, h1, h2, h3, f⟩ := x_become hb hb2 hd A
  exact ⟨A', e, rx_bc W hst r h1 h2 h3, f⟩

/-- which cell is kept in which place -/
def kp_r (q i j : Nat) : Prop := (q = 161 ∧ i < 8 ∧ j = 0 + i) ∨ (q = 162 ∧ i < 8 ∧ j = 8 + i) ∨ (q = 163 ∧ i < 8 ∧ j = 16 + i) ∨ (q = 164 ∧ i < 64 ∧ j = 24 + i) ∨ (q = 165 ∧ i < 4 ∧ j = 88 + i) ∨ (q = 167 ∧ i < 4 ∧ j = 92 + i) ∨ (q = 168 ∧ i < 4 ∧ j = 96 + i) ∨ (q = 169 ∧ i < 4 ∧ j = 100 + i) ∨ (q = 170 ∧ i < 4 ∧ j = 104 + i) ∨ (q = 166 ∧ i < 24 ∧ j = 108 + i) ∨ (q = 171 ∧ i < 12 ∧ j = 132 + i) ∨ (q = 172 ∧ i < 12 ∧ j = 144 + i) ∨ (q = 173 ∧ i < 12 ∧ j = 156 + i) ∨ (q = 174 ∧ i < 12 ∧ j = 168 + i) ∨ (q = 175 ∧ i < 12 ∧ j = 180 + i) ∨ (q = 176 ∧ i < 12 ∧ j = 192 + i) ∨ (q = 157 ∧ i = 3 ∧ j = 204) ∨ (q = 157 ∧ i = 8 ∧ j = 205) ∨ (q = 157 ∧ i = 15 ∧ j = 206) ∨ (q = 157 ∧ i = 22 ∧ j = 207) ∨ (q = 157 ∧ i = 23 ∧ j = 208) ∨ (q = 157 ∧ i = 24 ∧ j = 209) ∨ (q = 157 ∧ i = 25 ∧ j = 210)
def kp_d (k i : Nat) : Prop := (k = 161 ∧ i < 8) ∨ (k = 162 ∧ i < 8) ∨ (k = 163 ∧ i < 8) ∨ (k = 164 ∧ i < 64) ∨ (k = 165 ∧ i < 4) ∨ (k = 167 ∧ i < 4) ∨ (k = 168 ∧ i < 4) ∨ (k = 169 ∧ i < 4) ∨ (k = 170 ∧ i < 4) ∨ (k = 166 ∧ i < 24) ∨ (k = 171 ∧ i < 12) ∨ (k = 172 ∧ i < 12) ∨ (k = 173 ∧ i < 12) ∨ (k = 174 ∧ i < 12) ∨ (k = 175 ∧ i < 12) ∨ (k = 176 ∧ i < 12) ∨ (k = 157 ∧ (i = 3 ∨ i = 8 ∨ i = 15 ∨ (22 ≤ i ∧ i ≤ 25)))
theorem keep_179_2 : ∀ k i A, i + k = 8 → ∃ A', q_X12_keep_s179_2 (tz_j i) A = q_X12_keep_s179_49 (tz_j 0) A' ∧ (∀ h, i ≤ h → h < 8 → tz_g A' 179 (0 + h) = tz_g A 161 h ∧ tz_g A' 179 (8 + h) = tz_g A 162 h ∧ tz_g A' 179 (16 + h) = tz_g A 163 h) ∧ A'.1 = A.1 ∧ A'.2.2 = A.2.2 ∧ (∀ k' i', ¬ (k' = 179 ∧ ((0 + i ≤ i' ∧ i' < 8) ∨ (8 + i ≤ i' ∧ i' < 16) ∨ (16 + i ≤ i' ∧ i' < 24))) → tz_g A' k' i' = tz_g A k' i') := by
  intro k
  induction k with
  | zero =>
    intro i A hi
    obtain rfl : i = 8 := by omega
    refine ⟨A, ?_, fun h a b => by omega, rfl, rfl, fun _ _ _ => rfl⟩
    rw [e_X12_keep_s179_2]
    simp (disch := omega) only [tz_lit, nj_m1, ↓reduceIte, nj_cl, nj_ltt, nj_ltf, nj_let, nj_lef, nj_eqf, nj_lt, nj_le, nj_eq, nj_add, nj_mul, nj_mod, nj_and7, nj_div, tz_bI_some, tz_bV_some, or_false, false_or, or_self, and_false, false_and, and_true, true_and, not_true_eq_false, not_false_eq_true, nt_lef, nt_let, nt_ltf, nt_ltt, nt_eqf]
  | succ k ih =>
    intro i A hi
    obtain ⟨A', e, g, f1, f2, f3⟩ := ih (i + 1) (tz_s (tz_s (tz_s A 179 i (tz_g A 161 i)) 179 (8 + i) (tz_g A 162 i)) 179 (16 + i) (tz_g A 163 i)) (by omega)
    refine ⟨A', ?_, fun h a b => ?_, f1, f2, fun k' i' hk => ?_⟩
    · rw [← e, e_X12_keep_s179_2 (tz_j i)]
      simp (disch := omega) only [tz_lit, nj_m1, ↓reduceIte, nj_cl, nj_ltt, nj_ltf, nj_let, nj_lef, nj_eqf, nj_lt, nj_le, nj_eq, nj_add, nj_mul, nj_mod, nj_and7, nj_div, tz_bI_some, tz_bV_some, or_false, false_or, or_self, and_false, false_and, and_true, true_and, not_true_eq_false, not_false_eq_true, nt_lef, nt_let, nt_ltf, nt_ltt, nt_eqf, tz_gsk, Nat.zero_add]
    · by_cases z : h = i
      · subst z
        refine ⟨?_, ?_⟩
        · rw [f3 _ _ (by omega)]
          simp (disch := omega) only [tz_gs1, tz_gsi, Nat.zero_add]
        refine ⟨?_, ?_⟩
        · rw [f3 _ _ (by omega)]
          simp (disch := omega) only [tz_gs1, tz_gsi, Nat.zero_add]
        · rw [f3 _ _ (by omega)]
          simp (disch := omega) only [tz_gs1, tz_gsi, Nat.zero_add]
      · have g2 := g h (by omega) b
        simp (disch := omega) only [tz_gsk, tz_gsi] at g2
        exact g2
    · rw [f3 k' i' (by omega)]
      simp only [tz_gS]
      repeat rw [if_neg (by omega)]
theorem keep_179_49 : ∀ k i A, i + k = 64 → ∃ A', q_X12_keep_s179_49 (tz_j i) A = q_X12_keep_s179_75 (tz_j 0) A' ∧ (∀ h, i ≤ h → h < 64 → tz_g A' 179 (24 + h) = tz_g A 164 h) ∧ A'.1 = A.1 ∧ A'.2.2 = A.2.2 ∧ (∀ k' i', ¬ (k' = 179 ∧ ((24 + i ≤ i' ∧ i' < 88))) → tz_g A' k' i' = tz_g A k' i') := by
  intro k
  induction k with
  | zero =>
    intro i A hi
    obtain rfl : i = 64 := by omega
    refine ⟨A, ?_, fun h a b => by omega, rfl, rfl, fun _ _ _ => rfl⟩
    rw [e_X12_keep_s179_49]
    simp (disch := omega) only [tz_lit, nj_m1, ↓reduceIte, nj_cl, nj_ltt, nj_ltf, nj_let, nj_lef, nj_eqf, nj_lt, nj_le, nj_eq, nj_add, nj_mul, nj_mod, nj_and7, nj_div, tz_bI_some, tz_bV_some, or_false, false_or, or_self, and_false, false_and, and_true, true_and, not_true_eq_false, not_false_eq_true, nt_lef, nt_let, nt_ltf, nt_ltt, nt_eqf]
  | succ k ih =>
    intro i A hi
    obtain ⟨A', e, g, f1, f2, f3⟩ := ih (i + 1) (tz_s A 179 (24 + i) (tz_g A 164 i)) (by omega)
    refine ⟨A', ?_, fun h a b => ?_, f1, f2, fun k' i' hk => ?_⟩
    · rw [← e, e_X12_keep_s179_49 (tz_j i)]
      simp (disch := omega) only [tz_lit, nj_m1, ↓reduceIte, nj_cl, nj_ltt, nj_ltf, nj_let, nj_lef, nj_eqf, nj_lt, nj_le, nj_eq, nj_add, nj_mul, nj_mod, nj_and7, nj_div, tz_bI_some, tz_bV_some, or_false, false_or, or_self, and_false, false_and, and_true, true_and, not_true_eq_false, not_false_eq_true, nt_lef, nt_let, nt_ltf, nt_ltt, nt_eqf, tz_gsk, Nat.zero_add]
    · by_cases z : h = i
      · subst z
        rw [f3 _ _ (by omega)]
        simp (disch := omega) only [tz_gs1, tz_gsi, Nat.zero_add]
      · have g2 := g h (by omega) b
        simp (disch := omega) only [tz_gsk, tz_gsi] at g2
        exact g2
    · rw [f3 k' i' (by omega)]
      simp only [tz_gS]
      repeat rw [if_neg (by omega)]
theorem keep_179_75 : ∀ k i A, i + k = 4 → ∃ A', q_X12_keep_s179_75 (tz_j i) A = q_X12_keep_s179_148 (tz_j 0) A' ∧ (∀ h, i ≤ h → h < 4 → tz_g A' 179 (88 + h) = tz_g A 165 h ∧ tz_g A' 179 (92 + h) = tz_g A 167 h ∧ tz_g A' 179 (96 + h) = tz_g A 168 h ∧ tz_g A' 179 (100 + h) = tz_g A 169 h ∧ tz_g A' 179 (104 + h) = tz_g A 170 h) ∧ A'.1 = A.1 ∧ A'.2.2 = A.2.2 ∧ (∀ k' i', ¬ (k' = 179 ∧ ((88 + i ≤ i' ∧ i' < 92) ∨ (92 + i ≤ i' ∧ i' < 96) ∨ (96 + i ≤ i' ∧ i' < 100) ∨ (100 + i ≤ i' ∧ i' < 104) ∨ (104 + i ≤ i' ∧ i' < 108))) → tz_g A' k' i' = tz_g A k' i') := by
  intro k
  induction k with
  | zero =>
    intro i A hi
    obtain rfl : i = 4 := by omega
    refine ⟨A, ?_, fun h a b => by omega, rfl, rfl, fun _ _ _ => rfl⟩
    rw [e_X12_keep_s179_75]
    simp (disch := omega) only [tz_lit, nj_m1, ↓reduceIte, nj_cl, nj_ltt, nj_ltf, nj_let, nj_lef, nj_eqf, nj_lt, nj_le, nj_eq, nj_add, nj_mul, nj_mod, nj_and7, nj_div, tz_bI_some, tz_bV_some, or_false, false_or, or_self, and_false, false_and, and_true, true_and, not_true_eq_false, not_false_eq_true, nt_lef, nt_let, nt_ltf, nt_ltt, nt_eqf]
  | succ k ih =>
    intro i A hi
    obtain ⟨A', e, g, f1, f2, f3⟩ := ih (i + 1) (tz_s (tz_s (tz_s (tz_s (tz_s A 179 (88 + i) (tz_g A 165 i)) 179 (92 + i) (tz_g A 167 i)) 179 (96 + i) (tz_g A 168 i)) 179 (100 + i) (tz_g A 169 i)) 179 (104 + i) (tz_g A 170 i)) (by omega)
    refine ⟨A', ?_, fun h a b => ?_, f1, f2, fun k' i' hk => ?_⟩
    · rw [← e, e_X12_keep_s179_75 (tz_j i)]
      simp (disch := omega) only [tz_lit, nj_m1, ↓reduceIte, nj_cl, nj_ltt, nj_ltf, nj_let, nj_lef, nj_eqf, nj_lt, nj_le, nj_eq, nj_add, nj_mul, nj_mod, nj_and7, nj_div, tz_bI_some, tz_bV_some, or_false, false_or, or_self, and_false, false_and, and_true, true_and, not_true_eq_false, not_false_eq_true, nt_lef, nt_let, nt_ltf, nt_ltt, nt_eqf, tz_gsk, Nat.zero_add]
    · by_cases z : h = i
      · subst z
        refine ⟨?_, ?_⟩
        · rw [f3 _ _ (by omega)]
          simp (disch := omega) only [tz_gs1, tz_gsi, Nat.zero_add]
        refine ⟨?_, ?_⟩
        · rw [f3 _ _ (by omega)]
          simp (disch := omega) only [tz_gs1, tz_gsi, Nat.zero_add]
        refine ⟨?_, ?_⟩
        · rw [f3 _ _ (by omega)]
          simp (disch := omega) only [tz_gs1, tz_gsi, Nat.zero_add]
        refine ⟨?_, ?_⟩
        · rw [f3 _ _ (by omega)]
          simp (disch := omega) only [tz_gs1, tz_gsi, Nat.zero_add]
        · rw [f3 _ _ (by omega)]
          simp (disch := omega) only [tz_gs1, tz_gsi, Nat.zero_add]
      · have g2 := g h (by omega) b
        simp (disch := omega) only [tz_gsk, tz_gsi] at g2
        exact g2
    · rw [f3 k' i' (by omega)]
      simp only [tz_gS]
      repeat rw [if_neg (by omega)]
theorem keep_179_148 : ∀ k i A, i + k = 24 → ∃ A', q_X12_keep_s179_148 (tz_j i) A = q_X12_keep_s179_174 (tz_j 0) A' ∧ (∀ h, i ≤ h → h < 24 → tz_g A' 179 (108 + h) = tz_g A 166 h) ∧ A'.1 = A.1 ∧ A'.2.2 = A.2.2 ∧ (∀ k' i', ¬ (k' = 179 ∧ ((108 + i ≤ i' ∧ i' < 132))) → tz_g A' k' i' = tz_g A k' i') := by
  intro k
  induction k with
  | zero =>
    intro i A hi
    obtain rfl : i = 24 := by omega
    refine ⟨A, ?_, fun h a b => by omega, rfl, rfl, fun _ _ _ => rfl⟩
    rw [e_X12_keep_s179_148]
    simp (disch := omega) only [tz_lit, nj_m1, ↓reduceIte, nj_cl, nj_ltt, nj_ltf, nj_let, nj_lef, nj_eqf, nj_lt, nj_le, nj_eq, nj_add, nj_mul, nj_mod, nj_and7, nj_div, tz_bI_some, tz_bV_some, or_false, false_or, or_self, and_false, false_and, and_true, true_and, not_true_eq_false, not_false_eq_true, nt_lef, nt_let, nt_ltf, nt_ltt, nt_eqf]
  | succ k ih =>
    intro i A hi
    obtain ⟨A', e, g, f1, f2, f3⟩ := ih (i + 1) (tz_s A 179 (108 + i) (tz_g A 166 i)) (by omega)
    refine ⟨A', ?_, fun h a b => ?_, f1, f2, fun k' i' hk => ?_⟩
    · rw [← e, e_X12_keep_s179_148 (tz_j i)]
      simp (disch := omega) only [tz_lit, nj_m1, ↓reduceIte, nj_cl, nj_ltt, nj_ltf, nj_let, nj_lef, nj_eqf, nj_lt, nj_le, nj_eq, nj_add, nj_mul, nj_mod, nj_and7, nj_div, tz_bI_some, tz_bV_some, or_false, false_or, or_self, and_false, false_and, and_true, true_and, not_true_eq_false, not_false_eq_true, nt_lef, nt_let, nt_ltf, nt_ltt, nt_eqf, tz_gsk, Nat.zero_add]
    · by_cases z : h = i
      · subst z
        rw [f3 _ _ (by omega)]
        simp (disch := omega) only [tz_gs1, tz_gsi, Nat.zero_add]
      · have g2 := g h (by omega) b
        simp (disch := omega) only [tz_gsk, tz_gsi] at g2
        exact g2
    · rw [f3 k' i' (by omega)]
      simp only [tz_gS]
      repeat rw [if_neg (by omega)]
theorem keep_179_174 : ∀ k i A, i + k = 12 → ∃ A', q_X12_keep_s179_174 (tz_j i) A = q_X12_keep_s179_174 (tz_j 12) A' ∧ (∀ h, i ≤ h → h < 12 → tz_g A' 179 (132 + h) = tz_g A 171 h ∧ tz_g A' 179 (144 + h) = tz_g A 172 h ∧ tz_g A' 179 (156 + h) = tz_g A 173 h ∧ tz_g A' 179 (168 + h) = tz_g A 174 h ∧ tz_g A' 179 (180 + h) = tz_g A 175 h ∧ tz_g A' 179 (192 + h) = tz_g A 176 h) ∧ A'.1 = A.1 ∧ A'.2.2 = A.2.2 ∧ (∀ k' i', ¬ (k' = 179 ∧ ((132 + i ≤ i' ∧ i' < 144) ∨ (144 + i ≤ i' ∧ i' < 156) ∨ (156 + i ≤ i' ∧ i' < 168) ∨ (168 + i ≤ i' ∧ i' < 180) ∨ (180 + i ≤ i' ∧ i' < 192) ∨ (192 + i ≤ i' ∧ i' < 204))) → tz_g A' k' i' = tz_g A k' i') := by
  intro k
  induction k with
  | zero =>
    intro i A hi
    obtain rfl : i = 12 := by omega
    refine ⟨A, ?_, fun h a b => by omega, rfl, rfl, fun _ _ _ => rfl⟩
    rfl
  | succ k ih =>
    intro i A hi
    obtain ⟨A', e, g, f1, f2, f3⟩ := ih (i + 1) (tz_s (tz_s (tz_s (tz_s (tz_s (tz_s A 179 (132 + i) (tz_g A 171 i)) 179 (144 + i) (tz_g A 172 i)) 179 (156 + i) (tz_g A 173 i)) 179 (168 + i) (tz_g A 174 i)) 179 (180 + i) (tz_g A 175 i)) 179 (192 + i) (tz_g A 176 i)) (by omega)
    refine ⟨A', ?_, fun h a b => ?_, f1, f2, fun k' i' hk => ?_⟩
    · rw [← e, e_X12_keep_s179_174 (tz_j i)]
      simp (disch := omega) only [tz_lit, nj_m1, ↓reduceIte, nj_cl, nj_ltt, nj_ltf, nj_let, nj_lef, nj_eqf, nj_lt, nj_le, nj_eq, nj_add, nj_mul, nj_mod, nj_and7, nj_div, tz_bI_some, tz_bV_some, or_false, false_or, or_self, and_false, false_and, and_true, true_and, not_true_eq_false, not_false_eq_true, nt_lef, nt_let, nt_ltf, nt_ltt, nt_eqf, tz_gsk, Nat.zero_add]
    · by_cases z : h = i
      · subst z
        refine ⟨?_, ?_⟩
        · rw [f3 _ _ (by omega)]
          simp (disch := omega) only [tz_gs1, tz_gsi, Nat.zero_add]
        refine ⟨?_, ?_⟩
        · rw [f3 _ _ (by omega)]
          simp (disch := omega) only [tz_gs1, tz_gsi, Nat.zero_add]
        refine ⟨?_, ?_⟩
        · rw [f3 _ _ (by omega)]
          simp (disch := omega) only [tz_gs1, tz_gsi, Nat.zero_add]
        refine ⟨?_, ?_⟩
        · rw [f3 _ _ (by omega)]
          simp (disch := omega) only [tz_gs1, tz_gsi, Nat.zero_add]
        refine ⟨?_, ?_⟩
        · rw [f3 _ _ (by omega)]
          simp (disch := omega) only [tz_gs1, tz_gsi, Nat.zero_add]
        · rw [f3 _ _ (by omega)]
          simp (disch := omega) only [tz_gs1, tz_gsi, Nat.zero_add]
      · have g2 := g h (by omega) b
        simp (disch := omega) only [tz_gsk, tz_gsi] at g2
        exact g2
    · rw [f3 k' i' (by omega)]
      simp only [tz_gS]
      repeat rw [if_neg (by omega)]
theorem m_keep_179 (A : tz_Mem) : ∃ A', f_X12_keep_s179 A = some (none, A') ∧ (∀ q i j, kp_r q i j → tz_g A' 179 j = tz_g A q i) ∧ A'.1 = A.1 ∧ A'.2.2 = A.2.2 ∧ (∀ k i, ¬ (k = 179 ∧ i < 211) → tz_g A' k i = tz_g A k i) := by
  obtain ⟨A1, e1, g1, a1, b1, f1⟩ := keep_179_2 8 0 A (Nat.zero_add _)
  obtain ⟨A2, e2, g2, a2, b2, f2⟩ := keep_179_49 64 0 A1 (Nat.zero_add _)
  obtain ⟨A3, e3, g3, a3, b3, f3⟩ := keep_179_75 4 0 A2 (Nat.zero_add _)
  obtain ⟨A4, e4, g4, a4, b4, f4⟩ := keep_179_148 24 0 A3 (Nat.zero_add _)
  obtain ⟨A5, e5, g5, a5, b5, f5⟩ := keep_179_174 12 0 A4 (Nat.zero_add _)
  refine ⟨(tz_s (tz_s (tz_s (tz_s (tz_s (tz_s (tz_s A5 179 204 (tz_g A5 157 3)) 179 205 (tz_g A5 157 8)) 179 206 (tz_g A5 157 15)) 179 207 (tz_g A5 157 22)) 179 208 (tz_g A5 157 23)) 179 209 (tz_g A5 157 24)) 179 210 (tz_g A5 157 25)), ?_, fun q i j hq => ?_, by rw [← a1, ← a2, ← a3, ← a4, ← a5]; rfl, by rw [← b1, ← b2, ← b3, ← b4, ← b5]; rfl, fun k i hk => ?_⟩
  · rw [e_X12_keep_s179]
    refine e1.trans (e2.trans (e3.trans (e4.trans (e5.trans ?_))))
    rw [e_X12_keep_s179_174]
    simp (disch := omega) only [tz_lit, nj_m1, ↓reduceIte, nj_cl, nj_ltt, nj_ltf, nj_let, nj_lef, nj_eqf, nj_lt, nj_le, nj_eq, nj_add, nj_mul, nj_mod, nj_and7, nj_div, tz_bI_some, tz_bV_some, or_false, false_or, or_self, and_false, false_and, and_true, true_and, not_true_eq_false, not_false_eq_true, nt_lef, nt_let, nt_ltf, nt_ltt, nt_eqf, tz_gsk, tz_gsi]
  · unfold kp_r at hq
    rcases hq with ⟨rfl, hi, rfl⟩ | ⟨rfl, hi, rfl⟩ | ⟨rfl, hi, rfl⟩ | ⟨rfl, hi, rfl⟩ | ⟨rfl, hi, rfl⟩ | ⟨rfl, hi, rfl⟩ | ⟨rfl, hi, rfl⟩ | ⟨rfl, hi, rfl⟩ | ⟨rfl, hi, rfl⟩ | ⟨rfl, hi, rfl⟩ | ⟨rfl, hi, rfl⟩ | ⟨rfl, hi, rfl⟩ | ⟨rfl, hi, rfl⟩ | ⟨rfl, hi, rfl⟩ | ⟨rfl, hi, rfl⟩ | ⟨rfl, hi, rfl⟩ | ⟨rfl, rfl, rfl⟩ | ⟨rfl, rfl, rfl⟩ | ⟨rfl, rfl, rfl⟩ | ⟨rfl, rfl, rfl⟩ | ⟨rfl, rfl, rfl⟩ | ⟨rfl, rfl, rfl⟩ | ⟨rfl, rfl, rfl⟩
    · simp (disch := omega) only [tz_gsi]
      rw [f5 _ _ (by omega), f4 _ _ (by omega), f3 _ _ (by omega), f2 _ _ (by omega), (g1 i (Nat.zero_le _) hi).1]
    · simp (disch := omega) only [tz_gsi]
      rw [f5 _ _ (by omega), f4 _ _ (by omega), f3 _ _ (by omega), f2 _ _ (by omega), (g1 i (Nat.zero_le _) hi).2.1]
    · simp (disch := omega) only [tz_gsi]
      rw [f5 _ _ (by omega), f4 _ _ (by omega), f3 _ _ (by omega), f2 _ _ (by omega), (g1 i (Nat.zero_le _) hi).2.2]
    · simp (disch := omega) only [tz_gsi]
      rw [f5 _ _ (by omega), f4 _ _ (by omega), f3 _ _ (by omega), (g2 i (Nat.zero_le _) hi), f1 _ _ (by omega)]
    · simp (disch := omega) only [tz_gsi]
      rw [f5 _ _ (by omega), f4 _ _ (by omega), (g3 i (Nat.zero_le _) hi).1, f2 _ _ (by omega), f1 _ _ (by omega)]
    · simp (disch := omega) only [tz_gsi]
      rw [f5 _ _ (by omega), f4 _ _ (by omega), (g3 i (Nat.zero_le _) hi).2.1, f2 _ _ (by omega), f1 _ _ (by omega)]
    · simp (disch := omega) only [tz_gsi]
      rw [f5 _ _ (by omega), f4 _ _ (by omega), (g3 i (Nat.zero_le _) hi).2.2.1, f2 _ _ (by omega), f1 _ _ (by omega)]
    · simp (disch := omega) only [tz_gsi]
      rw [f5 _ _ (by omega), f4 _ _ (by omega), (g3 i (Nat.zero_le _) hi).2.2.2.1, f2 _ _ (by omega), f1 _ _ (by omega)]
    · simp (disch := omega) only [tz_gsi]
      rw [f5 _ _ (by omega), f4 _ _ (by omega), (g3 i (Nat.zero_le _) hi).2.2.2.2, f2 _ _ (by omega), f1 _ _ (by omega)]
    · simp (disch := omega) only [tz_gsi]
      rw [f5 _ _ (by omega), (g4 i (Nat.zero_le _) hi), f3 _ _ (by omega), f2 _ _ (by omega), f1 _ _ (by omega)]
    · simp (disch := omega) only [tz_gsi]
      rw [(g5 i (Nat.zero_le _) hi).1, f4 _ _ (by omega), f3 _ _ (by omega), f2 _ _ (by omega), f1 _ _ (by omega)]
    · simp (disch := omega) only [tz_gsi]
      rw [(g5 i (Nat.zero_le _) hi).2.1, f4 _ _ (by omega), f3 _ _ (by omega), f2 _ _ (by omega), f1 _ _ (by omega)]
    · simp (disch := omega) only [tz_gsi]
      rw [(g5 i (Nat.zero_le _) hi).2.2.1, f4 _ _ (by omega), f3 _ _ (by omega), f2 _ _ (by omega), f1 _ _ (by omega)]
    · simp (disch := omega) only [tz_gsi]
      rw [(g5 i (Nat.zero_le _) hi).2.2.2.1, f4 _ _ (by omega), f3 _ _ (by omega), f2 _ _ (by omega), f1 _ _ (by omega)]
    · simp (disch := omega) only [tz_gsi]
      rw [(g5 i (Nat.zero_le _) hi).2.2.2.2.1, f4 _ _ (by omega), f3 _ _ (by omega), f2 _ _ (by omega), f1 _ _ (by omega)]
    · simp (disch := omega) only [tz_gsi]
      rw [(g5 i (Nat.zero_le _) hi).2.2.2.2.2, f4 _ _ (by omega), f3 _ _ (by omega), f2 _ _ (by omega), f1 _ _ (by omega)]
    · simp (disch := omega) only [tz_gs1, tz_gsi]
      rw [f5 _ _ (by omega), f4 _ _ (by omega), f3 _ _ (by omega), f2 _ _ (by omega), f1 _ _ (by omega)]
    · simp (disch := omega) only [tz_gs1, tz_gsi]
      rw [f5 _ _ (by omega), f4 _ _ (by omega), f3 _ _ (by omega), f2 _ _ (by omega), f1 _ _ (by omega)]
    · simp (disch := omega) only [tz_gs1, tz_gsi]
      rw [f5 _ _ (by omega), f4 _ _ (by omega), f3 _ _ (by omega), f2 _ _ (by omega), f1 _ _ (by omega)]
    · simp (disch := omega) only [tz_gs1, tz_gsi]
      rw [f5 _ _ (by omega), f4 _ _ (by omega), f3 _ _ (by omega), f2 _ _ (by omega), f1 _ _ (by omega)]
    · simp (disch := omega) only [tz_gs1, tz_gsi]
      rw [f5 _ _ (by omega), f4 _ _ (by omega), f3 _ _ (by omega), f2 _ _ (by omega), f1 _ _ (by omega)]
    · simp (disch := omega) only [tz_gs1, tz_gsi]
      rw [f5 _ _ (by omega), f4 _ _ (by omega), f3 _ _ (by omega), f2 _ _ (by omega), f1 _ _ (by omega)]
    · simp (disch := omega) only [tz_gs1, tz_gsi]
      rw [f5 _ _ (by omega), f4 _ _ (by omega), f3 _ _ (by omega), f2 _ _ (by omega), f1 _ _ (by omega)]
  · simp only [tz_gS]
    repeat rw [if_neg (by omega)]
    rw [f5 _ _ (by omega), f4 _ _ (by omega), f3 _ _ (by omega), f2 _ _ (by omega), f1 _ _ (by omega)]
theorem again_179_2 : ∀ k i A, i + k = 8 → ∃ A', q_X12_again_s179_2 (tz_j i) A = q_X12_again_s179_49 (tz_j 0) A' ∧ (∀ h, i ≤ h → h < 8 → tz_g A' 161 h = tz_g A 179 (0 + h) ∧ tz_g A' 162 h = tz_g A 179 (8 + h) ∧ tz_g A' 163 h = tz_g A 179 (16 + h)) ∧ A'.1 = A.1 ∧ A'.2.2 = A.2.2 ∧ (∀ k' i', ¬ ((k' = 161 ∨ k' = 162 ∨ k' = 163) ∧ i ≤ i' ∧ i' < 8) → tz_g A' k' i' = tz_g A k' i') := by
  intro k
  induction k with
  | zero =>
    intro i A hi
    obtain rfl : i = 8 := by omega
    refine ⟨A, ?_, fun h a b => by omega, rfl, rfl, fun _ _ _ => rfl⟩
    rw [e_X12_again_s179_2]
    simp (disch := omega) only [tz_lit, nj_m1, ↓reduceIte, nj_cl, nj_ltt, nj_ltf, nj_let, nj_lef, nj_eqf, nj_lt, nj_le, nj_eq, nj_add, nj_mul, nj_mod, nj_and7, nj_div, tz_bI_some, tz_bV_some, or_false, false_or, or_self, and_false, false_and, and_true, true_and, not_true_eq_false, not_false_eq_true, nt_lef, nt_let, nt_ltf, nt_ltt, nt_eqf]
  | succ k ih =>
    intro i A hi
    obtain ⟨A', e, g, f1, f2, f3⟩ := ih (i + 1) (tz_s (tz_s (tz_s A 161 i (tz_g A 179 i)) 162 i (tz_g A 179 (8 + i))) 163 i (tz_g A 179 (16 + i))) (by omega)
    refine ⟨A', ?_, fun h a b => ?_, f1, f2, fun k' i' hk => ?_⟩
    · rw [← e, e_X12_again_s179_2 (tz_j i)]
      simp (disch := omega) only [tz_lit, nj_m1, ↓reduceIte, nj_cl, nj_ltt, nj_ltf, nj_let, nj_lef, nj_eqf, nj_lt, nj_le, nj_eq, nj_add, nj_mul, nj_mod, nj_and7, nj_div, tz_bI_some, tz_bV_some, or_false, false_or, or_self, and_false, false_and, and_true, true_and, not_true_eq_false, not_false_eq_true, nt_lef, nt_let, nt_ltf, nt_ltt, nt_eqf, tz_gsk, Nat.zero_add]
    · by_cases z : h = i
      · subst z
        refine ⟨?_, ?_⟩
        · rw [f3 _ _ (by omega)]
          simp (disch := omega) only [tz_gs1, tz_gsk, Nat.zero_add]
        refine ⟨?_, ?_⟩
        · rw [f3 _ _ (by omega)]
          simp (disch := omega) only [tz_gs1, tz_gsk, Nat.zero_add]
        · rw [f3 _ _ (by omega)]
          simp (disch := omega) only [tz_gs1, tz_gsk, Nat.zero_add]
      · have g2 := g h (by omega) b
        simp (disch := omega) only [tz_gsk, tz_gsi] at g2
        exact g2
    · rw [f3 k' i' (by omega)]
      simp only [tz_gS]
      repeat rw [if_neg (by omega)]
theorem again_179_49 : ∀ k i A, i + k = 64 → ∃ A', q_X12_again_s179_49 (tz_j i) A = q_X12_again_s179_75 (tz_j 0) A' ∧ (∀ h, i ≤ h → h < 64 → tz_g A' 164 h = tz_g A 179 (24 + h)) ∧ A'.1 = A.1 ∧ A'.2.2 = A.2.2 ∧ (∀ k' i', ¬ ((k' = 164) ∧ i ≤ i' ∧ i' < 64) → tz_g A' k' i' = tz_g A k' i') := by
  intro k
  induction k with
  | zero =>
    intro i A hi
    obtain rfl : i = 64 := by omega
    refine ⟨A, ?_, fun h a b => by omega, rfl, rfl, fun _ _ _ => rfl⟩
    rw [e_X12_again_s179_49]
    simp (disch := omega) only [tz_lit, nj_m1, ↓reduceIte, nj_cl, nj_ltt, nj_ltf, nj_let, nj_lef, nj_eqf, nj_lt, nj_le, nj_eq, nj_add, nj_mul, nj_mod, nj_and7, nj_div, tz_bI_some, tz_bV_some, or_false, false_or, or_self, and_false, false_and, and_true, true_and, not_true_eq_false, not_false_eq_true, nt_lef, nt_let, nt_ltf, nt_ltt, nt_eqf]
  | succ k ih =>
    intro i A hi
    obtain ⟨A', e, g, f1, f2, f3⟩ := ih (i + 1) (tz_s A 164 i (tz_g A 179 (24 + i))) (by omega)
    refine ⟨A', ?_, fun h a b => ?_, f1, f2, fun k' i' hk => ?_⟩
    · rw [← e, e_X12_again_s179_49 (tz_j i)]
      simp (disch := omega) only [tz_lit, nj_m1, ↓reduceIte, nj_cl, nj_ltt, nj_ltf, nj_let, nj_lef, nj_eqf, nj_lt, nj_le, nj_eq, nj_add, nj_mul, nj_mod, nj_and7, nj_div, tz_bI_some, tz_bV_some, or_false, false_or, or_self, and_false, false_and, and_true, true_and, not_true_eq_false, not_false_eq_true, nt_lef, nt_let, nt_ltf, nt_ltt, nt_eqf, tz_gsk, Nat.zero_add]
    · by_cases z : h = i
      · subst z
        rw [f3 _ _ (by omega)]
        simp (disch := omega) only [tz_gs1, tz_gsk, Nat.zero_add]
      · have g2 := g h (by omega) b
        simp (disch := omega) only [tz_gsk, tz_gsi] at g2
        exact g2
    · rw [f3 k' i' (by omega)]
      simp only [tz_gS]
      repeat rw [if_neg (by omega)]
theorem again_179_75 : ∀ k i A, i + k = 4 → ∃ A', q_X12_again_s179_75 (tz_j i) A = q_X12_again_s179_148 (tz_j 0) A' ∧ (∀ h, i ≤ h → h < 4 → tz_g A' 165 h = tz_g A 179 (88 + h) ∧ tz_g A' 167 h = tz_g A 179 (92 + h) ∧ tz_g A' 168 h = tz_g A 179 (96 + h) ∧ tz_g A' 169 h = tz_g A 179 (100 + h) ∧ tz_g A' 170 h = tz_g A 179 (104 + h)) ∧ A'.1 = A.1 ∧ A'.2.2 = A.2.2 ∧ (∀ k' i', ¬ ((k' = 165 ∨ k' = 167 ∨ k' = 168 ∨ k' = 169 ∨ k' = 170) ∧ i ≤ i' ∧ i' < 4) → tz_g A' k' i' = tz_g A k' i') := by
  intro k
  induction k with
  | zero =>
    intro i A hi
    obtain rfl : i = 4 := by omega
    refine ⟨A, ?_, fun h a b => by omega, rfl, rfl, fun _ _ _ => rfl⟩
    rw [e_X12_again_s179_75]
    simp (disch := omega) only [tz_lit, nj_m1, ↓reduceIte, nj_cl, nj_ltt, nj_ltf, nj_let, nj_lef, nj_eqf, nj_lt, nj_le, nj_eq, nj_add, nj_mul, nj_mod, nj_and7, nj_div, tz_bI_some, tz_bV_some, or_false, false_or, or_self, and_false, false_and, and_true, true_and, not_true_eq_false, not_false_eq_true, nt_lef, nt_let, nt_ltf, nt_ltt, nt_eqf]
  | succ k ih =>
    intro i A hi
    obtain ⟨A', e, g, f1, f2, f3⟩ := ih (i + 1) (tz_s (tz_s (tz_s (tz_s (tz_s A 165 i (tz_g A 179 (88 + i))) 167 i (tz_g A 179 (92 + i))) 168 i (tz_g A 179 (96 + i))) 169 i (tz_g A 179 (100 + i))) 170 i (tz_g A 179 (104 + i))) (by omega)
    refine ⟨A', ?_, fun h a b => ?_, f1, f2, fun k' i' hk => ?_⟩
    · rw [← e, e_X12_again_s179_75 (tz_j i)]
      simp (disch := omega) only [tz_lit, nj_m1, ↓reduceIte, nj_cl, nj_ltt, nj_ltf, nj_let, nj_lef, nj_eqf, nj_lt, nj_le, nj_eq, nj_add, nj_mul, nj_mod, nj_and7, nj_div, tz_bI_some, tz_bV_some, or_false, false_or, or_self, and_false, false_and, and_true, true_and, not_true_eq_false, not_false_eq_true, nt_lef, nt_let, nt_ltf, nt_ltt, nt_eqf, tz_gsk, Nat.zero_add]
    · by_cases z : h = i
      · subst z
        refine ⟨?_, ?_⟩
        · rw [f3 _ _ (by omega)]
          simp (disch := omega) only [tz_gs1, tz_gsk, Nat.zero_add]
        refine ⟨?_, ?_⟩
        · rw [f3 _ _ (by omega)]
          simp (disch := omega) only [tz_gs1, tz_gsk, Nat.zero_add]
        refine ⟨?_, ?_⟩
        · rw [f3 _ _ (by omega)]
          simp (disch := omega) only [tz_gs1, tz_gsk, Nat.zero_add]
        refine ⟨?_, ?_⟩
        · rw [f3 _ _ (by omega)]
          simp (disch := omega) only [tz_gs1, tz_gsk, Nat.zero_add]
        · rw [f3 _ _ (by omega)]
          simp (disch := omega) only [tz_gs1, tz_gsk, Nat.zero_add]
      · have g2 := g h (by omega) b
        simp (disch := omega) only [tz_gsk, tz_gsi] at g2
        exact g2
    · rw [f3 k' i' (by omega)]
      simp only [tz_gS]
      repeat rw [if_neg (by omega)]
theorem again_179_148 : ∀ k i A, i + k = 24 → ∃ A', q_X12_again_s179_148 (tz_j i) A = q_X12_again_s179_174 (tz_j 0) A' ∧ (∀ h, i ≤ h → h < 24 → tz_g A' 166 h = tz_g A 179 (108 + h)) ∧ A'.1 = A.1 ∧ A'.2.2 = A.2.2 ∧ (∀ k' i', ¬ ((k' = 166) ∧ i ≤ i' ∧ i' < 24) → tz_g A' k' i' = tz_g A k' i') := by
  intro k
  induction k with
  | zero =>
    intro i A hi
    obtain rfl : i = 24 := by omega
    refine ⟨A, ?_, fun h a b => by omega, rfl, rfl, fun _ _ _ => rfl⟩
    rw [e_X12_again_s179_148]
    simp (disch := omega) only [tz_lit, nj_m1, ↓reduceIte, nj_cl, nj_ltt, nj_ltf, nj_let, nj_lef, nj_eqf, nj_lt, nj_le, nj_eq, nj_add, nj_mul, nj_mod, nj_and7, nj_div, tz_bI_some, tz_bV_some, or_false, false_or, or_self, and_false, false_and, and_true, true_and, not_true_eq_false, not_false_eq_true, nt_lef, nt_let, nt_ltf, nt_ltt, nt_eqf]
  | succ k ih =>
    intro i A hi
    obtain ⟨A', e, g, f1, f2, f3⟩ := ih (i + 1) (tz_s A 166 i (tz_g A 179 (108 + i))) (by omega)
    refine ⟨A', ?_, fun h a b => ?_, f1, f2, fun k' i' hk => ?_⟩
    · rw [← e, e_X12_again_s179_148 (tz_j i)]
      simp (disch := omega) only [tz_lit, nj_m1, ↓reduceIte, nj_cl, nj_ltt, nj_ltf, nj_let, nj_lef, nj_eqf, nj_lt, nj_le, nj_eq, nj_add, nj_mul, nj_mod, nj_and7, nj_div, tz_bI_some, tz_bV_some, or_false, false_or, or_self, and_false, false_and, and_true, true_and, not_true_eq_false, not_false_eq_true, nt_lef, nt_let, nt_ltf, nt_ltt, nt_eqf, tz_gsk, Nat.zero_add]
    · by_cases z : h = i
      · subst z
        rw [f3 _ _ (by omega)]
        simp (disch := omega) only [tz_gs1, tz_gsk, Nat.zero_add]
      · have g2 := g h (by omega) b
        simp (disch := omega) only [tz_gsk, tz_gsi] at g2
        exact g2
    · rw [f3 k' i' (by omega)]
      simp only [tz_gS]
      repeat rw [if_neg (by omega)]
theorem again_179_174 : ∀ k i A, i + k = 12 → ∃ A', q_X12_again_s179_174 (tz_j i) A = q_X12_again_s179_174 (tz_j 12) A' ∧ (∀ h, i ≤ h → h < 12 → tz_g A' 171 h = tz_g A 179 (132 + h) ∧ tz_g A' 172 h = tz_g A 179 (144 + h) ∧ tz_g A' 173 h = tz_g A 179 (156 + h) ∧ tz_g A' 174 h = tz_g A 179 (168 + h) ∧ tz_g A' 175 h = tz_g A 179 (180 + h) ∧ tz_g A' 176 h = tz_g A 179 (192 + h)) ∧ A'.1 = A.1 ∧ A'.2.2 = A.2.2 ∧ (∀ k' i', ¬ ((k' = 171 ∨ k' = 172 ∨ k' = 173 ∨ k' = 174 ∨ k' = 175 ∨ k' = 176) ∧ i ≤ i' ∧ i' < 12) → tz_g A' k' i' = tz_g A k' i') := by
  intro k
  induction k with
  | zero =>
    intro i A hi
    obtain rfl : i = 12 := by omega
    refine ⟨A, ?_, fun h a b => by omega, rfl, rfl, fun _ _ _ => rfl⟩
    rfl
  | succ k ih =>
    intro i A hi
    obtain ⟨A', e, g, f1, f2, f3⟩ := ih (i + 1) (tz_s (tz_s (tz_s (tz_s (tz_s (tz_s A 171 i (tz_g A 179 (132 + i))) 172 i (tz_g A 179 (144 + i))) 173 i (tz_g A 179 (156 + i))) 174 i (tz_g A 179 (168 + i))) 175 i (tz_g A 179 (180 + i))) 176 i (tz_g A 179 (192 + i))) (by omega)
    refine ⟨A', ?_, fun h a b => ?_, f1, f2, fun k' i' hk => ?_⟩
    · rw [← e, e_X12_again_s179_174 (tz_j i)]
      simp (disch := omega) only [tz_lit, nj_m1, ↓reduceIte, nj_cl, nj_ltt, nj_ltf, nj_let, nj_lef, nj_eqf, nj_lt, nj_le, nj_eq, nj_add, nj_mul, nj_mod, nj_and7, nj_div, tz_bI_some, tz_bV_some, or_false, false_or, or_self, and_false, false_and, and_true, true_and, not_true_eq_false, not_false_eq_true, nt_lef, nt_let, nt_ltf, nt_ltt, nt_eqf, tz_gsk, Nat.zero_add]
    · by_cases z : h = i
      · subst z
        refine ⟨?_, ?_⟩
        · rw [f3 _ _ (by omega)]
          simp (disch := omega) only [tz_gs1, tz_gsk, Nat.zero_add]
        refine ⟨?_, ?_⟩
        · rw [f3 _ _ (by omega)]
          simp (disch := omega) only [tz_gs1, tz_gsk, Nat.zero_add]
        refine ⟨?_, ?_⟩
        · rw [f3 _ _ (by omega)]
          simp (disch := omega) only [tz_gs1, tz_gsk, Nat.zero_add]
        refine ⟨?_, ?_⟩
        · rw [f3 _ _ (by omega)]
          simp (disch := omega) only [tz_gs1, tz_gsk, Nat.zero_add]
        refine ⟨?_, ?_⟩
        · rw [f3 _ _ (by omega)]
          simp (disch := omega) only [tz_gs1, tz_gsk, Nat.zero_add]
        · rw [f3 _ _ (by omega)]
          simp (disch := omega) only [tz_gs1, tz_gsk, Nat.zero_add]
      · have g2 := g h (by omega) b
        simp (disch := omega) only [tz_gsk, tz_gsi] at g2
        exact g2
    · rw [f3 k' i' (by omega)]
      simp only [tz_gS]
      repeat rw [if_neg (by omega)]
theorem m_again_179 (A : tz_Mem) : ∃ A', f_X12_again_s179 A = some (none, A') ∧ (∀ q i j, kp_r q i j → tz_g A' q i = tz_g A 179 j) ∧ A'.1 = A.1 ∧ A'.2.2 = A.2.2 ∧ (∀ k i, ¬ kp_d k i → tz_g A' k i = tz_g A k i) := by
  obtain ⟨A1, e1, g1, a1, b1, f1⟩ := again_179_2 8 0 A (Nat.zero_add _)
  obtain ⟨A2, e2, g2, a2, b2, f2⟩ := again_179_49 64 0 A1 (Nat.zero_add _)
  obtain ⟨A3, e3, g3, a3, b3, f3⟩ := again_179_75 4 0 A2 (Nat.zero_add _)
  obtain ⟨A4, e4, g4, a4, b4, f4⟩ := again_179_148 24 0 A3 (Nat.zero_add _)
  obtain ⟨A5, e5, g5, a5, b5, f5⟩ := again_179_174 12 0 A4 (Nat.zero_add _)
  refine ⟨(tz_s (tz_s (tz_s (tz_s (tz_s (tz_s (tz_s A5 157 3 (tz_g A5 179 204)) 157 8 (tz_g A5 179 205)) 157 15 (tz_g A5 179 206)) 157 22 (tz_g A5 179 207)) 157 23 (tz_g A5 179 208)) 157 24 (tz_g A5 179 209)) 157 25 (tz_g A5 179 210)), ?_, fun q i j hq => ?_, by rw [← a1, ← a2, ← a3, ← a4, ← a5]; rfl, by rw [← b1, ← b2, ← b3, ← b4, ← b5]; rfl, fun k i hk => ?_⟩
  · rw [e_X12_again_s179]
    refine e1.trans (e2.trans (e3.trans (e4.trans (e5.trans ?_))))
    rw [e_X12_again_s179_174]
    simp (disch := omega) only [tz_lit, nj_m1, ↓reduceIte, nj_cl, nj_ltt, nj_ltf, nj_let, nj_lef, nj_eqf, nj_lt, nj_le, nj_eq, nj_add, nj_mul, nj_mod, nj_and7, nj_div, tz_bI_some, tz_bV_some, or_false, false_or, or_self, and_false, false_and, and_true, true_and, not_true_eq_false, not_false_eq_true, nt_lef, nt_let, nt_ltf, nt_ltt, nt_eqf, tz_gsk, tz_gsi]
  · unfold kp_r at hq
    rcases hq with ⟨rfl, hi, rfl⟩ | ⟨rfl, hi, rfl⟩ | ⟨rfl, hi, rfl⟩ | ⟨rfl, hi, rfl⟩ | ⟨rfl, hi, rfl⟩ | ⟨rfl, hi, rfl⟩ | ⟨rfl, hi, rfl⟩ | ⟨rfl, hi, rfl⟩ | ⟨rfl, hi, rfl⟩ | ⟨rfl, hi, rfl⟩ | ⟨rfl, hi, rfl⟩ | ⟨rfl, hi, rfl⟩ | ⟨rfl, hi, rfl⟩ | ⟨rfl, hi, rfl⟩ | ⟨rfl, hi, rfl⟩ | ⟨rfl, hi, rfl⟩ | ⟨rfl, rfl, rfl⟩ | ⟨rfl, rfl, rfl⟩ | ⟨rfl, rfl, rfl⟩ | ⟨rfl, rfl, rfl⟩ | ⟨rfl, rfl, rfl⟩ | ⟨rfl, rfl, rfl⟩ | ⟨rfl, rfl, rfl⟩
    · simp (disch := omega) only [tz_gsk]
      rw [f5 _ _ (by omega), f4 _ _ (by omega), f3 _ _ (by omega), f2 _ _ (by omega), (g1 i (Nat.zero_le _) hi).1]
    · simp (disch := omega) only [tz_gsk]
      rw [f5 _ _ (by omega), f4 _ _ (by omega), f3 _ _ (by omega), f2 _ _ (by omega), (g1 i (Nat.zero_le _) hi).2.1]
    · simp (disch := omega) only [tz_gsk]
      rw [f5 _ _ (by omega), f4 _ _ (by omega), f3 _ _ (by omega), f2 _ _ (by omega), (g1 i (Nat.zero_le _) hi).2.2]
    · simp (disch := omega) only [tz_gsk]
      rw [f5 _ _ (by omega), f4 _ _ (by omega), f3 _ _ (by omega), (g2 i (Nat.zero_le _) hi), f1 _ _ (by omega)]
    · simp (disch := omega) only [tz_gsk]
      rw [f5 _ _ (by omega), f4 _ _ (by omega), (g3 i (Nat.zero_le _) hi).1, f2 _ _ (by omega), f1 _ _ (by omega)]
    · simp (disch := omega) only [tz_gsk]
      rw [f5 _ _ (by omega), f4 _ _ (by omega), (g3 i (Nat.zero_le _) hi).2.1, f2 _ _ (by omega), f1 _ _ (by omega)]
    · simp (disch := omega) only [tz_gsk]
      rw [f5 _ _ (by omega), f4 _ _ (by omega), (g3 i (Nat.zero_le _) hi).2.2.1, f2 _ _ (by omega), f1 _ _ (by omega)]
    · simp (disch := omega) only [tz_gsk]
      rw [f5 _ _ (by omega), f4 _ _ (by omega), (g3 i (Nat.zero_le _) hi).2.2.2.1, f2 _ _ (by omega), f1 _ _ (by omega)]
    · simp (disch := omega) only [tz_gsk]
      rw [f5 _ _ (by omega), f4 _ _ (by omega), (g3 i (Nat.zero_le _) hi).2.2.2.2, f2 _ _ (by omega), f1 _ _ (by omega)]
    · simp (disch := omega) only [tz_gsk]
      rw [f5 _ _ (by omega), (g4 i (Nat.zero_le _) hi), f3 _ _ (by omega), f2 _ _ (by omega), f1 _ _ (by omega)]
    · simp (disch := omega) only [tz_gsk]
      rw [(g5 i (Nat.zero_le _) hi).1, f4 _ _ (by omega), f3 _ _ (by omega), f2 _ _ (by omega), f1 _ _ (by omega)]
    · simp (disch := omega) only [tz_gsk]
      rw [(g5 i (Nat.zero_le _) hi).2.1, f4 _ _ (by omega), f3 _ _ (by omega), f2 _ _ (by omega), f1 _ _ (by omega)]
    · simp (disch := omega) only [tz_gsk]
      rw [(g5 i (Nat.zero_le _) hi).2.2.1, f4 _ _ (by omega), f3 _ _ (by omega), f2 _ _ (by omega), f1 _ _ (by omega)]
    · simp (disch := omega) only [tz_gsk]
      rw [(g5 i (Nat.zero_le _) hi).2.2.2.1, f4 _ _ (by omega), f3 _ _ (by omega), f2 _ _ (by omega), f1 _ _ (by omega)]
    · simp (disch := omega) only [tz_gsk]
      rw [(g5 i (Nat.zero_le _) hi).2.2.2.2.1, f4 _ _ (by omega), f3 _ _ (by omega), f2 _ _ (by omega), f1 _ _ (by omega)]
    · simp (disch := omega) only [tz_gsk]
      rw [(g5 i (Nat.zero_le _) hi).2.2.2.2.2, f4 _ _ (by omega), f3 _ _ (by omega), f2 _ _ (by omega), f1 _ _ (by omega)]
    · simp (disch := omega) only [tz_gs1, tz_gsi]
      rw [f5 _ _ (by omega), f4 _ _ (by omega), f3 _ _ (by omega), f2 _ _ (by omega), f1 _ _ (by omega)]
    · simp (disch := omega) only [tz_gs1, tz_gsi]
      rw [f5 _ _ (by omega), f4 _ _ (by omega), f3 _ _ (by omega), f2 _ _ (by omega), f1 _ _ (by omega)]
    · simp (disch := omega) only [tz_gs1, tz_gsi]
      rw [f5 _ _ (by omega), f4 _ _ (by omega), f3 _ _ (by omega), f2 _ _ (by omega), f1 _ _ (by omega)]
    · simp (disch := omega) only [tz_gs1, tz_gsi]
      rw [f5 _ _ (by omega), f4 _ _ (by omega), f3 _ _ (by omega), f2 _ _ (by omega), f1 _ _ (by omega)]
    · simp (disch := omega) only [tz_gs1, tz_gsi]
      rw [f5 _ _ (by omega), f4 _ _ (by omega), f3 _ _ (by omega), f2 _ _ (by omega), f1 _ _ (by omega)]
    · simp (disch := omega) only [tz_gs1, tz_gsi]
      rw [f5 _ _ (by omega), f4 _ _ (by omega), f3 _ _ (by omega), f2 _ _ (by omega), f1 _ _ (by omega)]
    · simp (disch := omega) only [tz_gs1, tz_gsi]
      rw [f5 _ _ (by omega), f4 _ _ (by omega), f3 _ _ (by omega), f2 _ _ (by omega), f1 _ _ (by omega)]
  · simp only [kp_d, not_or] at hk
    obtain ⟨h161, h162, h163, h164, h165, h167, h168, h169, h170, h166, h171, h172, h173, h174, h175, h176, h157⟩ := hk
    simp only [tz_gS]
    rw [if_neg (c := k = 157 ∧ i = 25) (fun z => h157 (by omega))]
    rw [if_neg (c := k = 157 ∧ i = 24) (fun z => h157 (by omega))]
    rw [if_neg (c := k = 157 ∧ i = 23) (fun z => h157 (by omega))]
    rw [if_neg (c := k = 157 ∧ i = 22) (fun z => h157 (by omega))]
    rw [if_neg (c := k = 157 ∧ i = 15) (fun z => h157 (by omega))]
    rw [if_neg (c := k = 157 ∧ i = 8) (fun z => h157 (by omega))]
    rw [if_neg (c := k = 157 ∧ i = 3) (fun z => h157 (by omega))]
    have c5 : ¬ ((k = 171 ∨ k = 172 ∨ k = 173 ∨ k = 174 ∨ k = 175 ∨ k = 176) ∧ 0 ≤ i ∧ i < 12) := by
      intro z
      obtain ⟨z1, _, z3⟩ := z
      rcases z1 with z1 | z1 | z1 | z1 | z1 | z1
      · exact h171 ⟨z1, z3⟩
      · exact h172 ⟨z1, z3⟩
      · exact h173 ⟨z1, z3⟩
      · exact h174 ⟨z1, z3⟩
      · exact h175 ⟨z1, z3⟩
      · exact h176 ⟨z1, z3⟩
    rw [f5 k i c5]
    rw [f4 k i (fun z => h166 ⟨z.1, z.2.2⟩)]
    have c3 : ¬ ((k = 165 ∨ k = 167 ∨ k = 168 ∨ k = 169 ∨ k = 170) ∧ 0 ≤ i ∧ i < 4) := by
      intro z
      obtain ⟨z1, _, z3⟩ := z
      rcases z1 with z1 | z1 | z1 | z1 | z1
      · exact h165 ⟨z1, z3⟩
      · exact h167 ⟨z1, z3⟩
      · exact h168 ⟨z1, z3⟩
      · exact h169 ⟨z1, z3⟩
      · exact h170 ⟨z1, z3⟩
    rw [f3 k i c3]
    rw [f2 k i (fun z => h164 ⟨z.1, z.2.2⟩)]
    have c1 : ¬ ((k = 161 ∨ k = 162 ∨ k = 163) ∧ 0 ≤ i ∧ i < 8) := by
      intro z
      obtain ⟨z1, _, z3⟩ := z
      rcases z1 with z1 | z1 | z1
      · exact h161 ⟨z1, z3⟩
      · exact h162 ⟨z1, z3⟩
      · exact h163 ⟨z1, z3⟩
    rw [f1 k i c1]
theorem keep_180_2 : ∀ k i A, i + k = 8 → ∃ A', q_X12_keep_s180_2 (tz_j i) A = q_X12_keep_s180_49 (tz_j 0) A' ∧ (∀ h, i ≤ h → h < 8 → tz_g A' 180 (0 + h) = tz_g A 161 h ∧ tz_g A' 180 (8 + h) = tz_g A 162 h ∧ tz_g A' 180 (16 + h) = tz_g A 163 h) ∧ A'.1 = A.1 ∧ A'.2.2 = A.2.2 ∧ (∀ k' i', ¬ (k' = 180 ∧ ((0 + i ≤ i' ∧ i' < 8) ∨ (8 + i ≤ i' ∧ i' < 16) ∨ (16 + i ≤ i' ∧ i' < 24))) → tz_g A' k' i' = tz_g A k' i') := by
  intro k
  induction k with
  | zero =>
    intro i A hi
    obtain rfl : i = 8 := by omega
    refine ⟨A, ?_, fun h a b => by omega, rfl, rfl, fun _ _ _ => rfl⟩
    rw [e_X12_keep_s180_2]
    simp (disch := omega) only [tz_lit, nj_m1, ↓reduceIte, nj_cl, nj_ltt, nj_ltf, nj_let, nj_lef, nj_eqf, nj_lt, nj_le, nj_eq, nj_add, nj_mul, nj_mod, nj_and7, nj_div, tz_bI_some, tz_bV_some, or_false, false_or, or_self, and_false, false_and, and_true, true_and, not_true_eq_false, not_false_eq_true, nt_lef, nt_let, nt_ltf, nt_ltt, nt_eqf]
  | succ k ih =>
    intro i A hi
    obtain ⟨A', e, g, f1, f2, f3⟩ := ih (i + 1) (tz_s (tz_s (tz_s A 180 i (tz_g A 161 i)) 180 (8 + i) (tz_g A 162 i)) 180 (16 + i) (tz_g A 163 i)) (by omega)
    refine ⟨A', ?_, fun h a b => ?_, f1, f2, fun k' i' hk => ?_⟩
    · rw [← e, e_X12_keep_s180_2 (tz_j i)]
      simp (disch := omega) only [tz_lit, nj_m1, ↓reduceIte, nj_cl, nj_ltt, nj_ltf, nj_let, nj_lef, nj_eqf, nj_lt, nj_le, nj_eq, nj_add, nj_mul, nj_mod, nj_and7, nj_div, tz_bI_some, tz_bV_some, or_false, false_or, or_self, and_false, false_and, and_true, true_and, not_true_eq_false, not_false_eq_true, nt_lef, nt_let, nt_ltf, nt_ltt, nt_eqf, tz_gsk, Nat.zero_add]
    · by_cases z : h = i
      · subst z
        refine ⟨?_, ?_⟩
        · rw [f3 _ _ (by omega)]
          simp (disch := omega) only [tz_gs1, tz_gsi, Nat.zero_add]
        refine ⟨?_, ?_⟩
        · rw [f3 _ _ (by omega)]
          simp (disch := omega) only [tz_gs1, tz_gsi, Nat.zero_add]
        · rw [f3 _ _ (by omega)]
          simp (disch := omega) only [tz_gs1, tz_gsi, Nat.zero_add]
      · have g2 := g h (by omega) b
        simp (disch := omega) only [tz_gsk, tz_gsi] at g2
        exact g2
    · rw [f3 k' i' (by omega)]
      simp only [tz_gS]
      repeat rw [if_neg (by omega)]
theorem keep_180_49 : ∀ k i A, i + k = 64 → ∃ A', q_X12_keep_s180_49 (tz_j i) A = q_X12_keep_s180_75 (tz_j 0) A' ∧ (∀ h, i ≤ h → h < 64 → tz_g A' 180 (24 + h) = tz_g A 164 h) ∧ A'.1 = A.1 ∧ A'.2.2 = A.2.2 ∧ (∀ k' i', ¬ (k' = 180 ∧ ((24 + i ≤ i' ∧ i' < 88))) → tz_g A' k' i' = tz_g A k' i') := by
  intro k
  induction k with
  | zero =>
    intro i A hi
    obtain rfl : i = 64 := by omega
    refine ⟨A, ?_, fun h a b => by omega, rfl, rfl, fun _ _ _ => rfl⟩
    rw [e_X12_keep_s180_49]
    simp (disch := omega) only [tz_lit, nj_m1, ↓reduceIte, nj_cl, nj_ltt, nj_ltf, nj_let, nj_lef, nj_eqf, nj_lt, nj_le, nj_eq, nj_add, nj_mul, nj_mod, nj_and7, nj_div, tz_bI_some, tz_bV_some, or_false, false_or, or_self, and_false, false_and, and_true, true_and, not_true_eq_false, not_false_eq_true, nt_lef, nt_let, nt_ltf, nt_ltt, nt_eqf]
  | succ k ih =>
    intro i A hi
    obtain ⟨A', e, g, f1, f2, f3⟩ := ih (i + 1) (tz_s A 180 (24 + i) (tz_g A 164 i)) (by omega)
    refine ⟨A', ?_, fun h a b => ?_, f1, f2, fun k' i' hk => ?_⟩
    · rw [← e, e_X12_keep_s180_49 (tz_j i)]
      simp (disch := omega) only [tz_lit, nj_m1, ↓reduceIte, nj_cl, nj_ltt, nj_ltf, nj_let, nj_lef, nj_eqf, nj_lt, nj_le, nj_eq, nj_add, nj_mul, nj_mod, nj_and7, nj_div, tz_bI_some, tz_bV_some, or_false, false_or, or_self, and_false, false_and, and_true, true_and, not_true_eq_false, not_false_eq_true, nt_lef, nt_let, nt_ltf, nt_ltt, nt_eqf, tz_gsk, Nat.zero_add]
    · by_cases z : h = i
      · subst z
        rw [f3 _ _ (by omega)]
        simp (disch := omega) only [tz_gs1, tz_gsi, Nat.zero_add]
      · have g2 := g h (by omega) b
        simp (disch := omega) only [tz_gsk, tz_gsi] at g2
        exact g2
    · rw [f3 k' i' (by omega)]
      simp only [tz_gS]
      repeat rw [if_neg (by omega)]
theorem keep_180_75 : ∀ k i A, i + k = 4 → ∃ A', q_X12_keep_s180_75 (tz_j i) A = q_X12_keep_s180_148 (tz_j 0) A' ∧ (∀ h, i ≤ h → h < 4 → tz_g A' 180 (88 + h) = tz_g A 165 h ∧ tz_g A' 180 (92 + h) = tz_g A 167 h ∧ tz_g A' 180 (96 + h) = tz_g A 168 h ∧ tz_g A' 180 (100 + h) = tz_g A 169 h ∧ tz_g A' 180 (104 + h) = tz_g A 170 h) ∧ A'.1 = A.1 ∧ A'.2.2 = A.2.2 ∧ (∀ k' i', ¬ (k' = 180 ∧ ((88 + i ≤ i' ∧ i' < 92) ∨ (92 + i ≤ i' ∧ i' < 96) ∨ (96 + i ≤ i' ∧ i' < 100) ∨ (100 + i ≤ i' ∧ i' < 104) ∨ (104 + i ≤ i' ∧ i' < 108))) → tz_g A' k' i' = tz_g A k' i') := by
  intro k
  induction k with
  | zero =>
    intro i A hi
    obtain rfl : i = 4 := by omega
    refine ⟨A, ?_, fun h a b => by omega, rfl, rfl, fun _ _ _ => rfl⟩
    rw [e_X12_keep_s180_75]
    simp (disch := omega) only [tz_lit, nj_m1, ↓reduceIte, nj_cl, nj_ltt, nj_ltf, nj_let, nj_lef, nj_eqf, nj_lt, nj_le, nj_eq, nj_add, nj_mul, nj_mod, nj_and7, nj_div, tz_bI_some, tz_bV_some, or_false, false_or, or_self, and_false, false_and, and_true, true_and, not_true_eq_false, not_false_eq_true, nt_lef, nt_let, nt_ltf, nt_ltt, nt_eqf]
  | succ k ih =>
    intro i A hi
    obtain ⟨A', e, g, f1, f2, f3⟩ := ih (i + 1) (tz_s (tz_s (tz_s (tz_s (tz_s A 180 (88 + i) (tz_g A 165 i)) 180 (92 + i) (tz_g A 167 i)) 180 (96 + i) (tz_g A 168 i)) 180 (100 + i) (tz_g A 169 i)) 180 (104 + i) (tz_g A 170 i)) (by omega)
    refine ⟨A', ?_, fun h a b => ?_, f1, f2, fun k' i' hk => ?_⟩
    · rw [← e, e_X12_keep_s180_75 (tz_j i)]
      simp (disch := omega) only [tz_lit, nj_m1, ↓reduceIte, nj_cl, nj_ltt, nj_ltf, nj_let, nj_lef, nj_eqf, nj_lt, nj_le, nj_eq, nj_add, nj_mul, nj_mod, nj_and7, nj_div, tz_bI_some, tz_bV_some, or_false, false_or, or_self, and_false, false_and, and_true, true_and, not_true_eq_false, not_false_eq_true, nt_lef, nt_let, nt_ltf, nt_ltt, nt_eqf, tz_gsk, Nat.zero_add]
    · by_cases z : h = i
      · subst z
        refine ⟨?_, ?_⟩
        · rw [f3 _ _ (by omega)]
          simp (disch := omega) only [tz_gs1, tz_gsi, Nat.zero_add]
        refine ⟨?_, ?_⟩
        · rw [f3 _ _ (by omega)]
          simp (disch := omega) only [tz_gs1, tz_gsi, Nat.zero_add]
        refine ⟨?_, ?_⟩
        · rw [f3 _ _ (by omega)]
          simp (disch := omega) only [tz_gs1, tz_gsi, Nat.zero_add]
        refine ⟨?_, ?_⟩
        · rw [f3 _ _ (by omega)]
          simp (disch := omega) only [tz_gs1, tz_gsi, Nat.zero_add]
        · rw [f3 _ _ (by omega)]
          simp (disch := omega) only [tz_gs1, tz_gsi, Nat.zero_add]
      · have g2 := g h (by omega) b
        simp (disch := omega) only [tz_gsk, tz_gsi] at g2
        exact g2
    · rw [f3 k' i' (by omega)]
      simp only [tz_gS]
      repeat rw [if_neg (by omega)]
theorem keep_180_148 : ∀ k i A, i + k = 24 → ∃ A', q_X12_keep_s180_148 (tz_j i) A = q_X12_keep_s180_174 (tz_j 0) A' ∧ (∀ h, i ≤ h → h < 24 → tz_g A' 180 (108 + h) = tz_g A 166 h) ∧ A'.1 = A.1 ∧ A'.2.2 = A.2.2 ∧ (∀ k' i', ¬ (k' = 180 ∧ ((108 + i ≤ i' ∧ i' < 132))) → tz_g A' k' i' = tz_g A k' i') := by
  intro k
  induction k with
  | zero =>
    intro i A hi
    obtain rfl : i = 24 := by omega
    refine ⟨A, ?_, fun h a b => by omega, rfl, rfl, fun _ _ _ => rfl⟩
    rw [e_X12_keep_s180_148]
    simp (disch := omega) only [tz_lit, nj_m1, ↓reduceIte, nj_cl, nj_ltt, nj_ltf, nj_let, nj_lef, nj_eqf, nj_lt, nj_le, nj_eq, nj_add, nj_mul, nj_mod, nj_and7, nj_div, tz_bI_some, tz_bV_some, or_false, false_or, or_self, and_false, false_and, and_true, true_and, not_true_eq_false, not_false_eq_true, nt_lef, nt_let, nt_ltf, nt_ltt, nt_eqf]
  | succ k ih =>
    intro i A hi
    obtain ⟨A', e, g, f1, f2, f3⟩ := ih (i + 1) (tz_s A 180 (108 + i) (tz_g A 166 i)) (by omega)
    refine ⟨A', ?_, fun h a b => ?_, f1, f2, fun k' i' hk => ?_⟩
    · rw [← e, e_X12_keep_s180_148 (tz_j i)]
      simp (disch := omega) only [tz_lit, nj_m1, ↓reduceIte, nj_cl, nj_ltt, nj_ltf, nj_let, nj_lef, nj_eqf, nj_lt, nj_le, nj_eq, nj_add, nj_mul, nj_mod, nj_and7, nj_div, tz_bI_some, tz_bV_some, or_false, false_or, or_self, and_false, false_and, and_true, true_and, not_true_eq_false, not_false_eq_true, nt_lef, nt_let, nt_ltf, nt_ltt, nt_eqf, tz_gsk, Nat.zero_add]
    · by_cases z : h = i
      · subst z
        rw [f3 _ _ (by omega)]
        simp (disch := omega) only [tz_gs1, tz_gsi, Nat.zero_add]
      · have g2 := g h (by omega) b
        simp (disch := omega) only [tz_gsk, tz_gsi] at g2
        exact g2
    · rw [f3 k' i' (by omega)]
      simp only [tz_gS]
      repeat rw [if_neg (by omega)]
theorem keep_180_174 : ∀ k i A, i + k = 12 → ∃ A', q_X12_keep_s180_174 (tz_j i) A = q_X12_keep_s180_174 (tz_j 12) A' ∧ (∀ h, i ≤ h → h < 12 → tz_g A' 180 (132 + h) = tz_g A 171 h ∧ tz_g A' 180 (144 + h) = tz_g A 172 h ∧ tz_g A' 180 (156 + h) = tz_g A 173 h ∧ tz_g A' 180 (168 + h) = tz_g A 174 h ∧ tz_g A' 180 (180 + h) = tz_g A 175 h ∧ tz_g A' 180 (192 + h) = tz_g A 176 h) ∧ A'.1 = A.1 ∧ A'.2.2 = A.2.2 ∧ (∀ k' i', ¬ (k' = 180 ∧ ((132 + i ≤ i' ∧ i' < 144) ∨ (144 + i ≤ i' ∧ i' < 156) ∨ (156 + i ≤ i' ∧ i' < 168) ∨ (168 + i ≤ i' ∧ i' < 180) ∨ (180 + i ≤ i' ∧ i' < 192) ∨ (192 + i ≤ i' ∧ i' < 204))) → tz_g A' k' i' = tz_g A k' i') := by
  intro k
  induction k with
  | zero =>
    intro i A hi
    obtain rfl : i = 12 := by omega
    refine ⟨A, ?_, fun h a b => by omega, rfl, rfl, fun _ _ _ => rfl⟩
    rfl
  | succ k ih =>
    intro i A hi
    obtain ⟨A', e, g, f1, f2, f3⟩ := ih (i + 1) (tz_s (tz_s (tz_s (tz_s (tz_s (tz_s A 180 (132 + i) (tz_g A 171 i)) 180 (144 + i) (tz_g A 172 i)) 180 (156 + i) (tz_g A 173 i)) 180 (168 + i) (tz_g A 174 i)) 180 (180 + i) (tz_g A 175 i)) 180 (192 + i) (tz_g A 176 i)) (by omega)
    refine ⟨A', ?_, fun h a b => ?_, f1, f2, fun k' i' hk => ?_⟩
    · rw [← e, e_X12_keep_s180_174 (tz_j i)]
      simp (disch := omega) only [tz_lit, nj_m1, ↓reduceIte, nj_cl, nj_ltt, nj_ltf, nj_let, nj_lef, nj_eqf, nj_lt, nj_le, nj_eq, nj_add, nj_mul, nj_mod, nj_and7, nj_div, tz_bI_some, tz_bV_some, or_false, false_or, or_self, and_false, false_and, and_true, true_and, not_true_eq_false, not_false_eq_true, nt_lef, nt_let, nt_ltf, nt_ltt, nt_eqf, tz_gsk, Nat.zero_add]
    · by_cases z : h = i
      · subst z
        refine ⟨?_, ?_⟩
        · rw [f3 _ _ (by omega)]
          simp (disch := omega) only [tz_gs1, tz_gsi, Nat.zero_add]
        refine ⟨?_, ?_⟩
        · rw [f3 _ _ (by omega)]
          simp (disch := omega) only [tz_gs1, tz_gsi, Nat.zero_add]
        refine ⟨?_, ?_⟩
        · rw [f3 _ _ (by omega)]
          simp (disch := omega) only [tz_gs1, tz_gsi, Nat.zero_add]
        refine ⟨?_, ?_⟩
        · rw [f3 _ _ (by omega)]
          simp (disch := omega) only [tz_gs1, tz_gsi, Nat.zero_add]
        refine ⟨?_, ?_⟩
        · rw [f3 _ _ (by omega)]
          simp (disch := omega) only [tz_gs1, tz_gsi, Nat.zero_add]
        · rw [f3 _ _ (by omega)]
          simp (disch := omega) only [tz_gs1, tz_gsi, Nat.zero_add]
      · have g2 := g h (by omega) b
        simp (disch := omega) only [tz_gsk, tz_gsi] at g2
        exact g2
    · rw [f3 k' i' (by omega)]
      simp only [tz_gS]
      repeat rw [if_neg (by omega)]
theorem m_keep_180 (A : tz_Mem) : ∃ A', f_X12_keep_s180 A = some (none, A') ∧ (∀ q i j, kp_r q i j → tz_g A' 180 j = tz_g A q i) ∧ A'.1 = A.1 ∧ A'.2.2 = A.2.2 ∧ (∀ k i, ¬ (k = 180 ∧ i < 211) → tz_g A' k i = tz_g A k i) := by
  obtain ⟨A1, e1, g1, a1, b1, f1⟩ := keep_180_2 8 0 A (Nat.zero_add _)
  obtain ⟨A2, e2, g2, a2, b2, f2⟩ := keep_180_49 64 0 A1 (Nat.zero_add _)
  obtain ⟨A3, e3, g3, a3, b3, f3⟩ := keep_180_75 4 0 A2 (Nat.zero_add _)
  obtain ⟨A4, e4, g4, a4, b4, f4⟩ := keep_180_148 24 0 A3 (Nat.zero_add _)
  obtain ⟨A5, e5, g5, a5, b5, f5⟩ := keep_180_174 12 0 A4 (Nat.zero_add _)
  refine ⟨(tz_s (tz_s (tz_s (tz_s (tz_s (tz_s (tz_s A5 180 204 (tz_g A5 157 3)) 180 205 (tz_g A5 157 8)) 180 206 (tz_g A5 157 15)) 180 207 (tz_g A5 157 22)) 180 208 (tz_g A5 157 23)) 180 209 (tz_g A5 157 24)) 180 210 (tz_g A5 157 25)), ?_, fun q i j hq => ?_, by rw [← a1, ← a2, ← a3, ← a4, ← a5]; rfl, by rw [← b1, ← b2, ← b3, ← b4, ← b5]; rfl, fun k i hk => ?_⟩
  · rw [e_X12_keep_s180]
    refine e1.trans (e2.trans (e3.trans (e4.trans (e5.trans ?_))))
    rw [e_X12_keep_s180_174]
    simp (disch := omega) only [tz_lit, nj_m1, ↓reduceIte, nj_cl, nj_ltt, nj_ltf, nj_let, nj_lef, nj_eqf, nj_lt, nj_le, nj_eq, nj_add, nj_mul, nj_mod, nj_and7, nj_div, tz_bI_some, tz_bV_some, or_false, false_or, or_self, and_false, false_and, and_true, true_and, not_true_eq_false, not_false_eq_true, nt_lef, nt_let, nt_ltf, nt_ltt, nt_eqf, tz_gsk, tz_gsi]
  · unfold kp_r at hq
    rcases hq with ⟨rfl, hi, rfl⟩ | ⟨rfl, hi, rfl⟩ | ⟨rfl, hi, rfl⟩ | ⟨rfl, hi, rfl⟩ | ⟨rfl, hi, rfl⟩ | ⟨rfl, hi, rfl⟩ | ⟨rfl, hi, rfl⟩ | ⟨rfl, hi, rfl⟩ | ⟨rfl, hi, rfl⟩ | ⟨rfl, hi, rfl⟩ | ⟨rfl, hi, rfl⟩ | ⟨rfl, hi, rfl⟩ | ⟨rfl, hi, rfl⟩ | ⟨rfl, hi, rfl⟩ | ⟨rfl, hi, rfl⟩ | ⟨rfl, hi, rfl⟩ | ⟨rfl, rfl, rfl⟩ | ⟨rfl, rfl, rfl⟩ | ⟨rfl, rfl, rfl⟩ | ⟨rfl, rfl, rfl⟩ | ⟨rfl, rfl, rfl⟩ | ⟨rfl, rfl, rfl⟩ | ⟨rfl, rfl, rfl⟩
    · simp (disch := omega) only [tz_gsi]
      rw [f5 _ _ (by omega), f4 _ _ (by omega), f3 _ _ (by omega), f2 _ _ (by omega), (g1 i (Nat.zero_le _) hi).1]
    · simp (disch := omega) only [tz_gsi]
      rw [f5 _ _ (by omega), f4 _ _ (by omega), f3 _ _ (by omega), f2 _ _ (by omega), (g1 i (Nat.zero_le _) hi).2.1]
    · simp (disch := omega) only [tz_gsi]
      rw [f5 _ _ (by omega), f4 _ _ (by omega), f3 _ _ (by omega), f2 _ _ (by omega), (g1 i (Nat.zero_le _) hi).2.2]
    · simp (disch := omega) only [tz_gsi]
      rw [f5 _ _ (by omega), f4 _ _ (by omega), f3 _ _ (by omega), (g2 i (Nat.zero_le _) hi), f1 _ _ (by omega)]
    · simp (disch := omega) only [tz_gsi]
      rw [f5 _ _ (by omega), f4 _ _ (by omega), (g3 i (Nat.zero_le _) hi).1, f2 _ _ (by omega), f1 _ _ (by omega)]
    · simp (disch := omega) only [tz_gsi]
      rw [f5 _ _ (by omega), f4 _ _ (by omega), (g3 i (Nat.zero_le _) hi).2.1, f2 _ _ (by omega), f1 _ _ (by omega)]
    · simp (disch := omega) only [tz_gsi]
      rw [f5 _ _ (by omega), f4 _ _ (by omega), (g3 i (Nat.zero_le _) hi).2.2.1, f2 _ _ (by omega), f1 _ _ (by omega)]
    · simp (disch := omega) only [tz_gsi]
      rw [f5 _ _ (by omega), f4 _ _ (by omega), (g3 i (Nat.zero_le _) hi).2.2.2.1, f2 _ _ (by omega), f1 _ _ (by omega)]
    · simp (disch := omega) only [tz_gsi]
      rw [f5 _ _ (by omega), f4 _ _ (by omega), (g3 i (Nat.zero_le _) hi).2.2.2.2, f2 _ _ (by omega), f1 _ _ (by omega)]
    · simp (disch := omega) only [tz_gsi]
      rw [f5 _ _ (by omega), (g4 i (Nat.zero_le _) hi), f3 _ _ (by omega), f2 _ _ (by omega), f1 _ _ (by omega)]
    · simp (disch := omega) only [tz_gsi]
      rw [(g5 i (Nat.zero_le _) hi).1, f4 _ _ (by omega), f3 _ _ (by omega), f2 _ _ (by omega), f1 _ _ (by omega)]
    · simp (disch := omega) only [tz_gsi]
      rw [(g5 i (Nat.zero_le _) hi).2.1, f4 _ _ (by omega), f3 _ _ (by omega), f2 _ _ (by omega), f1 _ _ (by omega)]
    · simp (disch := omega) only [tz_gsi]
      rw [(g5 i (Nat.zero_le _) hi).2.2.1, f4 _ _ (by omega), f3 _ _ (by omega), f2 _ _ (by omega), f1 _ _ (by omega)]
    · simp (disch := omega) only [tz_gsi]
      rw [(g5 i (Nat.zero_le _) hi).2.2.2.1, f4 _ _ (by omega), f3 _ _ (by omega), f2 _ _ (by omega), f1 _ _ (by omega)]
    · simp (disch := omega) only [tz_gsi]
      rw [(g5 i (Nat.zero_le _) hi).2.2.2.2.1, f4 _ _ (by omega), f3 _ _ (by omega), f2 _ _ (by omega), f1 _ _ (by omega)]
    · simp (disch := omega) only [tz_gsi]
      rw [(g5 i (Nat.zero_le _) hi).2.2.2.2.2, f4 _ _ (by omega), f3 _ _ (by omega), f2 _ _ (by omega), f1 _ _ (by omega)]
    · simp (disch := omega) only [tz_gs1, tz_gsi]
      rw [f5 _ _ (by omega), f4 _ _ (by omega), f3 _ _ (by omega), f2 _ _ (by omega), f1 _ _ (by omega)]
    · simp (disch := omega) only [tz_gs1, tz_gsi]
      rw [f5 _ _ (by omega), f4 _ _ (by omega), f3 _ _ (by omega), f2 _ _ (by omega), f1 _ _ (by omega)]
    · simp (disch := omega) only [tz_gs1, tz_gsi]
      rw [f5 _ _ (by omega), f4 _ _ (by omega), f3 _ _ (by omega), f2 _ _ (by omega), f1 _ _ (by omega)]
    · simp (disch := omega) only [tz_gs1, tz_gsi]
      rw [f5 _ _ (by omega), f4 _ _ (by omega), f3 _ _ (by omega), f2 _ _ (by omega), f1 _ _ (by omega)]
    · simp (disch := omega) only [tz_gs1, tz_gsi]
      rw [f5 _ _ (by omega), f4 _ _ (by omega), f3 _ _ (by omega), f2 _ _ (by omega), f1 _ _ (by omega)]
    · simp (disch := omega) only [tz_gs1, tz_gsi]
      rw [f5 _ _ (by omega), f4 _ _ (by omega), f3 _ _ (by omega), f2 _ _ (by omega), f1 _ _ (by omega)]
    · simp (disch := omega) only [tz_gs1, tz_gsi]
      rw [f5 _ _ (by omega), f4 _ _ (by omega), f3 _ _ (by omega), f2 _ _ (by omega), f1 _ _ (by omega)]
  · simp only [tz_gS]
    repeat rw [if_neg (by omega)]
    rw [f5 _ _ (by omega), f4 _ _ (by omega), f3 _ _ (by omega), f2 _ _ (by omega), f1 _ _ (by omega)]
theorem again_180_2 : ∀ k i A, i + k = 8 → ∃ A', q_X12_again_s180_2 (tz_j i) A = q_X12_again_s180_49 (tz_j 0) A' ∧ (∀ h, i ≤ h → h < 8 → tz_g A' 161 h = tz_g A 180 (0 + h) ∧ tz_g A' 162 h = tz_g A 180 (8 + h) ∧ tz_g A' 163 h = tz_g A 180 (16 + h)) ∧ A'.1 = A.1 ∧ A'.2.2 = A.2.2 ∧ (∀ k' i', ¬ ((k' = 161 ∨ k' = 162 ∨ k' = 163) ∧ i ≤ i' ∧ i' < 8) → tz_g A' k' i' = tz_g A k' i') := by
  intro k
  induction k with
  | zero =>
    intro i A hi
    obtain rfl : i = 8 := by omega
    refine ⟨A, ?_, fun h a b => by omega, rfl, rfl, fun _ _ _ => rfl⟩
    rw [e_X12_again_s180_2]
    simp (disch := omega) only [tz_lit, nj_m1, ↓reduceIte, nj_cl, nj_ltt, nj_ltf, nj_let, nj_lef, nj_eqf, nj_lt, nj_le, nj_eq, nj_add, nj_mul, nj_mod, nj_and7, nj_div, tz_bI_some, tz_bV_some, or_false, false_or, or_self, and_false, false_and, and_true, true_and, not_true_eq_false, not_false_eq_true, nt_lef, nt_let, nt_ltf, nt_ltt, nt_eqf]
  | succ k ih =>
    intro i A hi
    obtain ⟨A', e, g, f1, f2, f3⟩ := ih (i + 1) (tz_s (tz_s (tz_s A 161 i (tz_g A 180 i)) 162 i (tz_g A 180 (8 + i))) 163 i (tz_g A 180 (16 + i))) (by omega)
    refine ⟨A', ?_, fun h a b => ?_, f1, f2, fun k' i' hk => ?_⟩
    · rw [← e, e_X12_again_s180_2 (tz_j i)]
      simp (disch := omega) only [tz_lit, nj_m1, ↓reduceIte, nj_cl, nj_ltt, nj_ltf, nj_let, nj_lef, nj_eqf, nj_lt, nj_le, nj_eq, nj_add, nj_mul, nj_mod, nj_and7, nj_div, tz_bI_some, tz_bV_some, or_false, false_or, or_self, and_false, false_and, and_true, true_and, not_true_eq_false, not_false_eq_true, nt_lef, nt_let, nt_ltf, nt_ltt, nt_eqf, tz_gsk, Nat.zero_add]
    · by_cases z : h = i
      · subst z
        refine ⟨?_, ?_⟩
        · rw [f3 _ _ (by omega)]
          simp (disch := omega) only [tz_gs1, tz_gsk, Nat.zero_add]
        refine ⟨?_, ?_⟩
        · rw [f3 _ _ (by omega)]
          simp (disch := omega) only [tz_gs1, tz_gsk, Nat.zero_add]
        · rw [f3 _ _ (by omega)]
          simp (disch := omega) only [tz_gs1, tz_gsk, Nat.zero_add]
      · have g2 := g h (by omega) b
        simp (disch := omega) only [tz_gsk, tz_gsi] at g2
        exact g2
    · rw [f3 k' i' (by omega)]
      simp only [tz_gS]
      repeat rw [if_neg (by omega)]
theorem again_180_49 : ∀ k i A, i + k = 64 → ∃ A', q_X12_again_s180_49 (tz_j i) A = q_X12_again_s180_75 (tz_j 0) A' ∧ (∀ h, i ≤ h → h < 64 → tz_g A' 164 h = tz_g A 180 (24 + h)) ∧ A'.1 = A.1 ∧ A'.2.2 = A.2.2 ∧ (∀ k' i', ¬ ((k' = 164) ∧ i ≤ i' ∧ i' < 64) → tz_g A' k' i' = tz_g A k' i') := by
  intro k
  induction k with
  | zero =>
    intro i A hi
    obtain rfl : i = 64 := by omega
    refine ⟨A, ?_, fun h a b => by omega, rfl, rfl, fun _ _ _ => rfl⟩
    rw [e_X12_again_s180_49]
    simp (disch := omega) only [tz_lit, nj_m1, ↓reduceIte, nj_cl, nj_ltt, nj_ltf, nj_let, nj_lef, nj_eqf, nj_lt, nj_le, nj_eq, nj_add, nj_mul, nj_mod, nj_and7, nj_div, tz_bI_some, tz_bV_some, or_false, false_or, or_self, and_false, false_and, and_true, true_and, not_true_eq_false, not_false_eq_true, nt_lef, nt_let, nt_ltf, nt_ltt, nt_eqf]
  | succ k ih =>
    intro i A hi
    obtain ⟨A', e, g, f1, f2, f3⟩ := ih (i + 1) (tz_s A 164 i (tz_g A 180 (24 + i))) (by omega)
    refine ⟨A', ?_, fun h a b => ?_, f1, f2, fun k' i' hk => ?_⟩
    · rw [← e, e_X12_again_s180_49 (tz_j i)]
      simp (disch := omega) only [tz_lit, nj_m1, ↓reduceIte, nj_cl, nj_ltt, nj_ltf, nj_let, nj_lef, nj_eqf, nj_lt, nj_le, nj_eq, nj_add, nj_mul, nj_mod, nj_and7, nj_div, tz_bI_some, tz_bV_some, or_false, false_or, or_self, and_false, false_and, and_true, true_and, not_true_eq_false, not_false_eq_true, nt_lef, nt_let, nt_ltf, nt_ltt, nt_eqf, tz_gsk, Nat.zero_add]
    · by_cases z : h = i
      · subst z
        rw [f3 _ _ (by omega)]
        simp (disch := omega) only [tz_gs1, tz_gsk, Nat.zero_add]
      · have g2 := g h (by omega) b
        simp (disch := omega) only [tz_gsk, tz_gsi] at g2
        exact g2
    · rw [f3 k' i' (by omega)]
      simp only [tz_gS]
      repeat rw [if_neg (by omega)]
theorem again_180_75 : ∀ k i A, i + k = 4 → ∃ A', q_X12_again_s180_75 (tz_j i) A = q_X12_again_s180_148 (tz_j 0) A' ∧ (∀ h, i ≤ h → h < 4 → tz_g A' 165 h = tz_g A 180 (88 + h) ∧ tz_g A' 167 h = tz_g A 180 (92 + h) ∧ tz_g A' 168 h = tz_g A 180 (96 + h) ∧ tz_g A' 169 h = tz_g A 180 (100 + h) ∧ tz_g A' 170 h = tz_g A 180 (104 + h)) ∧ A'.1 = A.1 ∧ A'.2.2 = A.2.2 ∧ (∀ k' i', ¬ ((k' = 165 ∨ k' = 167 ∨ k' = 168 ∨ k' = 169 ∨ k' = 170) ∧ i ≤ i' ∧ i' < 4) → tz_g A' k' i' = tz_g A k' i') := by
  intro k
  induction k with
  | zero =>
    intro i A hi
    obtain rfl : i = 4 := by omega
    refine ⟨A, ?_, fun h a b => by omega, rfl, rfl, fun _ _ _ => rfl⟩
    rw [e_X12_again_s180_75]
    simp (disch := omega) only [tz_lit, nj_m1, ↓reduceIte, nj_cl, nj_ltt, nj_ltf, nj_let, nj_lef, nj_eqf, nj_lt, nj_le, nj_eq, nj_add, nj_mul, nj_mod, nj_and7, nj_div, tz_bI_some, tz_bV_some, or_false, false_or, or_self, and_false, false_and, and_true, true_and, not_true_eq_false, not_false_eq_true, nt_lef, nt_let, nt_ltf, nt_ltt, nt_eqf]
  | succ k ih =>
    intro i A hi
    obtain ⟨A', e, g, f1, f2, f3⟩ := ih (i + 1) (tz_s (tz_s (tz_s (tz_s (tz_s A 165 i (tz_g A 180 (88 + i))) 167 i (tz_g A 180 (92 + i))) 168 i (tz_g A 180 (96 + i))) 169 i (tz_g A 180 (100 + i))) 170 i (tz_g A 180 (104 + i))) (by omega)
    refine ⟨A', ?_, fun h a b => ?_, f1, f2, fun k' i' hk => ?_⟩
    · rw [← e, e_X12_again_s180_75 (tz_j i)]
      simp (disch := omega) only [tz_lit, nj_m1, ↓reduceIte, nj_cl, nj_ltt, nj_ltf, nj_let, nj_lef, nj_eqf, nj_lt, nj_le, nj_eq, nj_add, nj_mul, nj_mod, nj_and7, nj_div, tz_bI_some, tz_bV_some, or_false, false_or, or_self, and_false, false_and, and_true, true_and, not_true_eq_false, not_false_eq_true, nt_lef, nt_let, nt_ltf, nt_ltt, nt_eqf, tz_gsk, Nat.zero_add]
    · by_cases z : h = i
      · subst z
        refine ⟨?_, ?_⟩
        · rw [f3 _ _ (by omega)]
          simp (disch := omega) only [tz_gs1, tz_gsk, Nat.zero_add]
        refine ⟨?_, ?_⟩
        · rw [f3 _ _ (by omega)]
          simp (disch := omega) only [tz_gs1, tz_gsk, Nat.zero_add]
        refine ⟨?_, ?_⟩
        · rw [f3 _ _ (by omega)]
          simp (disch := omega) only [tz_gs1, tz_gsk, Nat.zero_add]
        refine ⟨?_, ?_⟩
        · rw [f3 _ _ (by omega)]
          simp (disch := omega) only [tz_gs1, tz_gsk, Nat.zero_add]
        · rw [f3 _ _ (by omega)]
          simp (disch := omega) only [tz_gs1, tz_gsk, Nat.zero_add]
      · have g2 := g h (by omega) b
        simp (disch := omega) only [tz_gsk, tz_gsi] at g2
        exact g2
    · rw [f3 k' i' (by omega)]
      simp only [tz_gS]
      repeat rw [if_neg (by omega)]
theorem again_180_148 : ∀ k i A, i + k = 24 → ∃ A', q_X12_again_s180_148 (tz_j i) A = q_X12_again_s180_174 (tz_j 0) A' ∧ (∀ h, i ≤ h → h < 24 → tz_g A' 166 h = tz_g A 180 (108 + h)) ∧ A'.1 = A.1 ∧ A'.2.2 = A.2.2 ∧ (∀ k' i', ¬ ((k' = 166) ∧ i ≤ i' ∧ i' < 24) → tz_g A' k' i' = tz_g A k' i') := by
  intro k
  induction k with
  | zero =>
    intro i A hi
    obtain rfl : i = 24 := by omega
    refine ⟨A, ?_, fun h a b => by omega, rfl, rfl, fun _ _ _ => rfl⟩
    rw [e_X12_again_s180_148]
    simp (disch := omega) only [tz_lit, nj_m1, ↓reduceIte, nj_cl, nj_ltt, nj_ltf, nj_let, nj_lef, nj_eqf, nj_lt, nj_le, nj_eq, nj_add, nj_mul, nj_mod, nj_and7, nj_div, tz_bI_some, tz_bV_some, or_false, false_or, or_self, and_false, false_and, and_true, true_and, not_true_eq_false, not_false_eq_true, nt_lef, nt_let, nt_ltf, nt_ltt, nt_eqf]
  | succ k ih =>
    intro i A hi
    obtain ⟨A', e, g, f1, f2, f3⟩ := ih (i + 1) (tz_s A 166 i (tz_g A 180 (108 + i))) (by omega)
    refine ⟨A', ?_, fun h a b => ?_, f1, f2, fun k' i' hk => ?_⟩
    · rw [← e, e_X12_again_s180_148 (tz_j i)]
      simp (disch := omega) only [tz_lit, nj_m1, ↓reduceIte, nj_cl, nj_ltt, nj_ltf, nj_let, nj_lef, nj_eqf, nj_lt, nj_le, nj_eq, nj_add, nj_mul, nj_mod, nj_and7, nj_div, tz_bI_some, tz_bV_some, or_false, false_or, or_self, and_false, false_and, and_true, true_and, not_true_eq_false, not_false_eq_true, nt_lef, nt_let, nt_ltf, nt_ltt, nt_eqf, tz_gsk, Nat.zero_add]
    · by_cases z : h = i
      · subst z
        rw [f3 _ _ (by omega)]
        simp (disch := omega) only [tz_gs1, tz_gsk, Nat.zero_add]
      · have g2 := g h (by omega) b
        simp (disch := omega) only [tz_gsk, tz_gsi] at g2
        exact g2
    · rw [f3 k' i' (by omega)]
      simp only [tz_gS]
      repeat rw [if_neg (by omega)]
theorem again_180_174 : ∀ k i A, i + k = 12 → ∃ A', q_X12_again_s180_174 (tz_j i) A = q_X12_again_s180_174 (tz_j 12) A' ∧ (∀ h, i ≤ h → h < 12 → tz_g A' 171 h = tz_g A 180 (132 + h) ∧ tz_g A' 172 h = tz_g A 180 (144 + h) ∧ tz_g A' 173 h = tz_g A 180 (156 + h) ∧ tz_g A' 174 h = tz_g A 180 (168 + h) ∧ tz_g A' 175 h = tz_g A 180 (180 + h) ∧ tz_g A' 176 h = tz_g A 180 (192 + h)) ∧ A'.1 = A.1 ∧ A'.2.2 = A.2.2 ∧ (∀ k' i', ¬ ((k' = 171 ∨ k' = 172 ∨ k' = 173 ∨ k' = 174 ∨ k' = 175 ∨ k' = 176) ∧ i ≤ i' ∧ i' < 12) → tz_g A' k' i' = tz_g A k' i') := by
  intro k
  induction k with
  | zero =>
    intro i A hi
    obtain rfl : i = 12 := by omega
    refine ⟨A, ?_, fun h a b => by omega, rfl, rfl, fun _ _ _ => rfl⟩
    rfl
  | succ k ih =>
    intro i A hi
    obtain ⟨A', e, g, f1, f2, f3⟩ := ih (i + 1) (tz_s (tz_s (tz_s (tz_s (tz_s (tz_s A 171 i (tz_g A 180 (132 + i))) 172 i (tz_g A 180 (144 + i))) 173 i (tz_g A 180 (156 + i))) 174 i (tz_g A 180 (168 + i))) 175 i (tz_g A 180 (180 + i))) 176 i (tz_g A 180 (192 + i))) (by omega)
    refine ⟨A', ?_, fun h a b => ?_, f1, f2, fun k' i' hk => ?_⟩
    · rw [← e, e_X12_again_s180_174 (tz_j i)]
      simp (disch := omega) only [tz_lit, nj_m1, ↓reduceIte, nj_cl, nj_ltt, nj_ltf, nj_let, nj_lef, nj_eqf, nj_lt, nj_le, nj_eq, nj_add, nj_mul, nj_mod, nj_and7, nj_div, tz_bI_some, tz_bV_some, or_false, false_or, or_self, and_false, false_and, and_true, true_and, not_true_eq_false, not_false_eq_true, nt_lef, nt_let, nt_ltf, nt_ltt, nt_eqf, tz_gsk, Nat.zero_add]
    · by_cases z : h = i
      · subst z
        refine ⟨?_, ?_⟩
        · rw [f3 _ _ (by omega)]
          simp (disch := omega) only [tz_gs1, tz_gsk, Nat.zero_add]
        refine ⟨?_, ?_⟩
        · rw [f3 _ _ (by omega)]
          simp (disch := omega) only [tz_gs1, tz_gsk, Nat.zero_add]
        refine ⟨?_, ?_⟩
        · rw [f3 _ _ (by omega)]
          simp (disch := omega) only [tz_gs1, tz_gsk, Nat.zero_add]
        refine ⟨?_, ?_⟩
        · rw [f3 _ _ (by omega)]
          simp (disch := omega) only [tz_gs1, tz_gsk, Nat.zero_add]
        refine ⟨?_, ?_⟩
        · rw [f3 _ _ (by omega)]
          simp (disch := omega) only [tz_gs1, tz_gsk, Nat.zero_add]
        · rw [f3 _ _ (by omega)]
          simp (disch := omega) only [tz_gs1, tz_gsk, Nat.zero_add]
      · have g2 := g h (by omega) b
        simp (disch := omega) only [tz_gsk, tz_gsi] at g2
        exact g2
    · rw [f3 k' i' (by omega)]
      simp only [tz_gS]
      repeat rw [if_neg (by omega)]
theorem m_again_180 (A : tz_Mem) : ∃ A', f_X12_again_s180 A = some (none, A') ∧ (∀ q i j, kp_r q i j → tz_g A' q i = tz_g A 180 j) ∧ A'.1 = A.1 ∧ A'.2.2 = A.2.2 ∧ (∀ k i, ¬ kp_d k i → tz_g A' k i = tz_g A k i) := by
  obtain ⟨A1, e1, g1, a1, b1, f1⟩ := again_180_2 8 0 A (Nat.zero_add _)
  obtain ⟨A2, e2, g2, a2, b2, f2⟩ := again_180_49 64 0 A1 (Nat.zero_add _)
  obtain ⟨A3, e3, g3, a3, b3, f3⟩ := again_180_75 4 0 A2 (Nat.zero_add _)
  obtain ⟨A4, e4, g4, a4, b4, f4⟩ := again_180_148 24 0 A3 (Nat.zero_add _)
  obtain ⟨A5, e5, g5, a5, b5, f5⟩ := again_180_174 12 0 A4 (Nat.zero_add _)
  refine ⟨(tz_s (tz_s (tz_s (tz_s (tz_s (tz_s (tz_s A5 157 3 (tz_g A5 180 204)) 157 8 (tz_g A5 180 205)) 157 15 (tz_g A5 180 206)) 157 22 (tz_g A5 180 207)) 157 23 (tz_g A5 180 208)) 157 24 (tz_g A5 180 209)) 157 25 (tz_g A5 180 210)), ?_, fun q i j hq => ?_, by rw [← a1, ← a2, ← a3, ← a4, ← a5]; rfl, by rw [← b1, ← b2, ← b3, ← b4, ← b5]; rfl, fun k i hk => ?_⟩
  · rw [e_X12_again_s180]
    refine e1.trans (e2.trans (e3.trans (e4.trans (e5.trans ?_))))
    rw [e_X12_again_s180_174]
    simp (disch := omega) only [tz_lit, nj_m1, ↓reduceIte, nj_cl, nj_ltt, nj_ltf, nj_let, nj_lef, nj_eqf, nj_lt, nj_le, nj_eq, nj_add, nj_mul, nj_mod, nj_and7, nj_div, tz_bI_some, tz_bV_some, or_false, false_or, or_self, and_false, false_and, and_true, true_and, not_true_eq_false, not_false_eq_true, nt_lef, nt_let, nt_ltf, nt_ltt, nt_eqf, tz_gsk, tz_gsi]
  · unfold kp_r at hq
    rcases hq with ⟨rfl, hi, rfl⟩ | ⟨rfl, hi, rfl⟩ | ⟨rfl, hi, rfl⟩ | ⟨rfl, hi, rfl⟩ | ⟨rfl, hi, rfl⟩ | ⟨rfl, hi, rfl⟩ | ⟨rfl, hi, rfl⟩ | ⟨rfl, hi, rfl⟩ | ⟨rfl, hi, rfl⟩ | ⟨rfl, hi, rfl⟩ | ⟨rfl, hi, rfl⟩ | ⟨rfl, hi, rfl⟩ | ⟨rfl, hi, rfl⟩ | ⟨rfl, hi, rfl⟩ | ⟨rfl, hi, rfl⟩ | ⟨rfl, hi, rfl⟩ | ⟨rfl, rfl, rfl⟩ | ⟨rfl, rfl, rfl⟩ | ⟨rfl, rfl, rfl⟩ | ⟨rfl, rfl, rfl⟩ | ⟨rfl, rfl, rfl⟩ | ⟨rfl, rfl, rfl⟩ | ⟨rfl, rfl, rfl⟩
    · simp (disch := omega) only [tz_gsk]
      rw [f5 _ _ (by omega), f4 _ _ (by omega), f3 _ _ (by omega), f2 _ _ (by omega), (g1 i (Nat.zero_le _) hi).1]
    · simp (disch := omega) only [tz_gsk]
      rw [f5 _ _ (by omega), f4 _ _ (by omega), f3 _ _ (by omega), f2 _ _ (by omega), (g1 i (Nat.zero_le _) hi).2.1]
    · simp (disch := omega) only [tz_gsk]
      rw [f5 _ _ (by omega), f4 _ _ (by omega), f3 _ _ (by omega), f2 _ _ (by omega), (g1 i (Nat.zero_le _) hi).2.2]
    · simp (disch := omega) only [tz_gsk]
      rw [f5 _ _ (by omega), f4 _ _ (by omega), f3 _ _ (by omega), (g2 i (Nat.zero_le _) hi), f1 _ _ (by omega)]
    · simp (disch := omega) only [tz_gsk]
      rw [f5 _ _ (by omega), f4 _ _ (by omega), (g3 i (Nat.zero_le _) hi).1, f2 _ _ (by omega), f1 _ _ (by omega)]
    · simp (disch := omega) only [tz_gsk]
      rw [f5 _ _ (by omega), f4 _ _ (by omega), (g3 i (Nat.zero_le _) hi).2.1, f2 _ _ (by omega), f1 _ _ (by omega)]
    · simp (disch := omega) only [tz_gsk]
      rw [f5 _ _ (by omega), f4 _ _ (by omega), (g3 i (Nat.zero_le _) hi).2.2.1, f2 _ _ (by omega), f1 _ _ (by omega)]
    · simp (disch := omega) only [tz_gsk]
      rw [f5 _ _ (by omega), f4 _ _ (by omega), (g3 i (Nat.zero_le _) hi).2.2.2.1, f2 _ _ (by omega), f1 _ _ (by omega)]
    · simp (disch := omega) only [tz_gsk]
      rw [f5 _ _ (by omega), f4 _ _ (by omega), (g3 i (Nat.zero_le _) hi).2.2.2.2, f2 _ _ (by omega), f1 _ _ (by omega)]
    · simp (disch := omega) only [tz_gsk]
      rw [f5 _ _ (by omega), (g4 i (Nat.zero_le _) hi), f3 _ _ (by omega), f2 _ _ (by omega), f1 _ _ (by omega)]
    · simp (disch := omega) only [tz_gsk]
      rw [(g5 i (Nat.zero_le _) hi).1, f4 _ _ (by omega), f3 _ _ (by omega), f2 _ _ (by omega), f1 _ _ (by omega)]
    · simp (disch := omega) only [tz_gsk]
      rw [(g5 i (Nat.zero_le _) hi).2.1, f4 _ _ (by omega), f3 _ _ (by omega), f2 _ _ (by omega), f1 _ _ (by omega)]
    · simp (disch := omega) only [tz_gsk]
      rw [(g5 i (Nat.zero_le _) hi).2.2.1, f4 _ _ (by omega), f3 _ _ (by omega), f2 _ _ (by omega), f1 _ _ (by omega)]
    · simp (disch := omega) only [tz_gsk]
      rw [(g5 i (Nat.zero_le _) hi).2.2.2.1, f4 _ _ (by omega), f3 _ _ (by omega), f2 _ _ (by omega), f1 _ _ (by omega)]
    · simp (disch := omega) only [tz_gsk]
      rw [(g5 i (Nat.zero_le _) hi).2.2.2.2.1, f4 _ _ (by omega), f3 _ _ (by omega), f2 _ _ (by omega), f1 _ _ (by omega)]
    · simp (disch := omega) only [tz_gsk]
      rw [(g5 i (Nat.zero_le _) hi).2.2.2.2.2, f4 _ _ (by omega), f3 _ _ (by omega), f2 _ _ (by omega), f1 _ _ (by omega)]
    · simp (disch := omega) only [tz_gs1, tz_gsi]
      rw [f5 _ _ (by omega), f4 _ _ (by omega), f3 _ _ (by omega), f2 _ _ (by omega), f1 _ _ (by omega)]
    · simp (disch := omega) only [tz_gs1, tz_gsi]
      rw [f5 _ _ (by omega), f4 _ _ (by omega), f3 _ _ (by omega), f2 _ _ (by omega), f1 _ _ (by omega)]
    · simp (disch := omega) only [tz_gs1, tz_gsi]
      rw [f5 _ _ (by omega), f4 _ _ (by omega), f3 _ _ (by omega), f2 _ _ (by omega), f1 _ _ (by omega)]
    · simp (disch := omega) only [tz_gs1, tz_gsi]
      rw [f5 _ _ (by omega), f4 _ _ (by omega), f3 _ _ (by omega), f2 _ _ (by omega), f1 _ _ (by omega)]
    · simp (disch := omega) only [tz_gs1, tz_gsi]
      rw [f5 _ _ (by omega), f4 _ _ (by omega), f3 _ _ (by omega), f2 _ _ (by omega), f1 _ _ (by omega)]
    · simp (disch := omega) only [tz_gs1, tz_gsi]
      rw [f5 _ _ (by omega), f4 _ _ (by omega), f3 _ _ (by omega), f2 _ _ (by omega), f1 _ _ (by omega)]
    · simp (disch := omega) only [tz_gs1, tz_gsi]
      rw [f5 _ _ (by omega), f4 _ _ (by omega), f3 _ _ (by omega), f2 _ _ (by omega), f1 _ _ (by omega)]
  · simp only [kp_d, not_or] at hk
    obtain ⟨h161, h162, h163, h164, h165, h167, h168, h169, h170, h166, h171, h172, h173, h174, h175, h176, h157⟩ := hk
    simp only [tz_gS]
    rw [if_neg (c := k = 157 ∧ i = 25) (fun z => h157 (by omega))]
    rw [if_neg (c := k = 157 ∧ i = 24) (fun z => h157 (by omega))]
    rw [if_neg (c := k = 157 ∧ i = 23) (fun z => h157 (by omega))]
    rw [if_neg (c := k = 157 ∧ i = 22) (fun z => h157 (by omega))]
    rw [if_neg (c := k = 157 ∧ i = 15) (fun z => h157 (by omega))]
    rw [if_neg (c := k = 157 ∧ i = 8) (fun z => h157 (by omega))]
    rw [if_neg (c := k = 157 ∧ i = 3) (fun z => h157 (by omega))]
    have c5 : ¬ ((k = 171 ∨ k = 172 ∨ k = 173 ∨ k = 174 ∨ k = 175 ∨ k = 176) ∧ 0 ≤ i ∧ i < 12) := by
      intro z
      obtain ⟨z1, _, z3⟩ := z
      rcases z1 with z1 | z1 | z1 | z1 | z1 | z1
      · exact h171 ⟨z1, z3⟩
      · exact h172 ⟨z1, z3⟩
      · exact h173 ⟨z1, z3⟩
      · exact h174 ⟨z1, z3⟩
      · exact h175 ⟨z1, z3⟩
      · exact h176 ⟨z1, z3⟩
    rw [f5 k i c5]
    rw [f4 k i (fun z => h166 ⟨z.1, z.2.2⟩)]
    have c3 : ¬ ((k = 165 ∨ k = 167 ∨ k = 168 ∨ k = 169 ∨ k = 170) ∧ 0 ≤ i ∧ i < 4) := by
      intro z
      obtain ⟨z1, _, z3⟩ := z
      rcases z1 with z1 | z1 | z1 | z1 | z1
      · exact h165 ⟨z1, z3⟩
      · exact h167 ⟨z1, z3⟩
      · exact h168 ⟨z1, z3⟩
      · exact h169 ⟨z1, z3⟩
      · exact h170 ⟨z1, z3⟩
    rw [f3 k i c3]
    rw [f2 k i (fun z => h164 ⟨z.1, z.2.2⟩)]
    have c1 : ¬ ((k = 161 ∨ k = 162 ∨ k = 163) ∧ 0 ≤ i ∧ i < 8) := by
      intro z
      obtain ⟨z1, _, z3⟩ := z
      rcases z1 with z1 | z1 | z1
      · exact h161 ⟨z1, z3⟩
      · exact h162 ⟨z1, z3⟩
      · exact h163 ⟨z1, z3⟩
    rw [f1 k i c1]
theorem keep_181_2 : ∀ k i A, i + k = 8 → ∃ A', q_X12_keep_s181_2 (tz_j i) A = q_X12_keep_s181_49 (tz_j 0) A' ∧ (∀ h, i ≤ h → h < 8 → tz_g A' 181 (0 + h) = tz_g A 161 h ∧ tz_g A' 181 (8 + h) = tz_g A 162 h ∧ tz_g A' 181 (16 + h) = tz_g A 163 h) ∧ A'.1 = A.1 ∧ A'.2.2 = A.2.2 ∧ (∀ k' i', ¬ (k' = 181 ∧ ((0 + i ≤ i' ∧ i' < 8) ∨ (8 + i ≤ i' ∧ i' < 16) ∨ (16 + i ≤ i' ∧ i' < 24))) → tz_g A' k' i' = tz_g A k' i') := by
  intro k
  induction k with
  | zero =>
    intro i A hi
    obtain rfl : i = 8 := by omega
    refine ⟨A, ?_, fun h a b => by omega, rfl, rfl, fun _ _ _ => rfl⟩
    rw [e_X12_keep_s181_2]
    simp (disch := omega) only [tz_lit, nj_m1, ↓reduceIte, nj_cl, nj_ltt, nj_ltf, nj_let, nj_lef, nj_eqf, nj_lt, nj_le, nj_eq, nj_add, nj_mul, nj_mod, nj_and7, nj_div, tz_bI_some, tz_bV_some, or_false, false_or, or_self, and_false, false_and, and_true, true_and, not_true_eq_false, not_false_eq_true, nt_lef, nt_let, nt_ltf, nt_ltt, nt_eqf]
  | succ k ih =>
    intro i A hi
    obtain ⟨A', e, g, f1, f2, f3⟩ := ih (i + 1) (tz_s (tz_s (tz_s A 181 i (tz_g A 161 i)) 181 (8 + i) (tz_g A 162 i)) 181 (16 + i) (tz_g A 163 i)) (by omega)
    refine ⟨A', ?_, fun h a b => ?_, f1, f2, fun k' i' hk => ?_⟩
    · rw [← e, e_X12_keep_s181_2 (tz_j i)]
      simp (disch := omega) only [tz_lit, nj_m1, ↓reduceIte, nj_cl, nj_ltt, nj_ltf, nj_let, nj_lef, nj_eqf, nj_lt, nj_le, nj_eq, nj_add, nj_mul, nj_mod, nj_and7, nj_div, tz_bI_some, tz_bV_some, or_false, false_or, or_self, and_false, false_and, and_true, true_and, not_true_eq_false, not_false_eq_true, nt_lef, nt_let, nt_ltf, nt_ltt, nt_eqf, tz_gsk, Nat.zero_add]
    · by_cases z : h = i
      · subst z
        refine ⟨?_, ?_⟩
        · rw [f3 _ _ (by omega)]
          simp (disch := omega) only [tz_gs1, tz_gsi, Nat.zero_add]
        refine ⟨?_, ?_⟩
        · rw [f3 _ _ (by omega)]
          simp (disch := omega) only [tz_gs1, tz_gsi, Nat.zero_add]
        · rw [f3 _ _ (by omega)]
          simp (disch := omega) only [tz_gs1, tz_gsi, Nat.zero_add]
      · have g2 := g h (by omega) b
        simp (disch := omega) only [tz_gsk, tz_gsi] at g2
        exact g2
    · rw [f3 k' i' (by omega)]
      simp only [tz_gS]
      repeat rw [if_neg (by omega)]
theorem keep_181_49 : ∀ k i A, i + k = 64 → ∃ A', q_X12_keep_s181_49 (tz_j i) A = q_X12_keep_s181_75 (tz_j 0) A' ∧ (∀ h, i ≤ h → h < 64 → tz_g A' 181 (24 + h) = tz_g A 164 h) ∧ A'.1 = A.1 ∧ A'.2.2 = A.2.2 ∧ (∀ k' i', ¬ (k' = 181 ∧ ((24 + i ≤ i' ∧ i' < 88))) → tz_g A' k' i' = tz_g A k' i') := by
  intro k
  induction k with
  | zero =>
    intro i A hi
    obtain rfl : i = 64 := by omega
    refine ⟨A, ?_, fun h a b => by omega, rfl, rfl, fun _ _ _ => rfl⟩
    rw [e_X12_keep_s181_49]
    simp (disch := omega) only [tz_lit, nj_m1, ↓reduceIte, nj_cl, nj_ltt, nj_ltf, nj_let, nj_lef, nj_eqf, nj_lt, nj_le, nj_eq, nj_add, nj_mul, nj_mod, nj_and7, nj_div, tz_bI_some, tz_bV_some, or_false, false_or, or_self, and_false, false_and, and_true, true_and, not_true_eq_false, not_false_eq_true, nt_lef, nt_let, nt_ltf, nt_ltt, nt_eqf]
  | succ k ih =>
    intro i A hi
    obtain ⟨A', e, g, f1, f2, f3⟩ := ih (i + 1) (tz_s A 181 (24 + i) (tz_g A 164 i)) (by omega)
    refine ⟨A', ?_, fun h a b => ?_, f1, f2, fun k' i' hk => ?_⟩
    · rw [← e, e_X12_keep_s181_49 (tz_j i)]
      simp (disch := omega) only [tz_lit, nj_m1, ↓reduceIte, nj_cl, nj_ltt, nj_ltf, nj_let, nj_lef, nj_eqf, nj_lt, nj_le, nj_eq, nj_add, nj_mul, nj_mod, nj_and7, nj_div, tz_bI_some, tz_bV_some, or_false, false_or, or_self, and_false, false_and, and_true, true_and, not_true_eq_false, not_false_eq_true, nt_lef, nt_let, nt_ltf, nt_ltt, nt_eqf, tz_gsk, Nat.zero_add]
    · by_cases z : h = i
      · subst z
        rw [f3 _ _ (by omega)]
        simp (disch := omega) only [tz_gs1, tz_gsi, Nat.zero_add]
      · have g2 := g h (by omega) b
        simp (disch := omega) only [tz_gsk, tz_gsi] at g2
        exact g2
    · rw [f3 k' i' (by omega)]
      simp only [tz_gS]
      repeat rw [if_neg (by omega)]
theorem keep_181_75 : ∀ k i A, i + k = 4 → ∃ A', q_X12_keep_s181_75 (tz_j i) A = q_X12_keep_s181_148 (tz_j 0) A' ∧ (∀ h, i ≤ h → h < 4 → tz_g A' 181 (88 + h) = tz_g A 165 h ∧ tz_g A' 181 (92 + h) = tz_g A 167 h ∧ tz_g A' 181 (96 + h) = tz_g A 168 h ∧ tz_g A' 181 (100 + h) = tz_g A 169 h ∧ tz_g A' 181 (104 + h) = tz_g A 170 h) ∧ A'.1 = A.1 ∧ A'.2.2 = A.2.2 ∧ (∀ k' i', ¬ (k' = 181 ∧ ((88 + i ≤ i' ∧ i' < 92) ∨ (92 + i ≤ i' ∧ i' < 96) ∨ (96 + i ≤ i' ∧ i' < 100) ∨ (100 + i ≤ i' ∧ i' < 104) ∨ (104 + i ≤ i' ∧ i' < 108))) → tz_g A' k' i' = tz_g A k' i') := by
  intro k
  induction k with
  | zero =>
    intro i A hi
    obtain rfl : i = 4 := by omega
    refine ⟨A, ?_, fun h a b => by omega, rfl, rfl, fun _ _ _ => rfl⟩
    rw [e_X12_keep_s181_75]
    simp (disch := omega) only [tz_lit, nj_m1, ↓reduceIte, nj_cl, nj_ltt, nj_ltf, nj_let, nj_lef, nj_eqf, nj_lt, nj_le, nj_eq, nj_add, nj_mul, nj_mod, nj_and7, nj_div, tz_bI_some, tz_bV_some, or_false, false_or, or_self, and_false, false_and, and_true, true_and, not_true_eq_false, not_false_eq_true, nt_lef, nt_let, nt_ltf, nt_ltt, nt_eqf]
  | succ k ih =>
    intro i A hi
    obtain ⟨A', e, g, f1, f2, f3⟩ := ih (i + 1) (tz_s (tz_s (tz_s (tz_s (tz_s A 181 (88 + i) (tz_g A 165 i)) 181 (92 + i) (tz_g A 167 i)) 181 (96 + i) (tz_g A 168 i)) 181 (100 + i) (tz_g A 169 i)) 181 (104 + i) (tz_g A 170 i)) (by omega)
    refine ⟨A', ?_, fun h a b => ?_, f1, f2, fun k' i' hk => ?_⟩
    · rw [← e, e_X12_keep_s181_75 (tz_j i)]
      simp (disch := omega) only [tz_lit, nj_m1, ↓reduceIte, nj_cl, nj_ltt, nj_ltf, nj_let, nj_lef, nj_eqf, nj_lt, nj_le, nj_eq, nj_add, nj_mul, nj_mod, nj_and7, nj_div, tz_bI_some, tz_bV_some, or_false, false_or, or_self, and_false, false_and, and_true, true_and, not_true_eq_false, not_false_eq_true, nt_lef, nt_let, nt_ltf, nt_ltt, nt_eqf, tz_gsk, Nat.zero_add]
    · by_cases z : h = i
      · subst z
        refine ⟨?_, ?_⟩
        · rw [f3 _ _ (by omega)]
          simp (disch := omega) only [tz_gs1, tz_gsi, Nat.zero_add]
        refine ⟨?_, ?_⟩
        · rw [f3 _ _ (by omega)]
          simp (disch := omega) only [tz_gs1, tz_gsi, Nat.zero_add]
        refine ⟨?_, ?_⟩
        · rw [f3 _ _ (by omega)]
          simp (disch := omega) only [tz_gs1, tz_gsi, Nat.zero_add]
        refine ⟨?_, ?_⟩
        · rw [f3 _ _ (by omega)]
          simp (disch := omega) only [tz_gs1, tz_gsi, Nat.zero_add]
        · rw [f3 _ _ (by omega)]
          simp (disch := omega) only [tz_gs1, tz_gsi, Nat.zero_add]
      · have g2 := g h (by omega) b
        simp (disch := omega) only [tz_gsk, tz_gsi] at g2
        exact g2
    · rw [f3 k' i' (by omega)]
      simp only [tz_gS]
      repeat rw [if_neg (by omega)]
theorem keep_181_148 : ∀ k i A, i + k = 24 → ∃ A', q_X12_keep_s181_148 (tz_j i) A = q_X12_keep_s181_174 (tz_j 0) A' ∧ (∀ h, i ≤ h → h < 24 → tz_g A' 181 (108 + h) = tz_g A 166 h) ∧ A'.1 = A.1 ∧ A'.2.2 = A.2.2 ∧ (∀ k' i', ¬ (k' = 181 ∧ ((108 + i ≤ i' ∧ i' < 132))) → tz_g A' k' i' = tz_g A k' i') := by
  intro k
  induction k with
  | zero =>
    intro i A hi
    obtain rfl : i = 24 := by omega
    refine ⟨A, ?_, fun h a b => by omega, rfl, rfl, fun _ _ _ => rfl⟩
    rw [e_X12_keep_s181_148]
    simp (disch := omega) only [tz_lit, nj_m1, ↓reduceIte, nj_cl, nj_ltt, nj_ltf, nj_let, nj_lef, nj_eqf, nj_lt, nj_le, nj_eq, nj_add, nj_mul, nj_mod, nj_and7, nj_div, tz_bI_some, tz_bV_some, or_false, false_or, or_self, and_false, false_and, and_true, true_and, not_true_eq_false, not_false_eq_true, nt_lef, nt_let, nt_ltf, nt_ltt, nt_eqf]
  | succ k ih =>
    intro i A hi
    obtain ⟨A', e, g, f1, f2, f3⟩ := ih (i + 1) (tz_s A 181 (108 + i) (tz_g A 166 i)) (by omega)
    refine ⟨A', ?_, fun h a b => ?_, f1, f2, fun k' i' hk => ?_⟩
    · rw [← e, e_X12_keep_s181_148 (tz_j i)]
      simp (disch := omega) only [tz_lit, nj_m1, ↓reduceIte, nj_cl, nj_ltt, nj_ltf, nj_let, nj_lef, nj_eqf, nj_lt, nj_le, nj_eq, nj_add, nj_mul, nj_mod, nj_and7, nj_div, tz_bI_some, tz_bV_some, or_false, false_or, or_self, and_false, false_and, and_true, true_and, not_true_eq_false, not_false_eq_true, nt_lef, nt_let, nt_ltf, nt_ltt, nt_eqf, tz_gsk, Nat.zero_add]
    · by_cases z : h = i
      · subst z
        rw [f3 _ _ (by omega)]
        simp (disch := omega) only [tz_gs1, tz_gsi, Nat.zero_add]
      · have g2 := g h (by omega) b
        simp (disch := omega) only [tz_gsk, tz_gsi] at g2
        exact g2
    · rw [f3 k' i' (by omega)]
      simp only [tz_gS]
      repeat rw [if_neg (by omega)]
theorem keep_181_174 : ∀ k i A, i + k = 12 → ∃ A', q_X12_keep_s181_174 (tz_j i) A = q_X12_keep_s181_174 (tz_j 12) A' ∧ (∀ h, i ≤ h → h < 12 → tz_g A' 181 (132 + h) = tz_g A 171 h ∧ tz_g A' 181 (144 + h) = tz_g A 172 h ∧ tz_g A' 181 (156 + h) = tz_g A 173 h ∧ tz_g A' 181 (168 + h) = tz_g A 174 h ∧ tz_g A' 181 (180 + h) = tz_g A 175 h ∧ tz_g A' 181 (192 + h) = tz_g A 176 h) ∧ A'.1 = A.1 ∧ A'.2.2 = A.2.2 ∧ (∀ k' i', ¬ (k' = 181 ∧ ((132 + i ≤ i' ∧ i' < 144) ∨ (144 + i ≤ i' ∧ i' < 156) ∨ (156 + i ≤ i' ∧ i' < 168) ∨ (168 + i ≤ i' ∧ i' < 180) ∨ (180 + i ≤ i' ∧ i' < 192) ∨ (192 + i ≤ i' ∧ i' < 204))) → tz_g A' k' i' = tz_g A k' i') := by
  intro k
  induction k with
  | zero =>
    intro i A hi
    obtain rfl : i = 12 := by omega
    refine ⟨A, ?_, fun h a b => by omega, rfl, rfl, fun _ _ _ => rfl⟩
    rfl
  | succ k ih =>
    intro i A hi
    obtain ⟨A', e, g, f1, f2, f3⟩ := ih (i + 1) (tz_s (tz_s (tz_s (tz_s (tz_s (tz_s A 181 (132 + i) (tz_g A 171 i)) 181 (144 + i) (tz_g A 172 i)) 181 (156 + i) (tz_g A 173 i)) 181 (168 + i) (tz_g A 174 i)) 181 (180 + i) (tz_g A 175 i)) 181 (192 + i) (tz_g A 176 i)) (by omega)
    refine ⟨A', ?_, fun h a b => ?_, f1, f2, fun k' i' hk => ?_⟩
    · rw [← e, e_X12_keep_s181_174 (tz_j i)]
      simp (disch := omega) only [tz_lit, nj_m1, ↓reduceIte, nj_cl, nj_ltt, nj_ltf, nj_let, nj_lef, nj_eqf, nj_lt, nj_le, nj_eq, nj_add, nj_mul, nj_mod, nj_and7, nj_div, tz_bI_some, tz_bV_some, or_false, false_or, or_self, and_false, false_and, and_true, true_and, not_true_eq_false, not_false_eq_true, nt_lef, nt_let, nt_ltf, nt_ltt, nt_eqf, tz_gsk, Nat.zero_add]
    · by_cases z : h = i
      · subst z
        refine ⟨?_, ?_⟩
        · rw [f3 _ _ (by omega)]
          simp (disch := omega) only [tz_gs1, tz_gsi, Nat.zero_add]
        refine ⟨?_, ?_⟩
        · rw [f3 _ _ (by omega)]
          simp (disch := omega) only [tz_gs1, tz_gsi, Nat.zero_add]
        refine ⟨?_, ?_⟩
        · rw [f3 _ _ (by omega)]
          simp (disch := omega) only [tz_gs1, tz_gsi, Nat.zero_add]
        refine ⟨?_, ?_⟩
        · rw [f3 _ _ (by omega)]
          simp (disch := omega) only [tz_gs1, tz_gsi, Nat.zero_add]
        refine ⟨?_, ?_⟩
        · rw [f3 _ _ (by omega)]
          simp (disch := omega) only [tz_gs1, tz_gsi, Nat.zero_add]
        · rw [f3 _ _ (by omega)]
          simp (disch := omega) only [tz_gs1, tz_gsi, Nat.zero_add]
      · have g2 := g h (by omega) b
        simp (disch := omega) only [tz_gsk, tz_gsi] at g2
        exact g2
    · rw [f3 k' i' (by omega)]
      simp only [tz_gS]
      repeat rw [if_neg (by omega)]
theorem m_keep_181 (A : tz_Mem) : ∃ A', f_X12_keep_s181 A = some (none, A') ∧ (∀ q i j, kp_r q i j → tz_g A' 181 j = tz_g A q i) ∧ A'.1 = A.1 ∧ A'.2.2 = A.2.2 ∧ (∀ k i, ¬ (k = 181 ∧ i < 211) → tz_g A' k i = tz_g A k i) := by
  obtain ⟨A1, e1, g1, a1, b1, f1⟩ := keep_181_2 8 0 A (Nat.zero_add _)
  obtain ⟨A2, e2, g2, a2, b2, f2⟩ := keep_181_49 64 0 A1 (Nat.zero_add _)
  obtain ⟨A3, e3, g3, a3, b3, f3⟩ := keep_181_75 4 0 A2 (Nat.zero_add _)
  obtain ⟨A4, e4, g4, a4, b4, f4⟩ := keep_181_148 24 0 A3 (Nat.zero_add _)
  obtain ⟨A5, e5, g5, a5, b5, f5⟩ := keep_181_174 12 0 A4 (Nat.zero_add _)
  refine ⟨(tz_s (tz_s (tz_s (tz_s (tz_s (tz_s (tz_s A5 181 204 (tz_g A5 157 3)) 181 205 (tz_g A5 157 8)) 181 206 (tz_g A5 157 15)) 181 207 (tz_g A5 157 22)) 181 208 (tz_g A5 157 23)) 181 209 (tz_g A5 157 24)) 181 210 (tz_g A5 157 25)), ?_, fun q i j hq => ?_, by rw [← a1, ← a2, ← a3, ← a4, ← a5]; rfl, by rw [← b1, ← b2, ← b3, ← b4, ← b5]; rfl, fun k i hk => ?_⟩
  · rw [e_X12_keep_s181]
    refine e1.trans (e2.trans (e3.trans (e4.trans (e5.trans ?_))))
    rw [e_X12_keep_s181_174]
    simp (disch := omega) only [tz_lit, nj_m1, ↓reduceIte, nj_cl, nj_ltt, nj_ltf, nj_let, nj_lef, nj_eqf, nj_lt, nj_le, nj_eq, nj_add, nj_mul, nj_mod, nj_and7, nj_div, tz_bI_some, tz_bV_some, or_false, false_or, or_self, and_false, false_and, and_true, true_and, not_true_eq_false, not_false_eq_true, nt_lef, nt_let, nt_ltf, nt_ltt, nt_eqf, tz_gsk, tz_gsi]
  · unfold kp_r at hq
    rcases hq with ⟨rfl, hi, rfl⟩ | ⟨rfl, hi, rfl⟩ | ⟨rfl, hi, rfl⟩ | ⟨rfl, hi, rfl⟩ | ⟨rfl, hi, rfl⟩ | ⟨rfl, hi, rfl⟩ | ⟨rfl, hi, rfl⟩ | ⟨rfl, hi, rfl⟩ | ⟨rfl, hi, rfl⟩ | ⟨rfl, hi, rfl⟩ | ⟨rfl, hi, rfl⟩ | ⟨rfl, hi, rfl⟩ | ⟨rfl, hi, rfl⟩ | ⟨rfl, hi, rfl⟩ | ⟨rfl, hi, rfl⟩ | ⟨rfl, hi, rfl⟩ | ⟨rfl, rfl, rfl⟩ | ⟨rfl, rfl, rfl⟩ | ⟨rfl, rfl, rfl⟩ | ⟨rfl, rfl, rfl⟩ | ⟨rfl, rfl, rfl⟩ | ⟨rfl, rfl, rfl⟩ | ⟨rfl, rfl, rfl⟩
    · simp (disch := omega) only [tz_gsi]
      rw [f5 _ _ (by omega), f4 _ _ (by omega), f3 _ _ (by omega), f2 _ _ (by omega), (g1 i (Nat.zero_le _) hi).1]
    · simp (disch := omega) only [tz_gsi]
      rw [f5 _ _ (by omega), f4 _ _ (by omega), f3 _ _ (by omega), f2 _ _ (by omega), (g1 i (Nat.zero_le _) hi).2.1]
    · simp (disch := omega) only [tz_gsi]
      rw [f5 _ _ (by omega), f4 _ _ (by omega), f3 _ _ (by omega), f2 _ _ (by omega), (g1 i (Nat.zero_le _) hi).2.2]
    · simp (disch := omega) only [tz_gsi]
      rw [f5 _ _ (by omega), f4 _ _ (by omega), f3 _ _ (by omega), (g2 i (Nat.zero_le _) hi), f1 _ _ (by omega)]
    · simp (disch := omega) only [tz_gsi]
      rw [f5 _ _ (by omega), f4 _ _ (by omega), (g3 i (Nat.zero_le _) hi).1, f2 _ _ (by omega), f1 _ _ (by omega)]
    · simp (disch := omega) only [tz_gsi]
      rw [f5 _ _ (by omega), f4 _ _ (by omega), (g3 i (Nat.zero_le _) hi).2.1, f2 _ _ (by omega), f1 _ _ (by omega)]
    · simp (disch := omega) only [tz_gsi]
      rw [f5 _ _ (by omega), f4 _ _ (by omega), (g3 i (Nat.zero_le _) hi).2.2.1, f2 _ _ (by omega), f1 _ _ (by omega)]
    · simp (disch := omega) only [tz_gsi]
      rw [f5 _ _ (by omega), f4 _ _ (by omega), (g3 i (Nat.zero_le _) hi).2.2.2.1, f2 _ _ (by omega), f1 _ _ (by omega)]
    · simp (disch := omega) only [tz_gsi]
      rw [f5 _ _ (by omega), f4 _ _ (by omega), (g3 i (Nat.zero_le _) hi).2.2.2.2, f2 _ _ (by omega), f1 _ _ (by omega)]
    · simp (disch := omega) only [tz_gsi]
      rw [f5 _ _ (by omega), (g4 i (Nat.zero_le _) hi), f3 _ _ (by omega), f2 _ _ (by omega), f1 _ _ (by omega)]
    · simp (disch := omega) only [tz_gsi]
      rw [(g5 i (Nat.zero_le _) hi).1, f4 _ _ (by omega), f3 _ _ (by omega), f2 _ _ (by omega), f1 _ _ (by omega)]
    · simp (disch := omega) only [tz_gsi]
      rw [(g5 i (Nat.zero_le _) hi).2.1, f4 _ _ (by omega), f3 _ _ (by omega), f2 _ _ (by omega), f1 _ _ (by omega)]
    · simp (disch := omega) only [tz_gsi]
      rw [(g5 i (Nat.zero_le _) hi).2.2.1, f4 _ _ (by omega), f3 _ _ (by omega), f2 _ _ (by omega), f1 _ _ (by omega)]
    · simp (disch := omega) only [tz_gsi]
      rw [(g5 i (Nat.zero_le _) hi).2.2.2.1, f4 _ _ (by omega), f3 _ _ (by omega), f2 _ _ (by omega), f1 _ _ (by omega)]
    · simp (disch := omega) only [tz_gsi]
      rw [(g5 i (Nat.zero_le _) hi).2.2.2.2.1, f4 _ _ (by omega), f3 _ _ (by omega), f2 _ _ (by omega), f1 _ _ (by omega)]
    · simp (disch := omega) only [tz_gsi]
      rw [(g5 i (Nat.zero_le _) hi).2.2.2.2.2, f4 _ _ (by omega), f3 _ _ (by omega), f2 _ _ (by omega), f1 _ _ (by omega)]
    · simp (disch := omega) only [tz_gs1, tz_gsi]
      rw [f5 _ _ (by omega), f4 _ _ (by omega), f3 _ _ (by omega), f2 _ _ (by omega), f1 _ _ (by omega)]
    · simp (disch := omega) only [tz_gs1, tz_gsi]
      rw [f5 _ _ (by omega), f4 _ _ (by omega), f3 _ _ (by omega), f2 _ _ (by omega), f1 _ _ (by omega)]
    · simp (disch := omega) only [tz_gs1, tz_gsi]
      rw [f5 _ _ (by omega), f4 _ _ (by omega), f3 _ _ (by omega), f2 _ _ (by omega), f1 _ _ (by omega)]
    · simp (disch := omega) only [tz_gs1, tz_gsi]
      rw [f5 _ _ (by omega), f4 _ _ (by omega), f3 _ _ (by omega), f2 _ _ (by omega), f1 _ _ (by omega)]
    · simp (disch := omega) only [tz_gs1, tz_gsi]
      rw [f5 _ _ (by omega), f4 _ _ (by omega), f3 _ _ (by omega), f2 _ _ (by omega), f1 _ _ (by omega)]
    · simp (disch := omega) only [tz_gs1, tz_gsi]
      rw [f5 _ _ (by omega), f4 _ _ (by omega), f3 _ _ (by omega), f2 _ _ (by omega), f1 _ _ (by omega)]
    · simp (disch := omega) only [tz_gs1, tz_gsi]
      rw [f5 _ _ (by omega), f4 _ _ (by omega), f3 _ _ (by omega), f2 _ _ (by omega), f1 _ _ (by omega)]
  · simp only [tz_gS]
    repeat rw [if_neg (by omega)]
    rw [f5 _ _ (by omega), f4 _ _ (by omega), f3 _ _ (by omega), f2 _ _ (by omega), f1 _ _ (by omega)]
theorem again_181_2 : ∀ k i A, i + k = 8 → ∃ A', q_X12_again_s181_2 (tz_j i) A = q_X12_again_s181_49 (tz_j 0) A' ∧ (∀ h, i ≤ h → h < 8 → tz_g A' 161 h = tz_g A 181 (0 + h) ∧ tz_g A' 162 h = tz_g A 181 (8 + h) ∧ tz_g A' 163 h = tz_g A 181 (16 + h)) ∧ A'.1 = A.1 ∧ A'.2.2 = A.2.2 ∧ (∀ k' i', ¬ ((k' = 161 ∨ k' = 162 ∨ k' = 163) ∧ i ≤ i' ∧ i' < 8) → tz_g A' k' i' = tz_g A k' i') := by
  intro k
  induction k with
  | zero =>
    intro i A hi
    obtain rfl : i = 8 := by omega
    refine ⟨A, ?_, fun h a b => by omega, rfl, rfl, fun _ _ _ => rfl⟩
    rw [e_X12_again_s181_2]
    simp (disch := omega) only [tz_lit, nj_m1, ↓reduceIte, nj_cl, nj_ltt, nj_ltf, nj_let, nj_lef, nj_eqf, nj_lt, nj_le, nj_eq, nj_add, nj_mul, nj_mod, nj_and7, nj_div, tz_bI_some, tz_bV_some, or_false, false_or, or_self, and_false, false_and, and_true, true_and, not_true_eq_false, not_false_eq_true, nt_lef, nt_let, nt_ltf, nt_ltt, nt_eqf]
  | succ k ih =>
    intro i A hi
    obtain ⟨A', e, g, f1, f2, f3⟩ := ih (i + 1) (tz_s (tz_s (tz_s A 161 i (tz_g A 181 i)) 162 i (tz_g A 181 (8 + i))) 163 i (tz_g A 181 (16 + i))) (by omega)
    refine ⟨A', ?_, fun h a b => ?_, f1, f2, fun k' i' hk => ?_⟩
    · rw [← e, e_X12_again_s181_2 (tz_j i)]
      simp (disch := omega) only [tz_lit, nj_m1, ↓reduceIte, nj_cl, nj_ltt, nj_ltf, nj_let, nj_lef, nj_eqf, nj_lt, nj_le, nj_eq, nj_add, nj_mul, nj_mod, nj_and7, nj_div, tz_bI_some, tz_bV_some, or_false, false_or, or_self, and_false, false_and, and_true, true_and, not_true_eq_false, not_false_eq_true, nt_lef, nt_let, nt_ltf, nt_ltt, nt_eqf, tz_gsk, Nat.zero_add]
    · by_cases z : h = i
      · subst z
        refine ⟨?_, ?_⟩
        · rw [f3 _ _ (by omega)]
          simp (disch := omega) only [tz_gs1, tz_gsk, Nat.zero_add]
        refine ⟨?_, ?_⟩
        · rw [f3 _ _ (by omega)]
          simp (disch := omega) only [tz_gs1, tz_gsk, Nat.zero_add]
        · rw [f3 _ _ (by omega)]
          simp (disch := omega) only [tz_gs1, tz_gsk, Nat.zero_add]
      · have g2 := g h (by omega) b
        simp (disch := omega) only [tz_gsk, tz_gsi] at g2
        exact g2
    · rw [f3 k' i' (by omega)]
      simp only [tz_gS]
      repeat rw [if_neg (by omega)]
theorem again_181_49 : ∀ k i A, i + k = 64 → ∃ A', q_X12_again_s181_49 (tz_j i) A = q_X12_again_s181_75 (tz_j 0) A' ∧ (∀ h, i ≤ h → h < 64 → tz_g A' 164 h = tz_g A 181 (24 + h)) ∧ A'.1 = A.1 ∧ A'.2.2 = A.2.2 ∧ (∀ k' i', ¬ ((k' = 164) ∧ i ≤ i' ∧ i' < 64) → tz_g A' k' i' = tz_g A k' i') := by
  intro k
  induction k with
  | zero =>
    intro i A hi
    obtain rfl : i = 64 := by omega
    refine ⟨A, ?_, fun h a b => by omega, rfl, rfl, fun _ _ _ => rfl⟩
    rw [e_X12_again_s181_49]
    simp (disch := omega) only [tz_lit, nj_m1, ↓reduceIte, nj_cl, nj_ltt, nj_ltf, nj_let, nj_lef, nj_eqf, nj_lt, nj_le, nj_eq, nj_add, nj_mul, nj_mod, nj_and7, nj_div, tz_bI_some, tz_bV_some, or_false, false_or, or_self, and_false, false_and, and_true, true_and, not_true_eq_false, not_false_eq_true, nt_lef, nt_let, nt_ltf, nt_ltt, nt_eqf]
  | succ k ih =>
    intro i A hi
    obtain ⟨A', e, g, f1, f2, f3⟩ := ih (i + 1) (tz_s A 164 i (tz_g A 181 (24 + i))) (by omega)
    refine ⟨A', ?_, fun h a b => ?_, f1, f2, fun k' i' hk => ?_⟩
    · rw [← e, e_X12_again_s181_49 (tz_j i)]
      simp (disch := omega) only [tz_lit, nj_m1, ↓reduceIte, nj_cl, nj_ltt, nj_ltf, nj_let, nj_lef, nj_eqf, nj_lt, nj_le, nj_eq, nj_add, nj_mul, nj_mod, nj_and7, nj_div, tz_bI_some, tz_bV_some, or_false, false_or, or_self, and_false, false_and, and_true, true_and, not_true_eq_false, not_false_eq_true, nt_lef, nt_let, nt_ltf, nt_ltt, nt_eqf, tz_gsk, Nat.zero_add]
    · by_cases z : h = i
      · subst z
        rw [f3 _ _ (by omega)]
        simp (disch := omega) only [tz_gs1, tz_gsk, Nat.zero_add]
      · have g2 := g h (by omega) b
        simp (disch := omega) only [tz_gsk, tz_gsi] at g2
        exact g2
    · rw [f3 k' i' (by omega)]
      simp only [tz_gS]
      repeat rw [if_neg (by omega)]
theorem again_181_75 : ∀ k i A, i + k = 4 → ∃ A', q_X12_again_s181_75 (tz_j i) A = q_X12_again_s181_148 (tz_j 0) A' ∧ (∀ h, i ≤ h → h < 4 → tz_g A' 165 h = tz_g A 181 (88 + h) ∧ tz_g A' 167 h = tz_g A 181 (92 + h) ∧ tz_g A' 168 h = tz_g A 181 (96 + h) ∧ tz_g A' 169 h = tz_g A 181 (100 + h) ∧ tz_g A' 170 h = tz_g A 181 (104 + h)) ∧ A'.1 = A.1 ∧ A'.2.2 = A.2.2 ∧ (∀ k' i', ¬ ((k' = 165 ∨ k' = 167 ∨ k' = 168 ∨ k' = 169 ∨ k' = 170) ∧ i ≤ i' ∧ i' < 4) → tz_g A' k' i' = tz_g A k' i') := by
  intro k
  induction k with
  | zero =>
    intro i A hi
    obtain rfl : i = 4 := by omega
    refine ⟨A, ?_, fun h a b => by omega, rfl, rfl, fun _ _ _ => rfl⟩
    rw [e_X12_again_s181_75]
    simp (disch := omega) only [tz_lit, nj_m1, ↓reduceIte, nj_cl, nj_ltt, nj_ltf, nj_let, nj_lef, nj_eqf, nj_lt, nj_le, nj_eq, nj_add, nj_mul, nj_mod, nj_and7, nj_div, tz_bI_some, tz_bV_some, or_false, false_or, or_self, and_false, false_and, and_true, true_and, not_true_eq_false, not_false_eq_true, nt_lef, nt_let, nt_ltf, nt_ltt, nt_eqf]
  | succ k ih =>
    intro i A hi
    obtain ⟨A', e, g, f1, f2, f3⟩ := ih (i + 1) (tz_s (tz_s (tz_s (tz_s (tz_s A 165 i (tz_g A 181 (88 + i))) 167 i (tz_g A 181 (92 + i))) 168 i (tz_g A 181 (96 + i))) 169 i (tz_g A 181 (100 + i))) 170 i (tz_g A 181 (104 + i))) (by omega)
    refine ⟨A', ?_, fun h a b => ?_, f1, f2, fun k' i' hk => ?_⟩
    · rw [← e, e_X12_again_s181_75 (tz_j i)]
      simp (disch := omega) only [tz_lit, nj_m1, ↓reduceIte, nj_cl, nj_ltt, nj_ltf, nj_let, nj_lef, nj_eqf, nj_lt, nj_le, nj_eq, nj_add, nj_mul, nj_mod, nj_and7, nj_div, tz_bI_some, tz_bV_some, or_false, false_or, or_self, and_false, false_and, and_true, true_and, not_true_eq_false, not_false_eq_true, nt_lef, nt_let, nt_ltf, nt_ltt, nt_eqf, tz_gsk, Nat.zero_add]
    · by_cases z : h = i
      · subst z
        refine ⟨?_, ?_⟩
        · rw [f3 _ _ (by omega)]
          simp (disch := omega) only [tz_gs1, tz_gsk, Nat.zero_add]
        refine ⟨?_, ?_⟩
        · rw [f3 _ _ (by omega)]
          simp (disch := omega) only [tz_gs1, tz_gsk, Nat.zero_add]
        refine ⟨?_, ?_⟩
        · rw [f3 _ _ (by omega)]
          simp (disch := omega) only [tz_gs1, tz_gsk, Nat.zero_add]
        refine ⟨?_, ?_⟩
        · rw [f3 _ _ (by omega)]
          simp (disch := omega) only [tz_gs1, tz_gsk, Nat.zero_add]
        · rw [f3 _ _ (by omega)]
          simp (disch := omega) only [tz_gs1, tz_gsk, Nat.zero_add]
      · have g2 := g h (by omega) b
        simp (disch := omega) only [tz_gsk, tz_gsi] at g2
        exact g2
    · rw [f3 k' i' (by omega)]
      simp only [tz_gS]
      repeat rw [if_neg (by omega)]
theorem again_181_148 : ∀ k i A, i + k = 24 → ∃ A', q_X12_again_s181_148 (tz_j i) A = q_X12_again_s181_174 (tz_j 0) A' ∧ (∀ h, i ≤ h → h < 24 → tz_g A' 166 h = tz_g A 181 (108 + h)) ∧ A'.1 = A.1 ∧ A'.2.2 = A.2.2 ∧ (∀ k' i', ¬ ((k' = 166) ∧ i ≤ i' ∧ i' < 24) → tz_g A' k' i' = tz_g A k' i') := by
  intro k
  induction k with
  | zero =>
    intro i A hi
    obtain rfl : i = 24 := by omega
    refine ⟨A, ?_, fun h a b => by omega, rfl, rfl, fun _ _ _ => rfl⟩
    rw [e_X12_again_s181_148]
    simp (disch := omega) only [tz_lit, nj_m1, ↓reduceIte, nj_cl, nj_ltt, nj_ltf, nj_let, nj_lef, nj_eqf, nj_lt, nj_le, nj_eq, nj_add, nj_mul, nj_mod, nj_and7, nj_div, tz_bI_some, tz_bV_some, or_false, false_or, or_self, and_false, false_and, and_true, true_and, not_true_eq_false, not_false_eq_true, nt_lef, nt_let, nt_ltf, nt_ltt, nt_eqf]
  | succ k ih =>
    intro i A hi
    obtain ⟨A', e, g, f1, f2, f3⟩ := ih (i + 1) (tz_s A 166 i (tz_g A 181 (108 + i))) (by omega)
    refine ⟨A', ?_, fun h a b => ?_, f1, f2, fun k' i' hk => ?_⟩
    · rw [← e, e_X12_again_s181_148 (tz_j i)]
      simp (disch := omega) only [tz_lit, nj_m1, ↓reduceIte, nj_cl, nj_ltt, nj_ltf, nj_let, nj_lef, nj_eqf, nj_lt, nj_le, nj_eq, nj_add, nj_mul, nj_mod, nj_and7, nj_div, tz_bI_some, tz_bV_some, or_false, false_or, or_self, and_false, false_and, and_true, true_and, not_true_eq_false, not_false_eq_true, nt_lef, nt_let, nt_ltf, nt_ltt, nt_eqf, tz_gsk, Nat.zero_add]
    · by_cases z : h = i
      · subst z
        rw [f3 _ _ (by omega)]
        simp (disch := omega) only [tz_gs1, tz_gsk, Nat.zero_add]
      · have g2 := g h (by omega) b
        simp (disch := omega) only [tz_gsk, tz_gsi] at g2
        exact g2
    · rw [f3 k' i' (by omega)]
      simp only [tz_gS]
      repeat rw [if_neg (by omega)]
theorem again_181_174 : ∀ k i A, i + k = 12 → ∃ A', q_X12_again_s181_174 (tz_j i) A = q_X12_again_s181_174 (tz_j 12) A' ∧ (∀ h, i ≤ h → h < 12 → tz_g A' 171 h = tz_g A 181 (132 + h) ∧ tz_g A' 172 h = tz_g A 181 (144 + h) ∧ tz_g A' 173 h = tz_g A 181 (156 + h) ∧ tz_g A' 174 h = tz_g A 181 (168 + h) ∧ tz_g A' 175 h = tz_g A 181 (180 + h) ∧ tz_g A' 176 h = tz_g A 181 (192 + h)) ∧ A'.1 = A.1 ∧ A'.2.2 = A.2.2 ∧ (∀ k' i', ¬ ((k' = 171 ∨ k' = 172 ∨ k' = 173 ∨ k' = 174 ∨ k' = 175 ∨ k' = 176) ∧ i ≤ i' ∧ i' < 12) → tz_g A' k' i' = tz_g A k' i') := by
  intro k
  induction k with
  | zero =>
    intro i A hi
    obtain rfl : i = 12 := by omega
    refine ⟨A, ?_, fun h a b => by omega, rfl, rfl, fun _ _ _ => rfl⟩
    rfl
  | succ k ih =>
    intro i A hi
    obtain ⟨A', e, g, f1, f2, f3⟩ := ih (i + 1) (tz_s (tz_s (tz_s (tz_s (tz_s (tz_s A 171 i (tz_g A 181 (132 + i))) 172 i (tz_g A 181 (144 + i))) 173 i (tz_g A 181 (156 + i))) 174 i (tz_g A 181 (168 + i))) 175 i (tz_g A 181 (180 + i))) 176 i (tz_g A 181 (192 + i))) (by omega)
    refine ⟨A', ?_, fun h a b => ?_, f1, f2, fun k' i' hk => ?_⟩
    · rw [← e, e_X12_again_s181_174 (tz_j i)]
      simp (disch := omega) only [tz_lit, nj_m1, ↓reduceIte, nj_cl, nj_ltt, nj_ltf, nj_let, nj_lef, nj_eqf, nj_lt, nj_le, nj_eq, nj_add, nj_mul, nj_mod, nj_and7, nj_div, tz_bI_some, tz_bV_some, or_false, false_or, or_self, and_false, false_and, and_true, true_and, not_true_eq_false, not_false_eq_true, nt_lef, nt_let, nt_ltf, nt_ltt, nt_eqf, tz_gsk, Nat.zero_add]
    · by_cases z : h = i
      · subst z
        refine ⟨?_, ?_⟩
        · rw [f3 _ _ (by omega)]
          simp (disch := omega) only [tz_gs1, tz_gsk, Nat.zero_add]
        refine ⟨?_, ?_⟩
        · rw [f3 _ _ (by omega)]
          simp (disch := omega) only [tz_gs1, tz_gsk, Nat.zero_add]
        refine ⟨?_, ?_⟩
        · rw [f3 _ _ (by omega)]
          simp (disch := omega) only [tz_gs1, tz_gsk, Nat.zero_add]
        refine ⟨?_, ?_⟩
        · rw [f3 _ _ (by omega)]
          simp (disch := omega) only [tz_gs1, tz_gsk, Nat.zero_add]
        refine ⟨?_, ?_⟩
        · rw [f3 _ _ (by omega)]
          simp (disch := omega) only [tz_gs1, tz_gsk, Nat.zero_add]
        · rw [f3 _ _ (by omega)]
          simp (disch := omega) only [tz_gs1, tz_gsk, Nat.zero_add]
      · have g2 := g h (by omega) b
        simp (disch := omega) only [tz_gsk, tz_gsi] at g2
        exact g2
    · rw [f3 k' i' (by omega)]
      simp only [tz_gS]
      repeat rw [if_neg (by omega)]
theorem m_again_181 (A : tz_Mem) : ∃ A', f_X12_again_s181 A = some (none, A') ∧ (∀ q i j, kp_r q i j → tz_g A' q i = tz_g A 181 j) ∧ A'.1 = A.1 ∧ A'.2.2 = A.2.2 ∧ (∀ k i, ¬ kp_d k i → tz_g A' k i = tz_g A k i) := by
  obtain ⟨A1, e1, g1, a1, b1, f1⟩ := again_181_2 8 0 A (Nat.zero_add _)
  obtain ⟨A2, e2, g2, a2, b2, f2⟩ := again_181_49 64 0 A1 (Nat.zero_add _)
  obtain ⟨A3, e3, g3, a3, b3, f3⟩ := again_181_75 4 0 A2 (Nat.zero_add _)
  obtain ⟨A4, e4, g4, a4, b4, f4⟩ := again_181_148 24 0 A3 (Nat.zero_add _)
  obtain ⟨A5, e5, g5, a5, b5, f5⟩ := again_181_174 12 0 A4 (Nat.zero_add _)
  refine ⟨(tz_s (tz_s (tz_s (tz_s (tz_s (tz_s (tz_s A5 157 3 (tz_g A5 181 204)) 157 8 (tz_g A5 181 205)) 157 15 (tz_g A5 181 206)) 157 22 (tz_g A5 181 207)) 157 23 (tz_g A5 181 208)) 157 24 (tz_g A5 181 209)) 157 25 (tz_g A5 181 210)), ?_, fun q i j hq => ?_, by rw [← a1, ← a2, ← a3, ← a4, ← a5]; rfl, by rw [← b1, ← b2, ← b3, ← b4, ← b5]; rfl, fun k i hk => ?_⟩
  · rw [e_X12_again_s181]
    refine e1.trans (e2.trans (e3.trans (e4.trans (e5.trans ?_))))
    rw [e_X12_again_s181_174]
    simp (disch := omega) only [tz_lit, nj_m1, ↓reduceIte, nj_cl, nj_ltt, nj_ltf, nj_let, nj_lef, nj_eqf, nj_lt, nj_le, nj_eq, nj_add, nj_mul, nj_mod, nj_and7, nj_div, tz_bI_some, tz_bV_some, or_false, false_or, or_self, and_false, false_and, and_true, true_and, not_true_eq_false, not_false_eq_true, nt_lef, nt_let, nt_ltf, nt_ltt, nt_eqf, tz_gsk, tz_gsi]
  · unfold kp_r at hq
    rcases hq with ⟨rfl, hi, rfl⟩ | ⟨rfl, hi, rfl⟩ | ⟨rfl, hi, rfl⟩ | ⟨rfl, hi, rfl⟩ | ⟨rfl, hi, rfl⟩ | ⟨rfl, hi, rfl⟩ | ⟨rfl, hi, rfl⟩ | ⟨rfl, hi, rfl⟩ | ⟨rfl, hi, rfl⟩ | ⟨rfl, hi, rfl⟩ | ⟨rfl, hi, rfl⟩ | ⟨rfl, hi, rfl⟩ | ⟨rfl, hi, rfl⟩ | ⟨rfl, hi, rfl⟩ | ⟨rfl, hi, rfl⟩ | ⟨rfl, hi, rfl⟩ | ⟨rfl, rfl, rfl⟩ | ⟨rfl, rfl, rfl⟩ | ⟨rfl, rfl, rfl⟩ | ⟨rfl, rfl, rfl⟩ | ⟨rfl, rfl, rfl⟩ | ⟨rfl, rfl, rfl⟩ | ⟨rfl, rfl, rfl⟩
    · simp (disch := omega) only [tz_gsk]
      rw [f5 _ _ (by omega), f4 _ _ (by omega), f3 _ _ (by omega), f2 _ _ (by omega), (g1 i (Nat.zero_le _) hi).1]
    · simp (disch := omega) only [tz_gsk]
      rw [f5 _ _ (by omega), f4 _ _ (by omega), f3 _ _ (by omega), f2 _ _ (by omega), (g1 i (Nat.zero_le _) hi).2.1]
    · simp (disch := omega) only [tz_gsk]
      rw [f5 _ _ (by omega), f4 _ _ (by omega), f3 _ _ (by omega), f2 _ _ (by omega), (g1 i (Nat.zero_le _) hi).2.2]
    · simp (disch := omega) only [tz_gsk]
      rw [f5 _ _ (by omega), f4 _ _ (by omega), f3 _ _ (by omega), (g2 i (Nat.zero_le _) hi), f1 _ _ (by omega)]
    · simp (disch := omega) only [tz_gsk]
      rw [f5 _ _ (by omega), f4 _ _ (by omega), (g3 i (Nat.zero_le _) hi).1, f2 _ _ (by omega), f1 _ _ (by omega)]
    · simp (disch := omega) only [tz_gsk]
      rw [f5 _ _ (by omega), f4 _ _ (by omega), (g3 i (Nat.zero_le _) hi).2.1, f2 _ _ (by omega), f1 _ _ (by omega)]
    · simp (disch := omega) only [tz_gsk]
      rw [f5 _ _ (by omega), f4 _ _ (by omega), (g3 i (Nat.zero_le _) hi).2.2.1, f2 _ _ (by omega), f1 _ _ (by omega)]
    · simp (disch := omega) only [tz_gsk]
      rw [f5 _ _ (by omega), f4 _ _ (by omega), (g3 i (Nat.zero_le _) hi).2.2.2.1, f2 _ _ (by omega), f1 _ _ (by omega)]
    · simp (disch := omega) only [tz_gsk]
      rw [f5 _ _ (by omega), f4 _ _ (by omega), (g3 i (Nat.zero_le _) hi).2.2.2.2, f2 _ _ (by omega), f1 _ _ (by omega)]
    · simp (disch := omega) only [tz_gsk]
      rw [f5 _ _ (by omega), (g4 i (Nat.zero_le _) hi), f3 _ _ (by omega), f2 _ _ (by omega), f1 _ _ (by omega)]
    · simp (disch := omega) only [tz_gsk]
      rw [(g5 i (Nat.zero_le _) hi).1, f4 _ _ (by omega), f3 _ _ (by omega), f2 _ _ (by omega), f1 _ _ (by omega)]
    · simp (disch := omega) only [tz_gsk]
      rw [(g5 i (Nat.zero_le _) hi).2.1, f4 _ _ (by omega), f3 _ _ (by omega), f2 _ _ (by omega), f1 _ _ (by omega)]
    · simp (disch := omega) only [tz_gsk]
      rw [(g5 i (Nat.zero_le _) hi).2.2.1, f4 _ _ (by omega), f3 _ _ (by omega), f2 _ _ (by omega), f1 _ _ (by omega)]
    · simp (disch := omega) only [tz_gsk]
      rw [(g5 i (Nat.zero_le _) hi).2.2.2.1, f4 _ _ (by omega), f3 _ _ (by omega), f2 _ _ (by omega), f1 _ _ (by omega)]
    · simp (disch := omega) only [tz_gsk]
      rw [(g5 i (Nat.zero_le _) hi).2.2.2.2.1, f4 _ _ (by omega), f3 _ _ (by omega), f2 _ _ (by omega), f1 _ _ (by omega)]
    · simp (disch := omega) only [tz_gsk]
      rw [(g5 i (Nat.zero_le _) hi).2.2.2.2.2, f4 _ _ (by omega), f3 _ _ (by omega), f2 _ _ (by omega), f1 _ _ (by omega)]
    · simp (disch := omega) only [tz_gs1, tz_gsi]
      rw [f5 _ _ (by omega), f4 _ _ (by omega), f3 _ _ (by omega), f2 _ _ (by omega), f1 _ _ (by omega)]
    · simp (disch := omega) only [tz_gs1, tz_gsi]
      rw [f5 _ _ (by omega), f4 _ _ (by omega), f3 _ _ (by omega), f2 _ _ (by omega), f1 _ _ (by omega)]
    · simp (disch := omega) only [tz_gs1, tz_gsi]
      rw [f5 _ _ (by omega), f4 _ _ (by omega), f3 _ _ (by omega), f2 _ _ (by omega), f1 _ _ (by omega)]
    · simp (disch := omega) only [tz_gs1, tz_gsi]
      rw [f5 _ _ (by omega), f4 _ _ (by omega), f3 _ _ (by omega), f2 _ _ (by omega), f1 _ _ (by omega)]
    · simp (disch := omega) only [tz_gs1, tz_gsi]
      rw [f5 _ _ (by omega), f4 _ _ (by omega), f3 _ _ (by omega), f2 _ _ (by omega), f1 _ _ (by omega)]
    · simp (disch := omega) only [tz_gs1, tz_gsi]
      rw [f5 _ _ (by omega), f4 _ _ (by omega), f3 _ _ (by omega), f2 _ _ (by omega), f1 _ _ (by omega)]
    · simp (disch := omega) only [tz_gs1, tz_gsi]
      rw [f5 _ _ (by omega), f4 _ _ (by omega), f3 _ _ (by omega), f2 _ _ (by omega), f1 _ _ (by omega)]
  · simp only [kp_d, not_or] at hk
    obtain ⟨h161, h162, h163, h164, h165, h167, h168, h169, h170, h166, h171, h172, h173, h174, h175, h176, h157⟩ := hk
    simp only [tz_gS]
    rw [if_neg (c := k = 157 ∧ i = 25) (fun z => h157 (by omega))]
    rw [if_neg (c := k = 157 ∧ i = 24) (fun z => h157 (by omega))]
    rw [if_neg (c := k = 157 ∧ i = 23) (fun z => h157 (by omega))]
    rw [if_neg (c := k = 157 ∧ i = 22) (fun z => h157 (by omega))]
    rw [if_neg (c := k = 157 ∧ i = 15) (fun z => h157 (by omega))]
    rw [if_neg (c := k = 157 ∧ i = 8) (fun z => h157 (by omega))]
    rw [if_neg (c := k = 157 ∧ i = 3) (fun z => h157 (by omega))]
    have c5 : ¬ ((k = 171 ∨ k = 172 ∨ k = 173 ∨ k = 174 ∨ k = 175 ∨ k = 176) ∧ 0 ≤ i ∧ i < 12) := by
      intro z
      obtain ⟨z1, _, z3⟩ := z
      rcases z1 with z1 | z1 | z1 | z1 | z1 | z1
      · exact h171 ⟨z1, z3⟩
      · exact h172 ⟨z1, z3⟩
      · exact h173 ⟨z1, z3⟩
      · exact h174 ⟨z1, z3⟩
      · exact h175 ⟨z1, z3⟩
      · exact h176 ⟨z1, z3⟩
    rw [f5 k i c5]
    rw [f4 k i (fun z => h166 ⟨z.1, z.2.2⟩)]
    have c3 : ¬ ((k = 165 ∨ k = 167 ∨ k = 168 ∨ k = 169 ∨ k = 170) ∧ 0 ≤ i ∧ i < 4) := by
      intro z
      obtain ⟨z1, _, z3⟩ := z
      rcases z1 with z1 | z1 | z1 | z1 | z1
      · exact h165 ⟨z1, z3⟩
      · exact h167 ⟨z1, z3⟩
      · exact h168 ⟨z1, z3⟩
      · exact h169 ⟨z1, z3⟩
      · exact h170 ⟨z1, z3⟩
    rw [f3 k i c3]
    rw [f2 k i (fun z => h164 ⟨z.1, z.2.2⟩)]
    have c1 : ¬ ((k = 161 ∨ k = 162 ∨ k = 163) ∧ 0 ≤ i ∧ i < 8) := by
      intro z
      obtain ⟨z1, _, z3⟩ := z
      rcases z1 with z1 | z1 | z1
      · exact h161 ⟨z1, z3⟩
      · exact h162 ⟨z1, z3⟩
      · exact h163 ⟨z1, z3⟩
    rw [f1 k i c1]
