/-! frames with ears; one sky becomes another; the model keeps a sky and has it again -/
def tz_fx (P : Nat → Nat → Prop) (A A' : tz_Mem) : Prop := A'.1 = A.1 ∧ A'.2.2.1 = A.2.2.1 ∧ (∀ k i, ¬ P k i → tz_g A' k i = tz_g A k i) ∧ ∀ k i, ¬ (P k i ∧ tz_sky k ∧ i = 7) → tz_gr A' k i = tz_gr A k i
theorem fx_rfl {P : Nat → Nat → Prop} {A : tz_Mem} : tz_fx P A A := ⟨rfl, rfl, fun _ _ _ => rfl, fun _ _ _ => rfl⟩
theorem fx_tr {P : Nat → Nat → Prop} {A B C : tz_Mem} (h1 : tz_fx P A B) (h2 : tz_fx P B C) : tz_fx P A C := ⟨h2.1.trans h1.1, h2.2.1.trans h1.2.1, fun k i hp => (h2.2.2.1 k i hp).trans (h1.2.2.1 k i hp), fun k i hp => (h2.2.2.2 k i hp).trans (h1.2.2.2 k i hp)⟩
theorem fx_mo {P Q : Nat → Nat → Prop} {A B : tz_Mem} (h1 : tz_fx P A B) (h : ∀ k i, P k i → Q k i) : tz_fx Q A B := ⟨h1.1, h1.2.1, fun k i hq => h1.2.2.1 k i (fun p => hq (h k i p)), fun k i hq => h1.2.2.2 k i (fun p => hq ⟨h k i p.1, p.2⟩)⟩
theorem fx_fr {P : Nat → Nat → Prop} {A B : tz_Mem} (h1 : tz_fr P A B) : tz_fx P A B := ⟨h1.1, by rw [h1.2.1], h1.2.2, fun _ _ _ => fr_gr h1⟩
theorem fx_s {P : Nat → Nat → Prop} {A B : tz_Mem} {k i : Nat} {v : Int32} (h1 : tz_fx P A B) (hp : P k i) : tz_fx P A (tz_s B k i v) := ⟨h1.1, h1.2.1, fun k' i' hq => (if_neg (fun q => hq (by rw [q.1, q.2]; exact hp))).trans (h1.2.2.1 k' i' hq), h1.2.2.2⟩
theorem fx_sr {P : Nat → Nat → Prop} {A B : tz_Mem} {k v : Nat} (h1 : tz_fx P A B) (hp : P k 7) (hs : tz_sky k) : tz_fx P A (tz_sr B k 7 v) := ⟨h1.1, h1.2.1, h1.2.2.1, fun k' i' hq => (if_neg (fun q => hq (by rw [q.1, q.2]; exact ⟨hp, hs, rfl⟩))).trans (h1.2.2.2 k' i' hq)⟩
theorem fx_cp {P : Nat → Nat → Prop} {A B : tz_Mem} {k1 k2 n : Nat} (h1 : tz_fx P A B) (hp : ∀ i, i < n → P k2 i) : tz_fx P A (tz_cp B k1 0 k2 0 n) := ⟨h1.1, h1.2.1, fun k' i' hq => (if_neg (fun q => hq (by rw [q.1]; exact hp i' (by have := q.2.2; omega)))).trans (h1.2.2.1 k' i' hq), h1.2.2.2⟩
theorem fx_con {P : Nat → Nat → Prop} {A B : tz_Mem} (h1 : tz_fx P A B) (h : tz_con A) : tz_con B := by
  refine ⟨by rw [h1.1]; exact h.1, fun k f a b c => ?_⟩
  rw [h1.2.2.2 k f (fun q => ?_)]
  · exact h.2 k f a b c
  · obtain ⟨_, hs, rfl⟩ := q
    rcases hs with rfl | rfl | rfl | rfl | rfl <;> exact absurd c (by decide)
theorem fx_sc {P : Nat → Nat → Prop} {A B : tz_Mem} (h1 : tz_fx P A B) (h : ∀ i, ¬ P 0 i) : tz_sc A B := ⟨h1.2.2.2 0 0 (fun q => h 0 q.1), fun i => h1.2.2.1 0 i (h i)⟩
theorem tz_gcp {A : tz_Mem} {k1 k2 n i : Nat} (h : i < n) : tz_g (tz_cp A k1 0 k2 0 n) k2 i = tz_g A k1 i := by
  show (if k2 = k2 ∧ (0 ≤ i ∧ i < 0 + n) then A.2.1 k1 (0 + (i - 0)) else A.2.1 k2 i) = A.2.1 k1 i
  rw [if_pos ⟨rfl, by omega, by omega⟩, Nat.sub_zero, Nat.zero_add]
theorem tz_gck {A : tz_Mem} {k k1 k2 n i : Nat} (h : k ≠ k2) : tz_g (tz_cp A k1 0 k2 0 n) k i = tz_g A k i := if_neg (fun q => h q.1)
theorem tz_gsr {A : tz_Mem} {k i k' i' v : Nat} : tz_g (tz_sr A k' i' v) k i = tz_g A k i := rfl
def bc_r (k i : Nat) : Prop := (k = 0 ∧ 3 ≤ i ∧ i ≤ 5) ∨ ((k = 1 ∨ k = 7 ∨ k = 15) ∧ i = 0) ∨ ((k = 2 ∨ k = 3 ∨ k = 4 ∨ k = 5) ∧ i < 8) ∨ (k = 6 ∧ i < 64) ∨ (((8 ≤ k ∧ k ≤ 11) ∨ k = 13 ∨ k = 14) ∧ i < 4) ∨ (k = 12 ∧ i < 24) ∨ ((16 ≤ k ∧ k ≤ 22) ∧ i < 12)
def bc_p (b : Nat) (k _i : Nat) : Prop := b ≤ k ∧ k < b + 23


theorem x_become {b b2 : Nat} (hb : tz_sky b) (hb2 : tz_sky b2) (hd : b + 23 ≤ b2 ∨ b2 + 23 ≤ b) (A : tz_Mem) : ∃ A', f_X9_become b b2 A = some (none, A') ∧ (∀ k i, bc_r k i → tz_g A' (b + k) i = tz_g A (b2 + k) i) ∧ tz_g A' b 6 = tz_j 4294967295 ∧ tz_gr A' b 7 = 0 ∧ tz_fx (bc_p b) A A' := by
  rw [e_X9_become _ _ hb hb2, e_X3_become _ _ hb hb2, tz_bV_some, e_X10_become _ _ hb hb2, tz_bV_some, e_X4_become _ _ hb hb2, tz_bV_some]
  refine ⟨_, rfl, fun k i hk => ?_, ?_, ?_, ?_⟩
  · unfold bc_r at hk
    have hk2 : k = 0 ∨ k = 1 ∨ k = 2 ∨ k = 3 ∨ k = 4 ∨ k = 5 ∨ k = 6 ∨ k = 7 ∨ k = 8 ∨ k = 9 ∨ k = 10 ∨ k = 11 ∨ k = 12 ∨ k = 13 ∨ k = 14 ∨ k = 15 ∨ k = 16 ∨ k = 17 ∨ k = 18 ∨ k = 19 ∨ k = 20 ∨ k = 21 ∨ k = 22 := by omega
    rcases hk2 with rfl | rfl | rfl | rfl | rfl | rfl | rfl | rfl | rfl | rfl | rfl | rfl | rfl | rfl | rfl | rfl | rfl | rfl | rfl | rfl | rfl | rfl | rfl
    · have hi : i = 3 ∨ i = 4 ∨ i = 5 := by omega
      rcases hi with rfl | rfl | rfl <;> simp (disch := omega) only [Nat.add_zero, tz_gsr, tz_gs1, tz_gsi, tz_gsk, tz_gck]

    · obtain rfl : i = 0 := by omega
      simp (disch := omega) only [tz_gsr, tz_gs1, tz_gsk, tz_gck, tz_gcp]
    · have hi : i < 8 := by omega
      simp (disch := omega) only [tz_gsr, tz_gsk, tz_gck, tz_gcp]
    · have hi : i < 8 := by omega
      simp (disch := omega) only [tz_gsr, tz_gsk, tz_gck, tz_gcp]
    · have hi : i < 8 := by omega
      simp (disch := omega) only [tz_gsr, tz_gsk, tz_gck, tz_gcp]
    · have hi : i < 8 := by omega
      simp (disch := omega) only [tz_gsr, tz_gsk, tz_gck, tz_gcp]
    · have hi : i < 64 := by omega
      simp (disch := omega) only [tz_gsr, tz_gsk, tz_gck, tz_gcp]
    · obtain rfl : i = 0 := by omega
      simp (disch := omega) only [tz_gsr, tz_gs1, tz_gsk, tz_gck, tz_gcp]
    · have hi : i < 4 := by omega
      simp (disch := omega) only [tz_gsr, tz_gsk, tz_gck, tz_gcp]
    · have hi : i < 4 := by omega
      simp (disch := omega) only [tz_gsr, tz_gsk, tz_gck, tz_gcp]
    · have hi : i < 4 := by omega
      simp (disch := omega) only [tz_gsr, tz_gsk, tz_gck, tz_gcp]
    · have hi : i < 4 := by omega
      simp (disch := omega) only [tz_gsr, tz_gsk, tz_gck, tz_gcp]
    · have hi : i < 24 := by omega
      simp (disch := omega) only [tz_gsr, tz_gsk, tz_gck, tz_gcp]
    · have hi : i < 4 := by omega
      simp (disch := omega) only [tz_gsr, tz_gsk, tz_gck, tz_gcp]
    · have hi : i < 4 := by omega
      simp (disch := omega) only [tz_gsr, tz_gsk, tz_gck, tz_gcp]
    · obtain rfl : i = 0 := by omega
      simp (disch := omega) only [tz_gsr, tz_gs1, tz_gsk, tz_gck, tz_gcp]
    · have hi : i < 12 := by omega
      simp (disch := omega) only [tz_gsr, tz_gsk, tz_gck, tz_gcp]
    · have hi : i < 12 := by omega
      simp (disch := omega) only [tz_gsr, tz_gsk, tz_gck, tz_gcp]
    · have hi : i < 12 := by omega
      simp (disch := omega) only [tz_gsr, tz_gsk, tz_gck, tz_gcp]
    · have hi : i < 12 := by omega
      simp (disch := omega) only [tz_gsr, tz_gsk, tz_gck, tz_gcp]
    · have hi : i < 12 := by omega
      simp (disch := omega) only [tz_gsr, tz_gsk, tz_gck, tz_gcp]
    · have hi : i < 12 := by omega
      simp (disch := omega) only [tz_gsr, tz_gsk, tz_gck, tz_gcp]
    · have hi : i < 12 := by omega
      simp (disch := omega) only [tz_gsr, tz_gsk, tz_gck, tz_gcp]
  · rw [tz_gsr, tz_gs1]
    exact nj_m1
  · exact if_pos ⟨rfl, rfl⟩
  · refine fx_sr (fx_s (fx_s (fx_s (fx_s ?_ ?_) ?_) ?_) ?_) ?_ hb
    all_goals first | (unfold bc_p; omega) | skip
    refine fx_cp (fx_cp (fx_cp (fx_cp (fx_cp (fx_cp (fx_cp (fx_s ?_ ?_) ?_) ?_) ?_) ?_) ?_) ?_) ?_
    all_goals first | (unfold bc_p; intros; omega) | (unfold bc_p; omega) | skip
    refine fx_cp (fx_cp (fx_cp (fx_cp (fx_cp (fx_cp (fx_cp (fx_s ?_ ?_) ?_) ?_) ?_) ?_) ?_) ?_) ?_
    all_goals first | (unfold bc_p; intros; omega) | (unfold bc_p; omega) | skip
    refine fx_cp (fx_cp (fx_cp (fx_cp (fx_cp (fx_s fx_rfl ?_) ?_) ?_) ?_) ?_) ?_
    all_goals (unfold bc_p; intros; omega)
/-- a sky at rest: no storm is thought away, nobody listens -/
def sp_st (S : tz_S) : Prop := S 0 6 = 4294967295 ∧ S 200 0 = 0
theorem rx_bc {b b2 : Nat} {S : tz_S} {A A' : tz_Mem} (W : sp_W1 S) (hst : sp_st S) (r : rx b2 99 S A) (e : ∀ k i, bc_r k i → tz_g A' (b + k) i = tz_g A (b2 + k) i) (e6 : tz_g A' b 6 = tz_j 4294967295) (e7 : tz_gr A' b 7 = 0) : rx b 99 S A' := by
  have h8 := W.1
  have h4 := W.2.1
  obtain ⟨c, l, kk, ww, ee⟩ := r
  refine ⟨fun k i hp => ?_, fun h hh => ?_, fun t ht hx => ?_, fun h hh j h1 h2 => ?_, ?_, ?_, ?_, ?_⟩
  · by_cases z : k = 0 ∧ i = 6
    · rw [z.1, z.2, hst.1]
      exact e6
    · rw [e k i (by unfold rx_pl at hp; unfold bc_r; omega)]
      exact c k i hp
  · rw [e 4 h (by unfold bc_r; omega)]
    exact l h hh
  · rw [e 14 t (by unfold bc_r; omega)]
    exact kk t ht hx
  · rw [e 6 _ (by unfold bc_r; omega)]
    exact ww h hh j h1 h2
  · rw [e7, hst.2]
    rfl
  · intro q
    rw [hst.2] at q
    omega
  · intro q
    rw [hst.2] at q
    omega
  · intro q
    rw [hst.2] at q
    omega
theorem x_bec2 {b b2 : Nat} {S : tz_S} {A : tz_Mem} (hb : tz_sky b) (hb2 : tz_sky b2) (hd : b + 23 ≤ b2 ∨ b2 + 23 ≤ b) (W : sp_W1 S) (hst : sp_st S) (r : rx b2 99 S A) : ∃ A', f_X9_become b b2 A = some (none, A') ∧ rx b 99 S A' ∧ tz_fx (bc_p b) A A' := by
  obtain ⟨A', e, h1, h2, h3, f⟩ := x_become hb hb2 hd A
  exact ⟨A', e, rx_bc W hst r h1 h2 h3, f⟩
