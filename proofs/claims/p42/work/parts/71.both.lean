/-! all that is held: the class's side, the model's side; one turn of both out of what each does -/
abbrev tz_U : Type := Nat → Nat → Int32
abbrev tz_V : Type := Nat → Nat → Int64
def tz_u (U : tz_U) (k i : Nat) (v : Int32) : tz_U := fun k' i' => if k' = k ∧ i' = i then v else U k' i'
theorem tz_ua {U : tz_U} {k i k' i' : Nat} {v : Int32} : tz_u U k i v k' i' = if k' = k ∧ i' = i then v else U k' i' := rfl
theorem tz_u1 {U : tz_U} {k i : Nat} {v : Int32} : tz_u U k i v k i = v := if_pos ⟨rfl, rfl⟩
theorem tz_uk {U : tz_U} {k i k' i' : Nat} {v : Int32} (h : k' ≠ k) : tz_u U k i v k' i' = U k' i' := if_neg (fun q => h q.1)
theorem tz_ui {U : tz_U} {k i i' : Nat} {v : Int32} (h : i' ≠ i) : tz_u U k i v k i' = U k i' := if_neg (fun q => h q.2)
/-- shelves: 0 what they hold, 1 how long, V the elements; 2 refusals; 3 the fault, whether there is an image; 4 bodies that ran; 5 the trace -/
def cu (U : tz_U) (V : tz_V) (A : tz_Mem) : Prop := (∀ s, s < 8 → tz_g A 19 s = U 0 s ∧ tz_g A 20 s = U 1 s ∧ ∀ i, i < 160 → tz_gl A (22 + s) i = V s i) ∧ (∀ i, i < 8 → tz_g A 156 i = U 2 i) ∧ tz_g A 17 13 = U 3 0 ∧ tz_g A 17 12 = U 3 1 ∧ tz_g A 148 0 = U 4 0 ∧ ∀ i, i < 20 → tz_g A 149 i = U 5 i
def wu (S : tz_S) (U : tz_U) : Prop := (∀ s, s < 8 → (U 0 s = tz_j 4294967295 ∨ (∃ h, h < S 1 0 ∧ U 0 s = tz_j h) ∨ (∃ t, t < 4 ∧ U 0 s = tz_j (100 + t))) ∧ ∃ l, l ≤ 160 ∧ U 1 s = tz_j l) ∧ (U 3 1 = tz_j 0 ∨ U 3 1 = tz_j 1) ∧ ∃ n, n ≤ 60 ∧ U 4 0 = tz_j n
def CX (S K : tz_S) (U : tz_U) (V : tz_V) (A : tz_Mem) : Prop := rx 30 99 S A ∧ (U 3 1 = tz_j 1 → rx 53 99 K A) ∧ cu U V A ∧ tz_con A
def WX (N : Nat) (S K : tz_S) (U : tz_U) : Prop := sp_H N S ∧ sp_st S ∧ sp_H N K ∧ sp_st K ∧ wu S U
/-- what the class's calls don't touch; what the model's don't -/
def cf (A A' : tz_Mem) : Prop := A'.1 = A.1 ∧ (∀ k i, k < 17 ∨ 157 ≤ k → tz_g A' k i = tz_g A k i ∧ tz_gl A' k i = tz_gl A k i) ∧ tz_gr A' 0 0 = tz_gr A 0 0
theorem cf_rfl {A : tz_Mem} : cf A A := ⟨rfl, fun _ _ _ => ⟨rfl, rfl⟩, rfl⟩
theorem cf_tr {A B C : tz_Mem} (h1 : cf A B) (h2 : cf B C) : cf A C := ⟨h2.1.trans h1.1, fun k i h => ⟨(h2.2.1 k i h).1.trans (h1.2.1 k i h).1, (h2.2.1 k i h).2.trans (h1.2.1 k i h).2⟩, h2.2.2.trans h1.2.2⟩
theorem cf_s {A : tz_Mem} {k i : Nat} {v : Int32} (h : 17 ≤ k ∧ k < 157) : cf A (tz_s A k i v) := ⟨rfl, fun k' i' hk => ⟨tz_gsk (by omega), rfl⟩, rfl⟩
theorem cf_fx {P : Nat → Nat → Prop} {A B : tz_Mem} (f : tz_fx P A B) (hP : ∀ k i, P k i → 17 ≤ k ∧ k < 157) : cf A B := ⟨f.1, fun k i hk => ⟨f.2.2.1 k i (fun q => by have := hP k i q; omega), by show B.2.2.1 k i = A.2.2.1 k i; rw [f.2.1]⟩, f.2.2.2 0 0 (fun q => by have := hP 0 0 q.1; omega)⟩
theorem sp_H_mo {N M : Nat} {S : tz_S} (h : sp_H N S) (hM : N ≤ M) : sp_H M S := ⟨h.1, h.2.1, h.2.2.1, Nat.le_trans h.2.2.2.1 hM, h.2.2.2.2⟩
theorem WX_mo {N M : Nat} {S K : tz_S} {U : tz_U} (h : WX N S K U) (hM : N ≤ M) : WX M S K U := ⟨sp_H_mo h.1 hM, h.2.1, sp_H_mo h.2.2.1 hM, h.2.2.2⟩
/-- a refusal -/
def ur (U : tz_U) (r : Nat) : tz_U := tz_u U 2 r (U 2 r + tz_j 1)
theorem CX_ref {S K : tz_S} {U : tz_U} {V : tz_V} {A : tz_Mem} {r : Nat} (hr : r < 8) (c : CX S K U V A) : CX S K (ur U r) V (tz_s A 156 r (tz_g A 156 r + tz_j 1)) := by
  obtain ⟨r1, k, ⟨u1, u2, u3, u4, u5, u6⟩, hc⟩ := c
  unfold ur
  refine ⟨rx_mv r1 (fun k i h1 h2 => tz_gsk (by omega)) rfl (Or.inr (fun k i h1 h2 => tz_gsk (by omega))), fun q => rx_mv (k (by rw [tz_uk (by omega)] at q; exact q)) (fun k i h1 h2 => tz_gsk (by omega)) rfl (Or.inr (fun k i h1 h2 => tz_gsk (by omega))), ⟨fun s hs => ?_, fun i hi => ?_, ?_, ?_, ?_, fun i hi => ?_⟩, hc⟩
  · obtain ⟨a, b, d⟩ := u1 s hs
    rw [tz_gsk (by omega), tz_gsk (by omega), tz_uk (by omega), tz_uk (by omega)]
    exact ⟨a, b, d⟩
  · rw [tz_gS, tz_ua, u2 r hr]
    by_cases z : i = r
    · rw [if_pos ⟨rfl, z⟩, if_pos ⟨rfl, z⟩]
    · rw [if_neg (fun q => z q.2), if_neg (fun q => z q.2)]
      exact u2 i hi
  · rw [tz_gsk (by omega), tz_uk (by omega)]
    exact u3
  · rw [tz_gsk (by omega), tz_uk (by omega)]
    exact u4
  · rw [tz_gsk (by omega), tz_uk (by omega)]
    exact u5
  · rw [tz_gsk (by omega), tz_uk (by omega)]
    exact u6 i hi
theorem wu_mv {S S' : tz_S} {U U' : tz_U} (h : wu S U) (e1 : S 1 0 ≤ S' 1 0) (e : ∀ k i, k ≠ 2 → k ≠ 5 → k ≠ 3 ∨ i ≠ 0 → U' k i = U k i) : wu S' U' := by
  obtain ⟨a, b, d⟩ := h
  refine ⟨fun s hs => ?_, ?_, ?_⟩
  · rw [e 0 s (by omega) (by omega) (by omega), e 1 s (by omega) (by omega) (by omega)]
    obtain ⟨a1, a2⟩ := a s hs
    refine ⟨?_, a2⟩
    rcases a1 with q | ⟨q, q1, q2⟩ | q
    · exact Or.inl q
    · exact Or.inr (Or.inl ⟨q, by omega, q2⟩)
    · exact Or.inr (Or.inr q)
  · rw [e 3 1 (by omega) (by omega) (by omega)]
    exact b
  · rw [e 4 0 (by omega) (by omega) (by omega)]
    exact d
/-- thought: the class's guesses and ears may change -/
def th_p (k _i : Nat) : Prop := (76 ≤ k ∧ k < 122) ∨ (150 ≤ k ∧ k < 156)
theorem CX_th {S K : tz_S} {U : tz_U} {V : tz_V} {A B : tz_Mem} (hst : sp_st S) (hk : sp_st K) (f : tz_fx th_p A B) (c : CX S K U V A) : CX S K U V B := by
  obtain ⟨r1, k, ⟨u1, u2, u3, u4, u5, u6⟩, hc⟩ := c
  have g : ∀ k i, ¬ ((76 ≤ k ∧ k < 122) ∨ (150 ≤ k ∧ k < 156)) → tz_g B k i = tz_g A k i := fun k i h => f.2.2.1 k i h
  have gl : ∀ k i, tz_gl B k i = tz_gl A k i := fun k i => by show B.2.2.1 k i = A.2.2.1 k i; rw [f.2.1]
  refine ⟨rx_mv r1 (fun k i h1 h2 => g k i (by omega)) (f.2.2.2 _ _ (fun q => by have := q.1; unfold th_p at this; omega)) (Or.inl hst.2), fun q => rx_mv (k q) (fun k i h1 h2 => g k i (by omega)) (f.2.2.2 _ _ (fun q => by have := q.1; unfold th_p at this; omega)) (Or.inl hk.2), ⟨fun s hs => ?_, fun i hi => ?_, ?_, ?_, ?_, fun i hi => ?_⟩, fx_con f hc⟩
  · obtain ⟨a, b, d⟩ := u1 s hs
    rw [g _ _ (by omega), g _ _ (by omega)]
    refine ⟨a, b, fun i hi => ?_⟩
    rw [gl]
    exact d i hi
  · rw [g _ _ (by omega)]
    exact u2 i hi
  · rw [g _ _ (by omega)]
    exact u3
  · rw [g _ _ (by omega)]
    exact u4
  · rw [g _ _ (by omega)]
    exact u5
  · rw [g _ _ (by omega)]
    exact u6 i hi
