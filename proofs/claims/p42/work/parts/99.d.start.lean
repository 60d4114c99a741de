/-! the fresh object: what its cells say, and what its first call answers -/
def st_S : tz_S := fun k i => if k = 0 then (if i = 4 then 20 else if i = 5 then 1 else if i = 6 then 4294967295 else 0) else 0
def st_U : tz_U := fun k i => if k = 0 then tz_j 4294967295 else if k = 3 ∧ i = 0 then tz_j 4294967295 else tz_j 0
theorem st_i (xs : Nat → Int32) (L : Nat) : tz_I (tz_A0 xs L) 17 [] [] := ⟨Nat.le_refl _, rfl, fun k i hk => if_neg (fun q => by omega), fun k i hk => if_neg (fun q => by omega), fun _ _ _ => rfl, fun _ _ _ => rfl, fun _ _ _ => rfl⟩
theorem st_c : ∀ k, k < 23 → ∀ i, i < 24 → tz_lk 0 tz_IW (30 + k) i = tz_j (st_S k i) := by decide +kernel
theorem st_19 : ∀ s, s < 8 → tz_lk 0 tz_IW 19 s = tz_j 4294967295 ∧ tz_lk 0 tz_IW 20 s = tz_j 0 ∧ tz_lk 0 tz_IW 156 s = tz_j 0 := by decide +kernel
theorem st_20 : ∀ i, i < 20 → tz_lk 0 tz_IW 149 i = tz_j 0 := by decide +kernel
theorem st_1 : tz_lk 0 tz_IW 17 13 = tz_j 4294967295 ∧ tz_lk 0 tz_IW 17 12 = tz_j 0 ∧ tz_lk 0 tz_IW 148 0 = tz_j 0 ∧ tz_lk 0 tz_IR 30 7 = 0 := by decide +kernel
theorem st_H : sp_H 0 st_S := by
  have no : ∀ {x : Nat} {P : Prop}, x < 0 → P := fun h => absurd h (Nat.not_lt_zero _)
  refine ⟨⟨Nat.zero_le _, Nat.zero_le _, Nat.zero_le _, fun h hh => no hh, fun t ht => no ht, fun l hl => no hl, fun i hi => no hi, fun i j _ hj => no hj, fun l hl => no hl⟩, ⟨fun t ht => no ht, fun l hl => no hl, fun h hh => no hh, rfl, ?_, ?_, ?_⟩, ⟨Nat.zero_le _, fun q => ?_, fun q => ?_, fun q => ?_⟩, Nat.le_refl _, Nat.le_refl _⟩
  · show (20 : Nat) ≤ 100
    omega
  · show (1 : Nat) < 4294967296
    omega
  · show (4294967295 : Nat) < 4294967296
    omega
  · exact absurd (show (0 : Nat) = 1 from q) (by omega)
  · exact absurd (show (0 : Nat) = 2 from q) (by omega)
  · exact absurd (show (0 : Nat) = 3 from q) (by omega)
theorem st_WX : WX 1000 st_S st_S st_U := by
  have hst : sp_st st_S := ⟨rfl, rfl⟩
  have h := sp_H_mo (M := 1000) st_H (by omega)
  exact ⟨h, hst, h, hst, ⟨fun s hs => ⟨Or.inl rfl, 0, by omega, rfl⟩, Or.inl rfl, 0, by omega, rfl⟩⟩
theorem st_CX {B : tz_Mem} {n : Nat} (I : tz_I B n tz_IW tz_IR) (hcon : tz_con B) : CX st_S st_S st_U (fun _ _ => 0) B := by
  obtain ⟨_, h1, hg, hr, hl, _, _⟩ := I
  have no : ∀ {x : Nat} {P : Prop}, x < 0 → P := fun h => absurd h (Nat.not_lt_zero _)
  have hU : st_U 3 1 = tz_j 0 := rfl
  refine ⟨⟨?_, fun h hh => no hh, fun t ht _ => no ht, fun h hh => no hh, ?_, fun q => ?_, fun q => ?_, fun q => ?_⟩, fun q => ?_, ⟨fun s hs => ?_, fun i hi => ?_, ?_, ?_, ?_, fun i hi => ?_⟩, hcon⟩
  · intro k i hp
    rw [hg _ _ (by omega)]
    exact st_c k (by unfold rx_pl at hp; omega) i (by unfold rx_pl at hp; omega)
  · rw [hr _ _ (by omega)]
    exact st_1.2.2.2
  · exact absurd (show (0 : Nat) = 1 from q) (by omega)
  · exact absurd (show (0 : Nat) = 2 from q) (by omega)
  · exact absurd (show (0 : Nat) = 3 from q) (by omega)
  · rw [hU] at q
    exact absurd q (by decide)
  · obtain ⟨a, b, _⟩ := st_19 s hs
    exact ⟨(hg _ _ (by omega)).trans a, (hg _ _ (by omega)).trans b, fun i _ => hl _ _ (by omega)⟩
  · exact (hg _ _ (by omega)).trans (st_19 i hi).2.2
  · exact (hg _ _ (by omega)).trans st_1.1
  · exact (hg _ _ (by omega)).trans st_1.2.1
  · exact (hg _ _ (by omega)).trans st_1.2.2.1
  · exact (hg _ _ (by omega)).trans (st_20 i hi)
/-- the object made, alone -/
theorem st_B (xs : Nat → Int32) (L : Nat) : CX st_S st_S st_U (fun _ _ => 0) (tz_B (tz_A0 xs L)) ∧ (tz_B (tz_A0 xs L)).1 = 157 := ⟨st_CX (tz_I_B (st_i xs L)) (tz_con_B (st_i xs L)), (tz_I_B (st_i xs L)).2.1⟩
theorem st_restore (xs : Nat → Int32) (L : Nat) : ∃ A', f_X11_restore (tz_B (tz_A0 xs L)) = some (some (.int (tz_j 4294967290)), A') ∧ A'.1 = 157 := by
  obtain ⟨c, e⟩ := st_B xs L
  obtain ⟨A', h, _, f⟩ := c_restore6 c rfl
  exact ⟨A', h, f.1.trans e⟩
theorem st_image (xs : Nat → Int32) (L : Nat) : ∃ A', f_X11_image (tz_B (tz_A0 xs L)) = some (some (.int (tz_j 0)), A') ∧ A'.1 = 157 := by
  obtain ⟨c, e⟩ := st_B xs L
  obtain ⟨⟨A', h, _, f⟩, _⟩ := c_image c st_WX
  exact ⟨A', h, f.1.trans e⟩
theorem st_postage (xs : Nat → Int32) (L : Nat) : ∃ A', f_X11_postage (tz_B (tz_A0 xs L)) = some (some (.int (tz_j 0)), A') ∧ A'.1 = 157 := by
  obtain ⟨c, e⟩ := st_B xs L
  obtain ⟨A', h, _, f⟩ := c_postage c st_WX (by omega)
  exact ⟨A', h, f.1.trans e⟩
/-- from the fourth object on the law comes to its end with true -/
theorem st_main (xs : Nat → Int32) {L : Nat} (hL : L ≤ 260) : ∃ A2, tz_Go 142 43 [some (.ref 0), none, none, none, none, none, none, none, none, none, none, none, none, none, none, none, none, none, none, none, none] [] (tz_A0 xs L) = some (some (.int 1), A2) ∧ A2.1 ≤ 159 := by
  rw [e_L_law_43 (tz_A0 xs L) rfl]
  have I0 := tz_I_B (st_i xs L)
  have I : tz_I (tz_nw (tz_nw (tz_B (tz_A0 xs L)) 1) 1) 159 tz_IW tz_IR := tz_I_nw (n2 := 159) (tz_I_nw (n2 := 158) I0 rfl) rfl
  have hc := tz_con_B (st_i xs L)
  have Q : tz_Q (tz_A0 xs L) (tz_nw (tz_nw (tz_B (tz_A0 xs L)) 1) 1) 159 := tz_Q_nw (n2 := 159) (tz_Q_nw (n2 := 158) (tz_Q_B ⟨Nat.le_refl _, rfl, rfl, fun _ => rfl⟩) rfl) rfl
  have hcon : tz_con (tz_nw (tz_nw (tz_B (tz_A0 xs L)) 1) 1) := by
    have h1 := I.2.1
    refine ⟨by rw [h1]; decide, fun k f hk hk2 hf => ?_⟩
    rw [I.2.2.2.1 k f hk2, ← I0.2.2.2.1 k f hk2]
    exact hc.2 k f hk hk2 hf
  have h1 : (tz_nw (tz_nw (tz_B (tz_A0 xs L)) 1) 1).1 = 159 := I.2.1
  have hgr : tz_gr (tz_nw (tz_nw (tz_B (tz_A0 xs L)) 1) 1) 0 0 ≤ 260 := by
    rw [Q.2.2.1]
    exact hL
  have hA1 : ¬ (tz_nw (tz_nw (tz_B (tz_A0 xs L)) 1) 1).1 ≤ 158 := by rw [h1]; omega
  have hA2 : (tz_nw (tz_nw (tz_B (tz_A0 xs L)) 1) 1).1 ≤ 159 := by rw [h1]; omega
  have hz : ∀ i, i < 64 → tz_g (tz_nw (tz_nw (tz_B (tz_A0 xs L)) 1) 1) 157 i = tz_j 0 := fun i _ => (I.2.2.1 157 i (by omega)).trans (I0.2.2.2.2.2.1 157 i (Nat.le_refl _))
  exact f_61 (st_CX I hcon) st_WX rfl rfl rfl rfl rfl hA1 hA2 hgr hz
