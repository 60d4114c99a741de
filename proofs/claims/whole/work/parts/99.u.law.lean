/-! the start of both, and the law from all pairs -/
def st_S : tz_S := fun k i => if k = 0 then (if i = 4 then 20 else if i = 5 then 1 else if i = 6 then 4294967295 else 0) else 0
def st_U : tz_U := fun k i => if k = 0 then tz_j 4294967295 else if k = 3 ∧ i = 0 then tz_j 4294967295 else tz_j 0
theorem st_i (xs : Nat → Int32) (L : Nat) : tz_I (tz_A0 xs L) 17 [] [] := ⟨Nat.le_refl _, rfl, fun k i hk => if_neg (fun q => by omega), fun k i hk => if_neg (fun q => by omega), fun _ _ _ => rfl, fun _ _ _ => rfl, fun _ _ _ => rfl⟩
theorem st_c : ∀ k, k < 23 → ∀ i, i < 24 → tz_lk 0 tz_IW (30 + k) i = tz_j (st_S k i) := by decide +kernel
theorem st_19 : ∀ s, s < 8 → tz_lk 0 tz_IW 19 s = tz_j 4294967295 ∧ tz_lk 0 tz_IW 20 s = tz_j 0 ∧ tz_lk 0 tz_IW 158 s = tz_j 4294967295 ∧ tz_lk 0 tz_IW 159 s = tz_j 0 ∧ tz_lk 0 tz_IW 156 s = tz_j 0 ∧ tz_lk 0 tz_IW 177 s = tz_j 0 ∧ tz_lk 0 tz_IW 182 s = tz_j 0 := by decide +kernel
theorem st_20 : ∀ i, i < 20 → tz_lk 0 tz_IW 149 i = tz_j 0 ∧ tz_lk 0 tz_IW 178 i = tz_j 0 := by decide +kernel
theorem st_1 : tz_lk 0 tz_IW 17 13 = tz_j 4294967295 ∧ tz_lk 0 tz_IW 17 12 = tz_j 0 ∧ tz_lk 0 tz_IW 148 0 = tz_j 0 ∧ tz_lk 0 tz_IW 157 26 = tz_j 4294967295 ∧ tz_lk 0 tz_IW 157 30 = tz_j 0 ∧ tz_lk 0 tz_IW 157 28 = tz_j 0 ∧ tz_lk 0 tz_IW 157 36 = tz_j 4294967295 ∧ tz_lk 0 tz_IW 157 34 = tz_j 0 := by decide +kernel
theorem st_2 : tz_lk 0 tz_IW 157 3 = tz_j 0 ∧ tz_lk 0 tz_IW 157 8 = tz_j 0 ∧ tz_lk 0 tz_IW 157 15 = tz_j 0 ∧ tz_lk 0 tz_IW 157 25 = tz_j 0 ∧ tz_lk 0 tz_IW 157 22 = tz_j 0 ∧ tz_lk 0 tz_IW 157 23 = tz_j 20 ∧ tz_lk 0 tz_IW 157 24 = tz_j 1 ∧ tz_lk 0 tz_IR 30 7 = 0 := by decide +kernel
theorem st_H : sp_H 0 st_S := by
  have no : ∀ {x : Nat} {P : Prop}, x < 0 → P := fun h => absurd h (Nat.not_lt_zero _)
  refine ⟨⟨Nat.zero_le _, Nat.zero_le _, Nat.zero_le _, fun h hh => no hh, fun t ht => no ht, fun l hl => no hl, fun i hi => no hi, fun i j _ hj => no hj, fun l hl => no hl⟩, ⟨fun t ht => no ht, fun l hl => no hl, fun h hh => no hh, rfl, ?_, ?_, ?_⟩, ⟨Nat.zero_le _, fun q => ?_, fun q => ?_, fun q => ?_⟩, Nat.le_refl _, Nat.le_refl _⟩
  · show (20 : Nat) ≤ 100
    omega
  · show (1 : Nat) < 4294967296
    omega
  · show (4294967295 : Nat) < 4294967296
    omega
  · exact absurd (show (0 : Nat) = 1 from q) (by omega)
  · exact absurd (show (0 : Nat) = 2 from q) (by omega)
  · exact absurd (show (0 : Nat) = 3 from q) (by omega)
theorem st_J (xs : Nat → Int32) (L : Nat) : tz_J 0 (tz_B (tz_A0 xs L)) := by
  have I := tz_A0_I xs L
  have hcon := tz_con_B (st_i xs L)
  generalize tz_B (tz_A0 xs L) = B at *
  obtain ⟨_, h1, hg, hr, hl, _, _⟩ := I
  have no : ∀ {x : Nat} {P : Prop}, x < 0 → P := fun h => absurd h (Nat.not_lt_zero _)
  have hst : sp_st st_S := ⟨rfl, rfl⟩
  have hU : st_U 3 1 = tz_j 0 := rfl
  refine ⟨Nat.le_of_eq h1, st_S, st_S, st_U, fun _ _ => 0, fun _ => tz_j 0, ⟨⟨?_, fun h hh => no hh, fun t ht _ => no ht, fun h hh => no hh, ?_, fun q => ?_, fun q => ?_, fun q => ?_⟩, fun q => ?_, ⟨fun s hs => ?_, fun i hi => ?_, ?_, ?_, ?_, fun i hi => ?_⟩, hcon⟩, ⟨⟨?_, fun h hh => no hh, ?_, ?_, fun q => ?_, fun _ => ?_⟩, fun q => ?_, ⟨fun s hs => ?_, fun i hi => ?_, ?_, ?_, ?_, fun i hi => ?_⟩, Nat.le_of_eq h1.symm⟩, st_H, hst, st_H, hst, ⟨fun s hs => ⟨Or.inl rfl, 0, by omega, rfl⟩, Or.inl rfl, 0, by omega, rfl⟩⟩
  · intro k i hp
    rw [hg _ _ (by omega)]
    exact st_c k (by unfold rx_pl at hp; omega) i (by unfold rx_pl at hp; omega)
  · rw [hr _ _ (by omega)]
    exact st_2.2.2.2.2.2.2.2
  · exact absurd (show (0 : Nat) = 1 from q) (by omega)
  · exact absurd (show (0 : Nat) = 2 from q) (by omega)
  · exact absurd (show (0 : Nat) = 3 from q) (by omega)
  · rw [hU] at q
    exact absurd q (by decide)
  · obtain ⟨a, b, _⟩ := st_19 s hs
    exact ⟨(hg _ _ (by omega)).trans a, (hg _ _ (by omega)).trans b, fun i _ => hl _ _ (by omega)⟩
  · exact (hg _ _ (by omega)).trans (st_19 i hi).2.2.2.2.1
  · exact (hg _ _ (by omega)).trans st_1.1
  · exact (hg _ _ (by omega)).trans st_1.2.1
  · exact (hg _ _ (by omega)).trans st_1.2.2.1
  · exact (hg _ _ (by omega)).trans (st_20 i hi).1
  · intro p q k i hr'
    have a := st_2
    rcases hr' with ⟨rfl, rfl, h⟩ | ⟨rfl, rfl, h⟩ | ⟨_, h, _⟩ | ⟨_, h, _⟩ | ⟨_, _, _, t, j, h, _⟩ | ⟨_, h, _⟩
    · rw [hg _ _ (by omega)]
      rcases h with ⟨rfl, rfl⟩ | ⟨rfl, rfl⟩ | ⟨rfl, rfl⟩
      · exact a.1
      · exact a.2.1
      · exact a.2.2.1
    · rw [hg _ _ (by omega)]
      rcases h with ⟨rfl, rfl⟩ | ⟨rfl, rfl⟩ | ⟨rfl, rfl⟩ | ⟨rfl, rfl⟩
      · exact a.2.2.2.1
      · exact a.2.2.2.2.1
      · exact a.2.2.2.2.2.1
      · exact a.2.2.2.2.2.2.1
    · exact no h
    · exact no h
    · exact no h
    · exact no h
  · intro h hh
    rw [hg _ _ (by omega), (st_19 h hh).2.2.2.2.2.2]
    rfl
  · intro t ht
    rw [hg _ _ (by omega), st_1.2.2.2.2.2.2.2]
    have e : decide (t = st_S 0 6) = false := decide_eq_false (by show ¬ t = 4294967295; omega)
    rw [e]
    exact bj_zero t (by omega)
  · exact absurd (show (0 : Nat) = 1 from q) (by omega)
  · rw [hg _ _ (by omega)]
    exact st_1.2.2.2.2.2.2.1
  · rw [hU] at q
    exact absurd q (by decide)
  · obtain ⟨_, _, a, b, _⟩ := st_19 s hs
    exact ⟨(hg _ _ (by omega)).trans a, (hg _ _ (by omega)).trans b, fun i _ => hl _ _ (by omega)⟩
  · exact (hg _ _ (by omega)).trans (st_19 i hi).2.2.2.2.2.1
  · exact (hg _ _ (by omega)).trans st_1.2.2.2.1
  · exact (hg _ _ (by omega)).trans st_1.2.2.2.2.1
  · exact (hg _ _ (by omega)).trans st_1.2.2.2.2.2.1
  · exact (hg _ _ (by omega)).trans (st_20 i hi).2
theorem J_con (n : Nat) (A : tz_Mem) (h : tz_J n A) : tz_con A := by
  obtain ⟨_, S, K, U, V, D, c, _⟩ := h
  exact c.2.2.2
theorem J_nx (n : Nat) (A : tz_Mem) (_ : n < 512) (h : tz_J n A) : tz_J (n + 1) A := by
  obtain ⟨h1, S, K, U, V, D, c, m, ww⟩ := h
  exact ⟨by omega, S, K, U, V, D, c, m, WX_mo ww (by omega)⟩
theorem tz_law_ok {xs : Nat → Int32} {L : Nat} (hL : L ≤ 3072) : ∃ A2, tz_Go 249 0 (tz_ent 249 [.ref 0]) [] (tz_A0 xs L) = some (some (.int 1), A2) ∧ A2.1 ≤ tz_N0 + 512 :=
  tz_law_from hL (fun n A z3 hn hJ hx hb hb0 => tz_turn J_con J_nx p_row (fun x1 x2 x3 x4 => p_set x1 x2 _) p_copy p_element p_show p_holds p_says p_hill p_storm p_letter p_hillOf p_stormOf p_letterOf p_heard p_sky p_fault p_behind p_arrives p_handIn p_latest p_lightest p_was p_needs p_reach p_loudest p_firstHeard p_night p_meet p_postage p_hours p_burn p_dry p_drought p_seed p_act p_trace p_image p_restore p_status hn hJ hx hb hb0) (st_J xs L) (fun n A h => h.1)
