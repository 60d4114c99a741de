/-! the loop's end, and the start of it -/
theorem tz_i32 {m : Nat} (h : m < 2147483648) : (Int32.ofNat m).toInt = m := by
  rw [Int32.toInt_ofNat', show Int32.size = 4294967296 from rfl]
  rw [Int.bmod_eq_of_le] <;> omega
theorem tz_loop {J : Nat → tz_Mem → Prop} {L : Nat} (hL : L ≤ 3072) (turn : ∀ n A z3, n < 512 → J n A → ¬ (Int32.ofNat (tz_gr A 0 0)) - 6 < z3 → (∀ i : Int32, 0 ≤ i → i < 6 → ¬ ((z3 + i) < 0 ∨ tz_gr A 0 0 ≤ Int32.toNatClampNeg (z3 + i))) → ¬ (z3 < 0 ∨ tz_gr A 0 0 ≤ Int32.toNatClampNeg z3) → ∃ A2, q_L_law_18 z3 A = q_L_law_18 (z3 + 6) A2 ∧ tz_sc A A2 ∧ J (n + 1) A2) : ∀ k n A, J n A → tz_gr A 0 0 = L → L ≤ 6 * n + k → 6 * n ≤ L → ∃ A2 m, q_L_law_18 (Int32.ofNat (6 * n)) A = some (some (.int 1), A2) ∧ J m A2 ∧ 6 * m ≤ L := by
  intro k
  induction k with
  | zero =>
    intro n A hJ hs hk hn
    refine ⟨A, n, ?_, hJ, hn⟩
    rw [e_L_law_18, if_pos]
    rw [hs, Int32.lt_iff_toInt_lt, Int32.toInt_sub, tz_i32 (by omega), tz_i32 (by omega)]
    rw [show ((6 : Int32).toInt) = 6 from by decide, Int.bmod_eq_of_le] <;> omega
  | succ k ih =>
    intro n A hJ hs hk hn
    by_cases hx : L < 6 * n + 6
    · refine ⟨A, n, ?_, hJ, hn⟩
      rw [e_L_law_18, if_pos]
      rw [hs, Int32.lt_iff_toInt_lt, Int32.toInt_sub, tz_i32 (by omega), tz_i32 (by omega)]
      rw [show ((6 : Int32).toInt) = 6 from by decide, Int.bmod_eq_of_le] <;> omega
    · have hx1 : ¬ (Int32.ofNat (tz_gr A 0 0)) - 6 < Int32.ofNat (6 * n) := by
        rw [hs, Int32.lt_iff_toInt_lt, Int32.toInt_sub, tz_i32 (by omega), tz_i32 (by omega)]
        rw [show ((6 : Int32).toInt) = 6 from by decide, Int.bmod_eq_of_le] <;> omega
      have hz : (Int32.ofNat (6 * n)).toInt = ((6 * n : Nat) : Int) := tz_i32 (by omega)
      have hb : ∀ i : Int32, 0 ≤ i → i < 6 → ¬ ((Int32.ofNat (6 * n) + i) < 0 ∨ tz_gr A 0 0 ≤ Int32.toNatClampNeg (Int32.ofNat (6 * n) + i)) := by
        intro i h0 h6
        rw [Int32.le_iff_toInt_le] at h0
        rw [Int32.lt_iff_toInt_lt] at h6
        have e0 : (0 : Int32).toInt = 0 := by decide
        have e6 : (6 : Int32).toInt = 6 := by decide
        rw [e0] at h0
        rw [e6] at h6
        have e : (Int32.ofNat (6 * n) + i).toInt = ((6 * n : Nat) : Int) + i.toInt := by
          rw [Int32.toInt_add, hz, Int.bmod_eq_of_le] <;> omega
        rintro (q | q)
        · rw [Int32.lt_iff_toInt_lt, e, e0] at q
          omega
        · rw [hs] at q
          have : Int32.toNatClampNeg (Int32.ofNat (6 * n) + i) = (Int32.ofNat (6 * n) + i).toInt.toNat := rfl
          rw [this, e] at q
          omega
      have hb0 : ¬ (Int32.ofNat (6 * n) < 0 ∨ tz_gr A 0 0 ≤ Int32.toNatClampNeg (Int32.ofNat (6 * n))) := by
        have := hb 0 (by decide) (by decide)
        rwa [Int32.add_zero] at this
      obtain ⟨A2, e, hs2, hJ2⟩ := turn n A _ (by omega) hJ hx1 hb hb0
      rw [e, show Int32.ofNat (6 * n) + 6 = Int32.ofNat (6 * (n + 1)) from by
        rw [Nat.mul_succ, Int32.ofNat_add]
        rfl]
      exact ih (n + 1) A2 hJ2 (hs2.1.trans hs) (by omega) (by omega)
