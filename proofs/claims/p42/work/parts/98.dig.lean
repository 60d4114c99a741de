/-! the law's words of ways: four bits a hill -/
def jl (n : Nat) : Int64 := Int64.ofNat n
theorem jl_b (n : Nat) : (jl n).toBitVec = BitVec.ofNat 64 n := rfl
theorem jl_s : ∀ i, i < 7 → (Int32.toInt64 (4 * tz_j i) &&& 63).toBitVec.smod 64 = BitVec.ofNat 64 (4 * i) := by decide +kernel
theorem jl_15 : (15 : Int64).toBitVec = BitVec.ofNat 64 (2 ^ 4 - 1) := by decide
theorem wv_jl {N j : Nat} (hN : N < 16777216) (hj : j < 6) : wv (jl N) j = tz_j (N / 16 ^ j % 16) := by
  have hp : 16 ^ j = 2 ^ (4 * j) := by rw [Nat.pow_mul]
  have hd : N / 2 ^ (4 * j) ≤ N := Nat.div_le_self _ _
  have h1 : (jl N >>> (Int32.toInt64 (4 * tz_j j) &&& 63)).toBitVec = BitVec.ofNat 64 (N / 2 ^ (4 * j)) := by
    rw [Int64.toBitVec_shiftRight, jl_s j (by omega), jl_b]
    show (BitVec.ofNat 64 N).sshiftRight (BitVec.ofNat 64 (4 * j)).toNat = _
    rw [BitVec.sshiftRight_eq_of_msb_false (by
      rw [BitVec.msb_eq_decide, BitVec.toNat_ofNat, Nat.mod_eq_of_lt (by omega)]
      exact decide_eq_false (by omega))]
    apply BitVec.eq_of_toNat_eq
    rw [BitVec.toNat_ushiftRight, BitVec.toNat_ofNat, BitVec.toNat_ofNat, BitVec.toNat_ofNat, Nat.mod_eq_of_lt (by omega), Nat.mod_eq_of_lt (by omega), Nat.mod_eq_of_lt (by omega), Nat.shiftRight_eq_div_pow]
  have h2 : ((jl N >>> (Int32.toInt64 (4 * tz_j j) &&& 63)) &&& 15).toBitVec = BitVec.ofNat 64 (N / 16 ^ j % 16) := by
    rw [Int64.toBitVec_and, h1, jl_15]
    apply BitVec.eq_of_toNat_eq
    rw [BitVec.toNat_and, BitVec.toNat_ofNat, BitVec.toNat_ofNat, BitVec.toNat_ofNat, hp, Nat.mod_eq_of_lt (a := N / 2 ^ (4 * j)) (by omega), Nat.mod_eq_of_lt (a := 2 ^ 4 - 1) (by decide), Nat.and_two_pow_sub_one_eq_mod, Nat.mod_eq_of_lt (a := N / 2 ^ (4 * j) % 16) (b := 2 ^ 64) (by omega)]
  apply Int32.toBitVec_inj.mp
  show (Int64.toInt32 ((jl N >>> (Int32.toInt64 (4 * tz_j j) &&& 63)) &&& 15)).toBitVec = _
  rw [Int64.toBitVec_toInt32, h2]
  rw [BitVec.signExtend_eq_setWidth_of_le _ (by omega)]
  apply BitVec.eq_of_toNat_eq
  show (BitVec.setWidth 32 (BitVec.ofNat 64 (N / 16 ^ j % 16))).toNat = (BitVec.ofNat 32 (N / 16 ^ j % 16)).toNat
  have : N / 16 ^ j % 16 < 16 := Nat.mod_lt _ (by omega)
  rw [BitVec.toNat_setWidth, BitVec.toNat_ofNat, BitVec.toNat_ofNat, Nat.mod_eq_of_lt (a := N / 16 ^ j % 16) (b := 2 ^ 64) (by omega)]
theorem jl_or {N h i : Nat} (hN : N < 16 ^ i) (hi : i < 6) (hh : h < 8) : jl N ||| (Int32.toInt64 (tz_j h) <<< (Int32.toInt64 (4 * tz_j i) &&& 63)) = jl (N + h * 16 ^ i) := by
  have hp : 16 ^ i = 2 ^ (4 * i) := by rw [Nat.pow_mul]
  have hm : 16 ^ i ≤ 16 ^ 5 := Nat.pow_le_pow_right (by omega) (by omega)
  have hm2 : h * 16 ^ i ≤ 7 * 16 ^ 5 := Nat.mul_le_mul (by omega) hm
  have e0 : (Int32.toInt64 (tz_j h)).toBitVec = BitVec.ofNat 64 h := by
    have : ∀ h, h < 8 → (Int32.toInt64 (tz_j h)).toBitVec = BitVec.ofNat 64 h := by decide +kernel
    exact this h hh
  apply Int64.toBitVec_inj.mp
  rw [Int64.toBitVec_or, Int64.toBitVec_shiftLeft, jl_s i (by omega), jl_b, jl_b, e0]
  apply BitVec.eq_of_toNat_eq
  show (BitVec.ofNat 64 N ||| (BitVec.ofNat 64 h <<< (BitVec.ofNat 64 (4 * i)).toNat)).toNat = _
  rw [BitVec.toNat_or, BitVec.toNat_shiftLeft, BitVec.toNat_ofNat, BitVec.toNat_ofNat, BitVec.toNat_ofNat, BitVec.toNat_ofNat, Nat.mod_eq_of_lt (a := N) (by omega), Nat.mod_eq_of_lt (a := h) (by omega), Nat.mod_eq_of_lt (a := 4 * i) (by omega), Nat.shiftLeft_eq, ← hp, Nat.mod_eq_of_lt (a := h * 16 ^ i) (by omega), Nat.mod_eq_of_lt (by omega), Nat.or_comm, hp, Nat.mul_comm, ← Nat.two_pow_add_eq_or_of_lt (by rw [← hp]; exact hN), Nat.add_comm]
theorem jl_mask {N z : Nat} (hN : N < 16777216) (hz : z ≤ 6) : jl N &&& (((1 : Int64) <<< (Int32.toInt64 (4 * tz_j z) &&& 63)) - 1) = jl (N % 16 ^ z) := by
  have e0 : (((1 : Int64) <<< (Int32.toInt64 (4 * tz_j z) &&& 63)) - 1).toBitVec = BitVec.ofNat 64 (2 ^ (4 * z) - 1) := by
    have : ∀ z, z < 7 → (((1 : Int64) <<< (Int32.toInt64 (4 * tz_j z) &&& 63)) - 1).toBitVec = BitVec.ofNat 64 (2 ^ (4 * z) - 1) := by decide +kernel
    exact this z (by omega)
  have hp : 16 ^ z = 2 ^ (4 * z) := by rw [Nat.pow_mul]
  have hm : 2 ^ (4 * z) ≤ 2 ^ 24 := Nat.pow_le_pow_right (by omega) (by omega)
  have hl : N % 2 ^ (4 * z) ≤ N := Nat.mod_le _ _
  apply Int64.toBitVec_inj.mp
  rw [Int64.toBitVec_and, e0, jl_b, jl_b]
  apply BitVec.eq_of_toNat_eq
  rw [BitVec.toNat_and, BitVec.toNat_ofNat, BitVec.toNat_ofNat, BitVec.toNat_ofNat, Nat.mod_eq_of_lt (a := N) (by omega), Nat.mod_eq_of_lt (a := 2 ^ (4 * z) - 1) (by omega), Nat.and_two_pow_sub_one_eq_mod, hp, Nat.mod_eq_of_lt (a := N % 2 ^ (4 * z)) (by omega)]
/-- a number of that many digits, and which they are -/
def dg (w : Nat → Nat) (i N : Nat) : Prop := N < 16 ^ i ∧ ∀ j, j < i → N / 16 ^ j % 16 = w j
theorem pw_le {a b : Nat} (h : a ≤ b) : 16 ^ a ≤ 16 ^ b := Nat.pow_le_pow_right (by omega) h
theorem dg_0 {w : Nat → Nat} : dg w 0 0 := ⟨by decide, fun j h => by omega⟩
theorem dg_s {w : Nat → Nat} {i N h : Nat} (d : dg w i N) (hh : h < 8) : dg (fun j => if j = i then h else w j) (i + 1) (N + h * 16 ^ i) := by
  obtain ⟨d1, d2⟩ := d
  have hpos : 0 < 16 ^ i := Nat.pow_pos (by omega)
  refine ⟨?_, fun j hj => ?_⟩
  · have : h * 16 ^ i ≤ 7 * 16 ^ i := Nat.mul_le_mul (by omega) (Nat.le_refl _)
    rw [Nat.pow_succ]
    omega
  · by_cases z : j = i
    · subst z
      show (N + h * 16 ^ j) / 16 ^ j % 16 = if j = j then h else w j
      rw [if_pos rfl, Nat.add_mul_div_right _ _ hpos, Nat.div_eq_of_lt d1]
      omega
    · show (N + h * 16 ^ i) / 16 ^ j % 16 = if j = i then h else w j
      rw [if_neg z, ← d2 j (by omega)]
      have e : h * 16 ^ i = (h * 16 ^ (i - j - 1) * 16) * 16 ^ j := by
        rw [Nat.mul_assoc, Nat.mul_assoc, ← Nat.pow_succ', ← Nat.pow_add]
        congr 2
        omega
      rw [e, Nat.add_mul_div_right _ _ (Nat.pow_pos (by omega)), Nat.add_mul_mod_self_right]
theorem dg_m {w : Nat → Nat} {i z N : Nat} (d : dg w i N) (hz : z ≤ i) : dg w z (N % 16 ^ z) := by
  obtain ⟨d1, d2⟩ := d
  refine ⟨Nat.mod_lt _ (Nat.pow_pos (by omega)), fun j hj => ?_⟩
  rw [← d2 j (by omega), show z = j + (z - j - 1 + 1) by omega, Nat.pow_add, Nat.mod_mul_right_div_self, Nat.pow_succ, Nat.mul_comm (16 ^ (z - j - 1)), Nat.mod_mul_right_mod]
theorem wv_dg {w : Nat → Nat} {i N j : Nat} (d : dg w i N) (hi : i ≤ 6) (hj : j < i) : wv (jl N) j = tz_j (w j) := by
  have := pw_le hi
  rw [wv_jl (Nat.lt_of_lt_of_le d.1 this) (by omega), d.2 j hj]
theorem t32 (x : Int32) : Int64.toInt32 (Int32.toInt64 x) = x := Int32.toInt32_toInt64 x
