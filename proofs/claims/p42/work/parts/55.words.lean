/-! small words that the parts behind want -/
theorem tz_bI_some {x : Int32} {A : tz_Mem} {f : Int32 → tz_Mem → tz_X} : tz_bI (some (some (.int x), A)) f = f x A := rfl
theorem tz_bL_some {x : Int64} {A : tz_Mem} {f : Int64 → tz_Mem → tz_X} : tz_bL (some (some (.long x), A)) f = f x A := rfl
def tz_sc (A A1 : tz_Mem) : Prop := tz_gr A1 0 0 = tz_gr A 0 0 ∧ ∀ i, tz_g A1 0 i = tz_g A 0 i
theorem tz_i32 {m : Nat} (h : m < 2147483648) : (Int32.ofNat m).toInt = m := by
  rw [Int32.toInt_ofNat', show Int32.size = 4294967296 from rfl]
  rw [Int.bmod_eq_of_le] <;> omega
