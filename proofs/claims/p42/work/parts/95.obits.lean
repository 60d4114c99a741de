/-! bits counted -/
/-- the Java library's count of bits, step by step -/
def bc1 (x : Int32) : Int32 := x - ((Int32.toUInt32 x >>> (Int32.toUInt32 1 &&& Int32.toUInt32 31)).toInt32 &&& 1431655765)
def bc2 (x : Int32) : Int32 := (x &&& 858993459) + ((Int32.toUInt32 x >>> (Int32.toUInt32 2 &&& Int32.toUInt32 31)).toInt32 &&& 858993459)
def bc3 (x : Int32) : Int32 := (x + (Int32.toUInt32 x >>> (Int32.toUInt32 4 &&& Int32.toUInt32 31)).toInt32) &&& 252645135
def bc4 (x : Int32) : Int32 := x + (Int32.toUInt32 x >>> (Int32.toUInt32 8 &&& Int32.toUInt32 31)).toInt32
def bc5 (x : Int32) : Int32 := (x + (Int32.toUInt32 x >>> (Int32.toUInt32 16 &&& Int32.toUInt32 31)).toInt32) &&& 63
def bcE (x : Int32) : Int32 := bc5 (bc4 (bc3 (bc2 (bc1 x))))
theorem bcE_s (x : Int32) (A : tz_Mem) : f_J6_bitCount x A = some (some (.int (bcE x)), A) := e_J6_bitCount x A
theorem bcE_ab : ∀ a, a < 64 → ∀ b, b < 64 → bcE (tz_j (64 * a + b)) = tz_j (pc (64 * a + b).testBit 12) := by decide +kernel
theorem bcE_all {n : Nat} (h : n < 4096) : bcE (tz_j n) = tz_j (pc n.testBit 12) := by
  have e := bcE_ab (n / 64) (by omega) (n % 64) (by omega)
  rw [show 64 * (n / 64) + n % 64 = n by omega] at e
  exact e
theorem bcE_is {x : Int32} {q : Nat → Bool} {m : Nat} (hm : m ≤ 12) (h : bt_is x q) (hq : ∀ l, m ≤ l → l < 32 → q l = false) : bcE x = tz_j (pc q m) := by
  have hb : ∀ l, x.toBitVec.toNat.testBit l = x.toBitVec.getLsbD l := fun l => rfl
  have hlt : x.toBitVec.toNat < 2 ^ 12 := by
    refine Nat.lt_pow_two_of_testBit _ (fun l hl => ?_)
    rw [hb]
    by_cases z : l < 32
    · rw [h l z]
      exact hq l (by omega) z
    · exact BitVec.getLsbD_of_ge _ _ (by omega)
  have e : x = tz_j x.toBitVec.toNat := by
    obtain ⟨k, hk, e⟩ := nj_any x
    rw [e]
    congr 1
    show k = (BitVec.ofNat 32 k).toNat
    rw [BitVec.toNat_ofNat]
    omega
  rw [e, bcE_all (by omega)]
  congr 1
  rw [← pc_up (q := q) 12 hm (fun l a b => hq l a (by omega))]
  exact pc_cg 12 (fun l hl => by rw [hb, h l (by omega)])
