/-! numbers of the ints; bits -/
def tz_j (n : Nat) : Int32 := Int32.ofNat n
theorem tz_lit {n : Nat} : (OfNat.ofNat n : Int32) = tz_j (OfNat.ofNat n) := rfl
theorem nj_m1 : -(tz_j 1) = tz_j 4294967295 := by decide
theorem nj_m2 : -(tz_j 2) = tz_j 4294967294 := by decide
theorem nj_m3 : -(tz_j 3) = tz_j 4294967293 := by decide
theorem nj_m4 : -(tz_j 4) = tz_j 4294967292 := by decide
theorem nj_m5 : -(tz_j 5) = tz_j 4294967291 := by decide
theorem nj_m6 : -(tz_j 6) = tz_j 4294967290 := by decide
theorem nj_m7 : -(tz_j 7) = tz_j 4294967289 := by decide
theorem nj_i {m : Nat} (h : m < 2147483648) : (tz_j m).toInt = m := tz_i32 h
theorem nj_lt {a b : Nat} (ha : a < 2147483648) (hb : b < 2147483648) : (tz_j a < tz_j b) = (a < b) := by
  rw [Int32.lt_iff_toInt_lt, nj_i ha, nj_i hb]
  exact propext (by omega)
theorem nj_le {a b : Nat} (ha : a < 2147483648) (hb : b < 2147483648) : (tz_j a ≤ tz_j b) = (a ≤ b) := by
  rw [Int32.le_iff_toInt_le, nj_i ha, nj_i hb]
  exact propext (by omega)
theorem nj_inj {a b : Nat} (ha : a < 4294967296) (hb : b < 4294967296) (h : tz_j a = tz_j b) : a = b := by
  have h1 : BitVec.ofNat 32 a = BitVec.ofNat 32 b := congrArg Int32.toBitVec h
  have h2 : (BitVec.ofNat 32 a).toNat = (BitVec.ofNat 32 b).toNat := congrArg BitVec.toNat h1
  rw [BitVec.toNat_ofNat, BitVec.toNat_ofNat] at h2
  omega
theorem nj_eq {a b : Nat} (ha : a < 4294967296) (hb : b < 4294967296) : (tz_j a = tz_j b) = (a = b) := propext ⟨nj_inj ha hb, fun h => by rw [h]⟩
theorem nj_cl {m : Nat} (h : m < 2147483648) : (tz_j m).toNatClampNeg = m := by
  have : (tz_j m).toNatClampNeg = (tz_j m).toInt.toNat := rfl
  rw [this, nj_i h]
  rfl
theorem nj_ltt {a b : Nat} (h : a < b) (hb : b < 2147483648) : (tz_j a < tz_j b) = True := by
  rw [nj_lt (by omega) hb]
  exact eq_true h
theorem nj_ltf {a b : Nat} (h : b ≤ a) (ha : a < 2147483648) : (tz_j a < tz_j b) = False := by
  rw [nj_lt ha (by omega)]
  exact eq_false (by omega)
theorem nj_let {a b : Nat} (h : a ≤ b) (hb : b < 2147483648) : (tz_j a ≤ tz_j b) = True := by
  rw [nj_le (by omega) hb]
  exact eq_true h
theorem nj_lef {a b : Nat} (h : b < a) (ha : a < 2147483648) : (tz_j a ≤ tz_j b) = False := by
  rw [nj_le ha (by omega)]
  exact eq_false (by omega)
theorem nj_eqf {a b : Nat} (h : a ≠ b) (ha : a < 4294967296) (hb : b < 4294967296) : (tz_j a = tz_j b) = False := by
  rw [nj_eq ha hb]
  exact eq_false h
theorem nj_eqt {a b : Nat} (h : a = b) : (tz_j a = tz_j b) = True := by
  rw [h]
  exact eq_true rfl
theorem nj_ix {l n : Nat} (h : l < n) (hn : n ≤ 2147483648) : (tz_j l < 0 ∨ n ≤ (tz_j l).toNatClampNeg) = False := by
  have e : ((0 : Int32)) = tz_j 0 := rfl
  rw [nj_cl (by omega), e, nj_lt (by omega) (by omega)]
  exact eq_false (by omega)
theorem nj_add {a b : Nat} : tz_j a + tz_j b = tz_j (a + b) := (Int32.ofNat_add a b).symm
theorem nj_mul {a b : Nat} : tz_j a * tz_j b = tz_j (a * b) := (Int32.ofNat_mul a b).symm
theorem nj_sub {a b : Nat} (h : b ≤ a) : tz_j a - tz_j b = tz_j (a - b) := by
  have e : tz_j a = tz_j (a - b) + tz_j b := by rw [nj_add, Nat.sub_add_cancel h]
  rw [e, Int32.add_sub_cancel]
theorem nj_dec {a : Nat} (h : 1 ≤ a) : tz_j a + tz_j 4294967295 = tz_j (a - 1) := by
  rw [← nj_m1, ← nj_sub h, Int32.sub_eq_add_neg]
theorem nj_div {a b : Nat} (ha : a < 2147483648) (hb : b < 2147483648) : tz_j a / tz_j b = tz_j (a / b) := by
  apply Int32.toInt_inj.mp
  have hq : a / b ≤ a := Nat.div_le_self a b
  rw [Int32.toInt_div, nj_i ha, nj_i hb, nj_i (by omega), ← Int.ofNat_tdiv]
  generalize a / b = c at *
  rw [Int.bmod_eq_of_le] <;> omega
theorem nj_mod {a b : Nat} (ha : a < 2147483648) (hb : b < 2147483648) : tz_j a - tz_j a / tz_j b * tz_j b = tz_j (a % b) := by
  rw [nj_div ha hb, nj_mul, nj_sub (Nat.div_mul_le_self a b)]
  congr 1
  have := Nat.div_add_mod' a b
  omega
theorem nj_and7 {a : Nat} (ha : a < 2147483648) : tz_j a &&& tz_j 7 = tz_j (a % 8) := by
  apply Int32.toBitVec_inj.mp
  rw [Int32.toBitVec_and]
  apply BitVec.eq_of_toNat_eq
  rw [BitVec.toNat_and]
  show (BitVec.ofNat 32 a).toNat &&& (BitVec.ofNat 32 7).toNat = (BitVec.ofNat 32 (a % 8)).toNat
  rw [BitVec.toNat_ofNat, BitVec.toNat_ofNat, BitVec.toNat_ofNat, Nat.mod_eq_of_lt (by omega : a < 2 ^ 32), show 7 % 2 ^ 32 = 2 ^ 3 - 1 from rfl, Nat.and_two_pow_sub_one_eq_mod]
  show a % 8 = a % 8 % 4294967296
  omega
/-- an int is a number below a bound or lies outside -/
theorem nj_of {x : Int32} (h : 0 ≤ x) : ∃ m, m < 2147483648 ∧ x = tz_j m := by
  rw [Int32.le_iff_toInt_le] at h
  have e0 : (0 : Int32).toInt = 0 := by decide
  rw [e0] at h
  have h2 := Int32.toInt_lt x
  refine ⟨x.toInt.toNat, by omega, ?_⟩
  apply Int32.toInt_inj.mp
  rw [nj_i (by omega)]
  omega
theorem nj_cases (x : Int32) (n : Nat) (hn : n < 2147483648) : (∃ m, m < n ∧ x = tz_j m) ∨ ((x < tz_j 0 ∨ tz_j n ≤ x) ∧ ¬ (tz_j 0 ≤ x ∧ x < tz_j n)) := by
  by_cases h : 0 ≤ x
  · obtain ⟨m, hm, rfl⟩ := nj_of h
    by_cases hmn : m < n
    · exact Or.inl ⟨m, hmn, rfl⟩
    · rw [nj_lt hm (by omega), nj_le hn hm, nj_le (by omega) hm, nj_lt hm hn]
      exact Or.inr ⟨by omega, by omega⟩
  · refine Or.inr ⟨Or.inl (by
      show x < 0
      rw [Int32.le_iff_toInt_le] at h
      rw [Int32.lt_iff_toInt_lt]
      omega), fun q => h q.1⟩
theorem nj_any (x : Int32) : ∃ m, m < 4294967296 ∧ x = tz_j m := by
  refine ⟨x.toBitVec.toNat, x.toBitVec.isLt, ?_⟩
  apply Int32.toBitVec_inj.mp
  show x.toBitVec = BitVec.ofNat 32 x.toBitVec.toNat
  rw [BitVec.ofNat_toNat, BitVec.setWidth_eq]

/-- bits -/
def bt_is (x : Int32) (p : Nat → Bool) : Prop := ∀ l, l < 32 → x.toBitVec.getLsbD l = p l
theorem nj_one : ∀ l, l < 32 → (1 : Int32) <<< (tz_j l &&& 31) = tz_j (2 ^ l) := by decide +kernel
theorem bt_one {l m : Nat} (hl : l < 32) (hm : m < 32) : ((1 : Int32) <<< (tz_j l &&& 31)).toBitVec.getLsbD m = decide (l = m) := by
  rw [nj_one l hl]
  show (BitVec.ofNat 32 (2 ^ l)).getLsbD m = decide (l = m)
  rw [BitVec.getLsbD_ofNat, Nat.testBit_two_pow]
  simp [hm]
theorem bt_m1 : ∀ m, m < 32 → (-1 : Int32).toBitVec.getLsbD m = true := by decide +kernel
theorem bt_zero : bt_is 0 (fun _ => false) := by
  intro l hl
  exact BitVec.getLsbD_zero
theorem bt_ext {x y : Int32} {p : Nat → Bool} (hx : bt_is x p) (hy : bt_is y p) : x = y := by
  apply Int32.toBitVec_inj.mp
  apply BitVec.eq_of_getLsbD_eq
  intro i hi
  rw [hx i hi, hy i hi]
theorem bt_congr {x : Int32} {p q : Nat → Bool} (hx : bt_is x p) (h : ∀ l, l < 32 → p l = q l) : bt_is x q := fun l hl => (hx l hl).trans (h l hl)
theorem bt_or {x : Int32} {p : Nat → Bool} {l : Nat} (hl : l < 32) (hx : bt_is x p) : bt_is (x ||| (1 <<< (tz_j l &&& 31))) (fun m => p m || decide (l = m)) := by
  intro m hm
  rw [Int32.toBitVec_or, BitVec.getLsbD_or, hx m hm, bt_one hl hm]
theorem bt_clr {x : Int32} {p : Nat → Bool} {l : Nat} (hl : l < 32) (hx : bt_is x p) : bt_is (x &&& ((1 <<< (tz_j l &&& 31)) ^^^ (-1))) (fun m => p m && !(decide (l = m))) := by
  intro m hm
  rw [Int32.toBitVec_and, BitVec.getLsbD_and, Int32.toBitVec_xor, BitVec.getLsbD_xor, hx m hm, bt_one hl hm, bt_m1 m hm]
  simp
theorem bt_is0 {x : Int32} {p : Nat → Bool} (hx : bt_is x p) : (x = 0) = (∀ l, l < 32 → p l = false) := by
  apply propext
  constructor
  · intro h l hl
    rw [← hx l hl, h]
    exact BitVec.getLsbD_zero
  · intro h
    exact bt_ext hx (bt_congr bt_zero (fun l hl => (h l hl).symm))
theorem bt_test {x : Int32} {p : Nat → Bool} {l : Nat} (hl : l < 32) (hx : bt_is x p) : ((x &&& (1 <<< (tz_j l &&& 31))) = 0) = (p l = false) := by
  have h : bt_is (x &&& (1 <<< (tz_j l &&& 31))) (fun m => p m && decide (l = m)) := by
    intro m hm
    rw [Int32.toBitVec_and, BitVec.getLsbD_and, hx m hm, bt_one hl hm]
  rw [bt_is0 h]
  apply propext
  constructor
  · intro q
    have := q l hl
    simpa using this
  · intro q m hm
    by_cases e : l = m
    · subst e
      simp [q]
    · simp [e]
/-- the other test: shifted down -/
theorem bt_has : ∀ l, l < 32 → ∀ x : Int32, ((x >>> (tz_j l &&& 31)) &&& 1 = 1) = (x.toBitVec.getLsbD l = true) := by
  intro l hl x
  have e1 : (x >>> (tz_j l &&& 31)).toBitVec = x.toBitVec.sshiftRight l := by
    rw [Int32.toBitVec_shiftRight]
    have : ∀ l, l < 32 → ((tz_j l &&& 31).toBitVec.smod 32).toNat = l := by decide +kernel
    unfold BitVec.sshiftRight'
    rw [this l hl]
  have e2 : bt_is ((x >>> (tz_j l &&& 31)) &&& 1) (fun m => x.toBitVec.getLsbD l && decide (m = 0)) := by
    intro m hm
    rw [Int32.toBitVec_and, BitVec.getLsbD_and, e1]
    have h1 : ∀ m, m < 32 → (1 : Int32).toBitVec.getLsbD m = decide (m = 0) := by decide +kernel
    rw [h1 m hm]
    by_cases e : m = 0
    · subst e
      rw [BitVec.getLsbD_sshiftRight]
      simp [hl]
    · simp [e]
  have e3 : bt_is 1 (fun m => decide (m = 0)) := by
    have h1 : ∀ m, m < 32 → (1 : Int32).toBitVec.getLsbD m = decide (m = 0) := by decide +kernel
    exact h1
  apply propext
  constructor
  · intro q
    rw [q] at e2
    have a := e2 0 (by decide)
    have b := e3 0 (by decide)
    rw [a] at b
    simpa using b
  · intro q
    refine bt_ext e2 (bt_congr e3 (fun m hm => ?_))
    rw [q]
    simp
/-- the same, numbers written by tz_j -/
theorem bj_or {x : Int32} {p : Nat → Bool} {l : Nat} (hl : l < 32) (hx : bt_is x p) : bt_is (x ||| (tz_j 1 <<< (tz_j l &&& tz_j 31))) (fun m => p m || decide (l = m)) := bt_or hl hx
theorem bj_clr {x : Int32} {p : Nat → Bool} {l : Nat} (hl : l < 32) (hx : bt_is x p) : bt_is (x &&& ((tz_j 1 <<< (tz_j l &&& tz_j 31)) ^^^ tz_j 4294967295)) (fun m => p m && !(decide (l = m))) := by
  rw [← nj_m1]
  exact bt_clr hl hx
theorem bj_is0 {x : Int32} {p : Nat → Bool} (hx : bt_is x p) : (x = tz_j 0) = (∀ l, l < 32 → p l = false) := bt_is0 hx
theorem bj_test {x : Int32} {p : Nat → Bool} {l : Nat} (hl : l < 32) (hx : bt_is x p) : ((x &&& (tz_j 1 <<< (tz_j l &&& tz_j 31))) = tz_j 0) = (p l = false) := bt_test hl hx
theorem bj_has {l : Nat} (hl : l < 32) (x : Int32) : ((x >>> (tz_j l &&& tz_j 31)) &&& tz_j 1 = tz_j 1) = (x.toBitVec.getLsbD l = true) := bt_has l hl x
theorem bj_zero : bt_is (tz_j 0) (fun _ => false) := bt_zero
