/-! the law's remainders; how many bits -/
theorem l_tm (v : Int32) {m : Nat} (h1 : 1 ≤ m) (hm : m < 2147483648) : (v - v / tz_j m * tz_j m).toInt = v.toInt.tmod m := by
  have hi : (tz_j m).toInt = m := nj_i hm
  have hne : tz_j m ≠ -1 := by
    intro q
    have e : (tz_j m).toInt = (-1 : Int32).toInt := by rw [q]
    rw [hi, show (-1 : Int32).toInt = -1 from by decide] at e
    omega
  have e1 : (v / tz_j m).toInt = v.toInt.tdiv m := by
    rw [Int32.toInt_div_of_ne_right _ _ hne, hi]
  have h2 := Int.tmod_add_mul_tdiv v.toInt m
  have h3 := Int.tmod_lt_of_pos v.toInt (show (0 : Int) < m by omega)
  have h4 := Int.lt_tmod_of_pos v.toInt (show (0 : Int) < m by omega)
  have b1 := Int32.toInt_lt v
  have b2 := Int32.le_toInt v
  have h5 : v.toInt.tdiv m * m = v.toInt - v.toInt.tmod m := by
    rw [Int.mul_comm]
    omega
  have h7 : v.toInt.tmod m ≤ v.toInt ∧ 0 ≤ v.toInt.tmod m ∨ v.toInt ≤ v.toInt.tmod m ∧ v.toInt.tmod m ≤ 0 := by
    by_cases z : 0 ≤ v.toInt
    · left
      have h6 := Int.tmod_nonneg (m : Int) z
      have h8 := Int.mul_nonneg (show (0 : Int) ≤ m by omega) (Int.tdiv_nonneg z (show (0 : Int) ≤ m by omega))
      omega
    · right
      have e := Int.neg_tmod (a := v.toInt) (b := (m : Int))
      have n1 := Int.tmod_nonneg (m : Int) (show 0 ≤ - v.toInt by omega)
      have n2 := Int.mul_nonneg (show (0 : Int) ≤ m by omega) (Int.tdiv_nonneg (show 0 ≤ - v.toInt by omega) (show (0 : Int) ≤ m by omega))
      have n3 := Int.tmod_add_mul_tdiv (- v.toInt) m
      omega
  have p : ((2 ^ 32 : Nat) : Int) = 4294967296 := by decide
  have b3 : (v.toInt - v.toInt.tmod m).bmod (2 ^ 32) = v.toInt - v.toInt.tmod m := Int.bmod_eq_of_le (by omega) (by omega)
  have b4 : (v.toInt - (v.toInt - v.toInt.tmod m)).bmod (2 ^ 32) = v.toInt - (v.toInt - v.toInt.tmod m) := Int.bmod_eq_of_le (by omega) (by omega)
  rw [Int32.toInt_sub, Int32.toInt_mul, e1, hi, h5, b3, b4]
  omega
theorem l_some {m : Nat} (v : Int32) (A : tz_Mem) (h1 : 1 ≤ m) (hm : m < 2147483648) : ∃ r, r < m ∧ f_L_some v (tz_j m) A = some (some (.int (tz_j r)), A) := by
  have e := l_tm v h1 hm
  have h3 := Int.tmod_lt_of_pos v.toInt (show (0 : Int) < m by omega)
  have h4 := Int.lt_tmod_of_pos v.toInt (show (0 : Int) < m by omega)
  have n0 : ¬ tz_j m = tz_j 0 := by rw [nj_eq (by omega) (by omega)]; omega
  rw [e_L_some, tz_lit (n := 0), if_neg n0]
  generalize v - v / tz_j m * tz_j m = x at *
  by_cases z : tz_j 0 ≤ x
  · rw [if_pos z]
    obtain ⟨r, hr, rfl⟩ := nj_of z
    refine ⟨r, ?_, rfl⟩
    rw [nj_i hr] at e
    omega
  · rw [if_neg z]
    have z2 : ¬ (0 : Int) ≤ x.toInt := fun q => z (Int32.le_iff_toInt_le.mpr (by rw [show (tz_j 0).toInt = 0 from by decide]; exact q))
    have e2 : (x + tz_j m).toInt = x.toInt + m := by
      rw [Int32.toInt_add, nj_i hm, Int.bmod_eq_of_le (by omega) (by omega)]
    have p : tz_j 0 ≤ x + tz_j m := Int32.le_iff_toInt_le.mpr (by rw [show (tz_j 0).toInt = 0 from by decide, e2]; omega)
    obtain ⟨r, hr, e3⟩ := nj_of p
    refine ⟨r, ?_, by rw [e3]⟩
    rw [e3, nj_i hr] at e2
    omega
/-- of a number not below 0: its remainder -/
theorem l_some0 {x m : Nat} (A : tz_Mem) (h1 : 1 ≤ m) (hm : m < 2147483648) (hx : x < 2147483648) : f_L_some (tz_j x) (tz_j m) A = some (some (.int (tz_j (x % m))), A) := by
  have n0 : ¬ tz_j m = tz_j 0 := by rw [nj_eq (by omega) (by omega)]; omega
  have hb : x % m < m := Nat.mod_lt _ (by omega)
  have n1 : tz_j 0 ≤ tz_j (x % m) := by rw [nj_le (by omega) (by omega)]; omega
  rw [e_L_some, tz_lit (n := 0), if_neg n0, nj_mod hx hm, if_pos n1]
theorem l_at {k : Nat} {A : tz_Mem} (hL : tz_gr A 0 0 ≤ 260) (hk : k < 1000) : ∃ v, f_L_at (tz_j k) A = some (some (.int v), A) := by
  rw [e_L_at]
  by_cases z : tz_gr A 0 0 ≤ k
  · have n1 : Int32.ofNat (tz_gr A 0 0) ≤ tz_j k := by
      show tz_j (tz_gr A 0 0) ≤ tz_j k
      rw [nj_le (by omega) (by omega)]
      exact z
    rw [if_pos n1]
    exact ⟨_, rfl⟩
  · have n1 : ¬ Int32.ofNat (tz_gr A 0 0) ≤ tz_j k := by
      show ¬ tz_j (tz_gr A 0 0) ≤ tz_j k
      rw [nj_le (by omega) (by omega)]
      exact z
    have n2 : ¬ (tz_j k < 0 ∨ tz_gr A 0 0 ≤ (tz_j k).toNatClampNeg) := by
      rw [nj_cl (by omega)]
      have : ¬ tz_j k < tz_j 0 := by rw [nj_lt (by omega) (by omega)]; omega
      exact fun q => q.elim this z
    rw [if_neg n1, if_neg n2]
    exact ⟨_, rfl⟩
/-! how many -/
def pc (q : Nat → Bool) : Nat → Nat
  | 0 => 0
  | n + 1 => pc q n + (if q n = true then 1 else 0)
theorem pc_s {q : Nat → Bool} {n : Nat} : pc q (n + 1) = pc q n + (if q n = true then 1 else 0) := rfl
theorem pc_cg {q r : Nat → Bool} : ∀ n, (∀ l, l < n → q l = r l) → pc q n = pc r n := by
  intro n
  induction n with
  | zero => exact fun _ => rfl
  | succ n ih =>
    intro h
    rw [pc_s, pc_s, ih (fun l hl => h l (by omega)), h n (by omega)]
theorem pc_le {q : Nat → Bool} : ∀ n, pc q n ≤ n := by
  intro n
  induction n with
  | zero => exact Nat.le_refl _
  | succ n ih =>
    rw [pc_s]
    split <;> omega
theorem pc_mo {q r : Nat → Bool} : ∀ n, (∀ l, l < n → q l = true → r l = true) → pc q n ≤ pc r n := by
  intro n
  induction n with
  | zero => exact fun _ => Nat.le_refl _
  | succ n ih =>
    intro h
    have a := ih (fun l hl => h l (by omega))
    rw [pc_s, pc_s]
    by_cases z : q n = true
    · rw [if_pos z, if_pos (h n (by omega) z)]
      omega
    · rw [if_neg z]
      omega
theorem pc_lt {q r : Nat → Bool} {a : Nat} : ∀ n, a < n → (∀ l, l < n → q l = true → r l = true) → r a = true → ¬ q a = true → pc q n + 1 ≤ pc r n := by
  intro n
  induction n with
  | zero => exact fun h => absurd h (Nat.not_lt_zero a)
  | succ n ih =>
    intro ha h h1 h2
    rw [pc_s, pc_s]
    by_cases z : a = n
    · have b := pc_mo n (fun l hl => h l (show l < n + 1 by omega))
      rw [← z, if_neg h2, if_pos h1, z]
      omega
    · have b := ih (by omega) (fun l hl => h l (by omega)) h1 h2
      by_cases y : q n = true
      · rw [if_pos y, if_pos (h n (by omega) y)]
        omega
      · rw [if_neg y]
        omega
theorem pc_add {q r s : Nat → Bool} : ∀ n, (∀ l, l < n → s l = (q l || r l)) → (∀ l, l < n → q l = true → r l = false) → pc s n = pc q n + pc r n := by
  intro n
  induction n with
  | zero => exact fun _ _ => rfl
  | succ n ih =>
    intro h d
    have a := ih (fun l hl => h l (by omega)) (fun l hl => d l (by omega))
    have b := h n (by omega)
    have e := d n (by omega)
    rw [pc_s, pc_s, pc_s, a, b]
    cases hq : q n <;> cases hr : r n <;> simp_all <;> omega
theorem pc_up {q : Nat → Bool} {n : Nat} : ∀ m, n ≤ m → (∀ l, n ≤ l → l < m → q l = false) → pc q m = pc q n := by
  intro m
  induction m with
  | zero => intro h _; rw [show n = 0 by omega]
  | succ m ih =>
    intro h d
    by_cases z : n = m + 1
    · rw [z]
    · rw [pc_s, ih (by omega) (fun l a b => d l a (by omega)), d m (by omega) (by omega)]
      simp
theorem pc_cw {S : tz_S} {p : Nat} : ∀ n, sp_cw p n S = pc (fun l => decide (S 20 l = p)) n := by
  intro n
  induction n with
  | zero => rfl
  | succ n ih =>
    rw [cw_s, pc_s, ih]
    simp
