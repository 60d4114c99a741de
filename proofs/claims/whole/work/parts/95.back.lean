/-! was: back from a word, by bounds and by trying all -/
def wa_F (S : tz_S) (P : Nat → Nat) : Nat → Nat → Nat → Nat
  | 0, _, x => x
  | k + 1, i, x => wa_F S P k (i + 1) (sp_bec S (P i) x)
theorem wa_Fs {S : tz_S} {P : Nat → Nat} : ∀ k i x, wa_F S P (k + 1) i x = sp_bec S (P (i + k)) (wa_F S P k i x) := by
  intro k
  induction k with
  | zero => exact fun _ _ => rfl
  | succ k ih =>
    intro i x
    have e : wa_F S P (k + 2) i x = wa_F S P (k + 1) (i + 1) (sp_bec S (P i) x) := rfl
    rw [e, ih, show i + 1 + k = i + (k + 1) by omega]
    rfl
theorem wa_Fl {S : tz_S} {P : Nat → Nat} : ∀ k i x, x ≤ 9999 → wa_F S P k i x ≤ 9999 := by
  intro k
  induction k with
  | zero => exact fun _ _ h => h
  | succ k ih => exact fun i x h => ih _ _ (bec_le h)
/-- from bounds to bounds, the last hill first; 1, 0: none -/
def wa_lo (m lo : Nat) : Nat := 10 * (lo - m)
def wa_up (m hi : Nat) : Nat := if 10 * (hi - m) + 9 < 9999 then 10 * (hi - m) + 9 else 9999
def wa_gb (S : tz_S) (P : Nat → Nat) : Nat → Nat → Nat → Nat × Nat
  | 0, lo, hi => (lo, hi)
  | n + 1, lo, hi => if S 2 (P n) = 2 ∨ S 2 (P n) = 5 then (if hi < (if S 2 (P n) = 5 then S 3 (P n) else 0) then (1, 0) else if wa_up (if S 2 (P n) = 5 then S 3 (P n) else 0) hi < wa_lo (if S 2 (P n) = 5 then S 3 (P n) else 0) lo then (1, 0) else wa_gb S P n (wa_lo (if S 2 (P n) = 5 then S 3 (P n) else 0) lo) (wa_up (if S 2 (P n) = 5 then S 3 (P n) else 0) hi)) else wa_gb S P n lo hi
theorem wa_b1 {S : tz_S} {h x lo hi m : Nat} (hm : m = if S 2 h = 5 then S 3 h else 0) (hk : S 2 h = 2 ∨ S 2 h = 5) (h9 : m ≤ 9) (hx : x ≤ 9999) (hh : hi ≤ 9999) : (lo ≤ sp_bec S h x ∧ sp_bec S h x ≤ hi) ↔ (¬ hi < m ∧ wa_lo m lo ≤ x ∧ x ≤ wa_up m hi) := by
  have e : sp_bec S h x = x / 10 + m := by
    unfold sp_bec
    rcases hk with k | k
    · rw [if_pos k]
      rw [if_neg (by omega)] at hm
      omega
    · rw [if_neg (by omega), if_pos k]
      rw [if_pos k] at hm
      rw [← hm, if_neg (by omega)]
  rw [e]
  unfold wa_lo wa_up
  split <;> omega
theorem wa_gb1 {S : tz_S} {P : Nat → Nat} (W : sp_W1 S) : ∀ n lo hi, lo ≤ hi → hi ≤ 9999 → (∀ j, j < n → P j < S 1 0) → (wa_gb S P n lo hi).2 ≤ 9999 ∧ ∀ x, x ≤ 9999 → ((lo ≤ wa_F S P n 0 x ∧ wa_F S P n 0 x ≤ hi) ↔ ((wa_gb S P n lo hi).1 ≤ x ∧ x ≤ (wa_gb S P n lo hi).2)) := by
  intro n
  induction n with
  | zero => exact fun lo hi _ h _ => ⟨h, fun x _ => Iff.rfl⟩
  | succ n ih =>
    intro lo hi hlh hh hP
    have e : ∀ x, wa_F S P (n + 1) 0 x = sp_bec S (P n) (wa_F S P n 0 x) := fun x => by
      rw [wa_Fs, Nat.zero_add]
    have h9 := (W.2.2.2.1 (P n) (hP n (by omega))).2
    have eg : wa_gb S P (n + 1) lo hi = if S 2 (P n) = 2 ∨ S 2 (P n) = 5 then (if hi < (if S 2 (P n) = 5 then S 3 (P n) else 0) then (1, 0) else if wa_up (if S 2 (P n) = 5 then S 3 (P n) else 0) hi < wa_lo (if S 2 (P n) = 5 then S 3 (P n) else 0) lo then (1, 0) else wa_gb S P n (wa_lo (if S 2 (P n) = 5 then S 3 (P n) else 0) lo) (wa_up (if S 2 (P n) = 5 then S 3 (P n) else 0) hi)) else wa_gb S P n lo hi := rfl
    rw [eg]
    by_cases k : S 2 (P n) = 2 ∨ S 2 (P n) = 5
    · rw [if_pos k]
      generalize hm : (if S 2 (P n) = 5 then S 3 (P n) else 0) = m
      have hm9 : m ≤ 9 := by
        rw [← hm]
        split <;> omega
      have st := fun x (hx : x ≤ 9999) => wa_b1 (lo := lo) (hi := hi) hm.symm k hm9 (wa_Fl (S := S) (P := P) n 0 x hx) hh
      by_cases c1 : hi < m
      · rw [if_pos c1]
        refine ⟨Nat.zero_le _, fun x hx => ?_⟩
        rw [e, st x hx]
        show _ ↔ (1 ≤ x ∧ x ≤ 0)
        omega
      · rw [if_neg c1]
        by_cases c2 : wa_up m hi < wa_lo m lo
        · rw [if_pos c2]
          refine ⟨Nat.zero_le _, fun x hx => ?_⟩
          rw [e, st x hx]
          show _ ↔ (1 ≤ x ∧ x ≤ 0)
          omega
        · rw [if_neg c2]
          have hup : wa_up m hi ≤ 9999 := by
            unfold wa_up
            split <;> omega
          obtain ⟨i1, i2⟩ := ih (wa_lo m lo) (wa_up m hi) (by omega) hup (fun j hj => hP j (by omega))
          refine ⟨i1, fun x hx => ?_⟩
          rw [e, st x hx, ← i2 x hx]
          exact ⟨fun q => q.2, fun q => ⟨c1, q⟩⟩
    · rw [if_neg k]
      obtain ⟨i1, i2⟩ := ih lo hi hlh hh (fun j hj => hP j (by omega))
      refine ⟨i1, fun x hx => ?_⟩
      have e2 : sp_bec S (P n) (wa_F S P n 0 x) = wa_F S P n 0 x := by
        unfold sp_bec
        rw [if_neg (fun q => k (Or.inl q)), if_neg (fun q => k (Or.inr q))]
      rw [e, e2]
      exact i2 x hx
theorem wa_n1 : ∀ m, m < 10 → ∀ a, a < m → ¬ (tz_j 0 < (tz_j a - tz_j m) * tz_j 10) := by decide +kernel
theorem wa_n2 : ∀ m, m < 10 → ∀ a, a < m → (tz_j a - tz_j m) * tz_j 10 + tz_j 9 < tz_j 9999 := by decide +kernel
theorem wa_n3 : ∀ m, m < 10 → ∀ a, a < m → (tz_j a - tz_j m) * tz_j 10 + tz_j 9 < tz_j 0 := by decide +kernel
theorem wa_e1 {m lo : Nat} (hm : m ≤ 9) (hl : lo ≤ 9999) : (if tz_j 0 < (tz_j lo - tz_j m) * tz_j 10 then (tz_j lo - tz_j m) * tz_j 10 else tz_j 0) = tz_j (wa_lo m lo) := by
  unfold wa_lo
  by_cases z : m ≤ lo
  · rw [nj_sub z, nj_mul, Nat.mul_comm 10]
    by_cases y : 0 < (lo - m) * 10
    · rw [if_pos (by rw [nj_lt (by omega) (by omega)]; exact y)]
    · rw [if_neg (by rw [nj_lt (by omega) (by omega)]; exact y), show (lo - m) * 10 = 0 by omega]
  · rw [if_neg (wa_n1 m (by omega) lo (by omega)), show lo - m = 0 by omega]
theorem wa_e2 {m hi : Nat} (hh : hi ≤ 9999) (z : ¬ hi < m) : (if (tz_j hi - tz_j m) * tz_j 10 + tz_j 9 < tz_j 9999 then (tz_j hi - tz_j m) * tz_j 10 + tz_j 9 else tz_j 9999) = tz_j (wa_up m hi) := by
  unfold wa_up
  rw [nj_sub (by omega), nj_mul, nj_add, Nat.mul_comm 10]
  by_cases y : (hi - m) * 10 + 9 < 9999
  · rw [if_pos (by rw [nj_lt (by omega) (by omega)]; exact y), if_pos y]
  · rw [if_neg (by rw [nj_lt (by omega) (by omega)]; exact y), if_neg y]
theorem wa_e3 {m hi : Nat} (hm : m ≤ 9) (z : hi < m) : (if (tz_j hi - tz_j m) * tz_j 10 + tz_j 9 < tz_j 9999 then (tz_j hi - tz_j m) * tz_j 10 + tz_j 9 else tz_j 9999) < tz_j 0 := by
  rw [if_pos (wa_n2 m (by omega) hi z)]
  exact wa_n3 m (by omega) hi z
def wg_p (k i : Nat) : Prop := k = 153 ∧ (i = 3 ∨ i = 4)
theorem x_gbL {S : tz_S} {P : Nat → Nat} (W : sp_W1 S) : ∀ n lo hi A, n ≤ 500 → rx_c 30 S A → (∀ j, j < n → tz_g A 154 j = tz_j (P j) ∧ P j < S 1 0) → lo ≤ hi → hi ≤ 9999 → tz_g A 153 3 = tz_j lo → tz_g A 153 4 = tz_j hi → ∃ A', q_X6_goBack_17 30 (tz_j n + tz_j 4294967295) A = some (none, A') ∧ tz_fr wg_p A A' ∧ (((wa_gb S P n lo hi).1 ≤ (wa_gb S P n lo hi).2 ∧ tz_g A' 153 3 = tz_j (wa_gb S P n lo hi).1 ∧ tz_g A' 153 4 = tz_j (wa_gb S P n lo hi).2) ∨ (wa_gb S P n lo hi = (1, 0) ∧ (tz_g A' 153 4 < tz_g A' 153 3) = True)) := by
  intro n
  induction n with
  | zero =>
    intro lo hi A hn c hP hlh hh q3 q4
    refine ⟨A, ?_, fr_rfl, Or.inl ⟨hlh, q3, q4⟩⟩
    have n1 : (tz_j 0 + tz_j 4294967295 < tz_j 0) = True := eq_true (by decide)
    rw [e_X6_goBack_17 _ _ h30]
    simp only [tz_lit, nj_m1, nj_m2, nj_m3, nj_m4, nj_m5, nj_m6, nj_m7, ↓reduceIte, tz_bI_some, tz_bV_some, tz_bL_some, cj10, cj01, cjm0, eq_self, not_true_eq_false, not_false_eq_true, or_false, false_or, or_true, true_or, or_self, and_true, true_and, and_false, false_and, n1]
  | succ n ih =>
    intro lo hi A hn c hP hlh hh q3 q4
    have h8 := W.1
    obtain ⟨p1, p2⟩ := hP n (by omega)
    have hk := W.2.2.2.1 (P n) p2
    have d1 : tz_j (n + 1) + tz_j 4294967295 = tz_j n := by
      rw [nj_dec (by omega), Nat.add_sub_cancel]
    have n1 : (tz_j n < tz_j 0) = False := nj_ltf (by omega) (by omega)
    have n2 : (tz_j hi < tz_j lo) = False := nj_ltf (by omega) (by omega)
    have n3 : (500 ≤ n) = False := eq_false (by omega)
    have c1 : (tz_j n).toNatClampNeg = n := nj_cl (by omega)
    have n4 := nj_ix8 (s := P n) (n := 8) (by omega) (by omega)
    have c2 : (tz_j (P n)).toNatClampNeg = P n := nj_cl (by omega)
    have k32 : tz_g A (30 + 2) (P n) = tz_j (S 2 (P n)) := cx_2 c (by omega)
    have k33 : tz_g A (30 + 3) (P n) = tz_j (S 3 (P n)) := cx_3 c (by omega)
    rw [d1, e_X6_goBack_17 _ _ h30]
    have step : ∀ m, m ≤ 9 → m = (if S 2 (P n) = 5 then S 3 (P n) else 0) → (S 2 (P n) = 2 ∨ S 2 (P n) = 5) → ∃ A', q_X6_goBack_17 30 (tz_j n + tz_j 4294967295) (tz_s (tz_s A 153 3 (tz_j (wa_lo m lo))) 153 4 (if (tz_j hi - tz_j m) * tz_j 10 + tz_j 9 < tz_j 9999 then (tz_j hi - tz_j m) * tz_j 10 + tz_j 9 else tz_j 9999)) = some (none, A') ∧ tz_fr wg_p A A' ∧ (((wa_gb S P (n + 1) lo hi).1 ≤ (wa_gb S P (n + 1) lo hi).2 ∧ tz_g A' 153 3 = tz_j (wa_gb S P (n + 1) lo hi).1 ∧ tz_g A' 153 4 = tz_j (wa_gb S P (n + 1) lo hi).2) ∨ (wa_gb S P (n + 1) lo hi = (1, 0) ∧ (tz_g A' 153 4 < tz_g A' 153 3) = True)) := by
      intro m hm9 hm hkk
      have eg : wa_gb S P (n + 1) lo hi = if hi < m then (1, 0) else if wa_up m hi < wa_lo m lo then (1, 0) else wa_gb S P n (wa_lo m lo) (wa_up m hi) := by
        rw [hm]
        exact if_pos hkk
      rw [eg]
      have hl9 : wa_lo m lo ≤ 99990 := by
        unfold wa_lo
        omega
      have hup : wa_up m hi ≤ 9999 := by
        unfold wa_up
        split <;> omega
      have ff : ∀ v, tz_fr wg_p A (tz_s (tz_s A 153 3 (tz_j (wa_lo m lo))) 153 4 v) := fun v => fr_s (fr_s fr_rfl ⟨rfl, Or.inl rfl⟩) ⟨rfl, Or.inr rfl⟩
      -- the bounds crossed: at once
      have cross : ∀ v : Int32, v < tz_j (wa_lo m lo) → ∃ A', q_X6_goBack_17 30 (tz_j n + tz_j 4294967295) (tz_s (tz_s A 153 3 (tz_j (wa_lo m lo))) 153 4 v) = some (none, A') ∧ tz_fr wg_p A A' ∧ (((1, 0) : Nat × Nat).1 ≤ ((1, 0) : Nat × Nat).2 ∧ tz_g A' 153 3 = tz_j ((1, 0) : Nat × Nat).1 ∧ tz_g A' 153 4 = tz_j ((1, 0) : Nat × Nat).2 ∨ ((1, 0) : Nat × Nat) = (1, 0) ∧ (tz_g A' 153 4 < tz_g A' 153 3) = True) := by
        intro v hv
        have e4 : tz_g (tz_s (tz_s A 153 3 (tz_j (wa_lo m lo))) 153 4 v) 153 4 = v := tz_gs1
        have e3 : tz_g (tz_s (tz_s A 153 3 (tz_j (wa_lo m lo))) 153 4 v) 153 3 = tz_j (wa_lo m lo) := (tz_gsi (by omega)).trans tz_gs1
        have n5 := eq_true hv
        refine ⟨_, ?_, ff v, Or.inr ⟨rfl, by rw [e4, e3]; exact n5⟩⟩
        rw [e_X6_goBack_17 _ _ h30]
        by_cases y : tz_j n + tz_j 4294967295 < tz_j 0
        · simp only [tz_lit, nj_m1, nj_m2, nj_m3, nj_m4, nj_m5, nj_m6, nj_m7, ↓reduceIte, tz_bI_some, tz_bV_some, tz_bL_some, cj10, cj01, cjm0, eq_self, not_true_eq_false, not_false_eq_true, or_false, false_or, or_true, true_or, or_self, and_true, true_and, and_false, false_and, y]
        · simp only [tz_lit, nj_m1, nj_m2, nj_m3, nj_m4, nj_m5, nj_m6, nj_m7, ↓reduceIte, tz_bI_some, tz_bV_some, tz_bL_some, cj10, cj01, cjm0, eq_self, not_true_eq_false, not_false_eq_true, or_false, false_or, or_true, true_or, or_self, and_true, true_and, and_false, false_and, y, e4, e3, n5]
      by_cases z : hi < m
      · rw [if_pos z]
        refine cross _ ?_
        have a := wa_e3 hm9 z
        rw [Int32.lt_iff_toInt_lt] at a ⊢
        rw [nj_i (by omega)] at a ⊢
        omega
      · rw [if_neg z, wa_e2 hh z]
        by_cases y : wa_up m hi < wa_lo m lo
        · rw [if_pos y]
          exact cross _ (by rw [nj_lt (by omega) (by omega)]; exact y)
        · rw [if_neg y]
          obtain ⟨A', e, f, h⟩ := ih (wa_lo m lo) (wa_up m hi) (tz_s (tz_s A 153 3 (tz_j (wa_lo m lo))) 153 4 (tz_j (wa_up m hi))) (by omega) (rx_c_mv c (fun _ _ _ => rfl) (fun k i hp => by rw [tz_gsk (by unfold rx_pl at hp; omega), tz_gsk (by unfold rx_pl at hp; omega)])) (fun j hj => by
            rw [tz_gsk (by omega), tz_gsk (by omega)]
            exact hP j (by omega)) (by omega) hup ((tz_gsi (by omega)).trans tz_gs1) tz_gs1
          exact ⟨A', e, fr_tr (ff _) f, h⟩
    have e44 : ∀ v, tz_g (tz_s A 153 3 v) 153 4 = tz_j hi := fun v => (tz_gsi (by omega)).trans q4
    by_cases k2 : S 2 (P n) = 2
    · have m2 : (tz_j (S 2 (P n)) = tz_j 2) = True := nj_eqt k2
      have m5 : (tz_j (S 2 (P n)) = tz_j 5) = False := nj_eqf (by omega) (by omega) (by omega)
      have ea := wa_e1 (m := 0) (lo := lo) (by omega) (by omega)
      obtain ⟨A', e, f, h⟩ := step 0 (by omega) (by rw [if_neg (by omega)]) (Or.inl k2)
      refine ⟨A', ?_, f, h⟩
      simp only [tz_lit, nj_m1, nj_m2, nj_m3, nj_m4, nj_m5, nj_m6, nj_m7, ↓reduceIte, tz_bI_some, tz_bV_some, tz_bL_some, cj10, cj01, cjm0, eq_self, not_true_eq_false, not_false_eq_true, or_false, false_or, or_true, true_or, or_self, and_true, true_and, and_false, false_and, n1, q3, q4, n2, n3, c1, p1, n4, c2, k32, m2, m5, ea, e44]
      exact e
    · have m2 : (tz_j (S 2 (P n)) = tz_j 2) = False := nj_eqf k2 (by omega) (by omega)
      by_cases k5 : S 2 (P n) = 5
      · have m5 : (tz_j (S 2 (P n)) = tz_j 5) = True := nj_eqt k5
        have ea := wa_e1 (m := S 3 (P n)) (lo := lo) (by omega) (by omega)
        obtain ⟨A', e, f, h⟩ := step (S 3 (P n)) (by omega) (by rw [if_pos k5]) (Or.inr k5)
        refine ⟨A', ?_, f, h⟩
        simp only [tz_lit, nj_m1, nj_m2, nj_m3, nj_m4, nj_m5, nj_m6, nj_m7, ↓reduceIte, tz_bI_some, tz_bV_some, tz_bL_some, cj10, cj01, cjm0, eq_self, not_true_eq_false, not_false_eq_true, or_false, false_or, or_true, true_or, or_self, and_true, true_and, and_false, false_and, n1, q3, q4, n2, n3, c1, p1, n4, c2, k32, k33, m2, m5, ea, e44]
        exact e
      · have m5 : (tz_j (S 2 (P n)) = tz_j 5) = False := nj_eqf k5 (by omega) (by omega)
        have eg : wa_gb S P (n + 1) lo hi = wa_gb S P n lo hi := if_neg (by omega)
        rw [eg]
        obtain ⟨A', e, f, h⟩ := ih lo hi A (by omega) c (fun j hj => hP j (by omega)) hlh hh q3 q4
        refine ⟨A', ?_, f, h⟩
        simp only [tz_lit, nj_m1, nj_m2, nj_m3, nj_m4, nj_m5, nj_m6, nj_m7, ↓reduceIte, tz_bI_some, tz_bV_some, tz_bL_some, cj10, cj01, cjm0, eq_self, not_true_eq_false, not_false_eq_true, or_false, false_or, or_true, true_or, or_self, and_true, true_and, and_false, false_and, n1, q3, q4, n2, n3, c1, p1, n4, c2, k32, m2, m5]
        exact e
/-- the model tries all -/
theorem m_283 {S : tz_S} {P : Nat → Nat} {z n : Nat} {z1 z5 z10 z11 z12 z13 : Int32} {A : tz_Mem} (hz : tz_N0 ≤ z) (W : sp_W1 S) (c : rm_c S A) (hA : z < A.1) (hn : n ≤ 500) (hP : ∀ j, j < n → tz_g A z j = tz_j (P j) ∧ P j < S 1 0) : ∀ k i x, i + k = n → x ≤ 9999 → q_X12_was_283 z1 z5 (tz_j n) z z10 z11 z12 z13 (tz_j x) (tz_j i) A = q_X12_was_283 z1 z5 (tz_j n) z z10 z11 z12 z13 (tz_j (wa_F S P k i x)) (tz_j n) A := by
  intro k
  induction k with
  | zero =>
    intro i x hi hx
    rw [show i = n by omega]
    rfl
  | succ k ih =>
    intro i x hi hx
    obtain ⟨p1, p2⟩ := hP i (by omega)
    have n1 : (tz_j n ≤ tz_j i) = False := nj_lef (by omega) (by omega)
    have n2 : (A.1 ≤ z) = False := eq_false (by omega)
    have n3 := nj_ix8 (s := i) (n := 501) (by omega) (by omega)
    have c1 : (tz_j i).toNatClampNeg = i := nj_cl (by omega)
    have a3 : tz_j i + tz_j 1 = tz_j (i + 1) := nj_add
    have eb := m_bec c W p2 hx
    rw [e_X12_was_283 _ _ _ _ _ _ _ _ (tz_j x) (tz_j i) _ hz]
    simp only [tz_lit, nj_m1, ↓reduceIte, n1, n2, n3, c1, p1, eb, tz_bI_some, a3]
    exact ih (i + 1) _ (by omega) (bec_le hx)
theorem m_266 {S : tz_S} {P : Nat → Nat} {z n a b u g : Nat} {A : tz_Mem} (hz : tz_N0 ≤ z) (W : sp_W1 S) (c : rm_c S A) (hA : z < A.1) (hn : n ≤ 500) (hP : ∀ j, j < n → tz_g A z j = tz_j (P j) ∧ P j < S 1 0) (hu : u < 2) (hg : g ≤ 9999) (hb : b ≤ 9999) (hab : ∀ x, x ≤ 9999 → (wa_F S P n 0 x = g ↔ (a ≤ x ∧ x ≤ b))) : ∀ w, w ≤ 10000 → q_X12_was_266 (tz_j g) (tz_j u) (tz_j n) z (tz_j 1) (tz_j (b + 1 - max a w)) (if max a w ≤ b then tz_j (max a w) else tz_j 4294967295) (tz_j w + tz_j 4294967295) A = some (some (.int (if u = 0 then tz_j (b + 1 - a) else if a ≤ b then tz_j a else tz_j 4294967295)), A) := by
  intro w
  induction w with
  | zero =>
    intro hw
    have n1 : (tz_j 0 + tz_j 4294967295 < tz_j 0) = True := eq_true (by decide)
    rw [Nat.max_zero, e_X12_was_266 _ _ _ _ _ _ _ _ _ hz]
    rcases (show u = 0 ∨ u = 1 by omega) with rfl | rfl
    · simp only [tz_lit, nj_m1, nj_m2, nj_m3, nj_m4, nj_m5, nj_m6, nj_m7, ↓reduceIte, tz_bI_some, tz_bV_some, tz_bL_some, cj10, cj01, cjm0, eq_self, not_true_eq_false, not_false_eq_true, or_false, false_or, or_true, true_or, or_self, and_true, true_and, and_false, false_and, n1]
    · simp only [tz_lit, nj_m1, nj_m2, nj_m3, nj_m4, nj_m5, nj_m6, nj_m7, ↓reduceIte, tz_bI_some, tz_bV_some, tz_bL_some, cj10, cj01, cjm0, eq_self, not_true_eq_false, not_false_eq_true, or_false, false_or, or_true, true_or, or_self, and_true, true_and, and_false, false_and, n1, show (1 = 0) = False from eq_false (by omega)]
  | succ w ih =>
    intro hw
    have d1 : tz_j (w + 1) + tz_j 4294967295 = tz_j w := by
      rw [nj_dec (by omega), Nat.add_sub_cancel]
    have n1 : (tz_j w < tz_j 0) = False := nj_ltf (by omega) (by omega)
    have n2 : (tz_j n ≤ tz_j n) = True := nj_let (Nat.le_refl _) (by omega)
    have eF := m_283 (z1 := tz_j g) (z5 := tz_j u) (z10 := tz_j 1) (z11 := tz_j (b + 1 - max a (w + 1))) (z12 := if max a (w + 1) ≤ b then tz_j (max a (w + 1)) else tz_j 4294967295) (z13 := tz_j w) hz W c hA hn hP n 0 w (by omega) (by omega)
    have hF9 := wa_Fl (S := S) (P := P) n 0 w (by omega)
    have hw2 := hab w (by omega)
    have ih2 := ih (by omega)
    generalize hz12 : (if max a (w + 1) ≤ b then tz_j (max a (w + 1)) else tz_j 4294967295) = y12 at *
    rw [d1, e_X12_was_266 _ _ _ _ _ _ _ (tz_j w) _ hz]
    simp only [tz_lit, nj_m1, ↓reduceIte, n1, cj10]
    rw [eF, e_X12_was_283 _ _ _ _ _ _ _ _ (tz_j (wa_F S P n 0 w)) (tz_j n) _ hz]
    by_cases q : wa_F S P n 0 w = g
    · have n4 : (tz_j (wa_F S P n 0 w) = tz_j g) = True := nj_eqt q
      obtain ⟨q1, q2⟩ := hw2.1 q
      have e1 : tz_j (b + 1 - max a (w + 1)) + tz_j 1 = tz_j (b + 1 - max a w) := by
        rw [nj_add]
        congr 1
        omega
      have e2 : (if max a w ≤ b then tz_j (max a w) else tz_j 4294967295) = tz_j w := by
        rw [if_pos (by omega), show max a w = w by omega]
      rw [e2] at ih2
      simp only [tz_lit, nj_m1, ↓reduceIte, n2, n4, e1]
      exact ih2
    · have n4 : (tz_j (wa_F S P n 0 w) = tz_j g) = False := nj_eqf q (by omega) (by omega)
      have q1 : ¬ (a ≤ w ∧ w ≤ b) := fun y => q (hw2.2 y)
      have e1 : b + 1 - max a (w + 1) = b + 1 - max a w := by omega
      have e2 : (if max a w ≤ b then tz_j (max a w) else tz_j 4294967295) = y12 := by
        rw [← hz12]
        by_cases y : a ≤ w
        · rw [if_neg (by omega), if_neg (by omega)]
        · rw [show max a w = a by omega, show max a (w + 1) = a by omega]
      rw [e2] at ih2
      simp only [tz_lit, nj_m1, ↓reduceIte, n2, n4, e1]
      exact ih2
theorem m_266n {z u : Nat} {z1 z8 z13 : Int32} {A : tz_Mem} (hz : tz_N0 ≤ z) (hu : u < 2) : q_X12_was_266 z1 (tz_j u) z8 z (tz_j 0) (tz_j 0) (tz_j 4294967295) z13 A = some (some (.int (if u = 0 then tz_j 0 else tz_j 4294967295)), A) := by
  rw [e_X12_was_266 _ _ _ _ _ _ _ _ _ hz]
  rcases (show u = 0 ∨ u = 1 by omega) with rfl | rfl
  · by_cases y : z13 < tz_j 0
    · simp only [tz_lit, nj_m1, nj_m2, nj_m3, nj_m4, nj_m5, nj_m6, nj_m7, ↓reduceIte, tz_bI_some, tz_bV_some, tz_bL_some, cj10, cj01, cjm0, eq_self, not_true_eq_false, not_false_eq_true, or_false, false_or, or_true, true_or, or_self, and_true, true_and, and_false, false_and, y]
    · simp only [tz_lit, nj_m1, nj_m2, nj_m3, nj_m4, nj_m5, nj_m6, nj_m7, ↓reduceIte, tz_bI_some, tz_bV_some, tz_bL_some, cj10, cj01, cjm0, eq_self, not_true_eq_false, not_false_eq_true, or_false, false_or, or_true, true_or, or_self, and_true, true_and, and_false, false_and, y]
  · by_cases y : z13 < tz_j 0
    · simp only [tz_lit, nj_m1, nj_m2, nj_m3, nj_m4, nj_m5, nj_m6, nj_m7, ↓reduceIte, tz_bI_some, tz_bV_some, tz_bL_some, cj10, cj01, cjm0, eq_self, not_true_eq_false, not_false_eq_true, or_false, false_or, or_true, true_or, or_self, and_true, true_and, and_false, false_and, y, show (1 = 0) = False from eq_false (by omega)]
    · simp only [tz_lit, nj_m1, nj_m2, nj_m3, nj_m4, nj_m5, nj_m6, nj_m7, ↓reduceIte, tz_bI_some, tz_bV_some, tz_bL_some, cj10, cj01, cjm0, eq_self, not_true_eq_false, not_false_eq_true, or_false, false_or, or_true, true_or, or_self, and_true, true_and, and_false, false_and, y, show (1 = 0) = False from eq_false (by omega)]
