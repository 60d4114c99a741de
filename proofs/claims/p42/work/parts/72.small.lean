/-! ints outside; refusals; small questions of both sides -/
theorem ob_l {x : Int32} (h : x < tz_j 0) : (x < tz_j 0) = True ∧ (tz_j 0 ≤ x) = False ∧ ∀ n, n < 2147483648 → (x ≤ tz_j n) = True ∧ (tz_j n ≤ x) = False ∧ (x < tz_j n) = True ∧ (tz_j n < x) = False ∧ (x = tz_j n) = False := by
  rw [Int32.lt_iff_toInt_lt, nj_i (by omega)] at h
  refine ⟨eq_true ?_, eq_false ?_, fun n hn => ⟨eq_true ?_, eq_false ?_, eq_true ?_, eq_false ?_, eq_false (fun q => ?_)⟩⟩
  · rw [Int32.lt_iff_toInt_lt, nj_i (by omega)]
    exact h
  · rw [Int32.le_iff_toInt_le, nj_i (by omega)]
    omega
  · rw [Int32.le_iff_toInt_le, nj_i (by omega)]
    omega
  · rw [Int32.le_iff_toInt_le, nj_i (by omega)]
    omega
  · rw [Int32.lt_iff_toInt_lt, nj_i (by omega)]
    omega
  · rw [Int32.lt_iff_toInt_lt, nj_i (by omega)]
    omega
  · rw [q, nj_i (by omega)] at h
    omega
theorem ob_h {x : Int32} {c : Nat} (hc : c < 2147483648) (h : tz_j c ≤ x) : (∀ n, n ≤ c → (x < tz_j n) = False ∧ (tz_j n ≤ x) = True) ∧ ∀ n, n < c → (x ≤ tz_j n) = False ∧ (tz_j n < x) = True ∧ (x = tz_j n) = False := by
  rw [Int32.le_iff_toInt_le, nj_i hc] at h
  refine ⟨fun n hn => ⟨eq_false ?_, eq_true ?_⟩, fun n hn => ⟨eq_false ?_, eq_true ?_, eq_false (fun q => ?_)⟩⟩
  · rw [Int32.lt_iff_toInt_lt, nj_i (by omega)]
    omega
  · rw [Int32.le_iff_toInt_le, nj_i (by omega)]
    omega
  · rw [Int32.le_iff_toInt_le, nj_i (by omega)]
    omega
  · rw [Int32.lt_iff_toInt_lt, nj_i (by omega)]
    omega
  · rw [q, nj_i (by omega)] at h
    omega
theorem nj_neg {a : Nat} (h1 : 2147483648 ≤ a) (h2 : a < 4294967296) : tz_j a < tz_j 0 := by
  rw [Int32.lt_iff_toInt_lt, nj_i (m := 0) (by omega)]
  show (Int32.ofNat a).toInt < ((0 : Nat) : Int)
  rw [Int32.toInt_ofNat', show Int32.size = 4294967296 from rfl]
  unfold Int.bmod
  dsimp only
  split <;> omega
theorem ng_ltt {a n : Nat} (h1 : 2147483648 ≤ a) (h2 : a < 4294967296) (hn : n < 2147483648) : (tz_j a < tz_j n) = True := ((ob_l (nj_neg h1 h2)).2.2 n hn).2.2.1
theorem ng_let {a n : Nat} (h1 : 2147483648 ≤ a) (h2 : a < 4294967296) (hn : n < 2147483648) : (tz_j a ≤ tz_j n) = True := ((ob_l (nj_neg h1 h2)).2.2 n hn).1
theorem ng_gtf {a n : Nat} (h1 : 2147483648 ≤ a) (h2 : a < 4294967296) (hn : n < 2147483648) : (tz_j n < tz_j a) = False := ((ob_l (nj_neg h1 h2)).2.2 n hn).2.2.2.1
theorem ng_gef {a n : Nat} (h1 : 2147483648 ≤ a) (h2 : a < 4294967296) (hn : n < 2147483648) : (tz_j n ≤ tz_j a) = False := ((ob_l (nj_neg h1 h2)).2.2 n hn).2.1
theorem cj10 : (tz_j 1 = tz_j 0) = False := eq_false (by decide)
theorem cj01 : (tz_j 0 = tz_j 1) = False := eq_false (by decide)
theorem cjm0 : (tz_j 4294967295 = tz_j 0) = False := eq_false (by decide)
/-- an int within a bound, below it, or above -/
theorem nj_three (x : Int32) (n : Nat) (hn : n < 2147483648) : (∃ m, m < n ∧ x = tz_j m) ∨ x < tz_j 0 ∨ tz_j n ≤ x := by
  rcases nj_cases x n hn with h | h
  · exact Or.inl h
  · exact Or.inr h.1
theorem x_ref {r : Nat} (h1 : 1 ≤ r) (h7 : r ≤ 7) (A : tz_Mem) : f_X11_refuse (tz_j (4294967296 - r)) A = some (some (.int (tz_j (4294967296 - r))), tz_s A 156 r (tz_g A 156 r + tz_j 1)) := by
  have e : -(tz_j (4294967296 - r)) = tz_j r := by
    rcases (by omega : r = 1 ∨ r = 2 ∨ r = 3 ∨ r = 4 ∨ r = 5 ∨ r = 6 ∨ r = 7) with rfl | rfl | rfl | rfl | rfl | rfl | rfl <;> decide
  rw [e_X11_refuse, e]
  simp (disch := omega) only [tz_lit, nj_m1, ↓reduceIte, nj_cl, nj_ltt, nj_ltf, nj_let, nj_lef, nj_eqf, nj_lt, nj_le, nj_eq, nj_add, nj_mul, nj_modx, nj_and7, nj_div, tz_bI_some, tz_bV_some, or_false, false_or, or_self, and_false, false_and, and_true, true_and, not_true_eq_false, not_false_eq_true, nt_lef, nt_let, nt_ltf, nt_ltt, nt_eqf, nj_m2, nj_m3, nj_m4, nj_m5, nj_m6, nj_m7, tz_bL_some, nj_sub, ng_ltt, ng_let, ng_gtf, ng_gef]
theorem x_ref1 (A : tz_Mem) : f_X11_refuse (tz_j 4294967295) A = some (some (.int (tz_j 4294967295)), tz_s A 156 1 (tz_g A 156 1 + tz_j 1)) := x_ref (r := 1) (by omega) (by omega) A
theorem x_ref2 (A : tz_Mem) : f_X11_refuse (tz_j 4294967294) A = some (some (.int (tz_j 4294967294)), tz_s A 156 2 (tz_g A 156 2 + tz_j 1)) := x_ref (r := 2) (by omega) (by omega) A
theorem x_ref3 (A : tz_Mem) : f_X11_refuse (tz_j 4294967293) A = some (some (.int (tz_j 4294967293)), tz_s A 156 3 (tz_g A 156 3 + tz_j 1)) := x_ref (r := 3) (by omega) (by omega) A
theorem x_ref4 (A : tz_Mem) : f_X11_refuse (tz_j 4294967292) A = some (some (.int (tz_j 4294967292)), tz_s A 156 4 (tz_g A 156 4 + tz_j 1)) := x_ref (r := 4) (by omega) (by omega) A
theorem x_ref5 (A : tz_Mem) : f_X11_refuse (tz_j 4294967291) A = some (some (.int (tz_j 4294967291)), tz_s A 156 5 (tz_g A 156 5 + tz_j 1)) := x_ref (r := 5) (by omega) (by omega) A
theorem x_ref6 (A : tz_Mem) : f_X11_refuse (tz_j 4294967290) A = some (some (.int (tz_j 4294967290)), tz_s A 156 6 (tz_g A 156 6 + tz_j 1)) := x_ref (r := 6) (by omega) (by omega) A
theorem x_ref7 (A : tz_Mem) : f_X11_refuse (tz_j 4294967289) A = some (some (.int (tz_j 4294967289)), tz_s A 156 7 (tz_g A 156 7 + tz_j 1)) := x_ref (r := 7) (by omega) (by omega) A
theorem x_hash1 {b m : Nat} {S : tz_S} {A : tz_Mem} (hb : tz_sky b) (c : rx_c b S A) (h : m < S 1 0) (hs : S 1 0 ≤ 12) : f_X3_has b (tz_j m) A = some (some (.int (tz_j 1)), A) := by
  rw [e_X3_has _ _ hb]
  simp (disch := omega) only [tz_lit, nj_m1, ↓reduceIte, nj_cl, nj_ltt, nj_ltf, nj_let, nj_lef, nj_eqf, nj_lt, nj_le, nj_eq, nj_add, nj_mul, nj_modx, nj_and7, nj_div, tz_bI_some, tz_bV_some, or_false, false_or, or_self, and_false, false_and, and_true, true_and, not_true_eq_false, not_false_eq_true, nt_lef, nt_let, nt_ltf, nt_ltt, nt_eqf, nj_m2, nj_m3, nj_m4, nj_m5, nj_m6, nj_m7, tz_bL_some, nj_sub, ng_ltt, ng_let, ng_gtf, ng_gef, cx_1 c]
theorem x_hash0 {b : Nat} {x : Int32} {S : tz_S} {A : tz_Mem} (hb : tz_sky b) (c : rx_c b S A) (h : x < tz_j 0 ∨ tz_j (S 1 0) ≤ x) (hs : S 1 0 ≤ 12) : f_X3_has b x A = some (some (.int (tz_j 0)), A) := by
  rw [e_X3_has _ _ hb]
  rcases h with h | h
  · simp (disch := omega) only [tz_lit, nj_m1, ↓reduceIte, nj_cl, nj_ltt, nj_ltf, nj_let, nj_lef, nj_eqf, nj_lt, nj_le, nj_eq, nj_add, nj_mul, nj_modx, nj_and7, nj_div, tz_bI_some, tz_bV_some, or_false, false_or, or_self, and_false, false_and, and_true, true_and, not_true_eq_false, not_false_eq_true, nt_lef, nt_let, nt_ltf, nt_ltt, nt_eqf, nj_m2, nj_m3, nj_m4, nj_m5, nj_m6, nj_m7, tz_bL_some, nj_sub, ng_ltt, ng_let, ng_gtf, ng_gef, cx_1 c, ob_l h]
  · simp (disch := omega) only [tz_lit, nj_m1, ↓reduceIte, nj_cl, nj_ltt, nj_ltf, nj_let, nj_lef, nj_eqf, nj_lt, nj_le, nj_eq, nj_add, nj_mul, nj_modx, nj_and7, nj_div, tz_bI_some, tz_bV_some, or_false, false_or, or_self, and_false, false_and, and_true, true_and, not_true_eq_false, not_false_eq_true, nt_lef, nt_let, nt_ltf, nt_ltt, nt_eqf, nj_m2, nj_m3, nj_m4, nj_m5, nj_m6, nj_m7, tz_bL_some, nj_sub, ng_ltt, ng_let, ng_gtf, ng_gef, cx_1 c, ob_h (show S 1 0 < 2147483648 by omega) h]
theorem x_hast1 {b m : Nat} {S : tz_S} {A : tz_Mem} (hb : tz_sky b) (c : rx_c b S A) (h : m < S 7 0) (hs : S 7 0 ≤ 12) : f_X10_has b (tz_j m) A = some (some (.int (tz_j 1)), A) := by
  rw [e_X10_has _ _ hb]
  simp (disch := omega) only [tz_lit, nj_m1, ↓reduceIte, nj_cl, nj_ltt, nj_ltf, nj_let, nj_lef, nj_eqf, nj_lt, nj_le, nj_eq, nj_add, nj_mul, nj_modx, nj_and7, nj_div, tz_bI_some, tz_bV_some, or_false, false_or, or_self, and_false, false_and, and_true, true_and, not_true_eq_false, not_false_eq_true, nt_lef, nt_let, nt_ltf, nt_ltt, nt_eqf, nj_m2, nj_m3, nj_m4, nj_m5, nj_m6, nj_m7, tz_bL_some, nj_sub, ng_ltt, ng_let, ng_gtf, ng_gef, cx_7 c]
theorem x_hast0 {b : Nat} {x : Int32} {S : tz_S} {A : tz_Mem} (hb : tz_sky b) (c : rx_c b S A) (h : x < tz_j 0 ∨ tz_j (S 7 0) ≤ x) (hs : S 7 0 ≤ 12) : f_X10_has b x A = some (some (.int (tz_j 0)), A) := by
  rw [e_X10_has _ _ hb]
  rcases h with h | h
  · simp (disch := omega) only [tz_lit, nj_m1, ↓reduceIte, nj_cl, nj_ltt, nj_ltf, nj_let, nj_lef, nj_eqf, nj_lt, nj_le, nj_eq, nj_add, nj_mul, nj_modx, nj_and7, nj_div, tz_bI_some, tz_bV_some, or_false, false_or, or_self, and_false, false_and, and_true, true_and, not_true_eq_false, not_false_eq_true, nt_lef, nt_let, nt_ltf, nt_ltt, nt_eqf, nj_m2, nj_m3, nj_m4, nj_m5, nj_m6, nj_m7, tz_bL_some, nj_sub, ng_ltt, ng_let, ng_gtf, ng_gef, cx_7 c, ob_l h]
  · simp (disch := omega) only [tz_lit, nj_m1, ↓reduceIte, nj_cl, nj_ltt, nj_ltf, nj_let, nj_lef, nj_eqf, nj_lt, nj_le, nj_eq, nj_add, nj_mul, nj_modx, nj_and7, nj_div, tz_bI_some, tz_bV_some, or_false, false_or, or_self, and_false, false_and, and_true, true_and, not_true_eq_false, not_false_eq_true, nt_lef, nt_let, nt_ltf, nt_ltt, nt_eqf, nj_m2, nj_m3, nj_m4, nj_m5, nj_m6, nj_m7, tz_bL_some, nj_sub, ng_ltt, ng_let, ng_gtf, ng_gef, cx_7 c, ob_h (show S 7 0 < 2147483648 by omega) h]
theorem x_hasl1 {b m : Nat} {S : tz_S} {A : tz_Mem} (hb : tz_sky b) (c : rx_c b S A) (h : m < S 15 0) (hs : S 15 0 ≤ 12) : f_X4_has b (tz_j m) A = some (some (.int (tz_j 1)), A) := by
  rw [e_X4_has _ _ hb]
  simp (disch := omega) only [tz_lit, nj_m1, ↓reduceIte, nj_cl, nj_ltt, nj_ltf, nj_let, nj_lef, nj_eqf, nj_lt, nj_le, nj_eq, nj_add, nj_mul, nj_modx, nj_and7, nj_div, tz_bI_some, tz_bV_some, or_false, false_or, or_self, and_false, false_and, and_true, true_and, not_true_eq_false, not_false_eq_true, nt_lef, nt_let, nt_ltf, nt_ltt, nt_eqf, nj_m2, nj_m3, nj_m4, nj_m5, nj_m6, nj_m7, tz_bL_some, nj_sub, ng_ltt, ng_let, ng_gtf, ng_gef, cx_15 c]
theorem x_hasl0 {b : Nat} {x : Int32} {S : tz_S} {A : tz_Mem} (hb : tz_sky b) (c : rx_c b S A) (h : x < tz_j 0 ∨ tz_j (S 15 0) ≤ x) (hs : S 15 0 ≤ 12) : f_X4_has b x A = some (some (.int (tz_j 0)), A) := by
  rw [e_X4_has _ _ hb]
  rcases h with h | h
  · simp (disch := omega) only [tz_lit, nj_m1, ↓reduceIte, nj_cl, nj_ltt, nj_ltf, nj_let, nj_lef, nj_eqf, nj_lt, nj_le, nj_eq, nj_add, nj_mul, nj_modx, nj_and7, nj_div, tz_bI_some, tz_bV_some, or_false, false_or, or_self, and_false, false_and, and_true, true_and, not_true_eq_false, not_false_eq_true, nt_lef, nt_let, nt_ltf, nt_ltt, nt_eqf, nj_m2, nj_m3, nj_m4, nj_m5, nj_m6, nj_m7, tz_bL_some, nj_sub, ng_ltt, ng_let, ng_gtf, ng_gef, cx_15 c, ob_l h]
  · simp (disch := omega) only [tz_lit, nj_m1, ↓reduceIte, nj_cl, nj_ltt, nj_ltf, nj_let, nj_lef, nj_eqf, nj_lt, nj_le, nj_eq, nj_add, nj_mul, nj_modx, nj_and7, nj_div, tz_bI_some, tz_bV_some, or_false, false_or, or_self, and_false, false_and, and_true, true_and, not_true_eq_false, not_false_eq_true, nt_lef, nt_let, nt_ltf, nt_ltt, nt_eqf, nj_m2, nj_m3, nj_m4, nj_m5, nj_m6, nj_m7, tz_bL_some, nj_sub, ng_ltt, ng_let, ng_gtf, ng_gef, cx_15 c, ob_h (show S 15 0 < 2147483648 by omega) h]
