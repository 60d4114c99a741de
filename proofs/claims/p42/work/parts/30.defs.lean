/-! EQUATIONS of the methods, by program (gen_eq.py): f_.. a call, q_.. a loop from its head on, e_.. what each comes to -/
def tz_sky (b : Nat) : Prop := b = 30 ∨ b = 53 ∨ b = 76 ∨ b = 99 ∨ b = 124
/-- a row of longs of the shelves -/
def tz_rw (k : Nat) : Prop := 22 ≤ k ∧ k < 30
theorem tz_rw_all : ∀ k, k < 30 → 22 ≤ k → tz_kd k = 101 ∧ (tz_SH k).2 = 160 := by decide +kernel
theorem tz_rwi {i : Int32} (h : ¬ (i < 0 ∨ 8 ≤ i.toNatClampNeg)) : tz_rw (22 + i.toNatClampNeg) := by
  have : ¬ 8 ≤ i.toNatClampNeg := fun q => h (Or.inr q)
  exact ⟨by omega, by omega⟩
theorem tz_rw_ok {k m : Nat} {A : tz_Mem} (h : tz_rw k) (hc : Nat.ble 30 (tz_cm m) = true) : tz_ok (tz_cm m) A k = true := by
  have h2 := Nat.le_of_ble_eq_true hc
  unfold tz_ok
  rw [show Nat.blt k (tz_cm m) = true from Nat.ble_eq_true_of_le (by have := h.2; omega)]
  rfl
theorem tz_beq_rf {a b : Nat} (h : a = b) : Nat.beq a b = true := by subst h; exact Nat.beq_refl a
theorem tz_okx {k m : Nat} {A : tz_Mem} (h : tz_rw k) (hc : Nat.ble 30 (tz_cm m) = true) : (Nat.beq (tz_kd k) 101 && tz_ok (tz_cm m) A k) = true := by
  rw [tz_beq_rf (tz_rw_all k h.2 h.1).1, tz_rw_ok h hc]
  rfl
theorem tz_lnx {k : Nat} {A : tz_Mem} (h : tz_rw k) : tz_ln A k = 160 := by
  rw [tz_ln_hi (Nat.le_trans (Nat.le_of_ble_eq_true rfl) h.1)]
  exact (tz_rw_all k h.2 h.1).2
theorem tz_okx2 {k1 k2 m : Nat} {A : tz_Mem} (h1 : tz_rw k1) (h2 : tz_rw k2) (hc : Nat.ble 30 (tz_cm m) = true) : (Nat.ble tz_E0 k1 && Nat.ble tz_E0 k2 && tz_ok (tz_cm m) A k1 && tz_ok (tz_cm m) A k2) = true := by
  rw [tz_rw_ok h1 hc, tz_rw_ok h2 hc, show Nat.ble tz_E0 k1 = true from Nat.ble_eq_true_of_le (Nat.le_trans (Nat.le_of_ble_eq_true rfl) h1.1), show Nat.ble tz_E0 k2 = true from Nat.ble_eq_true_of_le (Nat.le_trans (Nat.le_of_ble_eq_true rfl) h2.1)]
  rfl
theorem tz_kdx2 {k1 k2 : Nat} (h1 : tz_rw k1) (h2 : tz_rw k2) : (Nat.beq (tz_kd k1) 101 && Nat.beq (tz_kd k2) 101) = true := by
  rw [tz_beq_rf (tz_rw_all k1 h1.2 h1.1).1, tz_beq_rf (tz_rw_all k2 h2.2 h2.1).1]
  rfl
theorem tz_alx {k m : Nat} {A : tz_Mem} (h : tz_rw k) (hc : Nat.ble 30 (tz_cm m) = true) : (Nat.ble 100 (tz_kd k) && (!(Nat.beq (tz_kd k) 103)) && tz_ok (tz_cm m) A k) = true := by
  rw [(tz_rw_all k h.2 h.1).1, tz_rw_ok h hc]
  rfl
theorem tz_cnh {c : Prop} {d : Decidable c} {a a2 : tz_X} (h1 : ¬ c → a = a2) : @ite _ c d none a = @ite _ c d none a2 := by
  by_cases hc : c
  · rw [if_pos hc, if_pos hc]
  · rw [if_neg hc, if_neg hc, h1 hc]
theorem tz_bR_ite {c : Prop} {d : Decidable c} {a b : tz_X} {f : Nat → tz_Mem → tz_X} : tz_bR (@ite _ c d a b) f = @ite _ c d (tz_bR a f) (tz_bR b f) := by
  by_cases hc : c
  · rw [if_pos hc, if_pos hc]
  · rw [if_neg hc, if_neg hc]
/-! the law's rows of numbers: b at 157, c at 158, once they are there -/
theorem tz_okB {c : Nat} {A B : tz_Mem} (h : ¬ B.1 ≤ 157) (e : A.1 = B.1) : (Nat.beq (tz_kd 157) 100 && tz_ok c A 157) = true := by
  unfold tz_ok
  rw [show Nat.blt 157 A.1 = true from Nat.ble_eq_true_of_le (by omega), Bool.or_true]
  rfl
theorem tz_okC {c : Nat} {A B : tz_Mem} (h : ¬ B.1 ≤ 158) (e : A.1 = B.1) : (Nat.beq (tz_kd 158) 101 && tz_ok c A 158) = true := by
  unfold tz_ok
  rw [show Nat.blt 158 A.1 = true from Nat.ble_eq_true_of_le (by omega), Bool.or_true]
  rfl
theorem tz_leB {A : tz_Mem} (h : ¬ A.1 ≤ 158) : ¬ A.1 ≤ 157 := by omega
theorem tz_gB {c : Prop} {d : Decidable c} {x y : tz_X} (h0 : c → x = none) (h1 : ¬ c → x = y) : x = @ite _ c d none y := by
  by_cases hc : c
  · rw [if_pos hc]
    exact h0 hc
  · rw [if_neg hc]
    exact h1 hc
theorem tz_okn {k c : Nat} {A : tz_Mem} (h1 : Nat.blt k c = false) (h : A.1 ≤ k) : tz_ok c A k = false := by
  unfold tz_ok
  rw [h1, Bool.false_or]
  cases e : Nat.blt k A.1
  · rfl
  · exact absurd (Nat.le_of_ble_eq_true e) (by omega)
section TZX
variable {m pc np : Nat} {L : tz_Lo} {r : List Value} {A : tz_Mem}
theorem tz_gx_iaload {k : Nat} {i : Int32} (hc : Nat.blt k (tz_cm m) = false) (h : tz_In m pc .iaload np L) (q : A.1 ≤ k) : tz_Go m pc L (.int i :: .ref k :: r) A = none := (h _ _).trans (by
  show tz_ix _ _ _ _ _ _ = _
  unfold tz_ix
  rw [tz_okn hc q, Bool.and_false]
  rfl)
theorem tz_gx_laload {k : Nat} {i : Int32} (hc : Nat.blt k (tz_cm m) = false) (h : tz_In m pc .laload np L) (q : A.1 ≤ k) : tz_Go m pc L (.int i :: .ref k :: r) A = none := (h _ _).trans (by
  show tz_ix _ _ _ _ _ _ = _
  unfold tz_ix
  rw [tz_okn hc q, Bool.and_false]
  rfl)
theorem tz_gx_iastore {k : Nat} {i x : Int32} (hc : Nat.blt k (tz_cm m) = false) (h : tz_In m pc .iastore np L) (q : A.1 ≤ k) : tz_Go m pc L (.int x :: .int i :: .ref k :: r) A = none := (h _ _).trans (by
  show (bif _ then tz_ix _ _ _ _ _ _ else none) = _
  unfold tz_ix
  rw [tz_okn hc q, Bool.and_false]
  cases Nat.ble tz_E0 k <;> rfl)
theorem tz_gx_lastore {k : Nat} {i : Int32} {x : Int64} (hc : Nat.blt k (tz_cm m) = false) (h : tz_In m pc .lastore np L) (q : A.1 ≤ k) : tz_Go m pc L (.long x :: .int i :: .ref k :: r) A = none := (h _ _).trans (by
  show tz_ix _ _ _ _ _ _ = _
  unfold tz_ix
  rw [tz_okn hc q, Bool.and_false]
  rfl)
end TZX
theorem tz_bR_some {k : Nat} {A : tz_Mem} {f : Nat → tz_Mem → tz_X} : tz_bR (some (some (.ref k), A)) f = f k A := rfl

noncomputable def f_X8_has (x1 : Int32) (A : tz_Mem) : tz_X := tz_F 14 [.ref 18, .int x1] A
noncomputable def f_X11_refuse (x1 : Int32) (A : tz_Mem) : tz_X := tz_F 15 [.ref 17, .int x1] A
noncomputable def f_J7_fill_d0a16 (k : Nat) (x2 : Int64) (A : tz_Mem) : tz_X := tz_F 17 [.ref k, .long x2] A
noncomputable def q_J7_fill_d0a16_6 (k : Nat) (z1 : Int64) (z3 : Int32) (z4 : Int32) (A : tz_Mem) : tz_X := tz_Go 17 6 [some (.ref k), some (.long z1), none, some (.int z3), some (.int z4)] [] A
noncomputable def f_X8_holdsRow (x1 : Int32) (A : tz_Mem) : tz_X := tz_F 20 [.ref 18, .int x1] A
noncomputable def f_X8_put (x1 : Int32) (x2 : Int32) (x3 : Int64) (A : tz_Mem) : tz_X := tz_F 22 [.ref 18, .int x1, .int x2, .long x3] A
noncomputable def f_X3_has (b : Nat) (x1 : Int32) (A : tz_Mem) : tz_X := tz_F 24 [.ref (b + 1), .int x1] A
noncomputable def f_X11_isKind (x1 : Int32) (A : tz_Mem) : tz_X := tz_F 27 [.int x1] A
noncomputable def f_X3_isFull (b : Nat) (A : tz_Mem) : tz_X := tz_F 28 [.ref (b + 1)] A
noncomputable def f_X3_add (b : Nat) (x1 : Int32) (x2 : Int32) (A : tz_Mem) : tz_X := tz_F 29 [.ref (b + 1), .int x1, .int x2] A
noncomputable def f_X11_areStormNumbers (x1 : Int32) (x2 : Int32) (x3 : Int32) (A : tz_Mem) : tz_X := tz_F 32 [.int x1, .int x2, .int x3] A
noncomputable def f_X8_number (x1 : Int32) (x2 : Int32) (A : tz_Mem) : tz_X := tz_F 34 [.ref 18, .int x1, .int x2] A
noncomputable def f_X10_isFull (b : Nat) (A : tz_Mem) : tz_X := tz_F 35 [.ref (b + 7)] A
noncomputable def f_X10_add_s147 (b : Nat) (x2 : Int32) (x3 : Int32) (x4 : Int32) (x5 : Int32) (A : tz_Mem) : tz_X := tz_F 37 [.ref (b + 7), .ref 147, .int x2, .int x3, .int x4, .int x5] A
noncomputable def f_X10_add_s155 (b : Nat) (x2 : Int32) (x3 : Int32) (x4 : Int32) (x5 : Int32) (A : tz_Mem) : tz_X := tz_F 37 [.ref (b + 7), .ref 155, .int x2, .int x3, .int x4, .int x5] A
noncomputable def f_X11_isWord (x1 : Int32) (A : tz_Mem) : tz_X := tz_F 40 [.int x1] A
noncomputable def f_X4_isFull (b : Nat) (A : tz_Mem) : tz_X := tz_F 41 [.ref (b + 15)] A
noncomputable def f_X4_add (b : Nat) (x1 : Int32) (x2 : Int32) (x3 : Int32) (x4 : Int32) (A : tz_Mem) : tz_X := tz_F 43 [.ref (b + 15), .int x1, .int x2, .int x3, .int x4] A
noncomputable def q_X4_add_59 (b : Nat) (z4 : Int32) (z5 : Int32) (z6 : Int32) (A : tz_Mem) : tz_X := tz_Go 43 59 [some (.ref (b + 15)), none, none, none, some (.int z4), some (.int z5), some (.int z6)] [] A
noncomputable def f_X10_wayHill (b : Nat) (x1 : Int32) (x2 : Int32) (A : tz_Mem) : tz_X := tz_F 47 [.ref (b + 7), .int x1, .int x2] A
noncomputable def f_X10_has (b : Nat) (x1 : Int32) (A : tz_Mem) : tz_X := tz_F 49 [.ref (b + 7), .int x1] A
noncomputable def f_X4_has (b : Nat) (x1 : Int32) (A : tz_Mem) : tz_X := tz_F 52 [.ref (b + 15), .int x1] A
noncomputable def f_X3_become (b : Nat) (b2 : Nat) (A : tz_Mem) : tz_X := tz_F 56 [.ref (b + 1), .ref (b2 + 1)] A
noncomputable def f_X10_become (b : Nat) (b2 : Nat) (A : tz_Mem) : tz_X := tz_F 57 [.ref (b + 7), .ref (b2 + 7)] A
noncomputable def f_X4_become (b : Nat) (b2 : Nat) (A : tz_Mem) : tz_X := tz_F 58 [.ref (b + 15), .ref (b2 + 15)] A
noncomputable def f_X7_wordOf (x1 : Int32) (A : tz_Mem) : tz_X := tz_F 61 [.int x1] A
noncomputable def f_J0_coder_s5 (A : tz_Mem) : tz_X := tz_F 64 [.ref 5] A
noncomputable def f_J0_coder_s6 (A : tz_Mem) : tz_X := tz_F 64 [.ref 6] A
noncomputable def f_J0_coder_s7 (A : tz_Mem) : tz_X := tz_F 64 [.ref 7] A
noncomputable def f_J0_coder_s8 (A : tz_Mem) : tz_X := tz_F 64 [.ref 8] A
noncomputable def f_J0_coder_s9 (A : tz_Mem) : tz_X := tz_F 64 [.ref 9] A
noncomputable def f_J0_isLatin1_s5 (A : tz_Mem) : tz_X := tz_F 66 [.ref 5] A
noncomputable def f_J0_isLatin1_s6 (A : tz_Mem) : tz_X := tz_F 66 [.ref 6] A
noncomputable def f_J0_isLatin1_s7 (A : tz_Mem) : tz_X := tz_F 66 [.ref 7] A
noncomputable def f_J0_isLatin1_s8 (A : tz_Mem) : tz_X := tz_F 66 [.ref 8] A
noncomputable def f_J0_isLatin1_s9 (A : tz_Mem) : tz_X := tz_F 66 [.ref 9] A
noncomputable def f_J3_checkIndex (x1 : Int32) (x2 : Int32) (A : tz_Mem) : tz_X := tz_F 69 [.int x1, .int x2, .retAddr 0] A
noncomputable def f_X7_stands (x1 : Int32) (A : tz_Mem) : tz_X := tz_F 73 [.ref 122, .int x1] A
noncomputable def f_X7_digitStands (A : tz_Mem) : tz_X := tz_F 74 [.ref 122] A
noncomputable def f_X10_hasTurn (b : Nat) (x1 : Int32) (x2 : Int32) (A : tz_Mem) : tz_X := tz_F 81 [.ref (b + 7), .int x1, .int x2] A
noncomputable def f_X10_goOn (b : Nat) (x1 : Int32) (A : tz_Mem) : tz_X := tz_F 83 [.ref (b + 7), .int x1] A
noncomputable def f_X3_becomes (b : Nat) (x1 : Int32) (x2 : Int32) (A : tz_Mem) : tz_X := tz_F 85 [.ref (b + 1), .int x1, .int x2] A
noncomputable def f_X3_timesHeard (b : Nat) (x1 : Int32) (x2 : Int32) (A : tz_Mem) : tz_X := tz_F 86 [.ref (b + 1), .int x1, .int x2] A
noncomputable def f_X3_hear (b : Nat) (x1 : Int32) (x2 : Int32) (x3 : Int32) (A : tz_Mem) : tz_X := tz_F 87 [.ref (b + 1), .int x1, .int x2, .int x3] A
noncomputable def q_X3_hear_3 (b : Nat) (z1 : Int32) (z2 : Int32) (z3 : Int32) (z4 : Int32) (A : tz_Mem) : tz_X := tz_Go 87 3 [some (.ref (b + 1)), some (.int z1), some (.int z2), some (.int z3), some (.int z4)] [] A
noncomputable def f_X2_listen (x1 : Int32) (x2 : Int32) (x3 : Int32) (x4 : Int32) (A : tz_Mem) : tz_X := tz_F 88 [.ref 150, .int x1, .int x2, .int x3, .int x4] A
noncomputable def f_X5_listens (A : tz_Mem) : tz_X := tz_F 90 [.ref 151] A
noncomputable def f_X6_listen (x1 : Int32) (x2 : Int32) (x3 : Int32) (x4 : Int32) (A : tz_Mem) : tz_X := tz_F 91 [.ref 153, .int x1, .int x2, .int x3, .int x4] A
noncomputable def f_X9_takeUp (b : Nat) (x1 : Int32) (x2 : Int32) (A : tz_Mem) : tz_X := tz_F 92 [.ref b, .int x1, .int x2] A
noncomputable def q_X9_takeUp_5 (b : Nat) (z1 : Int32) (z2 : Int32) (z3 : Int32) (z4 : Int32) (A : tz_Mem) : tz_X := tz_Go 92 5 [some (.ref b), some (.int z1), some (.int z2), some (.int z3), some (.int z4), none, none] [] A
noncomputable def f_X9_burnLetter (b : Nat) (x1 : Int32) (A : tz_Mem) : tz_X := tz_F 94 [.ref b, .int x1] A
noncomputable def f_X11_fault (A : tz_Mem) : tz_X := tz_F 96 [.ref 17] A
noncomputable def f_X11_isOneOfTwo (x1 : Int32) (A : tz_Mem) : tz_X := tz_F 98 [.int x1] A
noncomputable def f_X4_isUnderWay (b : Nat) (x1 : Int32) (A : tz_Mem) : tz_X := tz_F 104 [.ref (b + 15), .int x1] A
noncomputable def f_X4_countWhere (b : Nat) (x1 : Int32) (A : tz_Mem) : tz_X := tz_F 107 [.ref (b + 15), .int x1] A
noncomputable def q_X4_countWhere_4 (b : Nat) (z1 : Int32) (z2 : Int32) (z3 : Int32) (A : tz_Mem) : tz_X := tz_Go 107 4 [some (.ref (b + 15)), some (.int z1), some (.int z2), some (.int z3)] [] A
noncomputable def f_X9_drawBelow100 (b : Nat) (A : tz_Mem) : tz_X := tz_F 112 [.ref b] A
noncomputable def f_X11_seed (x1 : Int32) (A : tz_Mem) : tz_X := tz_F 113 [.ref 17, .int x1] A
noncomputable def f_X3_countEver (b : Nat) (A : tz_Mem) : tz_X := tz_F 118 [.ref (b + 1)] A
noncomputable def q_X3_countEver_4 (b : Nat) (z1 : Int32) (z2 : Int32) (A : tz_Mem) : tz_X := tz_Go 118 4 [some (.ref (b + 1)), some (.int z1), some (.int z2)] [] A
noncomputable def f_L_at (x2 : Int32) (A : tz_Mem) : tz_X := tz_F 119 [.ref 0, .int x2] A
noncomputable def f_L_some (x1 : Int32) (x2 : Int32) (A : tz_Mem) : tz_X := tz_F 120 [.int x1, .int x2] A
noncomputable def f_L_way (x2 : Int32) (x3 : Int32) (A : tz_Mem) : tz_X := tz_F 122 [.ref 158, .int x2, .int x3] A
noncomputable def f_L_letter (x3 : Int32) (x4 : Int32) (x5 : Int32) (x6 : Int32) (A : tz_Mem) : tz_X := tz_F 123 [.ref 157, .ref 158, .int x3, .int x4, .int x5, .int x6] A
noncomputable def f_L_heaviest (x2 : Int32) (x3 : Int32) (A : tz_Mem) : tz_X := tz_F 127 [.ref 157, .int x2, .int x3] A
noncomputable def q_L_heaviest_9 (z1 : Int32) (z2 : Int32) (z3 : Int32) (z4 : Int32) (A : tz_Mem) : tz_X := tz_Go 127 9 [some (.ref 157), some (.int z1), some (.int z2), some (.int z3), some (.int z4)] [] A
noncomputable def q_L_heaviest_71 (z1 : Int32) (z2 : Int32) (z3 : Int32) (z4 : Int32) (A : tz_Mem) : tz_X := tz_Go 127 71 [some (.ref 157), some (.int z1), some (.int z2), some (.int z3), some (.int z4)] [] A
noncomputable def q_L_heaviest_68 (z1 : Int32) (z2 : Int32) (z4 : Int32) (A : tz_Mem) : tz_X := tz_Go 127 68 [some (.ref 157), some (.int z1), some (.int z2), none, some (.int z4)] [] A
noncomputable def f_L_becomes (x2 : Int32) (x3 : Int32) (A : tz_Mem) : tz_X := tz_F 128 [.ref 157, .int x2, .int x3] A
noncomputable def q_L_becomes_22 (z1 : Int32) (z2 : Int32) (z3 : Int32) (A : tz_Mem) : tz_X := tz_Go 128 22 [some (.ref 157), some (.int z1), some (.int z2), some (.int z3)] [] A
noncomputable def f_L_times (x2 : Int32) (x3 : Int32) (A : tz_Mem) : tz_X := tz_F 129 [.ref 157, .int x2, .int x3] A
noncomputable def f_L_hears (x3 : Int32) (x4 : Int32) (x5 : Int32) (A : tz_Mem) : tz_X := tz_F 130 [.ref 157, .ref 158, .int x3, .int x4, .int x5] A
noncomputable def q_L_hears_3 (z2 : Int32) (z3 : Int32) (z4 : Int32) (z5 : Int32) (A : tz_Mem) : tz_X := tz_Go 130 3 [some (.ref 157), some (.ref 158), some (.int z2), some (.int z3), some (.int z4), some (.int z5)] [] A
noncomputable def q_L_hears_98 (z2 : Int32) (z3 : Int32) (z4 : Int32) (z5 : Int32) (A : tz_Mem) : tz_X := tz_Go 130 98 [some (.ref 157), some (.ref 158), some (.int z2), some (.int z3), some (.int z4), some (.int z5)] [] A
noncomputable def q_L_hears_126 (z2 : Int32) (z3 : Int32) (z4 : Int32) (z5 : Int32) (A : tz_Mem) : tz_X := tz_Go 130 126 [some (.ref 157), some (.ref 158), some (.int z2), some (.int z3), some (.int z4), some (.int z5)] [] A
noncomputable def q_L_hears_121 (z2 : Int32) (z3 : Int32) (z4 : Int32) (z5 : Int32) (A : tz_Mem) : tz_X := tz_Go 130 121 [some (.ref 157), some (.ref 158), some (.int z2), some (.int z3), some (.int z4), some (.int z5)] [] A
noncomputable def f_X3_countKept (b : Nat) (x1 : Int32) (A : tz_Mem) : tz_X := tz_F 133 [.ref (b + 1), .int x1] A
noncomputable def f_J6_bitCount (x1 : Int32) (A : tz_Mem) : tz_X := tz_F 139 [.int x1] A
noncomputable def f_X2_listenFor (x1 : Int32) (A : tz_Mem) : tz_X := tz_F 141 [.ref 150, .int x1] A
noncomputable def f_X8_putRow (x1 : Int32) (x2 : Int32) (x3 : Int32) (A : tz_Mem) : tz_X := tz_F 16 [.ref 18, .int x1, .int x2, .int x3] A
noncomputable def f_X8_refusalOfRow (x1 : Int32) (A : tz_Mem) : tz_X := tz_F 19 [.ref 18, .int x1] A
noncomputable def f_X8_hasElement (x1 : Int32) (x2 : Int32) (A : tz_Mem) : tz_X := tz_F 21 [.ref 18, .int x1, .int x2] A
noncomputable def f_X11_show (x1 : Int32) (x2 : Int32) (A : tz_Mem) : tz_X := tz_F 23 [.ref 17, .int x1, .int x2] A
noncomputable def f_X11_holds (x1 : Int32) (A : tz_Mem) : tz_X := tz_F 25 [.ref 17, .int x1] A
noncomputable def f_X11_hill (x1 : Int32) (x2 : Int32) (A : tz_Mem) : tz_X := tz_F 26 [.ref 17, .int x1, .int x2] A
noncomputable def f_X11_isWay (x1 : Int32) (x2 : Int32) (A : tz_Mem) : tz_X := tz_F 33 [.ref 17, .int x1, .int x2] A
noncomputable def q_X11_isWay_28 (z1 : Int32) (z2 : Int32) (z3 : Int32) (z4 : Int32) (A : tz_Mem) : tz_X := tz_Go 33 28 [some (.ref 17), some (.int z1), some (.int z2), some (.int z3), some (.int z4), none] [] A
noncomputable def f_X8_copyNumbers_s123 (x1 : Int32) (x2 : Int32) (A : tz_Mem) : tz_X := tz_F 36 [.ref 18, .int x1, .int x2, .ref 123] A
noncomputable def q_X8_copyNumbers_s123_3 (z1 : Int32) (z2 : Int32) (z4 : Int32) (A : tz_Mem) : tz_X := tz_Go 36 3 [some (.ref 18), some (.int z1), some (.int z2), some (.ref 123), some (.int z4)] [] A
noncomputable def f_X8_copyNumbers_s155 (x1 : Int32) (x2 : Int32) (A : tz_Mem) : tz_X := tz_F 36 [.ref 18, .int x1, .int x2, .ref 155] A
noncomputable def q_X8_copyNumbers_s155_3 (z1 : Int32) (z2 : Int32) (z4 : Int32) (A : tz_Mem) : tz_X := tz_Go 36 3 [some (.ref 18), some (.int z1), some (.int z2), some (.ref 155), some (.int z4)] [] A
noncomputable def f_X11_refusalOfLetter (x1 : Int32) (x2 : Int32) (x3 : Int32) (x4 : Int32) (A : tz_Mem) : tz_X := tz_F 39 [.ref 17, .int x1, .int x2, .int x3, .int x4] A
noncomputable def f_X9_addLetter (b : Nat) (x1 : Int32) (x2 : Int32) (x3 : Int32) (x4 : Int32) (A : tz_Mem) : tz_X := tz_F 42 [.ref b, .int x1, .int x2, .int x3, .int x4] A
noncomputable def f_X10_hillOfStorm (b : Nat) (x1 : Int32) (A : tz_Mem) : tz_X := tz_F 46 [.ref (b + 7), .int x1] A
noncomputable def f_X11_wayOf (x1 : Int32) (x2 : Int32) (A : tz_Mem) : tz_X := tz_F 50 [.ref 17, .int x1, .int x2] A
noncomputable def f_X11_letterOf (x1 : Int32) (x2 : Int32) (A : tz_Mem) : tz_X := tz_F 51 [.ref 17, .int x1, .int x2] A
noncomputable def f_X9_become (b : Nat) (b2 : Nat) (A : tz_Mem) : tz_X := tz_F 55 [.ref b, .ref b2] A
noncomputable def f_J0_length_s5 (A : tz_Mem) : tz_X := tz_F 63 [.ref 5] A
noncomputable def f_J0_length_s6 (A : tz_Mem) : tz_X := tz_F 63 [.ref 6] A
noncomputable def f_J0_length_s7 (A : tz_Mem) : tz_X := tz_F 63 [.ref 7] A
noncomputable def f_J0_length_s8 (A : tz_Mem) : tz_X := tz_F 63 [.ref 8] A
noncomputable def f_J0_length_s9 (A : tz_Mem) : tz_X := tz_F 63 [.ref 9] A
noncomputable def f_J0_checkIndex (x1 : Int32) (x2 : Int32) (A : tz_Mem) : tz_X := tz_F 68 [.int x1, .int x2] A
noncomputable def f_X7_hasRoomFor (x1 : Int32) (A : tz_Mem) : tz_X := tz_F 70 [.ref 122, .int x1] A
noncomputable def f_X7_readNumber (x1 : Int32) (x2 : Int32) (A : tz_Mem) : tz_X := tz_F 72 [.ref 122, .int x1, .int x2] A
noncomputable def q_X7_readNumber_52 (z1 : Int32) (z2 : Int32) (z3 : Int32) (z4 : Int32) (A : tz_Mem) : tz_X := tz_Go 72 52 [some (.ref 122), some (.int z1), some (.int z2), some (.int z3), some (.int z4)] [] A
noncomputable def f_X5_listen (x1 : Int32) (x2 : Int32) (x3 : Int32) (x4 : Int32) (A : tz_Mem) : tz_X := tz_F 89 [.ref 151, .int x1, .int x2, .int x3, .int x4] A
noncomputable def q_X5_listen_12 (z3 : Int32) (z4 : Int32) (z5 : Int32) (A : tz_Mem) : tz_X := tz_Go 89 12 [some (.ref 151), none, none, some (.int z3), some (.int z4), some (.int z5)] [] A
noncomputable def f_X7_goesOn (A : tz_Mem) : tz_X := tz_F 95 [.ref 122] A
noncomputable def f_X11_refuseLower (x1 : Int32) (A : tz_Mem) : tz_X := tz_F 101 [.ref 17, .int x1] A
noncomputable def f_X11_burn (x1 : Int32) (A : tz_Mem) : tz_X := tz_F 108 [.ref 17, .int x1] A
noncomputable def f_X11_dry (x1 : Int32) (A : tz_Mem) : tz_X := tz_F 109 [.ref 17, .int x1] A
noncomputable def f_X8_dropHillsFrom (x1 : Int32) (A : tz_Mem) : tz_X := tz_F 116 [.ref 18, .int x1] A
noncomputable def q_X8_dropHillsFrom_2 (z1 : Int32) (z2 : Int32) (A : tz_Mem) : tz_X := tz_Go 116 2 [some (.ref 18), some (.int z1), some (.int z2)] [] A
noncomputable def f_X11_status (x1 : Int32) (A : tz_Mem) : tz_X := tz_F 117 [.ref 17, .int x1] A
noncomputable def f_L_hill (x3 : Int32) (A : tz_Mem) : tz_X := tz_F 126 [.ref 157, .ref 158, .int x3] A
noncomputable def f_X3_keptWord (b : Nat) (x1 : Int32) (x2 : Int32) (A : tz_Mem) : tz_X := tz_F 134 [.ref (b + 1), .int x1, .int x2] A
noncomputable def f_X10_spread (b : Nat) (x1 : Int32) (x2 : Int32) (A : tz_Mem) : tz_X := tz_F 136 [.ref (b + 7), .int x1, .int x2] A
noncomputable def q_X10_spread_5 (b : Nat) (z2 : Int32) (z3 : Int32) (z4 : Int32) (A : tz_Mem) : tz_X := tz_Go 136 5 [some (.ref (b + 7)), none, some (.int z2), some (.int z3), some (.int z4), none, none, none] [] A
noncomputable def q_X10_spread_34 (b : Nat) (z2 : Int32) (z3 : Int32) (z4 : Int32) (z5 : Int32) (z6 : Int32) (A : tz_Mem) : tz_X := tz_Go 136 34 [some (.ref (b + 7)), none, some (.int z2), some (.int z3), some (.int z4), some (.int z5), some (.int z6), none] [] A
noncomputable def f_X11_row (x1 : Int32) (x2 : Int32) (x3 : Int32) (A : tz_Mem) : tz_X := tz_F 13 [.ref 17, .int x1, .int x2, .int x3] A
noncomputable def f_X11_set (x1 : Int32) (x2 : Int32) (x3 : Int64) (A : tz_Mem) : tz_X := tz_F 18 [.ref 17, .int x1, .int x2, .long x3] A
noncomputable def f_X8_refusalOfElements (x1 : Int32) (x2 : Int32) (A : tz_Mem) : tz_X := tz_F 31 [.ref 18, .int x1, .int x2] A
noncomputable def f_X11_letter (x1 : Int32) (x2 : Int32) (x3 : Int32) (x4 : Int32) (A : tz_Mem) : tz_X := tz_F 38 [.ref 17, .int x1, .int x2, .int x3, .int x4] A
noncomputable def f_X10_allAt (b : Nat) (x1 : Int32) (A : tz_Mem) : tz_X := tz_F 45 [.ref (b + 7), .int x1] A
noncomputable def q_X10_allAt_4 (b : Nat) (z1 : Int32) (z2 : Int32) (z3 : Int32) (A : tz_Mem) : tz_X := tz_Go 45 4 [some (.ref (b + 7)), some (.int z1), some (.int z2), some (.int z3)] [] A
noncomputable def f_X11_stormOf (x1 : Int32) (x2 : Int32) (A : tz_Mem) : tz_X := tz_F 48 [.ref 17, .int x1, .int x2] A
noncomputable def f_X7_open (x1 : Int32) (b : Nat) (A : tz_Mem) : tz_X := tz_F 54 [.ref 122, .int x1, .ref b] A
noncomputable def f_J1_charAt_s11 (x2 : Int32) (A : tz_Mem) : tz_X := tz_F 67 [.ref 11, .int x2] A
noncomputable def f_J1_charAt_s12 (x2 : Int32) (A : tz_Mem) : tz_X := tz_F 67 [.ref 12, .int x2] A
noncomputable def f_J1_charAt_s13 (x2 : Int32) (A : tz_Mem) : tz_X := tz_F 67 [.ref 13, .int x2] A
noncomputable def f_J1_charAt_s14 (x2 : Int32) (A : tz_Mem) : tz_X := tz_F 67 [.ref 14, .int x2] A
noncomputable def f_J1_charAt_s15 (x2 : Int32) (A : tz_Mem) : tz_X := tz_F 67 [.ref 15, .int x2] A
noncomputable def f_X7_readHill (A : tz_Mem) : tz_X := tz_F 71 [.ref 122] A
noncomputable def f_X7_readHillNumber (A : tz_Mem) : tz_X := tz_F 77 [.ref 122] A
noncomputable def f_X9_sayLetter (b : Nat) (x1 : Int32) (x2 : Int32) (A : tz_Mem) : tz_X := tz_F 84 [.ref b, .int x1, .int x2] A
noncomputable def f_X7_readBurn (A : tz_Mem) : tz_X := tz_F 93 [.ref 122] A
noncomputable def f_X11_image (A : tz_Mem) : tz_X := tz_F 114 [.ref 17] A
noncomputable def f_X11_restore (A : tz_Mem) : tz_X := tz_F 115 [.ref 17] A
noncomputable def f_L_storm (x3 : Int32) (A : tz_Mem) : tz_X := tz_F 125 [.ref 157, .ref 158, .int x3] A
noncomputable def q_L_storm_41 (z2 : Int32) (A : tz_Mem) : tz_X := tz_Go 125 41 [some (.ref 157), some (.ref 158), some (.int z2), none, none, none, none, none] [] A
noncomputable def q_L_storm_61 (z2 : Int32) (z4 : Int32) (z5 : Int32) (A : tz_Mem) : tz_X := tz_Go 125 61 [some (.ref 157), some (.ref 158), some (.int z2), none, some (.int z4), some (.int z5), none, none] [] A
noncomputable def q_L_storm_230 (z2 : Int32) (z4 : Int32) (z5 : Int32) (z6 : Int32) (A : tz_Mem) : tz_X := tz_Go 125 230 [some (.ref 157), none, some (.int z2), none, some (.int z4), some (.int z5), some (.int z6), none] [] A
noncomputable def q_L_storm_180 (z2 : Int32) (z4 : Int32) (A : tz_Mem) : tz_X := tz_Go 125 180 [some (.ref 157), some (.ref 158), some (.int z2), none, some (.int z4), none, none, none] [] A
noncomputable def f_X11_heard (x1 : Int32) (x2 : Int32) (A : tz_Mem) : tz_X := tz_F 132 [.ref 17, .int x1, .int x2] A
noncomputable def f_X11_reach (x1 : Int32) (x2 : Int32) (A : tz_Mem) : tz_X := tz_F 135 [.ref 17, .int x1, .int x2] A
noncomputable def q_X11_reach_45 (z2 : Int32) (z3 : Int32) (z4 : Int32) (A : tz_Mem) : tz_X := tz_Go 135 45 [some (.ref 17), none, some (.int z2), some (.int z3), some (.int z4)] [] A
noncomputable def f_X11_storm (x1 : Int32) (x2 : Int32) (x3 : Int32) (x4 : Int32) (x5 : Int32) (A : tz_Mem) : tz_X := tz_F 30 [.ref 17, .int x1, .int x2, .int x3, .int x4, .int x5] A
noncomputable def f_X11_hillOf (x1 : Int32) (x2 : Int32) (A : tz_Mem) : tz_X := tz_F 44 [.ref 17, .int x1, .int x2] A
noncomputable def f_J0_charAt_s5 (x1 : Int32) (A : tz_Mem) : tz_X := tz_F 65 [.ref 5, .int x1] A
noncomputable def f_J0_charAt_s6 (x1 : Int32) (A : tz_Mem) : tz_X := tz_F 65 [.ref 6, .int x1] A
noncomputable def f_J0_charAt_s7 (x1 : Int32) (A : tz_Mem) : tz_X := tz_F 65 [.ref 7, .int x1] A
noncomputable def f_J0_charAt_s8 (x1 : Int32) (A : tz_Mem) : tz_X := tz_F 65 [.ref 8, .int x1] A
noncomputable def f_J0_charAt_s9 (x1 : Int32) (A : tz_Mem) : tz_X := tz_F 65 [.ref 9, .int x1] A
noncomputable def f_X7_readWay (A : tz_Mem) : tz_X := tz_F 76 [.ref 122] A
noncomputable def q_X7_readWay_4 (z1 : Int32) (z2 : Int32) (A : tz_Mem) : tz_X := tz_Go 76 4 [some (.ref 122), some (.int z1), some (.int z2), none] [] A
noncomputable def f_X7_readLetter (A : tz_Mem) : tz_X := tz_F 78 [.ref 122] A
noncomputable def f_X9_goOn (b : Nat) (x1 : Int32) (A : tz_Mem) : tz_X := tz_F 82 [.ref b, .int x1] A
noncomputable def q_X9_goOn_40 (b : Nat) (z1 : Int32) (z2 : Int32) (z3 : Int32) (z4 : Int32) (A : tz_Mem) : tz_X := tz_Go 82 40 [some (.ref b), some (.int z1), some (.int z2), some (.int z3), some (.int z4), none] [] A
noncomputable def f_L_hour (A : tz_Mem) : tz_X := tz_F 124 [.ref 157, .ref 158] A
noncomputable def q_L_hour_9 (z2 : Int32) (A : tz_Mem) : tz_X := tz_Go 124 9 [some (.ref 157), some (.ref 158), some (.int z2)] [] A
noncomputable def q_L_hour_49 (z2 : Int32) (A : tz_Mem) : tz_X := tz_Go 124 49 [some (.ref 157), some (.ref 158), some (.int z2)] [] A
noncomputable def f_X7_countSame_s5 (A : tz_Mem) : tz_X := tz_F 62 [.ref 122, .ref 5] A
noncomputable def q_X7_countSame_s5_2 (z2 : Int32) (A : tz_Mem) : tz_X := tz_Go 62 2 [some (.ref 122), some (.ref 5), some (.int z2)] [] A
noncomputable def f_X7_countSame_s6 (A : tz_Mem) : tz_X := tz_F 62 [.ref 122, .ref 6] A
noncomputable def q_X7_countSame_s6_2 (z2 : Int32) (A : tz_Mem) : tz_X := tz_Go 62 2 [some (.ref 122), some (.ref 6), some (.int z2)] [] A
noncomputable def f_X7_countSame_s7 (A : tz_Mem) : tz_X := tz_F 62 [.ref 122, .ref 7] A
noncomputable def q_X7_countSame_s7_2 (z2 : Int32) (A : tz_Mem) : tz_X := tz_Go 62 2 [some (.ref 122), some (.ref 7), some (.int z2)] [] A
noncomputable def f_X7_countSame_s8 (A : tz_Mem) : tz_X := tz_F 62 [.ref 122, .ref 8] A
noncomputable def q_X7_countSame_s8_2 (z2 : Int32) (A : tz_Mem) : tz_X := tz_Go 62 2 [some (.ref 122), some (.ref 8), some (.int z2)] [] A
noncomputable def f_X7_countSame_s9 (A : tz_Mem) : tz_X := tz_F 62 [.ref 122, .ref 9] A
noncomputable def q_X7_countSame_s9_2 (z2 : Int32) (A : tz_Mem) : tz_X := tz_Go 62 2 [some (.ref 122), some (.ref 9), some (.int z2)] [] A
noncomputable def f_X7_readStorm (A : tz_Mem) : tz_X := tz_F 75 [.ref 122] A
noncomputable def f_X9_tick (b : Nat) (A : tz_Mem) : tz_X := tz_F 80 [.ref b] A
noncomputable def q_X9_tick_12 (b : Nat) (z1 : Int32) (A : tz_Mem) : tz_X := tz_Go 80 12 [some (.ref b), some (.int z1)] [] A
noncomputable def f_X9_tickDry (b : Nat) (A : tz_Mem) : tz_X := tz_F 111 [.ref b] A
noncomputable def q_X9_tickDry_14 (b : Nat) (z1 : Int32) (z2 : Int32) (A : tz_Mem) : tz_X := tz_Go 111 14 [some (.ref b), some (.int z1), some (.int z2)] [] A
noncomputable def f_X7_readWord (A : tz_Mem) : tz_X := tz_F 60 [.ref 122] A
noncomputable def q_X7_readWord_4 (z1 : Int32) (z2 : Int32) (A : tz_Mem) : tz_X := tz_Go 60 4 [some (.ref 122), some (.int z1), some (.int z2), none, none] [] A
noncomputable def f_X7_readHour (A : tz_Mem) : tz_X := tz_F 79 [.ref 122] A
noncomputable def q_X7_readHour_10 (z1 : Int32) (z2 : Int32) (A : tz_Mem) : tz_X := tz_Go 79 10 [some (.ref 122), some (.int z1), some (.int z2)] [] A
noncomputable def f_X9_pass (b : Nat) (x1 : Int32) (A : tz_Mem) : tz_X := tz_F 99 [.ref b, .int x1] A
noncomputable def q_X9_pass_2 (b : Nat) (z1 : Int32) (z2 : Int32) (A : tz_Mem) : tz_X := tz_Go 99 2 [some (.ref b), some (.int z1), some (.int z2)] [] A
noncomputable def f_X9_arrival (b : Nat) (x1 : Int32) (x2 : Int32) (A : tz_Mem) : tz_X := tz_F 103 [.ref b, .int x1, .int x2] A
noncomputable def q_X9_arrival_2 (b : Nat) (z1 : Int32) (z2 : Int32) (z3 : Int32) (A : tz_Mem) : tz_X := tz_Go 103 2 [some (.ref b), some (.int z1), some (.int z2), some (.int z3)] [] A
noncomputable def f_X11_drought (x1 : Int32) (A : tz_Mem) : tz_X := tz_F 110 [.ref 17, .int x1] A
noncomputable def q_X11_drought_23 (z1 : Int32) (z2 : Int32) (z3 : Int32) (A : tz_Mem) : tz_X := tz_Go 110 23 [some (.ref 17), some (.int z1), some (.int z2), some (.int z3)] [] A
noncomputable def f_X11_firstHeard (x1 : Int32) (x2 : Int32) (A : tz_Mem) : tz_X := tz_F 140 [.ref 17, .int x1, .int x2] A
noncomputable def q_X11_firstHeard_60 (z2 : Int32) (z3 : Int32) (A : tz_Mem) : tz_X := tz_Go 140 60 [some (.ref 17), none, some (.int z2), some (.int z3)] [] A
noncomputable def f_X7_readItem (A : tz_Mem) : tz_X := tz_F 59 [.ref 122] A
noncomputable def f_X11_behind (x1 : Int32) (x2 : Int32) (x3 : Int32) (A : tz_Mem) : tz_X := tz_F 97 [.ref 17, .int x1, .int x2, .int x3] A
noncomputable def f_X11_arrivalWithout (x1 : Int32) (x2 : Int32) (A : tz_Mem) : tz_X := tz_F 102 [.ref 17, .int x1, .int x2] A
noncomputable def f_X11_postage (A : tz_Mem) : tz_X := tz_F 105 [.ref 17] A
noncomputable def q_X11_postage_25 (z1 : Int32) (z2 : Int32) (A : tz_Mem) : tz_X := tz_Go 105 25 [some (.ref 17), some (.int z1), some (.int z2), none, none] [] A
noncomputable def f_X11_hours (x1 : Int32) (A : tz_Mem) : tz_X := tz_F 106 [.ref 17, .int x1] A
noncomputable def f_X11_loudest (x1 : Int32) (x2 : Int32) (A : tz_Mem) : tz_X := tz_F 138 [.ref 17, .int x1, .int x2] A
noncomputable def q_X11_loudest_72 (z2 : Int32) (z3 : Int32) (z4 : Int32) (z5 : Int32) (A : tz_Mem) : tz_X := tz_Go 138 72 [some (.ref 17), none, some (.int z2), some (.int z3), some (.int z4), some (.int z5), none] [] A
noncomputable def f_X11_sky (x1 : Int32) (A : tz_Mem) : tz_X := tz_F 53 [.ref 17, .int x1] A
noncomputable def q_X11_sky_65 (z3 : Int32) (A : tz_Mem) : tz_X := tz_Go 53 65 [some (.ref 17), none, none, some (.int z3)] [] A
noncomputable def f_X11_arrives (x1 : Int32) (A : tz_Mem) : tz_X := tz_F 100 [.ref 17, .int x1] A
noncomputable def f_L_world (A : tz_Mem) : tz_X := tz_F 121 [.ref 17, .ref 0, .ref 157, .ref 158] A
noncomputable def q_L_world_51 (z4 : Int32) (z5 : Int32) (A : tz_Mem) : tz_X := tz_Go 121 51 [some (.ref 17), some (.ref 0), some (.ref 157), some (.ref 158), some (.int z4), some (.int z5), none, none, none, none, none, none, none] [] A
noncomputable def q_L_world_127 (z4 : Int32) (A : tz_Mem) : tz_X := tz_Go 121 127 [some (.ref 17), some (.ref 0), some (.ref 157), some (.ref 158), some (.int z4), none, none, none, none, none, none, none, none] [] A
noncomputable def q_L_world_140 (z4 : Int32) (z5 : Int32) (z6 : Int32) (A : tz_Mem) : tz_X := tz_Go 121 140 [some (.ref 17), some (.ref 0), some (.ref 157), some (.ref 158), some (.int z4), some (.int z5), some (.int z6), none, none, none, none, none, none] [] A
noncomputable def q_L_world_474 (z4 : Int32) (A : tz_Mem) : tz_X := tz_Go 121 474 [some (.ref 17), some (.ref 0), some (.ref 157), some (.ref 158), some (.int z4), none, none, none, none, none, none, none, none] [] A
noncomputable def q_L_world_194 (z4 : Int32) (z5 : Int32) (z6 : Int32) (z7 : Int32) (z8 : Int32) (z9 : Int32) (A : tz_Mem) : tz_X := tz_Go 121 194 [some (.ref 17), some (.ref 0), some (.ref 157), some (.ref 158), some (.int z4), some (.int z5), some (.int z6), some (.int z7), some (.int z8), some (.int z9), none, none, none] [] A
noncomputable def q_L_world_489 (z4 : Int32) (z6 : Int32) (z7 : Int32) (A : tz_Mem) : tz_X := tz_Go 121 489 [some (.ref 17), some (.ref 0), some (.ref 157), some (.ref 158), some (.int z4), none, some (.int z6), some (.int z7), none, none, none, none, none] [] A
noncomputable def q_L_world_283 (z4 : Int32) (z5 : Int32) (z6 : Int32) (z7 : Int32) (z8 : Int32) (A : tz_Mem) : tz_X := tz_Go 121 283 [some (.ref 17), some (.ref 0), some (.ref 157), some (.ref 158), some (.int z4), some (.int z5), some (.int z6), some (.int z7), some (.int z8), none, none, none, none] [] A
noncomputable def q_L_world_249 (z4 : Int32) (z5 : Int32) (z6 : Int32) (z7 : Int32) (z8 : Int32) (z9 : Int32) (z10 : Int32) (A : tz_Mem) : tz_X := tz_Go 121 249 [some (.ref 17), some (.ref 0), some (.ref 157), some (.ref 158), some (.int z4), some (.int z5), some (.int z6), some (.int z7), some (.int z8), some (.int z9), some (.int z10), none, none] [] A
noncomputable def q_L_world_624 (z4 : Int32) (A : tz_Mem) : tz_X := tz_Go 121 624 [some (.ref 17), none, some (.ref 157), some (.ref 158), some (.int z4), none, none, none, none, none, none, none, none] [] A
noncomputable def q_L_world_591 (z4 : Int32) (z6 : Int32) (z7 : Int32) (z9 : Int32) (z10 : Int32) (z11 : Int32) (z12 : Int32) (A : tz_Mem) : tz_X := tz_Go 121 591 [some (.ref 17), some (.ref 0), some (.ref 157), some (.ref 158), some (.int z4), none, some (.int z6), some (.int z7), none, some (.int z9), some (.int z10), some (.int z11), some (.int z12)] [] A
noncomputable def q_L_world_311 (z4 : Int32) (z5 : Int32) (z6 : Int32) (z7 : Int32) (z8 : Int32) (z9 : Int32) (A : tz_Mem) : tz_X := tz_Go 121 311 [some (.ref 17), some (.ref 0), some (.ref 157), some (.ref 158), some (.int z4), some (.int z5), some (.int z6), some (.int z7), some (.int z8), some (.int z9), none, none, none] [] A
noncomputable def q_L_world_648 (z4 : Int32) (z7 : Int32) (A : tz_Mem) : tz_X := tz_Go 121 648 [some (.ref 17), none, some (.ref 157), some (.ref 158), some (.int z4), none, none, some (.int z7), none, none, none, none, none] [] A
noncomputable def q_L_world_340 (z4 : Int32) (z5 : Int32) (z6 : Int32) (z7 : Int32) (z8 : Int32) (z9 : Int32) (z10 : Int32) (A : tz_Mem) : tz_X := tz_Go 121 340 [some (.ref 17), some (.ref 0), some (.ref 157), some (.ref 158), some (.int z4), some (.int z5), some (.int z6), some (.int z7), some (.int z8), some (.int z9), some (.int z10), none, none] [] A
noncomputable def q_L_world_651 (z4 : Int32) (z7 : Int32) (z8 : Int32) (A : tz_Mem) : tz_X := tz_Go 121 651 [some (.ref 17), none, some (.ref 157), some (.ref 158), some (.int z4), none, none, some (.int z7), some (.int z8), none, none, none, none] [] A
noncomputable def q_L_world_368 (z4 : Int32) (z5 : Int32) (z6 : Int32) (z8 : Int32) (z9 : Int32) (z10 : Int32) (z11 : Int32) (A : tz_Mem) : tz_X := tz_Go 121 368 [some (.ref 17), some (.ref 0), some (.ref 157), some (.ref 158), some (.int z4), some (.int z5), some (.int z6), none, some (.int z8), some (.int z9), some (.int z10), some (.int z11), none] [] A
noncomputable def q_L_world_393 (z4 : Int32) (z5 : Int32) (z6 : Int32) (z8 : Int32) (z9 : Int32) (z10 : Int32) (z11 : Int32) (A : tz_Mem) : tz_X := tz_Go 121 393 [some (.ref 17), some (.ref 0), some (.ref 157), some (.ref 158), some (.int z4), some (.int z5), some (.int z6), none, some (.int z8), some (.int z9), some (.int z10), some (.int z11), none] [] A
noncomputable def q_L_world_402 (z4 : Int32) (z5 : Int32) (z6 : Int32) (z8 : Int32) (z9 : Int32) (z10 : Int32) (z11 : Int32) (A : tz_Mem) : tz_X := tz_Go 121 402 [some (.ref 17), some (.ref 0), some (.ref 157), some (.ref 158), some (.int z4), some (.int z5), some (.int z6), none, some (.int z8), some (.int z9), some (.int z10), some (.int z11), none] [] A
noncomputable def q_L_world_468 (z4 : Int32) (z5 : Int32) (z6 : Int32) (A : tz_Mem) : tz_X := tz_Go 121 468 [some (.ref 17), some (.ref 0), some (.ref 157), some (.ref 158), some (.int z4), some (.int z5), some (.int z6), none, none, none, none, none, none] [] A
noncomputable def f_X11_needs (x1 : Int32) (x2 : Int32) (A : tz_Mem) : tz_X := tz_F 137 [.ref 17, .int x1, .int x2] A
noncomputable def q_X11_needs_58 (z1 : Int32) (z2 : Int32) (z4 : Int32) (z5 : Int32) (z6 : Int32) (z7 : Int32) (A : tz_Mem) : tz_X := tz_Go 137 58 [some (.ref 17), some (.int z1), some (.int z2), none, some (.int z4), some (.int z5), some (.int z6), some (.int z7)] [] A
noncomputable def f_L_told (A : tz_Mem) : tz_X := tz_F 131 [.ref 17] A
noncomputable def q_L_told_27 (z1 : Int64) (z3 : Int32) (z4 : Int32) (z5 : Int32) (z6 : Int32) (A : tz_Mem) : tz_X := tz_Go 131 27 [some (.ref 17), some (.long z1), none, some (.int z3), some (.int z4), some (.int z5), some (.int z6), none, none] [] A
noncomputable def q_L_told_57 (z1 : Int64) (z3 : Int32) (z4 : Int32) (z5 : Int32) (z6 : Int32) (A : tz_Mem) : tz_X := tz_Go 131 57 [some (.ref 17), some (.long z1), none, some (.int z3), some (.int z4), some (.int z5), some (.int z6), none, none] [] A
noncomputable def q_L_told_160 (z1 : Int64) (z3 : Int32) (z4 : Int32) (z5 : Int32) (z6 : Int32) (A : tz_Mem) : tz_X := tz_Go 131 160 [some (.ref 17), some (.long z1), none, some (.int z3), some (.int z4), some (.int z5), some (.int z6), none, none] [] A
noncomputable def q_L_told_66 (z1 : Int64) (z3 : Int32) (z4 : Int32) (z5 : Int32) (z6 : Int32) (z7 : Int32) (A : tz_Mem) : tz_X := tz_Go 131 66 [some (.ref 17), some (.long z1), none, some (.int z3), some (.int z4), some (.int z5), some (.int z6), some (.int z7), none] [] A
noncomputable def q_L_told_207 (z1 : Int64) (z3 : Int32) (z5 : Int32) (z6 : Int32) (A : tz_Mem) : tz_X := tz_Go 131 207 [some (.ref 17), some (.long z1), none, some (.int z3), none, some (.int z5), some (.int z6), none, none] [] A
noncomputable def q_L_told_170 (z1 : Int64) (z3 : Int32) (z4 : Int32) (z5 : Int32) (z6 : Int32) (z7 : Int32) (A : tz_Mem) : tz_X := tz_Go 131 170 [some (.ref 17), some (.long z1), none, some (.int z3), some (.int z4), some (.int z5), some (.int z6), some (.int z7), none] [] A
noncomputable def q_L_told_106 (z1 : Int64) (z3 : Int32) (z4 : Int32) (z5 : Int32) (z6 : Int32) (z7 : Int32) (z8 : Int32) (A : tz_Mem) : tz_X := tz_Go 131 106 [some (.ref 17), some (.long z1), none, some (.int z3), some (.int z4), some (.int z5), some (.int z6), some (.int z7), some (.int z8)] [] A
noncomputable def q_L_told_217 (z1 : Int64) (z3 : Int32) (z5 : Int32) (z6 : Int32) (z7 : Int32) (A : tz_Mem) : tz_X := tz_Go 131 217 [some (.ref 17), some (.long z1), none, some (.int z3), none, some (.int z5), some (.int z6), some (.int z7), none] [] A
