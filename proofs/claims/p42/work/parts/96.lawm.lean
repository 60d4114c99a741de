/-! the law's own sky, as far as its end and its frame go -/
/-- what changes: the cells P of b, of c only those from 16 on -/
def lx (P : Nat → Prop) (A A' : tz_Mem) : Prop := A'.1 = A.1 ∧ A'.2.2.2 = A.2.2.2 ∧ (∀ k i, k < 157 → tz_g A' k i = tz_g A k i ∧ tz_gl A' k i = tz_gl A k i) ∧ (∀ i, ¬ P i → tz_g A' 157 i = tz_g A 157 i) ∧ ∀ i, i < 16 → tz_gl A' 158 i = tz_gl A 158 i
theorem lx_rfl {P : Nat → Prop} {A : tz_Mem} : lx P A A := ⟨rfl, rfl, fun _ _ _ => ⟨rfl, rfl⟩, fun _ _ => rfl, fun _ _ => rfl⟩
theorem lx_tr {P : Nat → Prop} {A B C : tz_Mem} (h1 : lx P A B) (h2 : lx P B C) : lx P A C := ⟨h2.1.trans h1.1, h2.2.1.trans h1.2.1, fun k i h => ⟨(h2.2.2.1 k i h).1.trans (h1.2.2.1 k i h).1, (h2.2.2.1 k i h).2.trans (h1.2.2.1 k i h).2⟩, fun i h => (h2.2.2.2.1 i h).trans (h1.2.2.2.1 i h), fun i h => (h2.2.2.2.2 i h).trans (h1.2.2.2.2 i h)⟩
theorem lx_mo {P Q : Nat → Prop} {A B : tz_Mem} (h1 : lx P A B) (h : ∀ i, P i → Q i) : lx Q A B := ⟨h1.1, h1.2.1, h1.2.2.1, fun i hi => h1.2.2.2.1 i (fun q => hi (h i q)), h1.2.2.2.2⟩
theorem lx_s {P : Nat → Prop} {A B : tz_Mem} {i : Nat} {v : Int32} (h1 : lx P A B) (h : P i) : lx P A (tz_s B 157 i v) := ⟨h1.1, h1.2.1, fun k j hk => ⟨(tz_gsk (by omega)).trans (h1.2.2.1 k j hk).1, (h1.2.2.1 k j hk).2⟩, fun j hj => (tz_gsi (fun q => hj (by rw [q]; exact h))).trans (h1.2.2.2.1 j hj), h1.2.2.2.2⟩
theorem lx_sl {P : Nat → Prop} {A B : tz_Mem} {i : Nat} {v : Int64} (h1 : lx P A B) (h : 16 ≤ i) : lx P A (tz_sl B 158 i v) := ⟨h1.1, h1.2.1, fun k j hk => ⟨(h1.2.2.1 k j hk).1, tz_glsl.trans ((if_neg (by omega)).trans (h1.2.2.1 k j hk).2)⟩, h1.2.2.2.1, fun j hj => tz_glsl.trans ((if_neg (by omega)).trans (h1.2.2.2.2 j hj))⟩
/-- the class's side stays -/
theorem CX_lx {P : Nat → Prop} {S K : tz_S} {U : tz_U} {V : tz_V} {A B : tz_Mem} (f : lx P A B) (hst : sp_st S) (hk : sp_st K) (c : CX S K U V A) : CX S K U V B := by
  obtain ⟨f1, f2, f3, f4, f5⟩ := f
  have gr : ∀ k i, tz_gr B k i = tz_gr A k i := fun k i => by show B.2.2.2 k i = A.2.2.2 k i; rw [f2]
  have mv : ∀ b T, b ≤ 124 → rx b 99 T A → sp_st T → rx b 99 T B := fun b T hb r s => rx_mv r (fun k i a b => (f3 k i (by omega)).1) (gr _ _) (Or.inl s.2)
  refine ⟨mv 30 S (by omega) c.1 hst, fun q => mv 53 K (by omega) (c.2.1 q) hk, ⟨fun s hs => ?_, fun i hi => ?_, ?_, ?_, ?_, fun i hi => ?_⟩, ?_⟩
  · obtain ⟨a, b, d⟩ := c.2.2.1.1 s hs
    refine ⟨(f3 _ _ (by omega)).1.trans a, (f3 _ _ (by omega)).1.trans b, fun i hi => (f3 _ _ (by omega)).2.trans (d i hi)⟩
  · exact (f3 _ _ (by omega)).1.trans (c.2.2.1.2.1 i hi)
  · exact (f3 _ _ (by omega)).1.trans c.2.2.1.2.2.1
  · exact (f3 _ _ (by omega)).1.trans c.2.2.1.2.2.2.1
  · exact (f3 _ _ (by omega)).1.trans c.2.2.1.2.2.2.2.1
  · exact (f3 _ _ (by omega)).1.trans (c.2.2.1.2.2.2.2.2 i hi)
  · refine ⟨by rw [f1]; exact c.2.2.2.1, fun k f h1 h2 h3 => ?_⟩
    rw [gr]
    exact c.2.2.2.2 k f h1 h2 h3
theorem nj_mm (x : Int32) : x + tz_j 4294967295 = x - tz_j 1 := by
  rw [Int32.sub_eq_add_neg]
  rfl
/-- which letter is the heaviest: one that is there, or none -/
def hv_R (m : Nat) (x2 : Int32) (A : tz_Mem) (v : Int32) : Prop := v = tz_j 4294967295 ∨ ∃ l, l < m ∧ v = tz_j l ∧ tz_g A 157 (36 + l) = x2
theorem l_hvL {m : Nat} {x2 x3 : Int32} {A : tz_Mem} (hm : m ≤ 12) (h1 : ¬ A.1 ≤ 157) : ∀ j, j ≤ m → ∀ z3, hv_R m x2 A z3 → ∃ v, q_L_heaviest_9 x2 x3 z3 (tz_j j - tz_j 1) A = some (some (.int v), A) ∧ hv_R m x2 A v := by
  intro j
  induction j with
  | zero =>
    intro _ z3 hz
    refine ⟨z3, ?_, hz⟩
    have n1 : tz_j 0 - tz_j 1 < tz_j 0 := by decide
    rw [e_L_heaviest_9, tz_lit (n := 0), if_pos n1]
  | succ j ih =>
    intro hj z3 hz
    have e71 : ∀ z, hv_R m x2 A z → ∃ v, q_L_heaviest_71 x2 x3 z (tz_j j) A = some (some (.int v), A) ∧ hv_R m x2 A v := fun z hz => by
      obtain ⟨v, e, r⟩ := ih (by omega) z hz
      refine ⟨v, ?_, r⟩
      rw [e_L_heaviest_71, show (-1 : Int32) = tz_j 4294967295 from rfl, nj_mm]
      exact e
    have e68 : tz_g A 157 (36 + j) = x2 → ∃ v, q_L_heaviest_68 x2 x3 (tz_j j) A = some (some (.int v), A) ∧ hv_R m x2 A v := fun q => by
      rw [e_L_heaviest_68]
      exact e71 _ (Or.inr ⟨j, by omega, rfl, q⟩)
    have b1 : ((36 + tz_j j) < 0 ∨ 64 ≤ Int32.toNatClampNeg (36 + tz_j j)) = False := by simp (disch := omega) only [tz_lit, nj_m1, ↓reduceIte, nj_cl, nj_ltt, nj_ltf, nj_let, nj_lef, nj_eqf, nj_lt, nj_le, nj_eq, nj_add, nj_mul, nj_modx, nj_and7, nj_div, tz_bI_some, tz_bV_some, or_false, false_or, or_self, and_false, false_and, and_true, true_and, not_true_eq_false, not_false_eq_true, nt_lef, nt_let, nt_ltf, nt_ltt, nt_eqf, nj_m2, nj_m3, nj_m4, nj_m5, nj_m6, nj_m7, tz_bL_some, nj_sub, ng_ltt, ng_let, ng_gtf, ng_gef]
    have b2 : ((24 + tz_j j) < 0 ∨ 64 ≤ Int32.toNatClampNeg (24 + tz_j j)) = False := by simp (disch := omega) only [tz_lit, nj_m1, ↓reduceIte, nj_cl, nj_ltt, nj_ltf, nj_let, nj_lef, nj_eqf, nj_lt, nj_le, nj_eq, nj_add, nj_mul, nj_modx, nj_and7, nj_div, tz_bI_some, tz_bV_some, or_false, false_or, or_self, and_false, false_and, and_true, true_and, not_true_eq_false, not_false_eq_true, nt_lef, nt_let, nt_ltf, nt_ltt, nt_eqf, nj_m2, nj_m3, nj_m4, nj_m5, nj_m6, nj_m7, tz_bL_some, nj_sub, ng_ltt, ng_let, ng_gtf, ng_gef]
    have c1 : Int32.toNatClampNeg (36 + tz_j j) = 36 + j := by simp (disch := omega) only [tz_lit, nj_m1, ↓reduceIte, nj_cl, nj_ltt, nj_ltf, nj_let, nj_lef, nj_eqf, nj_lt, nj_le, nj_eq, nj_add, nj_mul, nj_modx, nj_and7, nj_div, tz_bI_some, tz_bV_some, or_false, false_or, or_self, and_false, false_and, and_true, true_and, not_true_eq_false, not_false_eq_true, nt_lef, nt_let, nt_ltf, nt_ltt, nt_eqf, nj_m2, nj_m3, nj_m4, nj_m5, nj_m6, nj_m7, tz_bL_some, nj_sub, ng_ltt, ng_let, ng_gtf, ng_gef]
    have b0 : (tz_j j < 0) = False := by simp (disch := omega) only [tz_lit, nj_m1, ↓reduceIte, nj_cl, nj_ltt, nj_ltf, nj_let, nj_lef, nj_eqf, nj_lt, nj_le, nj_eq, nj_add, nj_mul, nj_modx, nj_and7, nj_div, tz_bI_some, tz_bV_some, or_false, false_or, or_self, and_false, false_and, and_true, true_and, not_true_eq_false, not_false_eq_true, nt_lef, nt_let, nt_ltf, nt_ltt, nt_eqf, nj_m2, nj_m3, nj_m4, nj_m5, nj_m6, nj_m7, tz_bL_some, nj_sub, ng_ltt, ng_let, ng_gtf, ng_gef]
    have ea : tz_j (j + 1) - tz_j 1 = tz_j j := nj_sub (by omega)
    have h1f : (A.1 ≤ 157) = False := eq_false h1
    rw [ea, e_L_heaviest_9]
    simp only [b0, b1, b2, h1f, ↓reduceIte]
    simp only [c1]
    by_cases y1 : tz_g A 157 (36 + j) = x2
    · rw [if_neg (fun q => q y1)]
      split
      · exact e71 _ hz
      · rcases hz with rfl | ⟨l, hl, rfl, hw⟩
        · rw [if_pos (show tz_j 4294967295 < 0 by decide)]
          exact e68 y1
        · have b3 : ((24 + tz_j l) < 0 ∨ 64 ≤ Int32.toNatClampNeg (24 + tz_j l)) = False := by simp (disch := omega) only [tz_lit, nj_m1, ↓reduceIte, nj_cl, nj_ltt, nj_ltf, nj_let, nj_lef, nj_eqf, nj_lt, nj_le, nj_eq, nj_add, nj_mul, nj_modx, nj_and7, nj_div, tz_bI_some, tz_bV_some, or_false, false_or, or_self, and_false, false_and, and_true, true_and, not_true_eq_false, not_false_eq_true, nt_lef, nt_let, nt_ltf, nt_ltt, nt_eqf, nj_m2, nj_m3, nj_m4, nj_m5, nj_m6, nj_m7, tz_bL_some, nj_sub, ng_ltt, ng_let, ng_gtf, ng_gef]
          have b4 : (tz_j l < 0) = False := by simp (disch := omega) only [tz_lit, nj_m1, ↓reduceIte, nj_cl, nj_ltt, nj_ltf, nj_let, nj_lef, nj_eqf, nj_lt, nj_le, nj_eq, nj_add, nj_mul, nj_modx, nj_and7, nj_div, tz_bI_some, tz_bV_some, or_false, false_or, or_self, and_false, false_and, and_true, true_and, not_true_eq_false, not_false_eq_true, nt_lef, nt_let, nt_ltf, nt_ltt, nt_eqf, nj_m2, nj_m3, nj_m4, nj_m5, nj_m6, nj_m7, tz_bL_some, nj_sub, ng_ltt, ng_let, ng_gtf, ng_gef]
          simp only [b3, b4, ↓reduceIte]
          split
          · exact e71 _ (Or.inr ⟨l, hl, rfl, hw⟩)
          · exact e68 y1
    · rw [if_pos y1]
      exact e71 _ hz
theorem l_hv {m : Nat} {x2 x3 : Int32} {A : tz_Mem} (hm : m ≤ 12) (h1 : ¬ A.1 ≤ 157) (q2 : tz_g A 157 2 = tz_j m) : ∃ v, f_L_heaviest x2 x3 A = some (some (.int v), A) ∧ hv_R m x2 A v := by
  obtain ⟨v, e, r⟩ := l_hvL (x3 := x3) hm h1 m (Nat.le_refl _) (tz_j 4294967295) (Or.inl rfl)
  refine ⟨v, ?_, r⟩
  rw [e_L_heaviest, if_neg h1, q2]
  exact e
theorem l_bec {h : Nat} {x : Int32} {A : tz_Mem} (hh : h < 8) (h1 : ¬ A.1 ≤ 157) : ∃ y, f_L_becomes (tz_j h) x A = some (some (.int y), A) := by
  have b1 : ((8 + tz_j h) < 0 ∨ 64 ≤ Int32.toNatClampNeg (8 + tz_j h)) = False := by simp (disch := omega) only [tz_lit, nj_m1, ↓reduceIte, nj_cl, nj_ltt, nj_ltf, nj_let, nj_lef, nj_eqf, nj_lt, nj_le, nj_eq, nj_add, nj_mul, nj_modx, nj_and7, nj_div, tz_bI_some, tz_bV_some, or_false, false_or, or_self, and_false, false_and, and_true, true_and, not_true_eq_false, not_false_eq_true, nt_lef, nt_let, nt_ltf, nt_ltt, nt_eqf, nj_m2, nj_m3, nj_m4, nj_m5, nj_m6, nj_m7, tz_bL_some, nj_sub, ng_ltt, ng_let, ng_gtf, ng_gef]
  have h1f : (A.1 ≤ 157) = False := eq_false h1
  have e22 : ∀ z, ∃ y, q_L_becomes_22 (tz_j h) x z A = some (some (.int y), A) := fun z => by
    rw [e_L_becomes_22]
    simp only [b1, h1f, ↓reduceIte]
    split
    · exact ⟨_, rfl⟩
    · exact ⟨_, rfl⟩
  rw [e_L_becomes]
  simp only [b1, h1f, ↓reduceIte]
  split
  · exact e22 _
  · split
    · exact e22 _
    · exact ⟨_, rfl⟩
theorem l_tim {h : Nat} {x : Int32} {A : tz_Mem} (hh : h < 8) (h1 : ¬ A.1 ≤ 157) : ∃ y, f_L_times (tz_j h) x A = some (some (.int y), A) := by
  have b1 : ((8 + tz_j h) < 0 ∨ 64 ≤ Int32.toNatClampNeg (8 + tz_j h)) = False := by simp (disch := omega) only [tz_lit, nj_m1, ↓reduceIte, nj_cl, nj_ltt, nj_ltf, nj_let, nj_lef, nj_eqf, nj_lt, nj_le, nj_eq, nj_add, nj_mul, nj_modx, nj_and7, nj_div, tz_bI_some, tz_bV_some, or_false, false_or, or_self, and_false, false_and, and_true, true_and, not_true_eq_false, not_false_eq_true, nt_lef, nt_let, nt_ltf, nt_ltt, nt_eqf, nj_m2, nj_m3, nj_m4, nj_m5, nj_m6, nj_m7, tz_bL_some, nj_sub, ng_ltt, ng_let, ng_gtf, ng_gef]
  have h1f : (A.1 ≤ 157) = False := eq_false h1
  rw [e_L_times]
  simp only [b1, h1f, ↓reduceIte]
  split
  · split
    · split
      · split
        · exact ⟨_, rfl⟩
        · exact ⟨_, rfl⟩
      · split
        · exact ⟨_, rfl⟩
        · exact ⟨_, rfl⟩
    · exact ⟨_, rfl⟩
  · exact ⟨_, rfl⟩
/-- cells that hearing changes -/
def ph (i : Nat) : Prop := i = 6 ∨ 61 ≤ i
theorem l_hears {h : Nat} {x y : Int32} {A : tz_Mem} (hh : h < 8) (h1 : ¬ A.1 ≤ 158) : ∃ A', f_L_hears (tz_j h) x y A = some (none, A') ∧ lx ph A A' := by
  have b16 : ((16 + tz_j h) < 0 ∨ 40 ≤ Int32.toNatClampNeg (16 + tz_j h)) = False := by simp (disch := omega) only [tz_lit, nj_m1, ↓reduceIte, nj_cl, nj_ltt, nj_ltf, nj_let, nj_lef, nj_eqf, nj_lt, nj_le, nj_eq, nj_add, nj_mul, nj_modx, nj_and7, nj_div, tz_bI_some, tz_bV_some, or_false, false_or, or_self, and_false, false_and, and_true, true_and, not_true_eq_false, not_false_eq_true, nt_lef, nt_let, nt_ltf, nt_ltt, nt_eqf, nj_m2, nj_m3, nj_m4, nj_m5, nj_m6, nj_m7, tz_bL_some, nj_sub, ng_ltt, ng_let, ng_gtf, ng_gef]
  have b24 : ((24 + tz_j h) < 0 ∨ 40 ≤ Int32.toNatClampNeg (24 + tz_j h)) = False := by simp (disch := omega) only [tz_lit, nj_m1, ↓reduceIte, nj_cl, nj_ltt, nj_ltf, nj_let, nj_lef, nj_eqf, nj_lt, nj_le, nj_eq, nj_add, nj_mul, nj_modx, nj_and7, nj_div, tz_bI_some, tz_bV_some, or_false, false_or, or_self, and_false, false_and, and_true, true_and, not_true_eq_false, not_false_eq_true, nt_lef, nt_let, nt_ltf, nt_ltt, nt_eqf, nj_m2, nj_m3, nj_m4, nj_m5, nj_m6, nj_m7, tz_bL_some, nj_sub, ng_ltt, ng_let, ng_gtf, ng_gef]
  have b32 : ((32 + tz_j h) < 0 ∨ 40 ≤ Int32.toNatClampNeg (32 + tz_j h)) = False := by simp (disch := omega) only [tz_lit, nj_m1, ↓reduceIte, nj_cl, nj_ltt, nj_ltf, nj_let, nj_lef, nj_eqf, nj_lt, nj_le, nj_eq, nj_add, nj_mul, nj_modx, nj_and7, nj_div, tz_bI_some, tz_bV_some, or_false, false_or, or_self, and_false, false_and, and_true, true_and, not_true_eq_false, not_false_eq_true, nt_lef, nt_let, nt_ltf, nt_ltt, nt_eqf, nj_m2, nj_m3, nj_m4, nj_m5, nj_m6, nj_m7, tz_bL_some, nj_sub, ng_ltt, ng_let, ng_gtf, ng_gef]
  have c16 : Int32.toNatClampNeg (16 + tz_j h) = 16 + h := by simp (disch := omega) only [tz_lit, nj_m1, ↓reduceIte, nj_cl, nj_ltt, nj_ltf, nj_let, nj_lef, nj_eqf, nj_lt, nj_le, nj_eq, nj_add, nj_mul, nj_modx, nj_and7, nj_div, tz_bI_some, tz_bV_some, or_false, false_or, or_self, and_false, false_and, and_true, true_and, not_true_eq_false, not_false_eq_true, nt_lef, nt_let, nt_ltf, nt_ltt, nt_eqf, nj_m2, nj_m3, nj_m4, nj_m5, nj_m6, nj_m7, tz_bL_some, nj_sub, ng_ltt, ng_let, ng_gtf, ng_gef]
  have c24 : Int32.toNatClampNeg (24 + tz_j h) = 24 + h := by simp (disch := omega) only [tz_lit, nj_m1, ↓reduceIte, nj_cl, nj_ltt, nj_ltf, nj_let, nj_lef, nj_eqf, nj_lt, nj_le, nj_eq, nj_add, nj_mul, nj_modx, nj_and7, nj_div, tz_bI_some, tz_bV_some, or_false, false_or, or_self, and_false, false_and, and_true, true_and, not_true_eq_false, not_false_eq_true, nt_lef, nt_let, nt_ltf, nt_ltt, nt_eqf, nj_m2, nj_m3, nj_m4, nj_m5, nj_m6, nj_m7, tz_bL_some, nj_sub, ng_ltt, ng_let, ng_gtf, ng_gef]
  have c32 : Int32.toNatClampNeg (32 + tz_j h) = 32 + h := by simp (disch := omega) only [tz_lit, nj_m1, ↓reduceIte, nj_cl, nj_ltt, nj_ltf, nj_let, nj_lef, nj_eqf, nj_lt, nj_le, nj_eq, nj_add, nj_mul, nj_modx, nj_and7, nj_div, tz_bI_some, tz_bV_some, or_false, false_or, or_self, and_false, false_and, and_true, true_and, not_true_eq_false, not_false_eq_true, nt_lef, nt_let, nt_ltf, nt_ltt, nt_eqf, nj_m2, nj_m3, nj_m4, nj_m5, nj_m6, nj_m7, tz_bL_some, nj_sub, ng_ltt, ng_let, ng_gtf, ng_gef]
  have key : ∀ j, ∀ i, i + j < 2147483648 → ∀ B, lx ph A B → (y ≤ tz_j i ∨ y = tz_j (i + j)) → ∃ A', q_L_hears_3 (tz_j h) x y (tz_j i) B = some (none, A') ∧ lx ph A A' := by
    intro j
    induction j with
    | zero =>
      intro i hi B f hy
      refine ⟨B, ?_, f⟩
      have q : y ≤ tz_j i := by
        rcases hy with q | q
        · exact q
        · rw [q, nj_le (by omega) (by omega)]
          omega
      rw [e_L_hears_3, if_pos q]
    | succ j ih =>
      intro i hi B f hy
      by_cases q : y ≤ tz_j i
      · refine ⟨B, ?_, f⟩
        rw [e_L_hears_3, if_pos q]
      · have hy2 : y = tz_j (i + 1 + j) := by
          rcases hy with r | r
          · exact absurd r q
          · rw [r]
            congr 1
            omega
        have h1f : ∀ B, lx ph A B → (B.1 ≤ 158) = False := fun B f => eq_false (by rw [f.1]; exact h1)
        have h1g : ∀ B, lx ph A B → ¬ B.1 ≤ 157 := fun B f => by rw [f.1]; omega
        have e126 : ∀ B, lx ph A B → ∃ A', q_L_hears_126 (tz_j h) x y (tz_j i) B = some (none, A') ∧ lx ph A A' := fun B f => by
          obtain ⟨A', e, f'⟩ := ih (i + 1) (by omega) B f (Or.inr hy2)
          refine ⟨A', ?_, f'⟩
          rw [e_L_hears_126, show tz_j i + 1 = tz_j (i + 1) from nj_add (b := 1)]
          exact e
        have e121 : ∀ B, lx ph A B → ∃ A', q_L_hears_121 (tz_j h) x y (tz_j i) B = some (none, A') ∧ lx ph A A' := fun B f => by
          rw [e_L_hears_121, if_neg (h1g B f)]
          exact e126 _ (lx_s f (by unfold ph; omega))
        have e98 : ∀ B, lx ph A B → ∃ A', q_L_hears_98 (tz_j h) x y (tz_j i) B = some (none, A') ∧ lx ph A A' := fun B f => by
          rw [e_L_hears_98, if_neg (h1g B f)]
          split
          · exact e126 _ f
          · split
            · exact e121 _ f
            · split
              · exact e126 _ f
              · exact e121 _ f
        rw [e_L_hears_3, if_neg q]
        simp only [b16, b24, b32, h1f B f, ↓reduceIte]
        simp only [c16, c24, c32]
        split
        · refine e98 _ (lx_s (lx_sl (lx_sl (lx_sl f ?_) ?_) ?_) ?_)
          · omega
          · omega
          · omega
          · unfold ph
            omega
        · refine e98 _ (lx_s (lx_s (lx_sl (lx_sl (lx_sl f ?_) ?_) ?_) ?_) ?_)
          · omega
          · omega
          · omega
          · unfold ph
            omega
          · unfold ph
            omega
  rw [e_L_hears]
  by_cases z : 0 ≤ y
  · obtain ⟨k, hk, rfl⟩ := nj_of z
    exact key k 0 (by omega) A lx_rfl (Or.inr (by rw [Nat.zero_add]))
  · exact key 0 0 (by omega) A lx_rfl (Or.inl (by
      have := Int32.not_le.mp z
      exact Int32.le_of_lt this))
/-! a storm of the law's own sky -/
def wv (x : Int64) (i : Nat) : Int32 := Int64.toInt32 ((x >>> (Int32.toInt64 (4 * tz_j i) &&& 63)) &&& 15)
theorem l_way {t i : Nat} {A : tz_Mem} (ht : t < 40) (h1 : ¬ A.1 ≤ 158) : f_L_way (tz_j t) (tz_j i) A = some (some (.int (wv (tz_gl A 158 t) i)), A) := by
  have b1 : (tz_j t < 0 ∨ 40 ≤ Int32.toNatClampNeg (tz_j t)) = False := by simp (disch := omega) only [tz_lit, nj_m1, ↓reduceIte, nj_cl, nj_ltt, nj_ltf, nj_let, nj_lef, nj_eqf, nj_lt, nj_le, nj_eq, nj_add, nj_mul, nj_modx, nj_and7, nj_div, tz_bI_some, tz_bV_some, or_false, false_or, or_self, and_false, false_and, and_true, true_and, not_true_eq_false, not_false_eq_true, nt_lef, nt_let, nt_ltf, nt_ltt, nt_eqf, nj_m2, nj_m3, nj_m4, nj_m5, nj_m6, nj_m7, tz_bL_some, nj_sub, ng_ltt, ng_let, ng_gtf, ng_gef]
  have h1f : (A.1 ≤ 158) = False := eq_false h1
  rw [e_L_way]
  simp only [b1, h1f, ↓reduceIte]
  rw [nj_cl (by omega)]
  rfl
/-- what is kept of a storm -/
def LW (A : tz_Mem) (t : Nat) : Prop := ∃ p q sz po, 1 ≤ p ∧ p ≤ 9 ∧ q < 1000 ∧ 2 ≤ sz ∧ sz ≤ 6 ∧ po < sz ∧ tz_g A 157 (16 + t) = tz_j (p + 10 * q + 10000 * sz) ∧ tz_g A 157 (20 + t) = tz_j po ∧ ∀ i, i < sz → ∃ w, w < 8 ∧ wv (tz_gl A 158 t) i = tz_j w
/-- cells that a storm changes, but for its place -/
def pm (i : Nat) : Prop := i = 6 ∨ 24 ≤ i
theorem ph_pm {i : Nat} (h : ph i) : pm i := by
  unfold ph at h
  unfold pm
  omega
theorem l_230 {t h m w : Nat} {A : tz_Mem} (ht : t < 4) (hh : h < 8) (hm : m ≤ 12) (hw : w < 100000) (h1 : ¬ A.1 ≤ 158) (q2 : tz_g A 157 2 = tz_j m) (q16 : tz_g A 157 (16 + t) = tz_j w) : ∀ r B v, r < 100 → lx pm A B → hv_R m (tz_j h) B v → ∃ A', q_L_storm_230 (tz_j t) (tz_j h) (tz_j r) v B = some (none, A') ∧ lx pm A A' := by
  intro r
  induction r with
  | zero =>
    intro B v _ f hv
    refine ⟨B, ?_, f⟩
    rw [e_L_storm_230]
    split
    · rfl
    · rw [if_pos (show tz_j 0 ≤ 0 by decide)]
  | succ r ih =>
    intro B v hr f hv
    rw [e_L_storm_230]
    rcases hv with rfl | ⟨l, hl, rfl, hv⟩
    · rw [if_pos (show tz_j 4294967295 < 0 by decide)]
      exact ⟨B, rfl, f⟩
    · have b0 : (tz_j l < 0) = False := by simp (disch := omega) only [tz_lit, nj_m1, ↓reduceIte, nj_cl, nj_ltt, nj_ltf, nj_let, nj_lef, nj_eqf, nj_lt, nj_le, nj_eq, nj_add, nj_mul, nj_modx, nj_and7, nj_div, tz_bI_some, tz_bV_some, or_false, false_or, or_self, and_false, false_and, and_true, true_and, not_true_eq_false, not_false_eq_true, nt_lef, nt_let, nt_ltf, nt_ltt, nt_eqf, nj_m2, nj_m3, nj_m4, nj_m5, nj_m6, nj_m7, tz_bL_some, nj_sub, ng_ltt, ng_let, ng_gtf, ng_gef]
      have b1 : (tz_j (r + 1) ≤ 0) = False := by simp (disch := omega) only [tz_lit, nj_m1, ↓reduceIte, nj_cl, nj_ltt, nj_ltf, nj_let, nj_lef, nj_eqf, nj_lt, nj_le, nj_eq, nj_add, nj_mul, nj_modx, nj_and7, nj_div, tz_bI_some, tz_bV_some, or_false, false_or, or_self, and_false, false_and, and_true, true_and, not_true_eq_false, not_false_eq_true, nt_lef, nt_let, nt_ltf, nt_ltt, nt_eqf, nj_m2, nj_m3, nj_m4, nj_m5, nj_m6, nj_m7, tz_bL_some, nj_sub, ng_ltt, ng_let, ng_gtf, ng_gef]
      have b2 : ((36 + tz_j l) < 0 ∨ 64 ≤ Int32.toNatClampNeg (36 + tz_j l)) = False := by simp (disch := omega) only [tz_lit, nj_m1, ↓reduceIte, nj_cl, nj_ltt, nj_ltf, nj_let, nj_lef, nj_eqf, nj_lt, nj_le, nj_eq, nj_add, nj_mul, nj_modx, nj_and7, nj_div, tz_bI_some, tz_bV_some, or_false, false_or, or_self, and_false, false_and, and_true, true_and, not_true_eq_false, not_false_eq_true, nt_lef, nt_let, nt_ltf, nt_ltt, nt_eqf, nj_m2, nj_m3, nj_m4, nj_m5, nj_m6, nj_m7, tz_bL_some, nj_sub, ng_ltt, ng_let, ng_gtf, ng_gef]
      have b3 : ((16 + tz_j t) < 0 ∨ 64 ≤ Int32.toNatClampNeg (16 + tz_j t)) = False := by simp (disch := omega) only [tz_lit, nj_m1, ↓reduceIte, nj_cl, nj_ltt, nj_ltf, nj_let, nj_lef, nj_eqf, nj_lt, nj_le, nj_eq, nj_add, nj_mul, nj_modx, nj_and7, nj_div, tz_bI_some, tz_bV_some, or_false, false_or, or_self, and_false, false_and, and_true, true_and, not_true_eq_false, not_false_eq_true, nt_lef, nt_let, nt_ltf, nt_ltt, nt_eqf, nj_m2, nj_m3, nj_m4, nj_m5, nj_m6, nj_m7, tz_bL_some, nj_sub, ng_ltt, ng_let, ng_gtf, ng_gef]
      have c2 : Int32.toNatClampNeg (36 + tz_j l) = 36 + l := by simp (disch := omega) only [tz_lit, nj_m1, ↓reduceIte, nj_cl, nj_ltt, nj_ltf, nj_let, nj_lef, nj_eqf, nj_lt, nj_le, nj_eq, nj_add, nj_mul, nj_modx, nj_and7, nj_div, tz_bI_some, tz_bV_some, or_false, false_or, or_self, and_false, false_and, and_true, true_and, not_true_eq_false, not_false_eq_true, nt_lef, nt_let, nt_ltf, nt_ltt, nt_eqf, nj_m2, nj_m3, nj_m4, nj_m5, nj_m6, nj_m7, tz_bL_some, nj_sub, ng_ltt, ng_let, ng_gtf, ng_gef]
      have c4 : tz_j (r + 1) + (-1) = tz_j r := nj_dec (by omega)
      have b4 : (B.1 ≤ 157) = False := eq_false (by rw [f.1]; omega)
      have g : lx pm A (tz_s B 157 (36 + l) (100 + tz_j t)) := lx_s f (by unfold pm; omega)
      obtain ⟨v2, e, hv2⟩ := l_hv (x2 := tz_j h) (x3 := ((tz_g (tz_s B 157 (36 + l) (100 + tz_j t)) 157 (Int32.toNatClampNeg (16 + tz_j t))) / 10) - ((tz_g (tz_s B 157 (36 + l) (100 + tz_j t)) 157 (Int32.toNatClampNeg (16 + tz_j t))) / 10) / 100 * 100) (A := tz_s B 157 (36 + l) (100 + tz_j t)) hm (by rw [g.1]; omega) (by rw [g.2.2.2.1 2 (by unfold pm; omega)]; exact q2)
      obtain ⟨A', e2, f2⟩ := ih _ v2 (by omega) g hv2
      refine ⟨A', ?_, f2⟩
      simp only [b0, b1, b2, b3, b4, ↓reduceIte]
      simp only [c2]
      rw [e, tz_bI_some, c4]
      exact e2
theorem l_61 {t h m w : Nat} {A : tz_Mem} (ht : t < 4) (hh : h < 8) (hm : m ≤ 12) (hw : w < 100000) (h1 : ¬ A.1 ≤ 158) (q2 : tz_g A 157 2 = tz_j m) (q16 : tz_g A 157 (16 + t) = tz_j w) : ∀ k B v, pc (fun l => decide (tz_g B 157 (36 + l) = tz_j (100 + t))) m ≤ k → lx pm A B → hv_R m (tz_j (100 + t)) B v → ∃ A', q_L_storm_61 (tz_j t) (tz_j h) v B = some (none, A') ∧ lx pm A A' := by
  have b16 : ((16 + tz_j t) < 0 ∨ 64 ≤ Int32.toNatClampNeg (16 + tz_j t)) = False := by simp (disch := omega) only [tz_lit, nj_m1, ↓reduceIte, nj_cl, nj_ltt, nj_ltf, nj_let, nj_lef, nj_eqf, nj_lt, nj_le, nj_eq, nj_add, nj_mul, nj_modx, nj_and7, nj_div, tz_bI_some, tz_bV_some, or_false, false_or, or_self, and_false, false_and, and_true, true_and, not_true_eq_false, not_false_eq_true, nt_lef, nt_let, nt_ltf, nt_ltt, nt_eqf, nj_m2, nj_m3, nj_m4, nj_m5, nj_m6, nj_m7, tz_bL_some, nj_sub, ng_ltt, ng_let, ng_gtf, ng_gef]
  have c16 : Int32.toNatClampNeg (16 + tz_j t) = 16 + t := by simp (disch := omega) only [tz_lit, nj_m1, ↓reduceIte, nj_cl, nj_ltt, nj_ltf, nj_let, nj_lef, nj_eqf, nj_lt, nj_le, nj_eq, nj_add, nj_mul, nj_modx, nj_and7, nj_div, tz_bI_some, tz_bV_some, or_false, false_or, or_self, and_false, false_and, and_true, true_and, not_true_eq_false, not_false_eq_true, nt_lef, nt_let, nt_ltf, nt_ltt, nt_eqf, nj_m2, nj_m3, nj_m4, nj_m5, nj_m6, nj_m7, tz_bL_some, nj_sub, ng_ltt, ng_let, ng_gtf, ng_gef]
  have stop : ∀ B, lx pm A B → ∃ A', q_L_storm_61 (tz_j t) (tz_j h) (tz_j 4294967295) B = some (none, A') ∧ lx pm A A' := by
    intro B f
    have b4 : (B.1 ≤ 157) = False := eq_false (by rw [f.1]; omega)
    have qB : tz_g B 157 (16 + t) = tz_j w := by rw [f.2.2.2.1 _ (by unfold pm; omega)]; exact q16
    have er : (tz_g B 157 (16 + t)) / 1000 - ((tz_g B 157 (16 + t)) / 1000) / 10 * 10 = tz_j (w / 1000 % 10) := by
      rw [qB]
      simp (disch := omega) only [tz_lit, nj_m1, ↓reduceIte, nj_cl, nj_ltt, nj_ltf, nj_let, nj_lef, nj_eqf, nj_lt, nj_le, nj_eq, nj_add, nj_mul, nj_modx, nj_and7, nj_div, tz_bI_some, tz_bV_some, or_false, false_or, or_self, and_false, false_and, and_true, true_and, not_true_eq_false, not_false_eq_true, nt_lef, nt_let, nt_ltf, nt_ltt, nt_eqf, nj_m2, nj_m3, nj_m4, nj_m5, nj_m6, nj_m7, tz_bL_some, nj_sub, ng_ltt, ng_let, ng_gtf, ng_gef]
      omega
    obtain ⟨v2, e, hv2⟩ := l_hv (x2 := tz_j h) (x3 := ((tz_g B 157 (16 + t)) / 10) - ((tz_g B 157 (16 + t)) / 10) / 100 * 100) (A := B) hm (by rw [f.1]; omega) (by rw [f.2.2.2.1 2 (by unfold pm; omega)]; exact q2)
    obtain ⟨A', e2, f2⟩ := l_230 ht hh hm hw h1 q2 q16 (w / 1000 % 10) B v2 (by omega) f hv2
    refine ⟨A', ?_, f2⟩
    rw [e_L_storm_61, if_pos (show tz_j 4294967295 < 0 by decide)]
    simp only [b4, b16, ↓reduceIte]
    simp only [c16]
    rw [e, tz_bI_some, er]
    exact e2
  intro k
  induction k with
  | zero =>
    intro B v hk f hv
    rcases hv with rfl | ⟨l, hl, rfl, hv⟩
    · exact stop B f
    · have := pc_lt (q := fun _ => false) (r := fun l => decide (tz_g B 157 (36 + l) = tz_j (100 + t))) (a := l) m hl (fun _ _ q => absurd q (by simp)) (by simpa using hv) (by simp)
      omega
  | succ k ih =>
    intro B v hk f hv
    rcases hv with rfl | ⟨l, hl, rfl, hv⟩
    · exact stop B f
    · have b0 : (tz_j l < 0) = False := by simp (disch := omega) only [tz_lit, nj_m1, ↓reduceIte, nj_cl, nj_ltt, nj_ltf, nj_let, nj_lef, nj_eqf, nj_lt, nj_le, nj_eq, nj_add, nj_mul, nj_modx, nj_and7, nj_div, tz_bI_some, tz_bV_some, or_false, false_or, or_self, and_false, false_and, and_true, true_and, not_true_eq_false, not_false_eq_true, nt_lef, nt_let, nt_ltf, nt_ltt, nt_eqf, nj_m2, nj_m3, nj_m4, nj_m5, nj_m6, nj_m7, tz_bL_some, nj_sub, ng_ltt, ng_let, ng_gtf, ng_gef]
      have b24 : ((24 + tz_j l) < 0 ∨ 64 ≤ Int32.toNatClampNeg (24 + tz_j l)) = False := by simp (disch := omega) only [tz_lit, nj_m1, ↓reduceIte, nj_cl, nj_ltt, nj_ltf, nj_let, nj_lef, nj_eqf, nj_lt, nj_le, nj_eq, nj_add, nj_mul, nj_modx, nj_and7, nj_div, tz_bI_some, tz_bV_some, or_false, false_or, or_self, and_false, false_and, and_true, true_and, not_true_eq_false, not_false_eq_true, nt_lef, nt_let, nt_ltf, nt_ltt, nt_eqf, nj_m2, nj_m3, nj_m4, nj_m5, nj_m6, nj_m7, tz_bL_some, nj_sub, ng_ltt, ng_let, ng_gtf, ng_gef]
      have b36 : ((36 + tz_j l) < 0 ∨ 64 ≤ Int32.toNatClampNeg (36 + tz_j l)) = False := by simp (disch := omega) only [tz_lit, nj_m1, ↓reduceIte, nj_cl, nj_ltt, nj_ltf, nj_let, nj_lef, nj_eqf, nj_lt, nj_le, nj_eq, nj_add, nj_mul, nj_modx, nj_and7, nj_div, tz_bI_some, tz_bV_some, or_false, false_or, or_self, and_false, false_and, and_true, true_and, not_true_eq_false, not_false_eq_true, nt_lef, nt_let, nt_ltf, nt_ltt, nt_eqf, nj_m2, nj_m3, nj_m4, nj_m5, nj_m6, nj_m7, tz_bL_some, nj_sub, ng_ltt, ng_let, ng_gtf, ng_gef]
      have b48 : ((48 + tz_j l) < 0 ∨ 64 ≤ Int32.toNatClampNeg (48 + tz_j l)) = False := by simp (disch := omega) only [tz_lit, nj_m1, ↓reduceIte, nj_cl, nj_ltt, nj_ltf, nj_let, nj_lef, nj_eqf, nj_lt, nj_le, nj_eq, nj_add, nj_mul, nj_modx, nj_and7, nj_div, tz_bI_some, tz_bV_some, or_false, false_or, or_self, and_false, false_and, and_true, true_and, not_true_eq_false, not_false_eq_true, nt_lef, nt_let, nt_ltf, nt_ltt, nt_eqf, nj_m2, nj_m3, nj_m4, nj_m5, nj_m6, nj_m7, tz_bL_some, nj_sub, ng_ltt, ng_let, ng_gtf, ng_gef]
      have b4 : ((4 + tz_j l) < 0 ∨ 40 ≤ Int32.toNatClampNeg (4 + tz_j l)) = False := by simp (disch := omega) only [tz_lit, nj_m1, ↓reduceIte, nj_cl, nj_ltt, nj_ltf, nj_let, nj_lef, nj_eqf, nj_lt, nj_le, nj_eq, nj_add, nj_mul, nj_modx, nj_and7, nj_div, tz_bI_some, tz_bV_some, or_false, false_or, or_self, and_false, false_and, and_true, true_and, not_true_eq_false, not_false_eq_true, nt_lef, nt_let, nt_ltf, nt_ltt, nt_eqf, nj_m2, nj_m3, nj_m4, nj_m5, nj_m6, nj_m7, tz_bL_some, nj_sub, ng_ltt, ng_let, ng_gtf, ng_gef]
      have c24 : Int32.toNatClampNeg (24 + tz_j l) = 24 + l := by simp (disch := omega) only [tz_lit, nj_m1, ↓reduceIte, nj_cl, nj_ltt, nj_ltf, nj_let, nj_lef, nj_eqf, nj_lt, nj_le, nj_eq, nj_add, nj_mul, nj_modx, nj_and7, nj_div, tz_bI_some, tz_bV_some, or_false, false_or, or_self, and_false, false_and, and_true, true_and, not_true_eq_false, not_false_eq_true, nt_lef, nt_let, nt_ltf, nt_ltt, nt_eqf, nj_m2, nj_m3, nj_m4, nj_m5, nj_m6, nj_m7, tz_bL_some, nj_sub, ng_ltt, ng_let, ng_gtf, ng_gef]
      have c36 : Int32.toNatClampNeg (36 + tz_j l) = 36 + l := by simp (disch := omega) only [tz_lit, nj_m1, ↓reduceIte, nj_cl, nj_ltt, nj_ltf, nj_let, nj_lef, nj_eqf, nj_lt, nj_le, nj_eq, nj_add, nj_mul, nj_modx, nj_and7, nj_div, tz_bI_some, tz_bV_some, or_false, false_or, or_self, and_false, false_and, and_true, true_and, not_true_eq_false, not_false_eq_true, nt_lef, nt_let, nt_ltf, nt_ltt, nt_eqf, nj_m2, nj_m3, nj_m4, nj_m5, nj_m6, nj_m7, tz_bL_some, nj_sub, ng_ltt, ng_let, ng_gtf, ng_gef]
      have c48 : Int32.toNatClampNeg (48 + tz_j l) = 48 + l := by simp (disch := omega) only [tz_lit, nj_m1, ↓reduceIte, nj_cl, nj_ltt, nj_ltf, nj_let, nj_lef, nj_eqf, nj_lt, nj_le, nj_eq, nj_add, nj_mul, nj_modx, nj_and7, nj_div, tz_bI_some, tz_bV_some, or_false, false_or, or_self, and_false, false_and, and_true, true_and, not_true_eq_false, not_false_eq_true, nt_lef, nt_let, nt_ltf, nt_ltt, nt_eqf, nj_m2, nj_m3, nj_m4, nj_m5, nj_m6, nj_m7, tz_bL_some, nj_sub, ng_ltt, ng_let, ng_gtf, ng_gef]
      have hB : ¬ B.1 ≤ 158 := by rw [f.1]; exact h1
      have bB : (B.1 ≤ 157) = False := eq_false (by omega)
      obtain ⟨y1, e1⟩ := l_bec (x := (tz_g B 157 (24 + l)) - (tz_g B 157 (24 + l)) / 10000 * 10000) (A := B) hh (by omega)
      obtain ⟨y2, e2⟩ := l_tim (x := (tz_g B 157 (24 + l)) / 10000) (A := tz_s B 157 (24 + l) (y1 + (10000 * ((tz_g B 157 (24 + l)) / 10000)))) hh (show ¬ B.1 ≤ 157 by omega)
      obtain ⟨C, e3, f3⟩ := l_hears (x := y1) (y := y2) (A := tz_s B 157 (24 + l) (y1 + (10000 * ((tz_g B 157 (24 + l)) / 10000)))) hh (show ¬ B.1 ≤ 158 from hB)
      have fC : lx pm A C := lx_tr (lx_s f (by unfold pm; omega)) (lx_mo f3 (fun _ => ph_pm))
      have hC : C.1 = A.1 := fC.1
      have bC7 : (C.1 ≤ 157) = False := eq_false (by rw [hC]; omega)
      have bC8 : (C.1 ≤ 158) = False := eq_false (by rw [hC]; exact h1)
      have gC : ∀ l', l' < 12 → tz_g C 157 (36 + l') = tz_g B 157 (36 + l') := fun l' hl' => by
        rw [f3.2.2.2.1 _ (by unfold ph; omega), tz_gsi (by omega)]
      have e180 : ∀ D, lx pm A D → (∀ l', l' < 12 → l' ≠ l → tz_g D 157 (36 + l') = tz_g B 157 (36 + l')) → tz_g D 157 (36 + l) ≠ tz_j (100 + t) → ∃ A', q_L_storm_180 (tz_j t) (tz_j h) D = some (none, A') ∧ lx pm A A' := by
        intro D fD h2 h3
        obtain ⟨v2, e, hv2⟩ := l_hv (x2 := tz_j (100 + t)) (x3 := 99) (A := D) hm (by rw [fD.1]; omega) (by rw [fD.2.2.2.1 2 (by unfold pm; omega)]; exact q2)
        have hlt := pc_lt (q := fun l => decide (tz_g D 157 (36 + l) = tz_j (100 + t))) (r := fun l => decide (tz_g B 157 (36 + l) = tz_j (100 + t))) (a := l) m hl (fun l' hl' q => by
          by_cases z : l' = l
          · rw [z]
            simpa using hv
          · rw [← h2 l' (by omega) z]
            exact q) (by simpa using hv) (by simpa using h3)
        obtain ⟨A', e4, f4⟩ := ih D v2 (by omega) fD hv2
        refine ⟨A', ?_, f4⟩
        rw [e_L_storm_180, show (100 : Int32) + tz_j t = tz_j (100 + t) from nj_add (a := 100), e, tz_bI_some]
        exact e4
      have nh : tz_j h ≠ tz_j (100 + t) := by
        intro q
        have := nj_inj (by omega) (by omega) q
        omega
      have n2 : (200 : Int32) ≠ tz_j (100 + t) := by
        intro q
        have := nj_inj (a := 200) (by omega) (by omega) q
        omega
      rw [e_L_storm_61]
      simp only [b0, bB, b24, ↓reduceIte]
      simp only [c24]
      rw [e1, tz_bI_some]
      simp only [bB, ↓reduceIte]
      rw [e2, tz_bI_some, e3, tz_bV_some]
      simp only [bC7, bC8, b36, b4, b48, ↓reduceIte]
      simp only [c36, c48]
      split
      · refine e180 _ (lx_s (lx_s (lx_s fC ?_) ?_) ?_) (fun l' hl' hne => ?_) ?_
        · unfold pm
          omega
        · unfold pm
          omega
        · unfold pm
          omega
        · rw [tz_gsi (by omega), tz_gsi (by omega), tz_gsi (by omega)]
          exact gC l' hl'
        · rw [tz_gsi (by omega), tz_gs1]
          exact n2
      · refine e180 _ (lx_s fC ?_) (fun l' hl' hne => ?_) ?_
        · unfold pm
          omega
        · rw [tz_gsi (by omega)]
          exact gC l' hl'
        · rw [tz_gs1]
          exact nh
/-- the cells that an hour changes -/
def pt (i : Nat) : Prop := i = 6 ∨ 20 ≤ i
theorem pm_pt {i : Nat} (h : pm i) : pt i := by
  unfold pm at h
  unfold pt
  omega
theorem LW_mv {A B : tz_Mem} {t : Nat} (h : LW A t) (e1 : tz_g B 157 (16 + t) = tz_g A 157 (16 + t)) (e2 : tz_g B 157 (20 + t) = tz_g A 157 (20 + t)) (e3 : tz_gl B 158 t = tz_gl A 158 t) : LW B t := by
  obtain ⟨p, q, sz, po, a1, a2, a3, a4, a5, a6, a7, a8, a9⟩ := h
  exact ⟨p, q, sz, po, a1, a2, a3, a4, a5, a6, e1.trans a7, e2.trans a8, fun i hi => by rw [e3]; exact a9 i hi⟩
theorem l_storm {t m : Nat} {A : tz_Mem} (ht : t < 4) (hm : m ≤ 12) (h1 : ¬ A.1 ≤ 158) (q2 : tz_g A 157 2 = tz_j m) (hL : LW A t) : ∃ A', f_L_storm (tz_j t) A = some (none, A') ∧ lx pt A A' ∧ LW A' t ∧ ∀ u, u < 4 → u ≠ t → tz_g A' 157 (20 + u) = tz_g A 157 (20 + u) := by
  obtain ⟨p, q, sz, po, a1, a2, a3, a4, a5, a6, a7, a8, a9⟩ := hL
  have b16 : ((16 + tz_j t) < 0 ∨ 64 ≤ Int32.toNatClampNeg (16 + tz_j t)) = False := by simp (disch := omega) only [tz_lit, nj_m1, ↓reduceIte, nj_cl, nj_ltt, nj_ltf, nj_let, nj_lef, nj_eqf, nj_lt, nj_le, nj_eq, nj_add, nj_mul, nj_modx, nj_and7, nj_div, tz_bI_some, tz_bV_some, or_false, false_or, or_self, and_false, false_and, and_true, true_and, not_true_eq_false, not_false_eq_true, nt_lef, nt_let, nt_ltf, nt_ltt, nt_eqf, nj_m2, nj_m3, nj_m4, nj_m5, nj_m6, nj_m7, tz_bL_some, nj_sub, ng_ltt, ng_let, ng_gtf, ng_gef]
  have b20 : ((20 + tz_j t) < 0 ∨ 64 ≤ Int32.toNatClampNeg (20 + tz_j t)) = False := by simp (disch := omega) only [tz_lit, nj_m1, ↓reduceIte, nj_cl, nj_ltt, nj_ltf, nj_let, nj_lef, nj_eqf, nj_lt, nj_le, nj_eq, nj_add, nj_mul, nj_modx, nj_and7, nj_div, tz_bI_some, tz_bV_some, or_false, false_or, or_self, and_false, false_and, and_true, true_and, not_true_eq_false, not_false_eq_true, nt_lef, nt_let, nt_ltf, nt_ltt, nt_eqf, nj_m2, nj_m3, nj_m4, nj_m5, nj_m6, nj_m7, tz_bL_some, nj_sub, ng_ltt, ng_let, ng_gtf, ng_gef]
  have c16 : Int32.toNatClampNeg (16 + tz_j t) = 16 + t := by simp (disch := omega) only [tz_lit, nj_m1, ↓reduceIte, nj_cl, nj_ltt, nj_ltf, nj_let, nj_lef, nj_eqf, nj_lt, nj_le, nj_eq, nj_add, nj_mul, nj_modx, nj_and7, nj_div, tz_bI_some, tz_bV_some, or_false, false_or, or_self, and_false, false_and, and_true, true_and, not_true_eq_false, not_false_eq_true, nt_lef, nt_let, nt_ltf, nt_ltt, nt_eqf, nj_m2, nj_m3, nj_m4, nj_m5, nj_m6, nj_m7, tz_bL_some, nj_sub, ng_ltt, ng_let, ng_gtf, ng_gef]
  have c20 : Int32.toNatClampNeg (20 + tz_j t) = 20 + t := by simp (disch := omega) only [tz_lit, nj_m1, ↓reduceIte, nj_cl, nj_ltt, nj_ltf, nj_let, nj_lef, nj_eqf, nj_lt, nj_le, nj_eq, nj_add, nj_mul, nj_modx, nj_and7, nj_div, tz_bI_some, tz_bV_some, or_false, false_or, or_self, and_false, false_and, and_true, true_and, not_true_eq_false, not_false_eq_true, nt_lef, nt_let, nt_ltf, nt_ltt, nt_eqf, nj_m2, nj_m3, nj_m4, nj_m5, nj_m6, nj_m7, tz_bL_some, nj_sub, ng_ltt, ng_let, ng_gtf, ng_gef]
  have bA : (A.1 ≤ 157) = False := eq_false (by omega)
  have esz : tz_g A 157 (16 + t) / 10000 = tz_j sz := by
    rw [a7]
    show _ / tz_j 10000 = _
    rw [nj_div (by omega) (by omega)]
    congr 1
    omega
  have ad : tz_g A 157 (20 + t) + 1 = tz_j (po + 1) := by
    rw [a8]
    exact nj_add (b := 1)
  have go : ∀ po2, po2 < sz → ∃ A', q_L_storm_41 (tz_j t) (tz_s A 157 (20 + t) (tz_j po2)) = some (none, A') ∧ lx pt A A' ∧ LW A' t ∧ ∀ u, u < 4 → u ≠ t → tz_g A' 157 (20 + u) = tz_g A 157 (20 + u) := by
    intro po2 hp
    obtain ⟨h, hh, eh⟩ := a9 po2 hp
    have q2' : tz_g (tz_s A 157 (20 + t) (tz_j po2)) 157 2 = tz_j m := by rw [tz_gsi (by omega)]; exact q2
    have q16' : tz_g (tz_s A 157 (20 + t) (tz_j po2)) 157 (16 + t) = tz_j (p + 10 * q + 10000 * sz) := by rw [tz_gsi (by omega)]; exact a7
    have e1 : f_L_hill (tz_j t) (tz_s A 157 (20 + t) (tz_j po2)) = some (some (.int (tz_j h)), tz_s A 157 (20 + t) (tz_j po2)) := by
      have bA2 : ((tz_s A 157 (20 + t) (tz_j po2)).1 ≤ 157) = False := bA
      rw [e_L_hill]
      simp only [bA2, b20, ↓reduceIte]
      rw [c20, tz_gs1, l_way (A := tz_s A 157 (20 + t) (tz_j po2)) (show t < 40 by omega) h1, tz_bI_some]
      show (some (some (Value.int (wv (tz_gl A 158 t) po2)), tz_s A 157 (20 + t) (tz_j po2)) : tz_X) = _
      rw [eh]
    obtain ⟨v, e2, hv⟩ := l_hv (x2 := tz_j (100 + t)) (x3 := 99) (A := tz_s A 157 (20 + t) (tz_j po2)) hm (show ¬ A.1 ≤ 157 by omega) q2'
    obtain ⟨A', e3, f3⟩ := l_61 ht hh hm (show p + 10 * q + 10000 * sz < 100000 by omega) (show ¬ (tz_s A 157 (20 + t) (tz_j po2)).1 ≤ 158 from h1) q2' q16' _ (tz_s A 157 (20 + t) (tz_j po2)) v (Nat.le_refl _) lx_rfl hv
    refine ⟨A', ?_, lx_tr (lx_s lx_rfl (by unfold pt; omega)) (lx_mo f3 (fun _ => pm_pt)), ⟨p, q, sz, po2, a1, a2, a3, a4, a5, hp, ?_, ?_, fun i hi => ?_⟩, fun u hu hne => ?_⟩
    · rw [e_L_storm_41, e1, tz_bI_some, show (100 : Int32) + tz_j t = tz_j (100 + t) from nj_add (a := 100), e2, tz_bI_some]
      exact e3
    · rw [f3.2.2.2.1 _ (by unfold pm; omega)]
      exact q16'
    · rw [f3.2.2.2.1 _ (by unfold pm; omega), tz_gs1]
    · rw [f3.2.2.2.2 _ (by omega)]
      exact a9 i hi
    · rw [f3.2.2.2.1 _ (by unfold pm; omega), tz_gsi (by omega)]
  rw [e_L_storm]
  simp only [bA, b16, b20, ↓reduceIte]
  simp only [c16, c20]
  rw [ad, esz]
  by_cases z : po + 1 = sz
  · rw [if_neg (fun y => y (by rw [z]))]
    exact go 0 (by omega)
  · rw [if_pos (by rw [nj_eq (by omega) (by omega)]; exact z)]
    exact go (po + 1) (by omega)
/-- what is known of the law's sky -/
def LM (n s m r : Nat) (A : tz_Mem) : Prop := ¬ A.1 ≤ 158 ∧ tz_g A 157 0 = tz_j n ∧ tz_g A 157 1 = tz_j s ∧ tz_g A 157 2 = tz_j m ∧ tz_g A 157 3 = tz_j r ∧ tz_g A 157 7 = tz_j 0 ∧ ∀ t, t < s → LW A t
theorem l_hourL {n s m r : Nat} {A0 : tz_Mem} (hs : s ≤ 4) (hm : m ≤ 12) (hr : r < 10000) : ∀ k t A, t + k = s → LM n s m r A → lx (fun i => pt i ∨ i = 3) A0 A → ∃ A', q_L_hour_9 (tz_j t) A = some (none, A') ∧ LM n s m r A' ∧ lx (fun i => pt i ∨ i = 3) A0 A' := by
  intro k
  induction k with
  | zero =>
    intro t A ht hA f
    have bA : (A.1 ≤ 157) = False := eq_false (by have := hA.1; omega)
    refine ⟨A, ?_, hA, f⟩
    rw [e_L_hour_9]
    simp only [bA, ↓reduceIte]
    rw [hA.2.2.1, if_pos (by rw [nj_le (by omega) (by omega)]; omega)]
  | succ k ih =>
    intro t A ht hA f
    obtain ⟨h1, q0, q1, q2, q3, q7, hL⟩ := hA
    obtain ⟨p, q, sz, po, a1, a2, a3, a4, a5, a6, a7, a8, a9⟩ := hL t (by omega)
    have bA : (A.1 ≤ 157) = False := eq_false (by omega)
    have b16 : ((16 + tz_j t) < 0 ∨ 64 ≤ Int32.toNatClampNeg (16 + tz_j t)) = False := by simp (disch := omega) only [tz_lit, nj_m1, ↓reduceIte, nj_cl, nj_ltt, nj_ltf, nj_let, nj_lef, nj_eqf, nj_lt, nj_le, nj_eq, nj_add, nj_mul, nj_modx, nj_and7, nj_div, tz_bI_some, tz_bV_some, or_false, false_or, or_self, and_false, false_and, and_true, true_and, not_true_eq_false, not_false_eq_true, nt_lef, nt_let, nt_ltf, nt_ltt, nt_eqf, nj_m2, nj_m3, nj_m4, nj_m5, nj_m6, nj_m7, tz_bL_some, nj_sub, ng_ltt, ng_let, ng_gtf, ng_gef]
    have c16 : Int32.toNatClampNeg (16 + tz_j t) = 16 + t := by simp (disch := omega) only [tz_lit, nj_m1, ↓reduceIte, nj_cl, nj_ltt, nj_ltf, nj_let, nj_lef, nj_eqf, nj_lt, nj_le, nj_eq, nj_add, nj_mul, nj_modx, nj_and7, nj_div, tz_bI_some, tz_bV_some, or_false, false_or, or_self, and_false, false_and, and_true, true_and, not_true_eq_false, not_false_eq_true, nt_lef, nt_let, nt_ltf, nt_ltt, nt_eqf, nj_m2, nj_m3, nj_m4, nj_m5, nj_m6, nj_m7, tz_bL_some, nj_sub, ng_ltt, ng_let, ng_gtf, ng_gef]
    have e49 : ∀ B, LM n s m r B → lx (fun i => pt i ∨ i = 3) A0 B → ∃ A', q_L_hour_49 (tz_j t) B = some (none, A') ∧ LM n s m r A' ∧ lx (fun i => pt i ∨ i = 3) A0 A' := fun B hB fB => by
      rw [e_L_hour_49, show tz_j t + 1 = tz_j (t + 1) from nj_add (b := 1)]
      exact ih (t + 1) B (by omega) hB fB
    have epk : tz_g A 157 (16 + t) - tz_g A 157 (16 + t) / 10 * 10 = tz_j p := by
      rw [a7]
      show _ - _ / tz_j 10 * tz_j 10 = _
      rw [nj_mod (by omega) (by omega)]
      congr 1
      omega
    have np : ¬ tz_j p = 0 := by
      show ¬ tz_j p = tz_j 0
      rw [nj_eq (by omega) (by omega)]
      omega
    rw [e_L_hour_9]
    simp only [bA, b16, ↓reduceIte]
    rw [q1, if_neg (by rw [nj_le (by omega) (by omega)]; omega), c16, epk, if_neg np]
    split
    · exact e49 A ⟨h1, q0, q1, q2, q3, q7, hL⟩ f
    · split
      · exact e49 A ⟨h1, q0, q1, q2, q3, q7, hL⟩ f
      · obtain ⟨B, e, fB, hB, oB⟩ := l_storm (t := t) (by omega) hm h1 q2 (hL t (by omega))
        have g : ∀ i, ¬ pt i → tz_g B 157 i = tz_g A 157 i := fB.2.2.2.1
        rw [e, tz_bV_some]
        refine e49 B ⟨by rw [fB.1]; exact h1, by rw [g _ (by unfold pt; omega)]; exact q0, by rw [g _ (by unfold pt; omega)]; exact q1, by rw [g _ (by unfold pt; omega)]; exact q2, by rw [g _ (by unfold pt; omega)]; exact q3, by rw [g _ (by unfold pt; omega)]; exact q7, fun u hu => ?_⟩ (lx_tr f (lx_mo fB (fun _ h => Or.inl h)))
        by_cases z : u = t
        · rw [z]
          exact hB
        · exact LW_mv (hL u hu) (g _ (by unfold pt; omega)) (oB u (by omega) z) (fB.2.2.2.2 u (by omega))
theorem l_hour {n s m r : Nat} {A : tz_Mem} (hs : s ≤ 4) (hm : m ≤ 12) (hr : r < 1000) (hA : LM n s m r A) : ∃ A', f_L_hour A = some (none, A') ∧ LM n s m (r + 1) A' ∧ lx (fun i => pt i ∨ i = 3) A A' := by
  obtain ⟨h1, q0, q1, q2, q3, q7, hL⟩ := hA
  have e3 : tz_g A 157 3 + 1 = tz_j (r + 1) := by
    rw [q3]
    exact nj_add (b := 1)
  obtain ⟨A', e, hA', f⟩ := l_hourL (n := n) (r := r + 1) (A0 := A) hs hm (by omega) s 0 (tz_s A 157 3 (tz_j (r + 1))) (Nat.zero_add _) ⟨h1, by rw [tz_gsi (by omega)]; exact q0, by rw [tz_gsi (by omega)]; exact q1, by rw [tz_gsi (by omega)]; exact q2, tz_gs1, by rw [tz_gsi (by omega)]; exact q7, fun t ht => LW_mv (hL t ht) (by rw [tz_gsi (by omega)]) (by rw [tz_gsi (by omega)]) rfl⟩ (lx_s lx_rfl (Or.inr rfl))
  refine ⟨A', ?_, hA', f⟩
  rw [e_L_hour, if_neg (by omega), e3]
  exact e
