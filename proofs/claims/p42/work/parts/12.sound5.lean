/-! an instruction of the small machine is true of the real one, given what it goes on to is -/
theorem tz_nl_true {L : tz_Lo} {i : Nat} (h : tz_nl L i = true) : tz_nl L i = true := h
theorem tz_ic_inv {cd : ClassFile.Cond} {x y : Int32} {a b : tz_X} {Z : tz_RR} (h : tz_ic cd x y a b = some Z) : (a = some Z ∨ b = some Z) := by
  cases cd
  all_goals
    unfold tz_ic at h
    dsimp only at h
    split at h
    · exact Or.inl h
    · exact Or.inr h
theorem tz_tsw_inv {x : Int32} {d : Int} {f : Int → tz_X} {Z : tz_RR} : ∀ (offs : List Int) (lo : Int), tz_tsw x lo offs d f = some Z → -2147483648 ≤ lo → lo + offs.length ≤ 2147483648 →
    (∃ (j : Nat) (off : Int), offs[j]? = some off ∧ x.toInt = lo + j ∧ f off = some Z) ∨ ((x.toInt < lo ∨ lo + offs.length ≤ x.toInt) ∧ f d = some Z)
  | [], lo, h, _, _ => Or.inr ⟨by simp; omega, h⟩
  | o :: t, lo, h, h1, h2 => by
    unfold tz_tsw at h
    simp only [List.length_cons, Int.natCast_add, Int.cast_ofNat_Int] at h2
    have e : (Int32.ofInt lo).toInt = lo := Int32.toInt_ofInt_of_le (by omega) (by omega)
    by_cases hx : x = Int32.ofInt lo
    · rw [if_pos hx] at h
      exact Or.inl ⟨0, o, rfl, by rw [hx, e]; simp, h⟩
    · rw [if_neg hx] at h
      have hne : x.toInt ≠ lo := fun q => hx (by rw [← Int32.toInt_inj, e]; exact q)
      rcases tz_tsw_inv t (lo + 1) h (by omega) (by omega) with ⟨j, off, g1, g2, g3⟩ | ⟨g1, g2⟩
      · exact Or.inl ⟨j + 1, off, g1, by rw [g2]; simp; omega, g3⟩
      · refine Or.inr ⟨?_, g2⟩
        simp only [List.length_cons, Int.natCast_add, Int.cast_ofNat_Int]
        omega
theorem tz_lsw_inv {x : Int32} {d : Int} {f : Int → tz_X} {Z : tz_RR} : ∀ (ps : List (Int × Int)), tz_lsw x ps d f = some Z → (∀ q ∈ ps, -2147483648 ≤ q.1 ∧ q.1 ≤ 2147483647) → f (Op.lookupswitch.offset ps d x.toInt) = some Z
  | [], h, _ => h
  | o :: t, h, hq => by
    unfold tz_lsw at h
    have hb := hq o List.mem_cons_self
    have e : (Int32.ofInt o.1).toInt = o.1 := Int32.toInt_ofInt_of_le (by omega) (by omega)
    by_cases hx : x = Int32.ofInt o.1
    · rw [if_pos hx] at h
      have : Op.lookupswitch.offset (o :: t) d x.toInt = o.2 := by
        rw [hx, e]
        simp [Op.lookupswitch.offset]
      rw [this]
      exact h
    · rw [if_neg hx] at h
      have hne : ¬ o.1 = x.toInt := fun q => hx (by rw [← Int32.toInt_inj, e]; exact q.symm)
      have : Op.lookupswitch.offset (o :: t) d x.toInt = Op.lookupswitch.offset t d x.toInt := by
        simp [Op.lookupswitch.offset, hne]
      rw [this]
      exact tz_lsw_inv t h (fun q h9 => hq q (List.mem_cons_of_mem _ h9))
theorem tz_bb_inv {b : Bool} {x y : tz_X} {Z : tz_RR} (h : (bif b then x else y) = some Z) : (b = true ∧ x = some Z) ∨ (b = false ∧ y = some Z) := by
  cases b
  · exact Or.inr ⟨rfl, h⟩
  · exact Or.inl ⟨rfl, h⟩
theorem tz_pop_inv {n : Nat} {st : List Value} {f : List Value → List Value → tz_X} {Z : tz_RR} (h : tz_pop n st f = some Z) : ∃ as r, st = as.reverse ++ r ∧ as.length = n ∧ f as r = some Z := by
  obtain ⟨h1, h2⟩ := tz_bf_inv h
  refine ⟨_, _, ?_, ?_, h2⟩
  · rw [List.reverse_reverse, List.take_append_drop]
  · rw [List.length_reverse, List.length_take]
    have := Nat.le_of_ble_eq_true h1
    omega
theorem tz_ok_lt {cm : Nat} {A : tz_Mem} {a : Nat} (hc : cm ≤ A.1) (h : tz_ok cm A a = true) : a < A.1 := by
  unfold tz_ok at h
  rw [Bool.or_eq_true] at h
  rcases h with h | h
  · have : a < cm := Nat.le_of_ble_eq_true h
    omega
  · exact Nat.le_of_ble_eq_true h
theorem tz_blt_f {a b : Nat} (h : Nat.blt a b = false) : b ≤ a := by
  rcases Nat.lt_or_ge a b with q | q
  · rw [show Nat.blt a b = true from Nat.ble_eq_true_of_le q] at h
    cases h
  · exact q
theorem tz_gf_inv {cm : Nat} {A : tz_Mem} {a ci f : Nat} {k : Value → tz_X} {Z : tz_RR} (h : tz_gf cm A a ci f k = some Z) :
    (∃ v, k v = some Z ∧ ((tz_ft ci f = 0 ∨ tz_ft ci f = 3) ∧ v = .int (A.2.1 a f) ∨ (tz_ft ci f = 1 ∧ a < cm ∧ v = .ref (tz_RT a f)) ∨ (((tz_ft ci f = 1 ∧ cm ≤ a) ∨ tz_ft ci f = 2) ∧ ∃ j, A.2.2.2 a f = j + 1 ∧ v = .ref j) ∨ (tz_ft ci f = 2 ∧ A.2.2.2 a f = 0 ∧ v = .null))) ∨ (tz_ft ci f = 4 ∧ k (.int 0) = some Z) := by
  unfold tz_gf at h
  split at h
  · exact Or.inl ⟨_, h, Or.inl ⟨Or.inl ‹_›, rfl⟩⟩
  · rcases tz_bb_inv h with ⟨h1, h2⟩ | ⟨h1, h2⟩
    · exact Or.inl ⟨_, h2, Or.inr (Or.inl ⟨‹_›, Nat.le_of_ble_eq_true h1, rfl⟩)⟩
    · split at h2
      · cases h2
      · exact Or.inl ⟨_, h2, Or.inr (Or.inr (Or.inl ⟨Or.inl ⟨‹_›, tz_blt_f h1⟩, _, by assumption, rfl⟩))⟩
  · split at h
    · exact Or.inl ⟨_, h, Or.inr (Or.inr (Or.inr ⟨‹_›, by assumption, rfl⟩))⟩
    · split at h
      · exact Or.inl ⟨_, h, Or.inr (Or.inr (Or.inl ⟨Or.inr ‹_›, _, by assumption, rfl⟩))⟩
      · split at h
        · exact Or.inl ⟨_, h, Or.inr (Or.inr (Or.inl ⟨Or.inr ‹_›, _, by assumption, rfl⟩))⟩
        · split at h
          · exact Or.inl ⟨_, h, Or.inr (Or.inr (Or.inl ⟨Or.inr ‹_›, _, by assumption, rfl⟩))⟩
          · cases h
  · exact Or.inl ⟨_, h, Or.inl ⟨Or.inr ‹_›, rfl⟩⟩
  · exact Or.inr ⟨‹_›, h⟩
  · cases h
theorem tz_pf_inv {cm ini : Nat} {A : tz_Mem} {a ci f : Nat} {v : Value} {k : tz_Mem → tz_X} {Z : tz_RR} (h : tz_pf cm ini A a ci f v k = some Z) :
    (∃ x, v = .int x ∧ (tz_ft ci f = 0 ∨ (tz_ft ci f = 3 ∧ (x = 0 ∨ x = 1))) ∧ k (tz_s A a f x) = some Z) ∨ (∃ n, (v = .null ∧ n = 0 ∨ ∃ j, v = .ref j ∧ n = j + 1) ∧ (tz_ft ci f = 2 ∨ (tz_ft ci f = 1 ∧ cm = tz_E0 ∧ ini = ci + 1)) ∧ k (tz_sr A a f n) = some Z) := by
  unfold tz_pf at h
  split at h
  · exact Or.inl ⟨_, rfl, Or.inl ‹_›, h⟩
  · split at h
    · exact Or.inl ⟨_, rfl, Or.inr ⟨‹_›, by assumption⟩, h⟩
    · cases h
  · obtain ⟨h1, h2⟩ := tz_bf_inv h
    rw [Bool.and_eq_true] at h1
    exact Or.inr ⟨_, Or.inr ⟨_, rfl, rfl⟩, Or.inr ⟨‹_›, Nat.eq_of_beq_eq_true h1.1, Nat.eq_of_beq_eq_true h1.2⟩, h2⟩
  · exact Or.inr ⟨_, Or.inl ⟨rfl, rfl⟩, Or.inl ‹_›, h⟩
  · exact Or.inr ⟨_, Or.inr ⟨_, rfl, rfl⟩, Or.inl ‹_›, h⟩
  · cases h
theorem tz_ix_inv {A : tz_Mem} {kd a cm : Nat} {i : Int32} {o : tz_X} {Z : tz_RR} (h : tz_ix A kd a cm i o = some Z) : tz_kd a = kd ∧ tz_ok cm A a = true ∧ ¬ (i < 0 ∨ tz_ln A a ≤ i.toNatClampNeg) ∧ o = some Z := by
  obtain ⟨h1, h2⟩ := tz_bf_inv h
  rw [Bool.and_eq_true] at h1
  obtain ⟨h3, h4⟩ := tz_it_inv h2
  exact ⟨Nat.eq_of_beq_eq_true h1.1, h1.2, h3, h4⟩
theorem tz_cpy_inv {cm : Nat} {A : tz_Mem} {k1 k2 : Nat} {i1 i2 n : Int32} {f : tz_Mem → tz_X} {Z : tz_RR} (h : tz_cpy cm A k1 k2 i1 i2 n f = some Z) : tz_E0 ≤ k1 ∧ tz_E0 ≤ k2 ∧ tz_ok cm A k1 = true ∧ tz_ok cm A k2 = true ∧ ¬ (i1 < 0 ∨ i2 < 0 ∨ n < 0) ∧ ¬ (tz_ln A k1 < i1.toNatClampNeg + n.toNatClampNeg ∨ tz_ln A k2 < i2.toNatClampNeg + n.toNatClampNeg) ∧ ((tz_kd k1 = 100 ∧ tz_kd k2 = 100 ∧ f (tz_cp A k1 i1.toNatClampNeg k2 i2.toNatClampNeg n.toNatClampNeg) = some Z) ∨ (tz_kd k1 = 101 ∧ tz_kd k2 = 101 ∧ f (tz_cpl A k1 i1.toNatClampNeg k2 i2.toNatClampNeg n.toNatClampNeg) = some Z)) := by
  obtain ⟨h1, h2⟩ := tz_bf_inv h
  simp only [Bool.and_eq_true] at h1
  obtain ⟨⟨⟨a1, a2⟩, a3⟩, a4⟩ := h1
  obtain ⟨h3, h4⟩ := tz_it_inv h2
  refine ⟨Nat.le_of_ble_eq_true a1, Nat.le_of_ble_eq_true a2, a3, a4, fun q => h3 (Or.inl q), fun q => h3 (Or.inr q), ?_⟩
  rcases tz_bb_inv h4 with ⟨h5, h6⟩ | ⟨-, h6⟩
  · rw [Bool.and_eq_true] at h5
    exact Or.inl ⟨Nat.eq_of_beq_eq_true h5.1, Nat.eq_of_beq_eq_true h5.2, h6⟩
  · obtain ⟨h5, h6⟩ := tz_bf_inv h6
    rw [Bool.and_eq_true] at h5
    exact Or.inr ⟨Nat.eq_of_beq_eq_true h5.1, Nat.eq_of_beq_eq_true h5.2, h6⟩
theorem tz_bd_inv {rc : Nat} {o : tz_X} {f : List Value → tz_Mem → tz_X} {Z : tz_RR} (h : tz_bd rc o f = some Z) : ∃ r2 A1, o = some (r2, A1) ∧ f r2.toList A1 = some Z := by
  unfold tz_bd at h
  split at h
  · unfold tz_bV at h
    split at h
    · exact ⟨_, _, rfl, h⟩
    · cases h
  · unfold tz_bL at h
    split at h
    · exact ⟨_, _, rfl, h⟩
    · cases h
  · unfold tz_bR at h
    split at h
    · exact ⟨_, _, rfl, h⟩
    · cases h
  · unfold tz_bI at h
    split at h
    · exact ⟨_, _, rfl, h⟩
    · cases h
theorem tz_inv_inv {call : Nat → List Value → tz_Mem → tz_X} {m m2 : Nat} {as rest : List Value} {A : tz_Mem} {f : List Value → tz_Mem → tz_X} {Z : tz_RR} (h : tz_inv call m m2 as rest A f = some Z) : tz_rk m2 < tz_rk m ∧ tz_cat rest ≤ 8 ∧ (tz_lay as).length ≤ tz_ml m2 ∧ (tz_cm m2 = tz_cm m ∨ (tz_cm m2 = tz_N0 ∧ tz_con A)) ∧ ∃ r2 A1, call m2 as A = some (r2, A1) ∧ f (r2.toList ++ rest) A1 = some Z := by
  obtain ⟨h1, h2⟩ := tz_bf_inv h
  simp only [Bool.and_eq_true] at h1
  obtain ⟨⟨a1, a2⟩, a3⟩ := h1
  refine ⟨Nat.le_of_ble_eq_true a1, Nat.le_of_ble_eq_true a2, Nat.le_of_ble_eq_true a3, ?_⟩
  rcases tz_bb_inv h2 with ⟨h3, h4⟩ | ⟨-, h4⟩
  · exact ⟨Or.inl (Nat.eq_of_beq_eq_true h3).symm, tz_bd_inv h4⟩
  · obtain ⟨h5, h6⟩ := tz_bf_inv h4
    by_cases hc : tz_con A
    · rw [if_pos hc] at h6
      exact ⟨Or.inr ⟨Nat.eq_of_beq_eq_true h5, hc⟩, tz_bd_inv h6⟩
    · rw [if_neg hc] at h6
      cases h6
theorem tz_okr_inv {cm : Nat} {A : tz_Mem} {as : List Value} (hc : cm ≤ A.1) (h : tz_okr cm A as = true) : ∃ a t, as = .ref a :: t ∧ a < A.1 := by
  unfold tz_okr at h
  split at h
  · exact ⟨_, _, rfl, tz_ok_lt hc h⟩
  · cases h
