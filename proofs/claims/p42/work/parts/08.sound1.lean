/-! THE SMALL MACHINE IS TRUE OF THE REAL ONE: an instruction, a row -/
theorem tz_e0 {j : Nat} (h : j < 17) : j < tz_E0 := h
theorem tz_e17 {j : Nat} (h : tz_E0 ≤ j) : 17 ≤ j := h
theorem tz_cat_cv {G : tz_Gh} (hS : (tz_vS G).category = 1) (v : Value) : (tz_cv G v).category = v.category := by
  cases v <;> simp [tz_cv, Value.category]
  exact hS

theorem tz_i1_inv {st : List Value} {f : Int32 → List Value → tz_X} {Z : tz_RR} (h : tz_i1 st f = some Z) : ∃ (x : Int32) (t : List Value), st = .int x :: t ∧ f x t = some Z := by
  unfold tz_i1 at h
  split at h
  · exact ⟨_, _, rfl, h⟩
  · cases h
theorem tz_i2_inv {st : List Value} {f : Int32 → Int32 → List Value → tz_X} {Z : tz_RR} (h : tz_i2 st f = some Z) : ∃ (x : Int32) (y : Int32) (t : List Value), st = .int y :: .int x :: t ∧ f x y t = some Z := by
  unfold tz_i2 at h
  split at h
  · exact ⟨_, _, _, rfl, h⟩
  · cases h
theorem tz_l1_inv {st : List Value} {f : Int64 → List Value → tz_X} {Z : tz_RR} (h : tz_l1 st f = some Z) : ∃ (x : Int64) (t : List Value), st = .long x :: t ∧ f x t = some Z := by
  unfold tz_l1 at h
  split at h
  · exact ⟨_, _, rfl, h⟩
  · cases h
theorem tz_l2_inv {st : List Value} {f : Int64 → Int64 → List Value → tz_X} {Z : tz_RR} (h : tz_l2 st f = some Z) : ∃ (x : Int64) (y : Int64) (t : List Value), st = .long y :: .long x :: t ∧ f x y t = some Z := by
  unfold tz_l2 at h
  split at h
  · exact ⟨_, _, _, rfl, h⟩
  · cases h
theorem tz_lj_inv {st : List Value} {f : Int64 → Int32 → List Value → tz_X} {Z : tz_RR} (h : tz_lj st f = some Z) : ∃ (x : Int64) (y : Int32) (t : List Value), st = .int y :: .long x :: t ∧ f x y t = some Z := by
  unfold tz_lj at h
  split at h
  · exact ⟨_, _, _, rfl, h⟩
  · cases h
theorem tz_r1_inv {st : List Value} {f : Nat → List Value → tz_X} {Z : tz_RR} (h : tz_r1 st f = some Z) : ∃ (a : Nat) (t : List Value), st = .ref a :: t ∧ f a t = some Z := by
  unfold tz_r1 at h
  split at h
  · exact ⟨_, _, rfl, h⟩
  · cases h
theorem tz_ai_inv {st : List Value} {f : Nat → Int32 → List Value → tz_X} {Z : tz_RR} (h : tz_ai st f = some Z) : ∃ (a : Nat) (i : Int32) (t : List Value), st = .int i :: .ref a :: t ∧ f a i t = some Z := by
  unfold tz_ai at h
  split at h
  · exact ⟨_, _, _, rfl, h⟩
  · cases h
theorem tz_aii_inv {st : List Value} {f : Nat → Int32 → Int32 → List Value → tz_X} {Z : tz_RR} (h : tz_aii st f = some Z) : ∃ (a : Nat) (i : Int32) (x : Int32) (t : List Value), st = .int x :: .int i :: .ref a :: t ∧ f a i x t = some Z := by
  unfold tz_aii at h
  split at h
  · exact ⟨_, _, _, _, rfl, h⟩
  · cases h
theorem tz_ail_inv {st : List Value} {f : Nat → Int32 → Int64 → List Value → tz_X} {Z : tz_RR} (h : tz_ail st f = some Z) : ∃ (a : Nat) (i : Int32) (x : Int64) (t : List Value), st = .long x :: .int i :: .ref a :: t ∧ f a i x t = some Z := by
  unfold tz_ail at h
  split at h
  · exact ⟨_, _, _, _, rfl, h⟩
  · cases h
theorem tz_v1_inv {st : List Value} {f : Value → List Value → tz_X} {Z : tz_RR} (h : tz_v1 st f = some Z) : ∃ (v : Value) (t : List Value), st = v :: t ∧ f v t = some Z := by
  unfold tz_v1 at h
  split at h
  · exact ⟨_, _, rfl, h⟩
  · cases h
theorem tz_mI_inv {v : Value} {f : Int32 → tz_X} {Z : tz_RR} (h : tz_mI v f = some Z) : ∃ (x : Int32), v = .int x ∧ f x = some Z := by
  unfold tz_mI at h
  split at h
  · exact ⟨_, rfl, h⟩
  · cases h
theorem tz_mL_inv {v : Value} {f : Int64 → tz_X} {Z : tz_RR} (h : tz_mL v f = some Z) : ∃ (x : Int64), v = .long x ∧ f x = some Z := by
  unfold tz_mL at h
  split at h
  · exact ⟨_, rfl, h⟩
  · cases h
theorem tz_mR_inv {v : Value} {f : Nat → tz_X} {Z : tz_RR} (h : tz_mR v f = some Z) : ∃ (x : Nat), v = .ref x ∧ f x = some Z := by
  unfold tz_mR at h
  split at h
  · exact ⟨_, rfl, h⟩
  · cases h
theorem tz_m1_inv {o : Option Nat} {f : Nat → tz_X} {Z : tz_RR} (h : tz_m1 o f = some Z) : ∃ (x : Nat), o = some x ∧ f x = some Z := by
  unfold tz_m1 at h
  split at h
  · exact ⟨_, rfl, h⟩
  · cases h
theorem tz_m2_inv {o : Option (Nat × Nat)} {f : Nat → Nat → tz_X} {Z : tz_RR} (h : tz_m2 o f = some Z) : ∃ (x : Nat) (y : Nat), o = some (x, y) ∧ f x y = some Z := by
  unfold tz_m2 at h
  split at h
  · exact ⟨_, _, rfl, h⟩
  · cases h
theorem tz_a5_inv {q : List Value} {f : Nat → Nat → Int32 → Int32 → Int32 → tz_X} {Z : tz_RR} (h : tz_a5 q f = some Z) : ∃ (a : Nat) (b : Nat) (i : Int32) (j : Int32) (n : Int32), q = [.ref a, .int i, .ref b, .int j, .int n] ∧ f a b i j n = some Z := by
  unfold tz_a5 at h
  split at h
  · exact ⟨_, _, _, _, _, rfl, h⟩
  · cases h
theorem tz_a2_inv {q : List Value} {f : Int32 → Int32 → tz_X} {Z : tz_RR} (h : tz_a2 q f = some Z) : ∃ (x : Int32) (y : Int32), q = [.int x, .int y] ∧ f x y = some Z := by
  unfold tz_a2 at h
  split at h
  · exact ⟨_, _, rfl, h⟩
  · cases h
theorem tz_xI_inv {q : List Value} {f : Int32 → tz_X} {Z : tz_RR} (h : tz_xI q f = some Z) : ∃ (x : Int32), q = [.int x] ∧ f x = some Z := by
  unfold tz_xI at h
  split at h
  · exact ⟨_, rfl, h⟩
  · cases h
theorem tz_xL_inv {q : List Value} {f : Int64 → tz_X} {Z : tz_RR} (h : tz_xL q f = some Z) : ∃ (x : Int64), q = [.long x] ∧ f x = some Z := by
  unfold tz_xL at h
  split at h
  · exact ⟨_, rfl, h⟩
  · cases h
theorem tz_xR_inv {q : List Value} {f : Nat → tz_X} {Z : tz_RR} (h : tz_xR q f = some Z) : ∃ (x : Nat), q = [.ref x] ∧ f x = some Z := by
  unfold tz_xR at h
  split at h
  · exact ⟨_, rfl, h⟩
  · cases h
theorem tz_mC_inv {o : Option (Nat × Int)} {f0 : Int → tz_X} {f1 : Nat → tz_X} {f2 : Int → tz_X} {Z : tz_RR} (h : tz_mC o f0 f1 f2 = some Z) : (∃ n, o = some (0, n) ∧ f0 n = some Z) ∨ (∃ j : Nat, o = some (1, (j : Int)) ∧ f1 j = some Z) ∨ (∃ n, o = some (2, n) ∧ f2 n = some Z) := by
  unfold tz_mC at h
  split at h
  · exact Or.inl ⟨_, rfl, h⟩
  · exact Or.inr (Or.inl ⟨_, rfl, h⟩)
  · exact Or.inr (Or.inr ⟨_, rfl, h⟩)
  · cases h
theorem tz_ld_inv {L : tz_Lo} {i : Nat} {f : Value → tz_X} {Z : tz_RR} (h : tz_ld L i f = some Z) : ∃ v, L[i]? = some (some v) ∧ f v = some Z := by
  unfold tz_ld at h
  split at h
  · exact ⟨_, by assumption, h⟩
  · cases h
theorem tz_bf_inv {b : Bool} {x : tz_X} {Z : tz_RR} (h : (bif b then x else none) = some Z) : b = true ∧ x = some Z := by
  cases b
  · cases h
  · exact ⟨rfl, h⟩
theorem tz_it_inv {c : Prop} {d : Decidable c} {x : tz_X} {Z : tz_RR} (h : @ite _ c d none x = some Z) : ¬ c ∧ x = some Z := by
  by_cases hc : c
  · rw [if_pos hc] at h; cases h
  · rw [if_neg hc] at h; exact ⟨hc, h⟩
theorem tz_st2_inv {L : tz_Lo} {i : Nat} {v : Value} {f : tz_Lo → tz_X} {Z : tz_RR} (h : tz_st2 L i v f = some Z) : i + 1 < L.length ∧ (i = 0 ∨ tz_nl L (i - 1) = true) ∧ f ((L.set i (some v)).set (i + 1) none) = some Z := by
  obtain ⟨h1, h2⟩ := tz_bf_inv h
  simp only [Bool.and_eq_true, Bool.or_eq_true] at h1
  obtain ⟨a, d⟩ := h1
  exact ⟨Nat.le_of_ble_eq_true a, d.imp Nat.eq_of_beq_eq_true id, h2⟩
theorem tz_st_inv {L : tz_Lo} {i : Nat} {v : Value} {f : tz_Lo → tz_X} {Z : tz_RR} (h : tz_st L i v f = some Z) : i < L.length ∧ tz_nl L i = true ∧ (i = 0 ∨ tz_nl L (i - 1) = true) ∧ f (L.set i (some v)) = some Z := by
  obtain ⟨h1, h2⟩ := tz_bf_inv h
  simp only [Bool.and_eq_true, Bool.or_eq_true] at h1
  obtain ⟨⟨a, b⟩, d⟩ := h1
  exact ⟨Nat.le_of_ble_eq_true a, b, d.imp Nat.eq_of_beq_eq_true id, h2⟩
theorem tz_tgt_inv {pc : Nat} {off : Int} {f : Nat → tz_X} {Z : tz_RR} (h : tz_tgt pc off f = some Z) : ∃ t : Nat, (pc : Int) + off = (t : Int) ∧ f t = some Z := by
  unfold tz_tgt at h
  split at h
  · exact ⟨_, by assumption, h⟩
  · cases h
/-- the locals as the kit has them -/
def tz_prs (G : tz_Gh) (L : tz_Lo) : List (Nat × Value) := (List.range L.length).filterMap (fun i => match L[i]? with
  | some (some v) => some (i, tz_cv G v)
  | _ => none)
theorem tz_prs_in {G : tz_Gh} {L : tz_Lo} {i : Nat} {u : Value} : (i, u) ∈ tz_prs G L ↔ ∃ v, L[i]? = some (some v) ∧ u = tz_cv G v := by
  unfold tz_prs
  rw [List.mem_filterMap]
  constructor
  · rintro ⟨j, -, hj⟩
    split at hj
    · cases hj
      exact ⟨_, by assumption, rfl⟩
    · cases hj
  · rintro ⟨v, hv, rfl⟩
    refine ⟨i, List.mem_range.mpr (List.getElem?_eq_some_iff.mp hv).1, ?_⟩
    rw [hv]
theorem tz_has.to {G : tz_Gh} {ls : Array Slot} {n : Nat} {L : tz_Lo} (h : tz_has G ls n L) : lv_has ls n (tz_prs G L) := by
  refine ⟨h.1, h.2.2.1, fun q hq => ?_⟩
  obtain ⟨v, h1, h2⟩ := tz_prs_in.mp (show (q.1, q.2) ∈ _ from hq)
  rw [h2]
  exact h.2.2.2 _ _ h1
theorem tz_has.set {G : tz_Gh} {ls : Array Slot} {n i : Nat} {L : tz_Lo} {v : Value} (h0 : tz_has G ls n L) (hi : i < L.length) (h1 : tz_nl L i = true) (h2 : i = 0 ∨ tz_nl L (i - 1) = true) (hS : (tz_vS G).category = 1) {ls2 : Array Slot} (hl : lv_has ls2 n ((i, tz_cv G v) :: (tz_prs G L).filter (fun q => !(q.1 == i) && !(q.1 + 1 == i && q.2.category == 2)))) : tz_has G ls2 n (L.set i (some v)) := by
  refine ⟨hl.1, by rw [List.length_set]; exact h0.2.1, hl.2.1, fun j u hj => ?_⟩
  by_cases e : i = j
  · subst e
    rw [List.getElem?_set_self hi] at hj
    cases hj
    exact hl.2.2 (i, tz_cv G v) List.mem_cons_self
  · rw [List.getElem?_set_ne e] at hj
    refine hl.2.2 (j, tz_cv G u) (List.mem_cons_of_mem _ (List.mem_filter.mpr ⟨tz_prs_in.mpr ⟨u, hj, rfl⟩, ?_⟩))
    have e1 : (j == i) = false := by simp; omega
    simp only [e1, Bool.not_false, Bool.true_and, Bool.not_eq_true', Bool.and_eq_false_iff, beq_eq_false_iff_ne, ne_eq]
    by_cases e2 : j + 1 = i
    · right
      rcases h2 with h2 | h2
      · omega
      · rw [show i - 1 = j by omega] at h2
        unfold tz_nl at h2
        rw [hj] at h2
        rw [tz_cat_cv hS]
        cases u <;> simp_all [Value.category]
    · exact Or.inl e2
theorem tz_has.set2 {G : tz_Gh} {ls : Array Slot} {n i : Nat} {L : tz_Lo} {v : Value} (h0 : tz_has G ls n L) (hi : i + 1 < L.length) (h2 : i = 0 ∨ tz_nl L (i - 1) = true) (hS : (tz_vS G).category = 1) {ls2 : Array Slot} (hl : lv_has ls2 n ((i, tz_cv G v) :: (tz_prs G L).filter (fun q => !(q.1 == i) && (!(q.1 == i + 1) && !(q.1 + 1 == i && q.2.category == 2))))) : tz_has G ls2 n ((L.set i (some v)).set (i + 1) none) := by
  refine ⟨hl.1, by rw [List.length_set, List.length_set]; exact h0.2.1, hl.2.1, fun j u hj => ?_⟩
  by_cases e1 : i + 1 = j
  · subst e1
    rw [List.getElem?_set_self (by rw [List.length_set]; exact hi)] at hj
    cases hj
  rw [List.getElem?_set_ne e1] at hj
  by_cases e : i = j
  · subst e
    rw [List.getElem?_set_self (by omega)] at hj
    cases hj
    exact hl.2.2 (i, tz_cv G v) List.mem_cons_self
  · rw [List.getElem?_set_ne e] at hj
    refine hl.2.2 (j, tz_cv G u) (List.mem_cons_of_mem _ (List.mem_filter.mpr ⟨tz_prs_in.mpr ⟨u, hj, rfl⟩, ?_⟩))
    have e3 : (j == i) = false := by simp; omega
    have e4 : (j == i + 1) = false := by simp; omega
    simp only [e3, e4, Bool.not_false, Bool.true_and, Bool.not_eq_true', Bool.and_eq_false_iff, beq_eq_false_iff_ne, ne_eq]
    by_cases e2 : j + 1 = i
    · right
      rcases h2 with h2 | h2
      · omega
      · rw [show i - 1 = j by omega] at h2
        unfold tz_nl at h2
        rw [hj] at h2
        rw [tz_cat_cv hS]
        cases u <;> simp_all [Value.category]
    · exact Or.inl e2
theorem tz_has.mask {G : tz_Gh} {ls : Array Slot} {n mq : Nat} {L : tz_Lo} (h : tz_has G ls n L) : tz_has G ls n (tz_mk mq L) := by
  unfold tz_mk
  cases e : Nat.beq mq 0
  · refine ⟨h.1, by simp [h.2.1], h.2.2.1, fun i v hv => ?_⟩
    simp only [cond_false, List.getElem?_mapIdx] at hv
    cases hL : L[i]? with
    | none => rw [hL] at hv; cases hv
    | some w =>
      rw [hL] at hv
      simp only [Option.map_some, Option.some.injEq] at hv
      cases hb : Nat.testBit mq i with
      | false => rw [hb] at hv; cases hv
      | true =>
        rw [hb] at hv
        exact h.2.2.2 i v (by rw [hL]; exact congrArg some hv)
  · exact h

section TZS
variable {p : Program} {l : Launch} {e : Env} {R : Room} {s : State} {ma : MethodId} {args : Array Value} {below : List Frame} {meth : Method} {c : Code} {Q : State → Prop} {G : tz_Gh} {m a0 : Nat} {dd : Nat × Nat}
variable {pc : Nat} {L : tz_Lo} {r : List Value} {A : tz_Mem}

theorem tz_k_iadd (F : tz_Fr p l R s ma args meth c G m a0 dd) {x y : Int32} (hd : decode (tz_by m) pc = .ok (.iadd, 1)) (hk : tz_K p l e R s ma args below meth c Q G m a0 dd (pc + 1) L (.int (x + y) :: r) A) : tz_K p l e R s ma args below meth c Q G m a0 dd pc L (.int y :: .int x :: r) A := by
  intro H locs ls hSt
  exact lv_iadd F.1.1 F.1.2.1 hd (hk H locs ls hSt)
theorem tz_k_isub (F : tz_Fr p l R s ma args meth c G m a0 dd) {x y : Int32} (hd : decode (tz_by m) pc = .ok (.isub, 1)) (hk : tz_K p l e R s ma args below meth c Q G m a0 dd (pc + 1) L (.int (x - y) :: r) A) : tz_K p l e R s ma args below meth c Q G m a0 dd pc L (.int y :: .int x :: r) A := by
  intro H locs ls hSt
  exact lv_isub F.1.1 F.1.2.1 hd (hk H locs ls hSt)
theorem tz_k_imul (F : tz_Fr p l R s ma args meth c G m a0 dd) {x y : Int32} (hd : decode (tz_by m) pc = .ok (.imul, 1)) (hk : tz_K p l e R s ma args below meth c Q G m a0 dd (pc + 1) L (.int (x * y) :: r) A) : tz_K p l e R s ma args below meth c Q G m a0 dd pc L (.int y :: .int x :: r) A := by
  intro H locs ls hSt
  exact lv_imul F.1.1 F.1.2.1 hd (hk H locs ls hSt)
theorem tz_k_iand (F : tz_Fr p l R s ma args meth c G m a0 dd) {x y : Int32} (hd : decode (tz_by m) pc = .ok (.iand, 1)) (hk : tz_K p l e R s ma args below meth c Q G m a0 dd (pc + 1) L (.int (x &&& y) :: r) A) : tz_K p l e R s ma args below meth c Q G m a0 dd pc L (.int y :: .int x :: r) A := by
  intro H locs ls hSt
  exact lv_iand F.1.1 F.1.2.1 hd (hk H locs ls hSt)
theorem tz_k_ior (F : tz_Fr p l R s ma args meth c G m a0 dd) {x y : Int32} (hd : decode (tz_by m) pc = .ok (.ior, 1)) (hk : tz_K p l e R s ma args below meth c Q G m a0 dd (pc + 1) L (.int (x ||| y) :: r) A) : tz_K p l e R s ma args below meth c Q G m a0 dd pc L (.int y :: .int x :: r) A := by
  intro H locs ls hSt
  exact lv_ior F.1.1 F.1.2.1 hd (hk H locs ls hSt)
theorem tz_k_ixor (F : tz_Fr p l R s ma args meth c G m a0 dd) {x y : Int32} (hd : decode (tz_by m) pc = .ok (.ixor, 1)) (hk : tz_K p l e R s ma args below meth c Q G m a0 dd (pc + 1) L (.int (x ^^^ y) :: r) A) : tz_K p l e R s ma args below meth c Q G m a0 dd pc L (.int y :: .int x :: r) A := by
  intro H locs ls hSt
  exact lv_ixor F.1.1 F.1.2.1 hd (hk H locs ls hSt)
theorem tz_k_ishl (F : tz_Fr p l R s ma args meth c G m a0 dd) {x y : Int32} (hd : decode (tz_by m) pc = .ok (.ishl, 1)) (hk : tz_K p l e R s ma args below meth c Q G m a0 dd (pc + 1) L (.int (x <<< (y &&& 31)) :: r) A) : tz_K p l e R s ma args below meth c Q G m a0 dd pc L (.int y :: .int x :: r) A := by
  intro H locs ls hSt
  exact lv_ishl F.1.1 F.1.2.1 hd (hk H locs ls hSt)
theorem tz_k_ishr (F : tz_Fr p l R s ma args meth c G m a0 dd) {x y : Int32} (hd : decode (tz_by m) pc = .ok (.ishr, 1)) (hk : tz_K p l e R s ma args below meth c Q G m a0 dd (pc + 1) L (.int (x >>> (y &&& 31)) :: r) A) : tz_K p l e R s ma args below meth c Q G m a0 dd pc L (.int y :: .int x :: r) A := by
  intro H locs ls hSt
  exact lv_ishr F.1.1 F.1.2.1 hd (hk H locs ls hSt)
theorem tz_k_iushr (F : tz_Fr p l R s ma args meth c G m a0 dd) {x y : Int32} (hd : decode (tz_by m) pc = .ok (.iushr, 1)) (hk : tz_K p l e R s ma args below meth c Q G m a0 dd (pc + 1) L (.int ((x.toUInt32 >>> (y.toUInt32 &&& Int32.toUInt32 31)).toInt32) :: r) A) : tz_K p l e R s ma args below meth c Q G m a0 dd pc L (.int y :: .int x :: r) A := by
  intro H locs ls hSt
  exact lv_iushr F.1.1 F.1.2.1 hd rfl (hk H locs ls hSt)
theorem tz_k_idiv (F : tz_Fr p l R s ma args meth c G m a0 dd) {x y : Int32} (hn : ¬ y = 0) (hd : decode (tz_by m) pc = .ok (.idiv, 1)) (hk : tz_K p l e R s ma args below meth c Q G m a0 dd (pc + 1) L (.int (x / y) :: r) A) : tz_K p l e R s ma args below meth c Q G m a0 dd pc L (.int y :: .int x :: r) A := by
  intro H locs ls hSt
  exact lv_idiv F.1.1 F.1.2.1 hd hn (hk H locs ls hSt)
theorem tz_k_irem (F : tz_Fr p l R s ma args meth c G m a0 dd) {x y : Int32} (hn : ¬ y = 0) (hd : decode (tz_by m) pc = .ok (.irem, 1)) (hk : tz_K p l e R s ma args below meth c Q G m a0 dd (pc + 1) L (.int (x - x / y * y) :: r) A) : tz_K p l e R s ma args below meth c Q G m a0 dd pc L (.int y :: .int x :: r) A := by
  intro H locs ls hSt
  exact lv_irem F.1.1 F.1.2.1 hd hn (hk H locs ls hSt)
theorem tz_k_ineg (F : tz_Fr p l R s ma args meth c G m a0 dd) {x : Int32} (hd : decode (tz_by m) pc = .ok (.ineg, 1)) (hk : tz_K p l e R s ma args below meth c Q G m a0 dd (pc + 1) L (.int (-x) :: r) A) : tz_K p l e R s ma args below meth c Q G m a0 dd pc L (.int x :: r) A := by
  intro H locs ls hSt
  exact lv_ineg F.1.1 F.1.2.1 hd (hk H locs ls hSt)
theorem tz_k_ladd (F : tz_Fr p l R s ma args meth c G m a0 dd) {x y : Int64} (hd : decode (tz_by m) pc = .ok (.ladd, 1)) (hk : tz_K p l e R s ma args below meth c Q G m a0 dd (pc + 1) L (.long (x + y) :: r) A) : tz_K p l e R s ma args below meth c Q G m a0 dd pc L (.long y :: .long x :: r) A := by
  intro H locs ls hSt
  exact lv_ladd F.1.1 F.1.2.1 hd (hk H locs ls hSt)
theorem tz_k_land (F : tz_Fr p l R s ma args meth c G m a0 dd) {x y : Int64} (hd : decode (tz_by m) pc = .ok (.land, 1)) (hk : tz_K p l e R s ma args below meth c Q G m a0 dd (pc + 1) L (.long (x &&& y) :: r) A) : tz_K p l e R s ma args below meth c Q G m a0 dd pc L (.long y :: .long x :: r) A := by
  intro H locs ls hSt
  exact lv_land F.1.1 F.1.2.1 hd (hk H locs ls hSt)
theorem tz_k_lor (F : tz_Fr p l R s ma args meth c G m a0 dd) {x y : Int64} (hd : decode (tz_by m) pc = .ok (.lor, 1)) (hk : tz_K p l e R s ma args below meth c Q G m a0 dd (pc + 1) L (.long (x ||| y) :: r) A) : tz_K p l e R s ma args below meth c Q G m a0 dd pc L (.long y :: .long x :: r) A := by
  intro H locs ls hSt
  exact lv_lor F.1.1 F.1.2.1 hd (hk H locs ls hSt)
theorem tz_k_lshl (F : tz_Fr p l R s ma args meth c G m a0 dd) {x : Int64} {y : Int32} (hd : decode (tz_by m) pc = .ok (.lshl, 1)) (hk : tz_K p l e R s ma args below meth c Q G m a0 dd (pc + 1) L (.long (x <<< (y.toInt64 &&& 63)) :: r) A) : tz_K p l e R s ma args below meth c Q G m a0 dd pc L (.int y :: .long x :: r) A := by
  intro H locs ls hSt
  exact lv_lshl F.1.1 F.1.2.1 hd rfl (hk H locs ls hSt)
theorem tz_k_lcmp (F : tz_Fr p l R s ma args meth c G m a0 dd) {x y : Int64} (hd : decode (tz_by m) pc = .ok (.lcmp, 1)) (hk : tz_K p l e R s ma args below meth c Q G m a0 dd (pc + 1) L (.int (lg_cmp x y) :: r) A) : tz_K p l e R s ma args below meth c Q G m a0 dd pc L (.long y :: .long x :: r) A := by
  intro H locs ls hSt
  exact W.lcmp F.1.1 F.1.2.1 hd (hk H locs ls hSt)
theorem tz_k_i2l (F : tz_Fr p l R s ma args meth c G m a0 dd) {x : Int32} (hd : decode (tz_by m) pc = .ok (.i2l, 1)) (hk : tz_K p l e R s ma args below meth c Q G m a0 dd (pc + 1) L (.long x.toInt64 :: r) A) : tz_K p l e R s ma args below meth c Q G m a0 dd pc L (.int x :: r) A := by
  intro H locs ls hSt
  exact lv_i2l F.1.1 F.1.2.1 hd rfl (hk H locs ls hSt)
theorem tz_k_l2i (F : tz_Fr p l R s ma args meth c G m a0 dd) {x : Int64} (hd : decode (tz_by m) pc = .ok (.l2i, 1)) (hk : tz_K p l e R s ma args below meth c Q G m a0 dd (pc + 1) L (.int x.toInt32 :: r) A) : tz_K p l e R s ma args below meth c Q G m a0 dd pc L (.long x :: r) A := by
  intro H locs ls hSt
  exact lv_l2i F.1.1 F.1.2.1 hd rfl (hk H locs ls hSt)
theorem tz_k_i2b (F : tz_Fr p l R s ma args meth c G m a0 dd) {x : Int32} (hd : decode (tz_by m) pc = .ok (.i2b, 1)) (hk : tz_K p l e R s ma args below meth c Q G m a0 dd (pc + 1) L (.int x.toInt8.toInt32 :: r) A) : tz_K p l e R s ma args below meth c Q G m a0 dd pc L (.int x :: r) A := by
  intro H locs ls hSt
  exact lv_i2b F.1.1 F.1.2.1 hd rfl (hk H locs ls hSt)
theorem tz_k_i2s (F : tz_Fr p l R s ma args meth c G m a0 dd) {x : Int32} (hd : decode (tz_by m) pc = .ok (.i2s, 1)) (hk : tz_K p l e R s ma args below meth c Q G m a0 dd (pc + 1) L (.int x.toInt16.toInt32 :: r) A) : tz_K p l e R s ma args below meth c Q G m a0 dd pc L (.int x :: r) A := by
  intro H locs ls hSt
  exact lv_i2s F.1.1 F.1.2.1 hd rfl (hk H locs ls hSt)
theorem tz_k_i2c (F : tz_Fr p l R s ma args meth c G m a0 dd) {x : Int32} (hd : decode (tz_by m) pc = .ok (.i2c, 1)) (hk : tz_K p l e R s ma args below meth c Q G m a0 dd (pc + 1) L (.int (x.toUInt32 % 65536).toInt32 :: r) A) : tz_K p l e R s ma args below meth c Q G m a0 dd pc L (.int x :: r) A := by
  intro H locs ls hSt
  exact lv_i2c F.1.1 F.1.2.1 hd rfl (hk H locs ls hSt)
theorem tz_k_iconst (F : tz_Fr p l R s ma args meth c G m a0 dd) {n : Int} (hd : decode (tz_by m) pc = .ok (.iconst n, 1)) (hk : tz_K p l e R s ma args below meth c Q G m a0 dd (pc + 1) L (.int (Int32.ofInt n) :: r) A) : tz_K p l e R s ma args below meth c Q G m a0 dd pc L (r) A := by
  intro H locs ls hSt
  exact lv_iconst F.1.1 F.1.2.1 hd rfl (hk H locs ls hSt)
theorem tz_k_bipush (F : tz_Fr p l R s ma args meth c G m a0 dd) {n : Int} (hd : decode (tz_by m) pc = .ok (.bipush n, 2)) (hk : tz_K p l e R s ma args below meth c Q G m a0 dd (pc + 2) L (.int ((Int8.ofInt n).toInt32) :: r) A) : tz_K p l e R s ma args below meth c Q G m a0 dd pc L (r) A := by
  intro H locs ls hSt
  exact lv_bipush F.1.1 F.1.2.1 hd rfl (hk H locs ls hSt)
theorem tz_k_sipush (F : tz_Fr p l R s ma args meth c G m a0 dd) {n : Int} (hd : decode (tz_by m) pc = .ok (.sipush n, 3)) (hk : tz_K p l e R s ma args below meth c Q G m a0 dd (pc + 3) L (.int ((Int16.ofInt n).toInt32) :: r) A) : tz_K p l e R s ma args below meth c Q G m a0 dd pc L (r) A := by
  intro H locs ls hSt
  exact lv_sipush F.1.1 F.1.2.1 hd rfl (hk H locs ls hSt)
theorem tz_k_lconst (F : tz_Fr p l R s ma args meth c G m a0 dd) {n : Fin 2} (hd : decode (tz_by m) pc = .ok (.lconst n, 1)) (hk : tz_K p l e R s ma args below meth c Q G m a0 dd (pc + 1) L (.long (Int64.ofNat (n : Nat)) :: r) A) : tz_K p l e R s ma args below meth c Q G m a0 dd pc L (r) A := by
  intro H locs ls hSt
  exact lv_lconst F.1.1 F.1.2.1 hd rfl (hk H locs ls hSt)
theorem tz_k_null (F : tz_Fr p l R s ma args meth c G m a0 dd)  (hd : decode (tz_by m) pc = .ok (.aconst_null, 1)) (hk : tz_K p l e R s ma args below meth c Q G m a0 dd (pc + 1) L (.null :: r) A) : tz_K p l e R s ma args below meth c Q G m a0 dd pc L (r) A := by
  intro H locs ls hSt
  exact lv_null F.1.1 F.1.2.1 hd (hk H locs ls hSt)
theorem tz_k_dup (F : tz_Fr p l R s ma args meth c G m a0 dd) (hS : (tz_vS G).category = 1) {v : Value} (h1 : v.category = 1) (hd : decode (tz_by m) pc = .ok (.dup, 1)) (hk : tz_K p l e R s ma args below meth c Q G m a0 dd (pc + 1) L (v :: v :: r) A) : tz_K p l e R s ma args below meth c Q G m a0 dd pc L (v :: r) A := by
  intro H locs ls hSt
  exact lv_dup F.1.1 F.1.2.1 hd ((tz_cat_cv hS _).trans h1) (hk H locs ls hSt)
theorem tz_k_dup2b (F : tz_Fr p l R s ma args meth c G m a0 dd) (hS : (tz_vS G).category = 1) {v : Value} (h1 : v.category = 2) (hd : decode (tz_by m) pc = .ok (.dup2, 1)) (hk : tz_K p l e R s ma args below meth c Q G m a0 dd (pc + 1) L (v :: v :: r) A) : tz_K p l e R s ma args below meth c Q G m a0 dd pc L (v :: r) A := by
  intro H locs ls hSt
  exact lv_dup2_2 F.1.1 F.1.2.1 hd ((tz_cat_cv hS _).trans h1) (hk H locs ls hSt)
theorem tz_k_dup2a (F : tz_Fr p l R s ma args meth c G m a0 dd) (hS : (tz_vS G).category = 1) {v w : Value} (h1 : v.category = 1) (h2 : w.category = 1) (hd : decode (tz_by m) pc = .ok (.dup2, 1)) (hk : tz_K p l e R s ma args below meth c Q G m a0 dd (pc + 1) L (v :: w :: v :: w :: r) A) : tz_K p l e R s ma args below meth c Q G m a0 dd pc L (v :: w :: r) A := by
  intro H locs ls hSt
  exact lv_dup2_11 F.1.1 F.1.2.1 hd ((tz_cat_cv hS _).trans h1) ((tz_cat_cv hS _).trans h2) (hk H locs ls hSt)
theorem tz_k_dup_x1 (F : tz_Fr p l R s ma args meth c G m a0 dd) (hS : (tz_vS G).category = 1) {v w : Value} (h1 : v.category = 1) (h2 : w.category = 1) (hd : decode (tz_by m) pc = .ok (.dup_x1, 1)) (hk : tz_K p l e R s ma args below meth c Q G m a0 dd (pc + 1) L (v :: w :: v :: r) A) : tz_K p l e R s ma args below meth c Q G m a0 dd pc L (v :: w :: r) A := by
  intro H locs ls hSt
  exact lv_dup_x1 F.1.1 F.1.2.1 hd ((tz_cat_cv hS _).trans h1) ((tz_cat_cv hS _).trans h2) (hk H locs ls hSt)
theorem tz_k_dup_x2 (F : tz_Fr p l R s ma args meth c G m a0 dd) (hS : (tz_vS G).category = 1) {v w u : Value} (h1 : v.category = 1) (h2 : w.category = 1) (h3 : u.category = 1) (hd : decode (tz_by m) pc = .ok (.dup_x2, 1)) (hk : tz_K p l e R s ma args below meth c Q G m a0 dd (pc + 1) L (v :: w :: u :: v :: r) A) : tz_K p l e R s ma args below meth c Q G m a0 dd pc L (v :: w :: u :: r) A := by
  intro H locs ls hSt
  exact lv_dup_x2 F.1.1 F.1.2.1 hd ((tz_cat_cv hS _).trans h1) ((tz_cat_cv hS _).trans h2) ((tz_cat_cv hS _).trans h3) (hk H locs ls hSt)
theorem tz_k_pop (F : tz_Fr p l R s ma args meth c G m a0 dd) (hS : (tz_vS G).category = 1) {v : Value} (h1 : v.category = 1) (hd : decode (tz_by m) pc = .ok (.pop, 1)) (hk : tz_K p l e R s ma args below meth c Q G m a0 dd (pc + 1) L (r) A) : tz_K p l e R s ma args below meth c Q G m a0 dd pc L (v :: r) A := by
  intro H locs ls hSt
  exact lv_pop F.1.1 F.1.2.1 hd ((tz_cat_cv hS _).trans h1) (hk H locs ls hSt)
theorem tz_k_iload (F : tz_Fr p l R s ma args meth c G m a0 dd) {j : Nat} {x : Int32} (hl : L[j]? = some (some (.int x))) (hd : decode (tz_by m) pc = .ok (.iload j, 2)) (hk : tz_K p l e R s ma args below meth c Q G m a0 dd (pc + 2) L (.int x :: r) A) : tz_K p l e R s ma args below meth c Q G m a0 dd pc L (r) A := by
  intro H locs ls hSt
  exact lv_iload F.1.1 F.1.2.1 hd (hSt.2.2.2.2.2 _ _ hl) (hk H locs ls hSt)
theorem tz_k_iload_n (F : tz_Fr p l R s ma args meth c G m a0 dd) {j : Fin 4} {x : Int32} (hl : L[(j : Nat)]? = some (some (.int x))) (hd : decode (tz_by m) pc = .ok (.iload_n j, 1)) (hk : tz_K p l e R s ma args below meth c Q G m a0 dd (pc + 1) L (.int x :: r) A) : tz_K p l e R s ma args below meth c Q G m a0 dd pc L (r) A := by
  intro H locs ls hSt
  exact lv_iload_n F.1.1 F.1.2.1 hd rfl (hSt.2.2.2.2.2 _ _ hl) (hk H locs ls hSt)
theorem tz_k_lload_n (F : tz_Fr p l R s ma args meth c G m a0 dd) {j : Fin 4} {x : Int64} (hl : L[(j : Nat)]? = some (some (.long x))) (hd : decode (tz_by m) pc = .ok (.lload_n j, 1)) (hk : tz_K p l e R s ma args below meth c Q G m a0 dd (pc + 1) L (.long x :: r) A) : tz_K p l e R s ma args below meth c Q G m a0 dd pc L (r) A := by
  intro H locs ls hSt
  exact lv_lload_n F.1.1 F.1.2.1 hd rfl (hSt.2.2.2.2.2 _ _ hl) (hk H locs ls hSt)
theorem tz_k_aload (F : tz_Fr p l R s ma args meth c G m a0 dd) {j : Nat} {x : Nat} (hl : L[j]? = some (some (.ref x))) (hd : decode (tz_by m) pc = .ok (.aload j, 2)) (hk : tz_K p l e R s ma args below meth c Q G m a0 dd (pc + 2) L (.ref x :: r) A) : tz_K p l e R s ma args below meth c Q G m a0 dd pc L (r) A := by
  intro H locs ls hSt
  exact lv_aload F.1.1 F.1.2.1 hd (hSt.2.2.2.2.2 _ _ hl) (hk H locs ls hSt)
theorem tz_k_aload_n (F : tz_Fr p l R s ma args meth c G m a0 dd) {j : Fin 4} {x : Nat} (hl : L[(j : Nat)]? = some (some (.ref x))) (hd : decode (tz_by m) pc = .ok (.aload_n j, 1)) (hk : tz_K p l e R s ma args below meth c Q G m a0 dd (pc + 1) L (.ref x :: r) A) : tz_K p l e R s ma args below meth c Q G m a0 dd pc L (r) A := by
  intro H locs ls hSt
  exact lv_aload_n F.1.1 F.1.2.1 hd rfl (hSt.2.2.2.2.2 _ _ hl) (hk H locs ls hSt)
theorem tz_k_istore (F : tz_Fr p l R s ma args meth c G m a0 dd) (hS : (tz_vS G).category = 1) {j : Nat} {x : Int32} (hd : decode (tz_by m) pc = .ok (.istore j, 2)) (hi : j < L.length) (h1 : tz_nl L j = true) (h2 : j = 0 ∨ tz_nl L (j - 1) = true) (hk : tz_K p l e R s ma args below meth c Q G m a0 dd (pc + 2) (L.set j (some (.int x))) r A) : tz_K p l e R s ma args below meth c Q G m a0 dd pc L (.int x :: r) A := by
  intro H locs ls hSt
  refine lv_istore F.1.1 F.1.2.1 hd hSt.2.2.to (by have := hSt.2.2.2.1; omega) rfl (fun ls2 hl => ?_)
  exact hk H locs ls2 ⟨hSt.1, hSt.2.1, hSt.2.2.set (v := .int x) hi h1 h2 hS hl⟩
theorem tz_k_istore_n (F : tz_Fr p l R s ma args meth c G m a0 dd) (hS : (tz_vS G).category = 1) {j : Fin 4} {x : Int32} (hd : decode (tz_by m) pc = .ok (.istore_n j, 1)) (hi : (j : Nat) < L.length) (h1 : tz_nl L (j : Nat) = true) (h2 : (j : Nat) = 0 ∨ tz_nl L ((j : Nat) - 1) = true) (hk : tz_K p l e R s ma args below meth c Q G m a0 dd (pc + 1) (L.set (j : Nat) (some (.int x))) r A) : tz_K p l e R s ma args below meth c Q G m a0 dd pc L (.int x :: r) A := by
  intro H locs ls hSt
  refine lv_istore_n F.1.1 F.1.2.1 hd rfl hSt.2.2.to (by have := hSt.2.2.2.1; omega) rfl (fun ls2 hl => ?_)
  exact hk H locs ls2 ⟨hSt.1, hSt.2.1, hSt.2.2.set (v := .int x) hi h1 h2 hS hl⟩
theorem tz_k_astore (F : tz_Fr p l R s ma args meth c G m a0 dd) (hS : (tz_vS G).category = 1) {j : Nat} {x : Nat} (hd : decode (tz_by m) pc = .ok (.astore j, 2)) (hi : j < L.length) (h1 : tz_nl L j = true) (h2 : j = 0 ∨ tz_nl L (j - 1) = true) (hk : tz_K p l e R s ma args below meth c Q G m a0 dd (pc + 2) (L.set j (some (.ref x))) r A) : tz_K p l e R s ma args below meth c Q G m a0 dd pc L (.ref x :: r) A := by
  intro H locs ls hSt
  refine lv_astore F.1.1 F.1.2.1 hd hSt.2.2.to (by have := hSt.2.2.2.1; omega) rfl (fun ls2 hl => ?_)
  exact hk H locs ls2 ⟨hSt.1, hSt.2.1, hSt.2.2.set (v := .ref x) hi h1 h2 hS hl⟩
theorem tz_k_astore_n (F : tz_Fr p l R s ma args meth c G m a0 dd) (hS : (tz_vS G).category = 1) {j : Fin 4} {x : Nat} (hd : decode (tz_by m) pc = .ok (.astore_n j, 1)) (hi : (j : Nat) < L.length) (h1 : tz_nl L (j : Nat) = true) (h2 : (j : Nat) = 0 ∨ tz_nl L ((j : Nat) - 1) = true) (hk : tz_K p l e R s ma args below meth c Q G m a0 dd (pc + 1) (L.set (j : Nat) (some (.ref x))) r A) : tz_K p l e R s ma args below meth c Q G m a0 dd pc L (.ref x :: r) A := by
  intro H locs ls hSt
  refine lv_astore_n F.1.1 F.1.2.1 hd rfl hSt.2.2.to (by have := hSt.2.2.2.1; omega) rfl (fun ls2 hl => ?_)
  exact hk H locs ls2 ⟨hSt.1, hSt.2.1, hSt.2.2.set (v := .ref x) hi h1 h2 hS hl⟩
theorem tz_prs_pos {G : tz_Gh} {L : tz_Lo} {i : Nat} {v : Value} (h : L[i]? = some (some v)) : ∃ k : Nat, (tz_prs G L)[k]? = some (i, tz_cv G v) := List.getElem?_of_mem (tz_prs_in.mpr ⟨v, h, rfl⟩)
theorem tz_k_iinc (F : tz_Fr p l R s ma args meth c G m a0 dd) (hS : (tz_vS G).category = 1) {j : Nat} {n : Int} {x : Int32} (hd : decode (tz_by m) pc = .ok (.iinc j n, 3)) (hl : L[j]? = some (some (.int x))) (hi : j < L.length) (h1 : tz_nl L j = true) (h2 : j = 0 ∨ tz_nl L (j - 1) = true) (hk : tz_K p l e R s ma args below meth c Q G m a0 dd (pc + 3) (L.set j (some (.int (x + Int32.ofInt n)))) r A) : tz_K p l e R s ma args below meth c Q G m a0 dd pc L r A := by
  intro H locs ls hSt
  obtain ⟨k, hk0⟩ := tz_prs_pos (G := G) hl
  refine lv_iinc F.1.1 F.1.2.1 hd hSt.2.2.to (k := k) hk0 rfl (by have := hSt.2.2.2.1; omega) rfl (fun ls2 hl2 => ?_)
  exact hk H locs ls2 ⟨hSt.1, hSt.2.1, hSt.2.2.set (v := .int (x + Int32.ofInt n)) hi h1 h2 hS hl2⟩
theorem tz_k_if_eq (F : tz_Fr p l R s ma args meth c G m a0 dd) {x : Int32} {off : Int} {t : Nat} (hd : decode (tz_by m) pc = .ok (.ifCond .eq off, 3)) (ht : (pc : Int) + off = (t : Int)) (kt : x = 0 → tz_K p l e R s ma args below meth c Q G m a0 dd t L r A) (kf : ¬ x = 0 → tz_K p l e R s ma args below meth c Q G m a0 dd (pc + 3) L r A) : tz_K p l e R s ma args below meth c Q G m a0 dd pc L (.int x :: r) A := fun H locs ls hSt => lv_if_eq F.1.1 F.1.2.1 hd ht (fun h => kt h H locs ls hSt) (fun h => kf h H locs ls hSt)
theorem tz_k_ic_eq (F : tz_Fr p l R s ma args meth c G m a0 dd) {x y : Int32} {off : Int} {t : Nat} (hd : decode (tz_by m) pc = .ok (.if_icmp .eq off, 3)) (ht : (pc : Int) + off = (t : Int)) (kt : x = y → tz_K p l e R s ma args below meth c Q G m a0 dd t L r A) (kf : ¬ x = y → tz_K p l e R s ma args below meth c Q G m a0 dd (pc + 3) L r A) : tz_K p l e R s ma args below meth c Q G m a0 dd pc L (.int y :: .int x :: r) A := fun H locs ls hSt => lv_icmp_eq F.1.1 F.1.2.1 hd ht (fun h => kt h H locs ls hSt) (fun h => kf h H locs ls hSt)
theorem tz_k_if_ne (F : tz_Fr p l R s ma args meth c G m a0 dd) {x : Int32} {off : Int} {t : Nat} (hd : decode (tz_by m) pc = .ok (.ifCond .ne off, 3)) (ht : (pc : Int) + off = (t : Int)) (kt : ¬ x = 0 → tz_K p l e R s ma args below meth c Q G m a0 dd t L r A) (kf : x = 0 → tz_K p l e R s ma args below meth c Q G m a0 dd (pc + 3) L r A) : tz_K p l e R s ma args below meth c Q G m a0 dd pc L (.int x :: r) A := fun H locs ls hSt => lv_if_ne F.1.1 F.1.2.1 hd ht (fun h => kt h H locs ls hSt) (fun h => kf h H locs ls hSt)
theorem tz_k_ic_ne (F : tz_Fr p l R s ma args meth c G m a0 dd) {x y : Int32} {off : Int} {t : Nat} (hd : decode (tz_by m) pc = .ok (.if_icmp .ne off, 3)) (ht : (pc : Int) + off = (t : Int)) (kt : ¬ x = y → tz_K p l e R s ma args below meth c Q G m a0 dd t L r A) (kf : x = y → tz_K p l e R s ma args below meth c Q G m a0 dd (pc + 3) L r A) : tz_K p l e R s ma args below meth c Q G m a0 dd pc L (.int y :: .int x :: r) A := fun H locs ls hSt => lv_icmp_ne F.1.1 F.1.2.1 hd ht (fun h => kt h H locs ls hSt) (fun h => kf h H locs ls hSt)
theorem tz_k_if_lt (F : tz_Fr p l R s ma args meth c G m a0 dd) {x : Int32} {off : Int} {t : Nat} (hd : decode (tz_by m) pc = .ok (.ifCond .lt off, 3)) (ht : (pc : Int) + off = (t : Int)) (kt : x < 0 → tz_K p l e R s ma args below meth c Q G m a0 dd t L r A) (kf : ¬ x < 0 → tz_K p l e R s ma args below meth c Q G m a0 dd (pc + 3) L r A) : tz_K p l e R s ma args below meth c Q G m a0 dd pc L (.int x :: r) A := fun H locs ls hSt => lv_if_lt F.1.1 F.1.2.1 hd ht (fun h => kt h H locs ls hSt) (fun h => kf h H locs ls hSt)
theorem tz_k_ic_lt (F : tz_Fr p l R s ma args meth c G m a0 dd) {x y : Int32} {off : Int} {t : Nat} (hd : decode (tz_by m) pc = .ok (.if_icmp .lt off, 3)) (ht : (pc : Int) + off = (t : Int)) (kt : x < y → tz_K p l e R s ma args below meth c Q G m a0 dd t L r A) (kf : ¬ x < y → tz_K p l e R s ma args below meth c Q G m a0 dd (pc + 3) L r A) : tz_K p l e R s ma args below meth c Q G m a0 dd pc L (.int y :: .int x :: r) A := fun H locs ls hSt => lv_icmp_lt F.1.1 F.1.2.1 hd ht (fun h => kt h H locs ls hSt) (fun h => kf h H locs ls hSt)
theorem tz_k_if_ge (F : tz_Fr p l R s ma args meth c G m a0 dd) {x : Int32} {off : Int} {t : Nat} (hd : decode (tz_by m) pc = .ok (.ifCond .ge off, 3)) (ht : (pc : Int) + off = (t : Int)) (kt : 0 ≤ x → tz_K p l e R s ma args below meth c Q G m a0 dd t L r A) (kf : ¬ 0 ≤ x → tz_K p l e R s ma args below meth c Q G m a0 dd (pc + 3) L r A) : tz_K p l e R s ma args below meth c Q G m a0 dd pc L (.int x :: r) A := fun H locs ls hSt => lv_if_ge F.1.1 F.1.2.1 hd ht (fun h => kt h H locs ls hSt) (fun h => kf h H locs ls hSt)
theorem tz_k_ic_ge (F : tz_Fr p l R s ma args meth c G m a0 dd) {x y : Int32} {off : Int} {t : Nat} (hd : decode (tz_by m) pc = .ok (.if_icmp .ge off, 3)) (ht : (pc : Int) + off = (t : Int)) (kt : y ≤ x → tz_K p l e R s ma args below meth c Q G m a0 dd t L r A) (kf : ¬ y ≤ x → tz_K p l e R s ma args below meth c Q G m a0 dd (pc + 3) L r A) : tz_K p l e R s ma args below meth c Q G m a0 dd pc L (.int y :: .int x :: r) A := fun H locs ls hSt => lv_icmp_ge F.1.1 F.1.2.1 hd ht (fun h => kt h H locs ls hSt) (fun h => kf h H locs ls hSt)
theorem tz_k_if_gt (F : tz_Fr p l R s ma args meth c G m a0 dd) {x : Int32} {off : Int} {t : Nat} (hd : decode (tz_by m) pc = .ok (.ifCond .gt off, 3)) (ht : (pc : Int) + off = (t : Int)) (kt : 0 < x → tz_K p l e R s ma args below meth c Q G m a0 dd t L r A) (kf : ¬ 0 < x → tz_K p l e R s ma args below meth c Q G m a0 dd (pc + 3) L r A) : tz_K p l e R s ma args below meth c Q G m a0 dd pc L (.int x :: r) A := fun H locs ls hSt => lv_if_gt F.1.1 F.1.2.1 hd ht (fun h => kt h H locs ls hSt) (fun h => kf h H locs ls hSt)
theorem tz_k_ic_gt (F : tz_Fr p l R s ma args meth c G m a0 dd) {x y : Int32} {off : Int} {t : Nat} (hd : decode (tz_by m) pc = .ok (.if_icmp .gt off, 3)) (ht : (pc : Int) + off = (t : Int)) (kt : y < x → tz_K p l e R s ma args below meth c Q G m a0 dd t L r A) (kf : ¬ y < x → tz_K p l e R s ma args below meth c Q G m a0 dd (pc + 3) L r A) : tz_K p l e R s ma args below meth c Q G m a0 dd pc L (.int y :: .int x :: r) A := fun H locs ls hSt => lv_icmp_gt F.1.1 F.1.2.1 hd ht (fun h => kt h H locs ls hSt) (fun h => kf h H locs ls hSt)
theorem tz_k_if_le (F : tz_Fr p l R s ma args meth c G m a0 dd) {x : Int32} {off : Int} {t : Nat} (hd : decode (tz_by m) pc = .ok (.ifCond .le off, 3)) (ht : (pc : Int) + off = (t : Int)) (kt : x ≤ 0 → tz_K p l e R s ma args below meth c Q G m a0 dd t L r A) (kf : ¬ x ≤ 0 → tz_K p l e R s ma args below meth c Q G m a0 dd (pc + 3) L r A) : tz_K p l e R s ma args below meth c Q G m a0 dd pc L (.int x :: r) A := fun H locs ls hSt => lv_if_le F.1.1 F.1.2.1 hd ht (fun h => kt h H locs ls hSt) (fun h => kf h H locs ls hSt)
theorem tz_k_ic_le (F : tz_Fr p l R s ma args meth c G m a0 dd) {x y : Int32} {off : Int} {t : Nat} (hd : decode (tz_by m) pc = .ok (.if_icmp .le off, 3)) (ht : (pc : Int) + off = (t : Int)) (kt : x ≤ y → tz_K p l e R s ma args below meth c Q G m a0 dd t L r A) (kf : ¬ x ≤ y → tz_K p l e R s ma args below meth c Q G m a0 dd (pc + 3) L r A) : tz_K p l e R s ma args below meth c Q G m a0 dd pc L (.int y :: .int x :: r) A := fun H locs ls hSt => lv_icmp_le F.1.1 F.1.2.1 hd ht (fun h => kt h H locs ls hSt) (fun h => kf h H locs ls hSt)
theorem tz_k_goto (F : tz_Fr p l R s ma args meth c G m a0 dd) {off : Int} {t : Nat} (hd : decode (tz_by m) pc = .ok (.goto off, 3)) (ht : (pc : Int) + off = (t : Int)) (hk : tz_K p l e R s ma args below meth c Q G m a0 dd t L r A) : tz_K p l e R s ma args below meth c Q G m a0 dd pc L r A := fun H locs ls hSt => lv_goto F.1.1 F.1.2.1 hd ht (hk H locs ls hSt)
theorem tz_k_ifnullN (F : tz_Fr p l R s ma args meth c G m a0 dd) {off : Int} {t : Nat} (hd : decode (tz_by m) pc = .ok (.ifnull off, 3)) (ht : (pc : Int) + off = (t : Int)) (hk : tz_K p l e R s ma args below meth c Q G m a0 dd t L r A) : tz_K p l e R s ma args below meth c Q G m a0 dd pc L (.null :: r) A := fun H locs ls hSt => lv_ifnullN F.1.1 F.1.2.1 hd ht (hk H locs ls hSt)
theorem tz_k_ifnull (F : tz_Fr p l R s ma args meth c G m a0 dd) {off : Int} {x : Nat} (hd : decode (tz_by m) pc = .ok (.ifnull off, 3)) (hk : tz_K p l e R s ma args below meth c Q G m a0 dd (pc + 3) L r A) : tz_K p l e R s ma args below meth c Q G m a0 dd pc L (.ref x :: r) A := fun H locs ls hSt => lv_ifnull F.1.1 F.1.2.1 hd (hk H locs ls hSt)
theorem tz_k_tsIn (F : tz_Fr p l R s ma args meth c G m a0 dd) {d lo hi : Int} {offs : Array Int} {len : Nat} {x : Int32} {off : Int} {t : Nat} (hd : decode (tz_by m) pc = .ok (.tableswitch d lo hi offs, len)) (h1 : ¬ x.toInt < lo) (h2 : ¬ hi < x.toInt) (ho : offs[(x.toInt - lo).toNat]? = some off) (ht : (pc : Int) + off = (t : Int)) (hk : tz_K p l e R s ma args below meth c Q G m a0 dd t L r A) : tz_K p l e R s ma args below meth c Q G m a0 dd pc L (.int x :: r) A := fun H locs ls hSt => lv_tableIn F.1.1 F.1.2.1 hd h1 h2 ho ht (hk H locs ls hSt)
theorem tz_k_tsOut (F : tz_Fr p l R s ma args meth c G m a0 dd) {d lo hi : Int} {offs : Array Int} {len : Nat} {x : Int32} {t : Nat} (hd : decode (tz_by m) pc = .ok (.tableswitch d lo hi offs, len)) (h1 : x.toInt < lo ∨ hi < x.toInt) (ht : (pc : Int) + d = (t : Int)) (hk : tz_K p l e R s ma args below meth c Q G m a0 dd t L r A) : tz_K p l e R s ma args below meth c Q G m a0 dd pc L (.int x :: r) A := fun H locs ls hSt => lv_tableOut F.1.1 F.1.2.1 hd h1 ht (hk H locs ls hSt)
theorem tz_k_ls (F : tz_Fr p l R s ma args meth c G m a0 dd) {d : Int} {ps : Array (Int × Int)} {len : Nat} {x : Int32} {off : Int} {t : Nat} (hd : decode (tz_by m) pc = .ok (.lookupswitch d ps, len)) (hp : (ps.toList.zip (ps.toList.drop 1)).all (fun (a, next) => a.1 < next.1) = true) (ho : Op.lookupswitch.offset ps.toList d x.toInt = off) (ht : (pc : Int) + off = (t : Int)) (hk : tz_K p l e R s ma args below meth c Q G m a0 dd t L r A) : tz_K p l e R s ma args below meth c Q G m a0 dd pc L (.int x :: r) A := fun H locs ls hSt => lv_lookup F.1.1 F.1.2.1 hd hp ho ht (hk H locs ls hSt)
theorem tz_k_ldc (F : tz_Fr p l R s ma args meth c G m a0 dd) {idx : Nat} {v : Int32} (hw : tz_W (Cond.constant (tz_own (tz_pn m)) idx v)) (hd : decode (tz_by m) pc = .ok (.ldc idx, 2)) (hk : tz_K p l e R s ma args below meth c Q G m a0 dd (pc + 2) L (.int v :: r) A) : tz_K p l e R s ma args below meth c Q G m a0 dd pc L (r) A := by
  intro H locs ls hSt
  exact lv_ldc F.1.1 F.1.2.1 F.1.2.2.2 (F.2.1 _ (tz_in_WS hw)) hd (hk H locs ls hSt)
theorem tz_k_ldc_w (F : tz_Fr p l R s ma args meth c G m a0 dd) {idx : Nat} {v : Int32} (hw : tz_W (Cond.constant (tz_own (tz_pn m)) idx v)) (hd : decode (tz_by m) pc = .ok (.ldc_w idx, 3)) (hk : tz_K p l e R s ma args below meth c Q G m a0 dd (pc + 3) L (.int v :: r) A) : tz_K p l e R s ma args below meth c Q G m a0 dd pc L (r) A := by
  intro H locs ls hSt
  exact lv_ldcw F.1.1 F.1.2.1 F.1.2.2.2 (F.2.1 _ (tz_in_WS hw)) hd (hk H locs ls hSt)
theorem tz_k_ldc2 (F : tz_Fr p l R s ma args meth c G m a0 dd) {idx : Nat} {v : Int64} (hw : tz_W (Cond.constantLong (tz_own (tz_pn m)) idx v)) (hd : decode (tz_by m) pc = .ok (.ldc2_w idx, 3)) (hk : tz_K p l e R s ma args below meth c Q G m a0 dd (pc + 3) L (.long v :: r) A) : tz_K p l e R s ma args below meth c Q G m a0 dd pc L (r) A := by
  intro H locs ls hSt
  exact lv_ldc2 F.1.1 F.1.2.1 F.1.2.2.2 (F.2.1 _ (tz_in_WS hw)) hd (hk H locs ls hSt)
theorem tz_k_ldcS (F : tz_Fr p l R s ma args meth c G m a0 dd) {idx j : Nat} (hw : Cond.stringRef (tz_own (tz_pn m)) idx (tz_tx j) ∈ lw_tbl) (h1 : 5 ≤ j) (h2 : j < 10) (hd : decode (tz_by m) pc = .ok (.ldc idx, 2)) (hk : tz_K p l e R s ma args below meth c Q G m a0 dd (pc + 2) L (.ref j :: r) A) : tz_K p l e R s ma args below meth c Q G m a0 dd pc L (r) A := by
  intro H locs ls hSt
  exact va_ldcS F.1.1 F.1.2.1 F.1.2.2.2 (F.2.2.2.2.2.2.2.1 _ _ _ hw h1 h2) hd (by have k := hk H locs ls hSt; simp only [List.map_cons, tz_cv, tz_ad, if_pos (tz_e0 (show j < 17 by omega))] at k; exact k)
theorem tz_k_lsub (F : tz_Fr p l R s ma args meth c G m a0 dd) {x y : Int64} (hd : decode (tz_by m) pc = .ok (.lsub, 1)) (hk : tz_K p l e R s ma args below meth c Q G m a0 dd (pc + 1) L (.long (x - y) :: r) A) : tz_K p l e R s ma args below meth c Q G m a0 dd pc L (.long y :: .long x :: r) A := by
  intro H locs ls hSt
  exact lv_lsub F.1.1 F.1.2.1 hd (hk H locs ls hSt)
theorem tz_k_lmul (F : tz_Fr p l R s ma args meth c G m a0 dd) {x y : Int64} (hd : decode (tz_by m) pc = .ok (.lmul, 1)) (hk : tz_K p l e R s ma args below meth c Q G m a0 dd (pc + 1) L (.long (x * y) :: r) A) : tz_K p l e R s ma args below meth c Q G m a0 dd pc L (.long y :: .long x :: r) A := by
  intro H locs ls hSt
  exact lv_lmul F.1.1 F.1.2.1 hd (hk H locs ls hSt)
theorem tz_k_ldiv (F : tz_Fr p l R s ma args meth c G m a0 dd) {x y : Int64} (hn : ¬ y = 0) (hd : decode (tz_by m) pc = .ok (.ldiv, 1)) (hk : tz_K p l e R s ma args below meth c Q G m a0 dd (pc + 1) L (.long (x / y) :: r) A) : tz_K p l e R s ma args below meth c Q G m a0 dd pc L (.long y :: .long x :: r) A := by
  intro H locs ls hSt
  exact lv_ldiv F.1.1 F.1.2.1 hd hn (hk H locs ls hSt)
theorem tz_k_lrem (F : tz_Fr p l R s ma args meth c G m a0 dd) {x y : Int64} (hn : ¬ y = 0) (hd : decode (tz_by m) pc = .ok (.lrem, 1)) (hk : tz_K p l e R s ma args below meth c Q G m a0 dd (pc + 1) L (.long (x - x / y * y) :: r) A) : tz_K p l e R s ma args below meth c Q G m a0 dd pc L (.long y :: .long x :: r) A := by
  intro H locs ls hSt
  exact lv_lrem F.1.1 F.1.2.1 hd hn (hk H locs ls hSt)
theorem tz_k_lshr (F : tz_Fr p l R s ma args meth c G m a0 dd) {x : Int64} {y : Int32} (hd : decode (tz_by m) pc = .ok (.lshr, 1)) (hk : tz_K p l e R s ma args below meth c Q G m a0 dd (pc + 1) L (.long (x >>> (y.toInt64 &&& 63)) :: r) A) : tz_K p l e R s ma args below meth c Q G m a0 dd pc L (.int y :: .long x :: r) A := by
  intro H locs ls hSt
  exact lv_lshr F.1.1 F.1.2.1 hd rfl (hk H locs ls hSt)
theorem tz_k_lload (F : tz_Fr p l R s ma args meth c G m a0 dd) {j : Nat} {x : Int64} (hl : L[j]? = some (some (.long x))) (hd : decode (tz_by m) pc = .ok (.lload j, 2)) (hk : tz_K p l e R s ma args below meth c Q G m a0 dd (pc + 2) L (.long x :: r) A) : tz_K p l e R s ma args below meth c Q G m a0 dd pc L (r) A := by
  intro H locs ls hSt
  exact lv_lload F.1.1 F.1.2.1 hd (hSt.2.2.2.2.2 _ _ hl) (hk H locs ls hSt)
theorem tz_k_lstore (F : tz_Fr p l R s ma args meth c G m a0 dd) (hS : (tz_vS G).category = 1) {j : Nat} {x : Int64} (hd : decode (tz_by m) pc = .ok (.lstore j, 2)) (hi : j + 1 < L.length) (h2 : j = 0 ∨ tz_nl L (j - 1) = true) (hk : tz_K p l e R s ma args below meth c Q G m a0 dd (pc + 2) ((L.set j (some (.long x))).set (j + 1) none) r A) : tz_K p l e R s ma args below meth c Q G m a0 dd pc L (.long x :: r) A := by
  intro H locs ls hSt
  refine lv_lstore F.1.1 F.1.2.1 hd hSt.2.2.to (by have := hSt.2.2.2.1; omega) rfl (fun ls2 hl => ?_)
  exact hk H locs ls2 ⟨hSt.1, hSt.2.1, hSt.2.2.set2 (v := .long x) hi h2 hS hl⟩
theorem tz_k_lstore_n (F : tz_Fr p l R s ma args meth c G m a0 dd) (hS : (tz_vS G).category = 1) {j : Fin 4} {x : Int64} (hd : decode (tz_by m) pc = .ok (.lstore_n j, 1)) (hi : (j : Nat) + 1 < L.length) (h2 : (j : Nat) = 0 ∨ tz_nl L ((j : Nat) - 1) = true) (hk : tz_K p l e R s ma args below meth c Q G m a0 dd (pc + 1) ((L.set (j : Nat) (some (.long x))).set ((j : Nat) + 1) none) r A) : tz_K p l e R s ma args below meth c Q G m a0 dd pc L (.long x :: r) A := by
  intro H locs ls hSt
  refine lv_lstore_n F.1.1 F.1.2.1 hd rfl hSt.2.2.to (by have := hSt.2.2.2.1; omega) rfl (fun ls2 hl => ?_)
  exact hk H locs ls2 ⟨hSt.1, hSt.2.1, hSt.2.2.set2 (v := .long x) hi h2 hS hl⟩
end TZS
