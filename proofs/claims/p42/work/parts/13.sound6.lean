/-! the whole: by cases of the instruction -/
theorem tz_len_of {i : Instr} {n k : Nat} (h : tz_len i = 0 ∨ n = tz_len i) (e : tz_len i = k + 1) : n = k + 1 := by
  rcases h with h | h <;> omega
theorem tz_mth_ok {p k cc how m2 : Nat} (h : tz_mth p k cc = some (how, m2)) : tz_Pq p k cc (how, m2) := tz_mth_A _ _ _ _ h
theorem tz_Pq_lt {p k cc how m2 : Nat} (h : tz_Pq p k cc (how, m2)) (hh : how = 0 ∨ how = 1 ∨ how = 2 ∨ how = 3 ∨ how = 5) : m2 < 142 := by
  rcases h with ⟨-, -, -, h, -⟩ | ⟨-, -, -, -, h, -⟩ | ⟨-, -, -, -, h, -⟩ | ⟨-, -, -, -, h, -⟩ | ⟨-, -, -, -, -, -, h, -⟩ | ⟨h, -⟩ | ⟨h, -⟩ | ⟨h, -⟩
  all_goals first | exact h | (simp at h; omega)
theorem tz_xV_inv {q : List Value} {f : tz_X} {Z : tz_RR} (h : tz_xV q f = some Z) : q = [] ∧ f = some Z := by
  unfold tz_xV at h
  split at h
  · exact ⟨rfl, h⟩
  · cases h
theorem tz_retI_inv {rc : Nat} {x : Int32} {A A2 : tz_Mem} {rv : Option Value} (h : tz_retI rc x A = some (rv, A2)) : A = A2 ∧ rv = some (.int x) ∧ (rc = 1 ∨ rc = 4 ∨ rc = 5 ∨ rc = 6) ∧ narrow (tz_rty rc) (.int x) = .int x := by
  unfold tz_retI at h
  split at h
  · cases h
    exact ⟨rfl, rfl, by decide, rfl⟩
  · split at h
    · rename_i hx
      cases h
      exact ⟨rfl, rfl, by decide, by rcases hx with rfl | rfl <;> rfl⟩
    · cases h
  · split at h
    · rename_i hx
      cases h
      refine ⟨rfl, rfl, by decide, ?_⟩
      show Value.int ((x.toUInt32 % 65536).toInt32) = _
      rw [hx]
    · cases h
  · split at h
    · rename_i hx
      cases h
      refine ⟨rfl, rfl, by decide, ?_⟩
      show Value.int (x.toInt8.toInt32) = _
      rw [hx]
    · cases h
  · cases h
set_option maxHeartbeats 8000000 in
theorem tz_ins_sound {p : Program} {l : Launch} {e : Env} {R : Room} {s : State} {ma : MethodId} {args : Array Value} {below : List Frame} {meth : Method} {c : Code} {Q : State → Prop} {G : tz_Gh} {m a0 : Nat} {dd : Nat × Nat} (hM : tz_RowM l) (F : tz_Fr p l R s ma args meth c G m a0 dd) (hca : tz_cm m ≤ a0)
    {call : Nat → List Value → tz_Mem → tz_X} {k : Nat → tz_Lo → List Value → tz_Mem → tz_X} {rv : Option Value} {A2 : tz_Mem} (hrC : A2.1 - a0 + dd.1 ≤ R.cells) (hrS : tz_ss A2.1 - tz_ss a0 + dd.2 ≤ R.slots) (hX : tz_Xt p l e R s ma args below meth c Q G m a0 dd rv A2)
    (hk : ∀ pc2 L2 st2 A3, k pc2 L2 st2 A3 = some (rv, A2) → A3.1 ≤ A2.1 ∧ (a0 ≤ A3.1 → tz_K p l e R s ma args below meth c Q G m a0 dd pc2 L2 st2 A3))
    (hcall : ∀ m2 as A3 r2 A4, m2 < 142 → call m2 as A3 = some (r2, A4) → (tz_lay as).length ≤ tz_ml m2 → A3.1 ≤ A4.1 ∧ Met l (tz_y m2) (tz_wm m2) (tz_rm m2 (A4.1 - A3.1) (tz_ss A4.1 - tz_ss A3.1)) (tz_Pre (tz_cm m2) G as A3) (tz_Pst (tz_cm m2) G r2 A4) (A4.1 - A3.1) (tz_ss A4.1 - tz_ss A3.1) (tz_Ab G))
    {pc : Nat} {i : Instr} {np : Nat} (hd0 : ∃ n, decode (tz_by m) pc = .ok (i, n) ∧ np = pc + n ∧ (tz_len i = 0 ∨ n = tz_len i)) (L : tz_Lo) (st : List Value) (A : tz_Mem) (h : tz_ins call k m pc i np L st A = some (rv, A2)) :
    A.1 ≤ A2.1 ∧ (a0 ≤ A.1 → tz_K p l e R s ma args below meth c Q G m a0 dd pc L st A) := by
  obtain ⟨n, hd, hnp, hn⟩ := hd0
  have hS := F.2.2.2.2.1.2.2.2
  have hrp := tz_rk_pos m F.2.2.2.2.1.2.2.1
  cases i with
  | iadd =>
    obtain rfl : n = 1 := tz_len_of hn rfl
    subst hnp
    have g9 := tz_i2_inv h
    clear h
    obtain ⟨x, y, t, rfl, h⟩ := g9
    obtain ⟨h1, h2⟩ := hk _ _ _ _ h
    exact ⟨h1, fun ha => tz_k_iadd F hd (h2 ha)⟩
  | isub =>
    obtain rfl : n = 1 := tz_len_of hn rfl
    subst hnp
    have g9 := tz_i2_inv h
    clear h
    obtain ⟨x, y, t, rfl, h⟩ := g9
    obtain ⟨h1, h2⟩ := hk _ _ _ _ h
    exact ⟨h1, fun ha => tz_k_isub F hd (h2 ha)⟩
  | imul =>
    obtain rfl : n = 1 := tz_len_of hn rfl
    subst hnp
    have g9 := tz_i2_inv h
    clear h
    obtain ⟨x, y, t, rfl, h⟩ := g9
    obtain ⟨h1, h2⟩ := hk _ _ _ _ h
    exact ⟨h1, fun ha => tz_k_imul F hd (h2 ha)⟩
  | iand =>
    obtain rfl : n = 1 := tz_len_of hn rfl
    subst hnp
    have g9 := tz_i2_inv h
    clear h
    obtain ⟨x, y, t, rfl, h⟩ := g9
    obtain ⟨h1, h2⟩ := hk _ _ _ _ h
    exact ⟨h1, fun ha => tz_k_iand F hd (h2 ha)⟩
  | ior =>
    obtain rfl : n = 1 := tz_len_of hn rfl
    subst hnp
    have g9 := tz_i2_inv h
    clear h
    obtain ⟨x, y, t, rfl, h⟩ := g9
    obtain ⟨h1, h2⟩ := hk _ _ _ _ h
    exact ⟨h1, fun ha => tz_k_ior F hd (h2 ha)⟩
  | ixor =>
    obtain rfl : n = 1 := tz_len_of hn rfl
    subst hnp
    have g9 := tz_i2_inv h
    clear h
    obtain ⟨x, y, t, rfl, h⟩ := g9
    obtain ⟨h1, h2⟩ := hk _ _ _ _ h
    exact ⟨h1, fun ha => tz_k_ixor F hd (h2 ha)⟩
  | ishl =>
    obtain rfl : n = 1 := tz_len_of hn rfl
    subst hnp
    have g9 := tz_i2_inv h
    clear h
    obtain ⟨x, y, t, rfl, h⟩ := g9
    obtain ⟨h1, h2⟩ := hk _ _ _ _ h
    exact ⟨h1, fun ha => tz_k_ishl F hd (h2 ha)⟩
  | ishr =>
    obtain rfl : n = 1 := tz_len_of hn rfl
    subst hnp
    have g9 := tz_i2_inv h
    clear h
    obtain ⟨x, y, t, rfl, h⟩ := g9
    obtain ⟨h1, h2⟩ := hk _ _ _ _ h
    exact ⟨h1, fun ha => tz_k_ishr F hd (h2 ha)⟩
  | iushr =>
    obtain rfl : n = 1 := tz_len_of hn rfl
    subst hnp
    have g9 := tz_i2_inv h
    clear h
    obtain ⟨x, y, t, rfl, h⟩ := g9
    obtain ⟨h1, h2⟩ := hk _ _ _ _ h
    exact ⟨h1, fun ha => tz_k_iushr F hd (h2 ha)⟩
  | idiv =>
    obtain rfl : n = 1 := tz_len_of hn rfl
    subst hnp
    have g9 := tz_i2_inv h
    clear h
    obtain ⟨x, y, t, rfl, h⟩ := g9
    have g9 := tz_it_inv h
    clear h
    obtain ⟨h0, h⟩ := g9
    obtain ⟨h1, h2⟩ := hk _ _ _ _ h
    exact ⟨h1, fun ha => tz_k_idiv F h0 hd (h2 ha)⟩
  | irem =>
    obtain rfl : n = 1 := tz_len_of hn rfl
    subst hnp
    have g9 := tz_i2_inv h
    clear h
    obtain ⟨x, y, t, rfl, h⟩ := g9
    have g9 := tz_it_inv h
    clear h
    obtain ⟨h0, h⟩ := g9
    obtain ⟨h1, h2⟩ := hk _ _ _ _ h
    exact ⟨h1, fun ha => tz_k_irem F h0 hd (h2 ha)⟩
  | ineg =>
    obtain rfl : n = 1 := tz_len_of hn rfl
    subst hnp
    have g9 := tz_i1_inv h
    clear h
    obtain ⟨x, t, rfl, h⟩ := g9
    obtain ⟨h1, h2⟩ := hk _ _ _ _ h
    exact ⟨h1, fun ha => tz_k_ineg F hd (h2 ha)⟩
  | i2l =>
    obtain rfl : n = 1 := tz_len_of hn rfl
    subst hnp
    have g9 := tz_i1_inv h
    clear h
    obtain ⟨x, t, rfl, h⟩ := g9
    obtain ⟨h1, h2⟩ := hk _ _ _ _ h
    exact ⟨h1, fun ha => tz_k_i2l F hd (h2 ha)⟩
  | i2b =>
    obtain rfl : n = 1 := tz_len_of hn rfl
    subst hnp
    have g9 := tz_i1_inv h
    clear h
    obtain ⟨x, t, rfl, h⟩ := g9
    obtain ⟨h1, h2⟩ := hk _ _ _ _ h
    exact ⟨h1, fun ha => tz_k_i2b F hd (h2 ha)⟩
  | i2s =>
    obtain rfl : n = 1 := tz_len_of hn rfl
    subst hnp
    have g9 := tz_i1_inv h
    clear h
    obtain ⟨x, t, rfl, h⟩ := g9
    obtain ⟨h1, h2⟩ := hk _ _ _ _ h
    exact ⟨h1, fun ha => tz_k_i2s F hd (h2 ha)⟩
  | i2c =>
    obtain rfl : n = 1 := tz_len_of hn rfl
    subst hnp
    have g9 := tz_i1_inv h
    clear h
    obtain ⟨x, t, rfl, h⟩ := g9
    obtain ⟨h1, h2⟩ := hk _ _ _ _ h
    exact ⟨h1, fun ha => tz_k_i2c F hd (h2 ha)⟩
  | ladd =>
    obtain rfl : n = 1 := tz_len_of hn rfl
    subst hnp
    have g9 := tz_l2_inv h
    clear h
    obtain ⟨x, y, t, rfl, h⟩ := g9
    obtain ⟨h1, h2⟩ := hk _ _ _ _ h
    exact ⟨h1, fun ha => tz_k_ladd F hd (h2 ha)⟩
  | land =>
    obtain rfl : n = 1 := tz_len_of hn rfl
    subst hnp
    have g9 := tz_l2_inv h
    clear h
    obtain ⟨x, y, t, rfl, h⟩ := g9
    obtain ⟨h1, h2⟩ := hk _ _ _ _ h
    exact ⟨h1, fun ha => tz_k_land F hd (h2 ha)⟩
  | lor =>
    obtain rfl : n = 1 := tz_len_of hn rfl
    subst hnp
    have g9 := tz_l2_inv h
    clear h
    obtain ⟨x, y, t, rfl, h⟩ := g9
    obtain ⟨h1, h2⟩ := hk _ _ _ _ h
    exact ⟨h1, fun ha => tz_k_lor F hd (h2 ha)⟩
  | lcmp =>
    obtain rfl : n = 1 := tz_len_of hn rfl
    subst hnp
    have g9 := tz_l2_inv h
    clear h
    obtain ⟨x, y, t, rfl, h⟩ := g9
    obtain ⟨h1, h2⟩ := hk _ _ _ _ h
    exact ⟨h1, fun ha => tz_k_lcmp F hd (h2 ha)⟩
  | lshl =>
    obtain rfl : n = 1 := tz_len_of hn rfl
    subst hnp
    have g9 := tz_lj_inv h
    clear h
    obtain ⟨x, y, t, rfl, h⟩ := g9
    obtain ⟨h1, h2⟩ := hk _ _ _ _ h
    exact ⟨h1, fun ha => tz_k_lshl F hd (h2 ha)⟩
  | l2i =>
    obtain rfl : n = 1 := tz_len_of hn rfl
    subst hnp
    have g9 := tz_l1_inv h
    clear h
    obtain ⟨x, t, rfl, h⟩ := g9
    obtain ⟨h1, h2⟩ := hk _ _ _ _ h
    exact ⟨h1, fun ha => tz_k_l2i F hd (h2 ha)⟩
  | iconst v =>
    obtain rfl : n = 1 := tz_len_of hn rfl
    subst hnp
    obtain ⟨h1, h2⟩ := hk _ _ _ _ h
    exact ⟨h1, fun ha => tz_k_iconst F hd (h2 ha)⟩
  | bipush v =>
    obtain rfl : n = 2 := tz_len_of hn rfl
    subst hnp
    obtain ⟨h1, h2⟩ := hk _ _ _ _ h
    exact ⟨h1, fun ha => tz_k_bipush F hd (h2 ha)⟩
  | sipush v =>
    obtain rfl : n = 3 := tz_len_of hn rfl
    subst hnp
    obtain ⟨h1, h2⟩ := hk _ _ _ _ h
    exact ⟨h1, fun ha => tz_k_sipush F hd (h2 ha)⟩
  | lconst v =>
    obtain rfl : n = 1 := tz_len_of hn rfl
    subst hnp
    obtain ⟨h1, h2⟩ := hk _ _ _ _ h
    exact ⟨h1, fun ha => tz_k_lconst F hd (h2 ha)⟩
  | aconst_null =>
    obtain rfl : n = 1 := tz_len_of hn rfl
    subst hnp
    obtain ⟨h1, h2⟩ := hk _ _ _ _ h
    exact ⟨h1, fun ha => tz_k_null F hd (h2 ha)⟩
  | ldc idx =>
    obtain rfl : n = 2 := tz_len_of hn rfl
    subst hnp
    have g9 := tz_mC_inv h
    clear h
    rcases g9 with ⟨v, ho, h⟩ | ⟨j, ho, h⟩ | ⟨v, ho, h⟩
    · obtain ⟨h1, h2⟩ := hk _ _ _ _ h
      rcases tz_cst_A _ _ _ ho with ⟨-, w⟩ | ⟨q, -⟩ | ⟨q, -⟩
      · exact ⟨h1, fun ha => tz_k_ldc F w hd (h2 ha)⟩
      · exact absurd q (by simp)
      · exact absurd q (by simp)
    · obtain ⟨h1, h2⟩ := hk _ _ _ _ h
      rcases tz_cst_A _ _ _ ho with ⟨q, -⟩ | ⟨q, -⟩ | ⟨-, w1, w2, w3⟩
      · exact absurd q (by simp)
      · exact absurd q (by simp)
      · exact ⟨h1, fun ha => tz_k_ldcS F (j := j) w3 (by have : (5 : Int) ≤ (j : Int) := w1; omega) (by have : (j : Int) < 10 := w2; omega) hd (h2 ha)⟩
    · cases h
  | ldc_w idx =>
    obtain rfl : n = 3 := tz_len_of hn rfl
    subst hnp
    have g9 := tz_mC_inv h
    clear h
    rcases g9 with ⟨v, ho, h⟩ | ⟨j, ho, h⟩ | ⟨v, ho, h⟩
    · obtain ⟨h1, h2⟩ := hk _ _ _ _ h
      rcases tz_cst_A _ _ _ ho with ⟨-, w⟩ | ⟨q, -⟩ | ⟨q, -⟩
      · exact ⟨h1, fun ha => tz_k_ldc_w F w hd (h2 ha)⟩
      · exact absurd q (by simp)
      · exact absurd q (by simp)
    · cases h
    · cases h
  | ldc2_w idx =>
    obtain rfl : n = 3 := tz_len_of hn rfl
    subst hnp
    have g9 := tz_mC_inv h
    clear h
    rcases g9 with ⟨v, ho, h⟩ | ⟨j, ho, h⟩ | ⟨v, ho, h⟩
    · cases h
    · cases h
    · obtain ⟨h1, h2⟩ := hk _ _ _ _ h
      rcases tz_cst_A _ _ _ ho with ⟨q, -⟩ | ⟨-, w⟩ | ⟨q, -⟩
      · exact absurd q (by simp)
      · exact ⟨h1, fun ha => tz_k_ldc2 F w hd (h2 ha)⟩
      · exact absurd q (by simp)
  | iload j =>
    obtain rfl : n = 2 := tz_len_of hn rfl
    subst hnp
    have g9 := tz_ld_inv h
    clear h
    obtain ⟨v, hl, h⟩ := g9
    have g9 := tz_mI_inv h
    clear h
    obtain ⟨x, rfl, h⟩ := g9
    obtain ⟨h1, h2⟩ := hk _ _ _ _ h
    exact ⟨h1, fun ha => tz_k_iload F hl hd (h2 ha)⟩
  | iload_n j =>
    obtain rfl : n = 1 := tz_len_of hn rfl
    subst hnp
    have g9 := tz_ld_inv h
    clear h
    obtain ⟨v, hl, h⟩ := g9
    have g9 := tz_mI_inv h
    clear h
    obtain ⟨x, rfl, h⟩ := g9
    obtain ⟨h1, h2⟩ := hk _ _ _ _ h
    exact ⟨h1, fun ha => tz_k_iload_n F hl hd (h2 ha)⟩
  | lload_n j =>
    obtain rfl : n = 1 := tz_len_of hn rfl
    subst hnp
    have g9 := tz_ld_inv h
    clear h
    obtain ⟨v, hl, h⟩ := g9
    have g9 := tz_mL_inv h
    clear h
    obtain ⟨x, rfl, h⟩ := g9
    obtain ⟨h1, h2⟩ := hk _ _ _ _ h
    exact ⟨h1, fun ha => tz_k_lload_n F hl hd (h2 ha)⟩
  | aload j =>
    obtain rfl : n = 2 := tz_len_of hn rfl
    subst hnp
    have g9 := tz_ld_inv h
    clear h
    obtain ⟨v, hl, h⟩ := g9
    have g9 := tz_mR_inv h
    clear h
    obtain ⟨x, rfl, h⟩ := g9
    obtain ⟨h1, h2⟩ := hk _ _ _ _ h
    exact ⟨h1, fun ha => tz_k_aload F hl hd (h2 ha)⟩
  | aload_n j =>
    obtain rfl : n = 1 := tz_len_of hn rfl
    subst hnp
    have g9 := tz_ld_inv h
    clear h
    obtain ⟨v, hl, h⟩ := g9
    have g9 := tz_mR_inv h
    clear h
    obtain ⟨x, rfl, h⟩ := g9
    obtain ⟨h1, h2⟩ := hk _ _ _ _ h
    exact ⟨h1, fun ha => tz_k_aload_n F hl hd (h2 ha)⟩
  | istore j =>
    obtain rfl : n = 2 := tz_len_of hn rfl
    subst hnp
    have g9 := tz_i1_inv h
    clear h
    obtain ⟨x, t, rfl, h⟩ := g9
    have g9 := tz_st_inv h
    clear h
    obtain ⟨q1, q2, q3, h⟩ := g9
    obtain ⟨h1, h2⟩ := hk _ _ _ _ h
    exact ⟨h1, fun ha => tz_k_istore F hS hd q1 q2 q3 (h2 ha)⟩
  | istore_n j =>
    obtain rfl : n = 1 := tz_len_of hn rfl
    subst hnp
    have g9 := tz_i1_inv h
    clear h
    obtain ⟨x, t, rfl, h⟩ := g9
    have g9 := tz_st_inv h
    clear h
    obtain ⟨q1, q2, q3, h⟩ := g9
    obtain ⟨h1, h2⟩ := hk _ _ _ _ h
    exact ⟨h1, fun ha => tz_k_istore_n F hS hd q1 q2 q3 (h2 ha)⟩
  | astore j =>
    obtain rfl : n = 2 := tz_len_of hn rfl
    subst hnp
    have g9 := tz_r1_inv h
    clear h
    obtain ⟨x, t, rfl, h⟩ := g9
    have g9 := tz_st_inv h
    clear h
    obtain ⟨q1, q2, q3, h⟩ := g9
    obtain ⟨h1, h2⟩ := hk _ _ _ _ h
    exact ⟨h1, fun ha => tz_k_astore F hS hd q1 q2 q3 (h2 ha)⟩
  | astore_n j =>
    obtain rfl : n = 1 := tz_len_of hn rfl
    subst hnp
    have g9 := tz_r1_inv h
    clear h
    obtain ⟨x, t, rfl, h⟩ := g9
    have g9 := tz_st_inv h
    clear h
    obtain ⟨q1, q2, q3, h⟩ := g9
    obtain ⟨h1, h2⟩ := hk _ _ _ _ h
    exact ⟨h1, fun ha => tz_k_astore_n F hS hd q1 q2 q3 (h2 ha)⟩
  | iinc j v =>
    obtain rfl : n = 3 := tz_len_of hn rfl
    subst hnp
    have g9 := tz_ld_inv h
    clear h
    obtain ⟨v, hl, h⟩ := g9
    have g9 := tz_mI_inv h
    clear h
    obtain ⟨x, rfl, h⟩ := g9
    have g9 := tz_st_inv h
    clear h
    obtain ⟨q1, q2, q3, h⟩ := g9
    obtain ⟨h1, h2⟩ := hk _ _ _ _ h
    exact ⟨h1, fun ha => tz_k_iinc F hS hd hl q1 q2 q3 (h2 ha)⟩
  | dup =>
    obtain rfl : n = 1 := tz_len_of hn rfl
    subst hnp
    have g9 := tz_v1_inv h
    clear h
    obtain ⟨v, t, rfl, h⟩ := g9
    have g9 := tz_bf_inv h
    clear h
    obtain ⟨q1, h⟩ := g9
    obtain ⟨h1, h2⟩ := hk _ _ _ _ h
    exact ⟨h1, fun ha => tz_k_dup F hS (Nat.eq_of_beq_eq_true q1) hd (h2 ha)⟩
  | dup2 =>
    obtain rfl : n = 1 := tz_len_of hn rfl
    subst hnp
    have g9 := tz_v1_inv h
    clear h
    obtain ⟨v, t, rfl, h⟩ := g9
    have g9 := tz_bb_inv h
    clear h
    rcases g9 with ⟨q1, h⟩ | ⟨-, h⟩
    · obtain ⟨h1, h2⟩ := hk _ _ _ _ h
      exact ⟨h1, fun ha => tz_k_dup2b F hS (Nat.eq_of_beq_eq_true q1) hd (h2 ha)⟩
    · have g9 := tz_v1_inv h
      clear h
      obtain ⟨w, t2, rfl, h⟩ := g9
      have g9 := tz_bf_inv h
      clear h
      obtain ⟨q1, h⟩ := g9
      rw [Bool.and_eq_true] at q1
      obtain ⟨h1, h2⟩ := hk _ _ _ _ h
      exact ⟨h1, fun ha => tz_k_dup2a F hS (Nat.eq_of_beq_eq_true q1.2) (Nat.eq_of_beq_eq_true q1.1) hd (h2 ha)⟩
  | dup_x1 =>
    obtain rfl : n = 1 := tz_len_of hn rfl
    subst hnp
    have g9 := tz_v1_inv h
    clear h
    obtain ⟨v, t, rfl, h⟩ := g9
    have g9 := tz_v1_inv h
    clear h
    obtain ⟨w, t2, rfl, h⟩ := g9
    have g9 := tz_bf_inv h
    clear h
    obtain ⟨q1, h⟩ := g9
    rw [Bool.and_eq_true] at q1
    obtain ⟨h1, h2⟩ := hk _ _ _ _ h
    exact ⟨h1, fun ha => tz_k_dup_x1 F hS (Nat.eq_of_beq_eq_true q1.1) (Nat.eq_of_beq_eq_true q1.2) hd (h2 ha)⟩
  | dup_x2 =>
    obtain rfl : n = 1 := tz_len_of hn rfl
    subst hnp
    have g9 := tz_v1_inv h
    clear h
    obtain ⟨v, t, rfl, h⟩ := g9
    have g9 := tz_v1_inv h
    clear h
    obtain ⟨w, t2, rfl, h⟩ := g9
    have g9 := tz_v1_inv h
    clear h
    obtain ⟨u, t3, rfl, h⟩ := g9
    have g9 := tz_bf_inv h
    clear h
    obtain ⟨q1, h⟩ := g9
    rw [Bool.and_eq_true, Bool.and_eq_true] at q1
    obtain ⟨h1, h2⟩ := hk _ _ _ _ h
    exact ⟨h1, fun ha => tz_k_dup_x2 F hS (Nat.eq_of_beq_eq_true q1.1.1) (Nat.eq_of_beq_eq_true q1.1.2) (Nat.eq_of_beq_eq_true q1.2) hd (h2 ha)⟩
  | pop =>
    obtain rfl : n = 1 := tz_len_of hn rfl
    subst hnp
    have g9 := tz_v1_inv h
    clear h
    obtain ⟨v, t, rfl, h⟩ := g9
    have g9 := tz_bf_inv h
    clear h
    obtain ⟨q1, h⟩ := g9
    obtain ⟨h1, h2⟩ := hk _ _ _ _ h
    exact ⟨h1, fun ha => tz_k_pop F hS (Nat.eq_of_beq_eq_true q1) hd (h2 ha)⟩
  | ifCond cd off =>
    obtain rfl : n = 3 := tz_len_of hn rfl
    subst hnp
    have g9 := tz_i1_inv h
    clear h
    obtain ⟨x, t, rfl, h⟩ := g9
    have g9 := tz_tgt_inv h
    clear h
    obtain ⟨tg, ht, h⟩ := g9
    cases cd
    · dsimp only [tz_ic] at h
      split at h
      · rename_i hc
        obtain ⟨h1, h2⟩ := hk _ _ _ _ h
        exact ⟨h1, fun ha => tz_k_if_eq F hd ht (fun _ => h2 ha) (fun q => absurd hc (by first | exact q | exact fun z => z q))⟩
      · rename_i hc
        obtain ⟨h1, h2⟩ := hk _ _ _ _ h
        exact ⟨h1, fun ha => tz_k_if_eq F hd ht (fun q => absurd q hc) (fun _ => h2 ha)⟩
    · dsimp only [tz_ic] at h
      split at h
      · rename_i hc
        obtain ⟨h1, h2⟩ := hk _ _ _ _ h
        exact ⟨h1, fun ha => tz_k_if_ne F hd ht (fun _ => h2 ha) (fun q => absurd hc (by first | exact q | exact fun z => z q))⟩
      · rename_i hc
        obtain ⟨h1, h2⟩ := hk _ _ _ _ h
        exact ⟨h1, fun ha => tz_k_if_ne F hd ht (fun q => absurd q hc) (fun _ => h2 ha)⟩
    · dsimp only [tz_ic] at h
      split at h
      · rename_i hc
        obtain ⟨h1, h2⟩ := hk _ _ _ _ h
        exact ⟨h1, fun ha => tz_k_if_lt F hd ht (fun _ => h2 ha) (fun q => absurd hc (by first | exact q | exact fun z => z q))⟩
      · rename_i hc
        obtain ⟨h1, h2⟩ := hk _ _ _ _ h
        exact ⟨h1, fun ha => tz_k_if_lt F hd ht (fun q => absurd q hc) (fun _ => h2 ha)⟩
    · dsimp only [tz_ic] at h
      split at h
      · rename_i hc
        obtain ⟨h1, h2⟩ := hk _ _ _ _ h
        exact ⟨h1, fun ha => tz_k_if_ge F hd ht (fun _ => h2 ha) (fun q => absurd hc (by first | exact q | exact fun z => z q))⟩
      · rename_i hc
        obtain ⟨h1, h2⟩ := hk _ _ _ _ h
        exact ⟨h1, fun ha => tz_k_if_ge F hd ht (fun q => absurd q hc) (fun _ => h2 ha)⟩
    · dsimp only [tz_ic] at h
      split at h
      · rename_i hc
        obtain ⟨h1, h2⟩ := hk _ _ _ _ h
        exact ⟨h1, fun ha => tz_k_if_gt F hd ht (fun _ => h2 ha) (fun q => absurd hc (by first | exact q | exact fun z => z q))⟩
      · rename_i hc
        obtain ⟨h1, h2⟩ := hk _ _ _ _ h
        exact ⟨h1, fun ha => tz_k_if_gt F hd ht (fun q => absurd q hc) (fun _ => h2 ha)⟩
    · dsimp only [tz_ic] at h
      split at h
      · rename_i hc
        obtain ⟨h1, h2⟩ := hk _ _ _ _ h
        exact ⟨h1, fun ha => tz_k_if_le F hd ht (fun _ => h2 ha) (fun q => absurd hc (by first | exact q | exact fun z => z q))⟩
      · rename_i hc
        obtain ⟨h1, h2⟩ := hk _ _ _ _ h
        exact ⟨h1, fun ha => tz_k_if_le F hd ht (fun q => absurd q hc) (fun _ => h2 ha)⟩
  | if_icmp cd off =>
    obtain rfl : n = 3 := tz_len_of hn rfl
    subst hnp
    have g9 := tz_i2_inv h
    clear h
    obtain ⟨x, y, t, rfl, h⟩ := g9
    have g9 := tz_tgt_inv h
    clear h
    obtain ⟨tg, ht, h⟩ := g9
    cases cd
    · dsimp only [tz_ic] at h
      split at h
      · rename_i hc
        obtain ⟨h1, h2⟩ := hk _ _ _ _ h
        exact ⟨h1, fun ha => tz_k_ic_eq F hd ht (fun _ => h2 ha) (fun q => absurd hc (by first | exact q | exact fun z => z q))⟩
      · rename_i hc
        obtain ⟨h1, h2⟩ := hk _ _ _ _ h
        exact ⟨h1, fun ha => tz_k_ic_eq F hd ht (fun q => absurd q hc) (fun _ => h2 ha)⟩
    · dsimp only [tz_ic] at h
      split at h
      · rename_i hc
        obtain ⟨h1, h2⟩ := hk _ _ _ _ h
        exact ⟨h1, fun ha => tz_k_ic_ne F hd ht (fun _ => h2 ha) (fun q => absurd hc (by first | exact q | exact fun z => z q))⟩
      · rename_i hc
        obtain ⟨h1, h2⟩ := hk _ _ _ _ h
        exact ⟨h1, fun ha => tz_k_ic_ne F hd ht (fun q => absurd q hc) (fun _ => h2 ha)⟩
    · dsimp only [tz_ic] at h
      split at h
      · rename_i hc
        obtain ⟨h1, h2⟩ := hk _ _ _ _ h
        exact ⟨h1, fun ha => tz_k_ic_lt F hd ht (fun _ => h2 ha) (fun q => absurd hc (by first | exact q | exact fun z => z q))⟩
      · rename_i hc
        obtain ⟨h1, h2⟩ := hk _ _ _ _ h
        exact ⟨h1, fun ha => tz_k_ic_lt F hd ht (fun q => absurd q hc) (fun _ => h2 ha)⟩
    · dsimp only [tz_ic] at h
      split at h
      · rename_i hc
        obtain ⟨h1, h2⟩ := hk _ _ _ _ h
        exact ⟨h1, fun ha => tz_k_ic_ge F hd ht (fun _ => h2 ha) (fun q => absurd hc (by first | exact q | exact fun z => z q))⟩
      · rename_i hc
        obtain ⟨h1, h2⟩ := hk _ _ _ _ h
        exact ⟨h1, fun ha => tz_k_ic_ge F hd ht (fun q => absurd q hc) (fun _ => h2 ha)⟩
    · dsimp only [tz_ic] at h
      split at h
      · rename_i hc
        obtain ⟨h1, h2⟩ := hk _ _ _ _ h
        exact ⟨h1, fun ha => tz_k_ic_gt F hd ht (fun _ => h2 ha) (fun q => absurd hc (by first | exact q | exact fun z => z q))⟩
      · rename_i hc
        obtain ⟨h1, h2⟩ := hk _ _ _ _ h
        exact ⟨h1, fun ha => tz_k_ic_gt F hd ht (fun q => absurd q hc) (fun _ => h2 ha)⟩
    · dsimp only [tz_ic] at h
      split at h
      · rename_i hc
        obtain ⟨h1, h2⟩ := hk _ _ _ _ h
        exact ⟨h1, fun ha => tz_k_ic_le F hd ht (fun _ => h2 ha) (fun q => absurd hc (by first | exact q | exact fun z => z q))⟩
      · rename_i hc
        obtain ⟨h1, h2⟩ := hk _ _ _ _ h
        exact ⟨h1, fun ha => tz_k_ic_le F hd ht (fun q => absurd q hc) (fun _ => h2 ha)⟩
  | ifnull off =>
    obtain rfl : n = 3 := tz_len_of hn rfl
    subst hnp
    have g9 := tz_v1_inv h
    clear h
    obtain ⟨v, t, rfl, h⟩ := g9
    have g9 := tz_tgt_inv h
    clear h
    obtain ⟨tg, ht, h⟩ := g9
    unfold tz_mN at h
    split at h
    · obtain ⟨h1, h2⟩ := hk _ _ _ _ h
      exact ⟨h1, fun ha => tz_k_ifnullN F hd ht (h2 ha)⟩
    · obtain ⟨h1, h2⟩ := hk _ _ _ _ h
      exact ⟨h1, fun ha => tz_k_ifnull F hd (h2 ha)⟩
    · cases h
  | goto off =>
    obtain rfl : n = 3 := tz_len_of hn rfl
    subst hnp
    have g9 := tz_tgt_inv h
    clear h
    obtain ⟨tg, ht, h⟩ := g9
    obtain ⟨h1, h2⟩ := hk _ _ _ _ h
    exact ⟨h1, fun ha => tz_k_goto F hd ht (h2 ha)⟩
  | tableswitch d lo hi offs =>
    obtain ⟨x, t, rfl, h⟩ := tz_i1_inv h
    obtain ⟨q1, h⟩ := tz_bf_inv h
    simp only [Bool.and_eq_true, decide_eq_true_eq] at q1
    obtain ⟨⟨q1, q2⟩, q3⟩ := q1
    rcases tz_tsw_inv _ _ h (by omega) (by omega) with ⟨j, off, g1, g2, g3⟩ | ⟨g1, g3⟩
    · obtain ⟨tg, ht, h⟩ := tz_tgt_inv g3
      obtain ⟨h1, h2⟩ := hk _ _ _ _ h
      have hj : j < offs.toList.length := (List.getElem?_eq_some_iff.mp g1).1
      refine ⟨h1, fun ha => tz_k_tsIn F hd (by omega) (by omega) (off := off) ?_ ht (h2 ha)⟩
      rw [show (x.toInt - lo).toNat = j by omega, ← Array.getElem?_toList]
      exact g1
    · obtain ⟨tg, ht, h⟩ := tz_tgt_inv g3
      obtain ⟨h1, h2⟩ := hk _ _ _ _ h
      exact ⟨h1, fun ha => tz_k_tsOut F hd (by omega) ht (h2 ha)⟩
  | lookupswitch d ps =>
    obtain ⟨x, t, rfl, h⟩ := tz_i1_inv h
    obtain ⟨q1, h⟩ := tz_bf_inv h
    rw [Bool.and_eq_true] at q1
    obtain ⟨q1, q2⟩ := q1
    have g3 := tz_lsw_inv _ h (fun q hq => by
      have z := List.all_eq_true.mp q2 q hq
      simpa only [Bool.and_eq_true, decide_eq_true_eq] using z)
    obtain ⟨tg, ht, h⟩ := tz_tgt_inv g3
    obtain ⟨h1, h2⟩ := hk _ _ _ _ h
    exact ⟨h1, fun ha => tz_k_ls F hd q1 rfl ht (h2 ha)⟩
  | getfield idx =>
    obtain rfl : n = 3 := tz_len_of hn rfl
    subst hnp
    have g9 := tz_r1_inv h
    clear h
    obtain ⟨a, t, rfl, h⟩ := g9
    have g9 := tz_m2_inv h
    clear h
    obtain ⟨ci, f, ho, h⟩ := g9
    have g9 := tz_bf_inv h
    clear h
    obtain ⟨q1, h⟩ := g9
    rw [Bool.and_eq_true] at q1
    obtain ⟨w1, w2, w3⟩ := tz_fld_A _ _ _ ho
    have hkd : tz_kd a = ci := Nat.eq_of_beq_eq_true q1.1
    have hE9 : ci < 11 → tz_E0 ≤ a := fun h12 => by
      rcases Nat.lt_or_ge a tz_E0 with h9 | h9
      · exfalso
        have : ∀ a, a < tz_E0 → 11 ≤ tz_kd a := by decide +kernel
        have := this a h9
        omega
      · exact h9
    have g9 := tz_gf_inv h
    clear h
    rcases g9 with ⟨v, hv, hz⟩ | ⟨h4, h⟩
    · obtain ⟨h1, h2⟩ := hk _ _ _ _ hv
      refine ⟨h1, fun ha => ?_⟩
      have hlt := tz_ok_lt (Nat.le_trans hca ha) q1.2
      rcases w2 with w2 | w2
      · intro H locs ls hSt
        refine tz_k_getf F hd w1 w2 w3 hkd (hE9 w2) hlt ?_ (h2 ha) H locs ls hSt
        show tz_fv G A a ci f = tz_cv G v
        rcases hz with ⟨z1, rfl⟩ | ⟨z1, z2, rfl⟩ | ⟨z1, j, z2, rfl⟩ | ⟨z1, z2, rfl⟩
        · rw [tz_fv_int z1]; rfl
        · rw [tz_fv_ref (Or.inl z1)]
          have hc : tz_cm m = tz_N0 := by
            have : tz_cm m = tz_E0 ∨ tz_cm m = tz_N0 := (by decide +kernel : ∀ m, m < 143 → tz_cm m = tz_E0 ∨ tz_cm m = tz_N0) m F.2.2.2.2.1.2.2.1
            rcases this with q | q
            · exact absurd (hE9 w2) (by rw [q] at z2; omega)
            · exact q
          have z3 := (hSt.1.2.1 hc).2 a f (by rw [← hc]; exact z2) (hE9 w2) (by rw [hkd]; exact z1)
          have z4 : A.2.2.2 a f = tz_RT a f + 1 := z3
          rw [z4]; rfl
        · rw [tz_fv_ref (z1.imp And.left id), z2]; rfl
        · rw [tz_fv_ref (Or.inr z1), z2]; rfl
      · have w2 : ci = 103 := w2
        subst w2
        have hr : 5 ≤ a ∧ a < 10 := by
          have h7 : a < tz_N1 := by
            rcases Nat.lt_or_ge a tz_N1 with h9 | h9
            · exact h9
            · exfalso
              unfold tz_kd at hkd
              rw [tz_SH_hi h9] at hkd
              exact absurd hkd (by decide)
          have : ∀ a, a < tz_N1 → tz_kd a = 103 → 5 ≤ a ∧ a < 10 := by decide +kernel
          exact this a h7 hkd
        have hf : f = 0 ∨ f = 1 := by
          have : f < 2 := w3
          omega
        rcases hf with rfl | rfl
        · rcases hz with ⟨z1, -⟩ | ⟨-, z2, rfl⟩ | ⟨z1, j, z2, rfl⟩ | ⟨z1, -⟩
          · exact absurd z1 (by decide)
          · have hRT : tz_RT a 0 = a + 6 := (by decide +kernel : ∀ a, a < tz_E0 → tz_RT a 0 = a + 6) a (Nat.lt_trans hr.2 (by decide))
            rw [hRT] at h2
            exact tz_k_getv F hd w1 hr.1 hr.2 (h2 ha)
          · exfalso
            have : tz_cm m = tz_E0 ∨ tz_cm m = tz_N0 := (by decide +kernel : ∀ m, m < 143 → tz_cm m = tz_E0 ∨ tz_cm m = tz_N0) m F.2.2.2.2.1.2.2.1
            rcases z1 with ⟨-, z1⟩ | z1
            · have z3 : 17 ≤ tz_cm m := by rcases this with q | q <;> rw [q] <;> decide
              omega
            · exact absurd z1 (by decide)
          · exact absurd z1 (by decide)
        · rcases hz with ⟨z1, -⟩ | ⟨z1, -⟩ | ⟨z1, -⟩ | ⟨z1, -⟩
          · exact absurd z1 (by decide)
          · exact absurd z1 (by decide)
          · rcases z1 with ⟨z1, -⟩ | z1 <;> exact absurd z1 (by decide)
          · exact absurd z1 (by decide)
    · obtain ⟨h1, h2⟩ := hk _ _ _ _ h
      refine ⟨h1, fun ha => ?_⟩
      rcases w2 with w2 | w2
      · exact absurd (tz_fi_ok ci w2 f w3).2 (by omega)
      · have w2 : ci = 103 := w2
        subst w2
        have hr : 5 ≤ a ∧ a < 10 := by
          have h7 : a < tz_N1 := by
            rcases Nat.lt_or_ge a tz_N1 with h9 | h9
            · exact h9
            · exfalso
              unfold tz_kd at hkd
              rw [tz_SH_hi h9] at hkd
              exact absurd hkd (by decide)
          have : ∀ a, a < tz_N1 → tz_kd a = 103 → 5 ≤ a ∧ a < 10 := by decide +kernel
          exact this a h7 hkd
        have hf : f = 0 ∨ f = 1 := by
          have : f < 2 := w3
          omega
        rcases hf with rfl | rfl
        · exact absurd h4 (by decide)
        · exact tz_k_getc F hd w1 hr.1 hr.2 (h2 ha)
  | putfield idx =>
    obtain rfl : n = 3 := tz_len_of hn rfl
    subst hnp
    have g9 := tz_v1_inv h
    clear h
    obtain ⟨v, t2, rfl, h⟩ := g9
    have g9 := tz_r1_inv h
    clear h
    obtain ⟨a, t, rfl, h⟩ := g9
    have g9 := tz_m2_inv h
    clear h
    obtain ⟨ci, f, ho, h⟩ := g9
    have g9 := tz_bf_inv h
    clear h
    obtain ⟨q1, h⟩ := g9
    simp only [Bool.and_eq_true] at q1
    obtain ⟨⟨⟨q1, q2⟩, q3⟩, q4⟩ := q1
    obtain ⟨w1, w2, w3⟩ := tz_fld_A _ _ _ ho
    have hkd : tz_kd a = ci := Nat.eq_of_beq_eq_true q1
    have hc9 : ci < 100 := Nat.le_of_ble_eq_true q3
    have hci : ci < 11 := by
      rcases w2 with w2 | w2
      · exact w2
      · have w2 : ci = 103 := w2
        omega
    have hE : tz_E0 ≤ a := Nat.le_of_ble_eq_true q4
    have g9 := tz_pf_inv h
    clear h
    rcases g9 with ⟨x, rfl, z1, h⟩ | ⟨n, z1, z2, h⟩
    · obtain ⟨h1, h2⟩ := hk _ _ _ _ h
      exact ⟨h1, fun ha => tz_k_puti F hd w1 hci w3 hkd hE (tz_ok_lt (Nat.le_trans hca ha) q2) z1 (h2 ha)⟩
    · obtain ⟨h1, h2⟩ := hk _ _ _ _ h
      refine ⟨h1, fun ha => tz_k_putr F hd w1 hci w3 hkd hE (tz_ok_lt (Nat.le_trans hca ha) q2) (n := n) ?_ z2 (h2 ha)⟩
      rcases z1 with ⟨rfl, rfl⟩ | ⟨j, rfl, rfl⟩ <;> rfl
  | getstatic idx =>
    obtain rfl : n = 3 := tz_len_of hn rfl
    subst hnp
    have g9 := tz_m2_inv h
    clear h
    obtain ⟨hh, j, ho, h⟩ := g9
    obtain ⟨w1, w2⟩ := tz_stt_A _ _ _ ho
    have hEX := F.2.2.2.2.2.1
    rcases w2 with w2 | w2
    all_goals
      obtain ⟨rfl, rfl⟩ := Prod.mk.inj w2
      obtain ⟨h1, h2⟩ := hk _ _ _ _ h
      refine ⟨h1, fun ha => tz_k_gets F hd w1 ?_ (h2 ha)⟩
      first | exact hEX.2.2.1 | exact hEX.2.2.2
  | iaload =>
    obtain rfl : n = 1 := tz_len_of hn rfl
    subst hnp
    have g9 := tz_ai_inv h
    clear h
    obtain ⟨a, i, t, rfl, h⟩ := g9
    have g9 := tz_ix_inv h
    clear h
    obtain ⟨q1, q2, q3, h⟩ := g9
    obtain ⟨h1, h2⟩ := hk _ _ _ _ h
    exact ⟨h1, fun ha => tz_k_iald F hd q1 (tz_ok_lt (Nat.le_trans hca ha) q2) q3 (h2 ha)⟩
  | iastore =>
    obtain rfl : n = 1 := tz_len_of hn rfl
    subst hnp
    have g9 := tz_aii_inv h
    clear h
    obtain ⟨a, i, x, t, rfl, h⟩ := g9
    have g9 := tz_bf_inv h
    clear h
    obtain ⟨q0, h⟩ := g9
    have g9 := tz_ix_inv h
    clear h
    obtain ⟨q1, q2, q3, h⟩ := g9
    obtain ⟨h1, h2⟩ := hk _ _ _ _ h
    exact ⟨h1, fun ha => tz_k_iast F hd q1 (Nat.le_of_ble_eq_true q0) (tz_ok_lt (Nat.le_trans hca ha) q2) q3 (h2 ha)⟩
  | laload =>
    obtain rfl : n = 1 := tz_len_of hn rfl
    subst hnp
    have g9 := tz_ai_inv h
    clear h
    obtain ⟨a, i, t, rfl, h⟩ := g9
    have g9 := tz_ix_inv h
    clear h
    obtain ⟨q1, q2, q3, h⟩ := g9
    have hE : tz_E0 ≤ a := by
      rcases Nat.lt_or_ge a tz_E0 with h9 | h9
      · exact absurd q1 ((by decide +kernel : ∀ a, a < tz_E0 → tz_kd a ≠ 101) a h9)
      · exact h9
    obtain ⟨h1, h2⟩ := hk _ _ _ _ h
    exact ⟨h1, fun ha => tz_k_lald F hd q1 hE (tz_ok_lt (Nat.le_trans hca ha) q2) q3 (h2 ha)⟩
  | lastore =>
    obtain rfl : n = 1 := tz_len_of hn rfl
    subst hnp
    have g9 := tz_ail_inv h
    clear h
    obtain ⟨a, i, x, t, rfl, h⟩ := g9
    have g9 := tz_ix_inv h
    clear h
    obtain ⟨q1, q2, q3, h⟩ := g9
    have hE : tz_E0 ≤ a := by
      rcases Nat.lt_or_ge a tz_E0 with h9 | h9
      · exact absurd q1 ((by decide +kernel : ∀ a, a < tz_E0 → tz_kd a ≠ 101) a h9)
      · exact h9
    obtain ⟨h1, h2⟩ := hk _ _ _ _ h
    exact ⟨h1, fun ha => tz_k_last F hd q1 hE (tz_ok_lt (Nat.le_trans hca ha) q2) q3 (h2 ha)⟩
  | aaload =>
    obtain rfl : n = 1 := tz_len_of hn rfl
    subst hnp
    have g9 := tz_ai_inv h
    clear h
    obtain ⟨a, i, t, rfl, h⟩ := g9
    have g9 := tz_ix_inv h
    clear h
    obtain ⟨q1, q2, q3, h⟩ := g9
    have hE : tz_E0 ≤ a := by
      rcases Nat.lt_or_ge a tz_E0 with h9 | h9
      · exact absurd q1 ((by decide +kernel : ∀ a, a < tz_E0 → tz_kd a ≠ 102) a h9)
      · exact h9
    obtain ⟨h1, h2⟩ := hk _ _ _ _ h
    exact ⟨h1, fun ha => tz_k_aald F hd q1 hE (tz_ok_lt (Nat.le_trans hca ha) q2) q3 (h2 ha)⟩
  | baload =>
    obtain rfl : n = 1 := tz_len_of hn rfl
    subst hnp
    have g9 := tz_ai_inv h
    clear h
    obtain ⟨a, i, t, rfl, h⟩ := g9
    have g9 := tz_ix_inv h
    clear h
    obtain ⟨q1, q2, q3, h⟩ := g9
    have hr : 11 ≤ a ∧ a < 16 := by
      have h7 : a < tz_N1 := by
        rcases Nat.lt_or_ge a tz_N1 with h9 | h9
        · exact h9
        · exfalso
          unfold tz_kd at q1
          rw [tz_SH_hi h9] at q1
          exact absurd q1 (by decide)
      have : ∀ a, a < tz_N1 → tz_kd a = 104 → 11 ≤ a ∧ a < 16 := by decide +kernel
      exact this a h7 q1
    obtain ⟨h1, h2⟩ := hk _ _ _ _ h
    exact ⟨h1, fun ha => tz_k_bald F hd hr.1 hr.2 q3 (h2 ha)⟩
  | arraylength =>
    obtain rfl : n = 1 := tz_len_of hn rfl
    subst hnp
    have g9 := tz_r1_inv h
    clear h
    obtain ⟨a, t, rfl, h⟩ := g9
    have g9 := tz_bf_inv h
    clear h
    obtain ⟨q1, h⟩ := g9
    simp only [Bool.and_eq_true] at q1
    obtain ⟨⟨q1, q2⟩, q3⟩ := q1
    obtain ⟨h1, h2⟩ := hk _ _ _ _ h
    exact ⟨h1, fun ha => tz_k_alen F hd (Nat.le_of_ble_eq_true q1) (fun z => by rw [z] at q2; exact absurd q2 (by decide)) (tz_ok_lt (Nat.le_trans hca ha) q3) (h2 ha)⟩
  | new idx =>
    obtain rfl : n = 3 := tz_len_of hn rfl
    subst hnp
    have g9 := tz_m1_inv h
    clear h
    obtain ⟨ci, ho, h⟩ := g9
    have g9 := tz_bf_inv h
    clear h
    obtain ⟨q1, h⟩ := g9
    rw [Bool.and_eq_true] at q1
    obtain ⟨w1, w2, w3, w4⟩ := tz_cls_A _ _ _ ho
    obtain ⟨h1, h2⟩ := hk _ _ _ _ h
    have h9 : A.1 + 1 ≤ A2.1 := h1
    refine ⟨by omega, fun ha => tz_k_new F ha hd w1 w2 w3 w4 (Nat.eq_of_beq_eq_true q1.1) (by omega) (by have := tz_ss_le h9; omega) (h2 (by show a0 ≤ A.1 + 1; omega))⟩
  | newarray ty =>
    obtain rfl : n = 2 := tz_len_of hn rfl
    subst hnp
    have g9 := tz_i1_inv h
    clear h
    obtain ⟨x, t, rfl, h⟩ := g9
    have g9 := tz_it_inv h
    clear h
    obtain ⟨q0, h⟩ := g9
    have g9 := tz_bf_inv h
    clear h
    obtain ⟨q1, h⟩ := g9
    simp only [Bool.and_eq_true] at q1
    obtain ⟨⟨q1, q2⟩, q3⟩ := q1
    unfold tz_mT at h
    split at h
    · have g9 := tz_bf_inv h
      clear h
      obtain ⟨q4, h⟩ := g9
      obtain ⟨h1, h2⟩ := hk _ _ _ _ h
      have h9 : A.1 + 1 ≤ A2.1 := h1
      exact ⟨by omega, fun ha => tz_k_newi F ha hd q0 (Nat.eq_of_beq_eq_true q1) (Nat.le_of_ble_eq_true q2) (Nat.eq_of_beq_eq_true q4) (by omega) (by have := tz_ss_le h9; omega) (h2 (by show a0 ≤ A.1 + 1; omega))⟩
    · have g9 := tz_bf_inv h
      clear h
      obtain ⟨q4, h⟩ := g9
      obtain ⟨h1, h2⟩ := hk _ _ _ _ h
      have h9 : A.1 + 1 ≤ A2.1 := h1
      exact ⟨by omega, fun ha => tz_k_newj F ha hd q0 (Nat.eq_of_beq_eq_true q1) (Nat.le_of_ble_eq_true q2) (Nat.eq_of_beq_eq_true q4) (by omega) (by have := tz_ss_le h9; omega) (h2 (by show a0 ≤ A.1 + 1; omega))⟩
    · cases h
  | multianewarray idx dm =>
    obtain rfl : n = 4 := tz_len_of hn rfl
    subst hnp
    have g9 := tz_i2_inv h
    clear h
    obtain ⟨x, y, t, rfl, h⟩ := g9
    have g9 := tz_it_inv h
    clear h
    obtain ⟨q0, h⟩ := g9
    have g9 := tz_bf_inv h
    clear h
    obtain ⟨q1, h⟩ := g9
    simp only [Bool.and_eq_true] at q1
    obtain ⟨⟨⟨⟨⟨⟨⟨q1, q2⟩, q3⟩, q4⟩, q5⟩, q6⟩, q7⟩, q8⟩ := q1
    obtain rfl : dm = 2 := Nat.eq_of_beq_eq_true q1
    unfold tz_mul at q2
    rw [Bool.and_eq_true] at q2
    obtain rfl : idx = 18 := Nat.eq_of_beq_eq_true q2.2
    have hown : tz_own (tz_pn m) = "ThunderIsThePost$Shelves" := by rw [Nat.eq_of_beq_eq_true q2.1]; decide +kernel
    have hin : ∀ i, i < x.toNatClampNeg → tz_kd (A.1 + 1 + i) = 101 ∧ (tz_SH (A.1 + 1 + i)).2 = y.toNatClampNeg := fun i hi => by
      have z := List.all_eq_true.mp q7 i (List.mem_range.mpr hi)
      rw [Bool.and_eq_true] at z
      exact ⟨Nat.eq_of_beq_eq_true z.1, Nat.eq_of_beq_eq_true z.2⟩
    obtain ⟨h1, h2⟩ := hk _ _ _ _ h
    have h9 : A.1 + (1 + x.toNatClampNeg) ≤ A2.1 := h1
    exact ⟨by omega, fun ha => tz_k_multi hM F ha hown hd (fun z => q0 (Or.inl z)) (fun z => q0 (Or.inr z)) (Nat.eq_of_beq_eq_true q4) (Nat.le_of_ble_eq_true q5) (Nat.le_of_ble_eq_true q6) (Nat.eq_of_beq_eq_true q3) hin (by omega) (by have := tz_ss_le h9; omega) (h2 (by show a0 ≤ A.1 + (1 + x.toNatClampNeg); omega))⟩
  | invokevirtual idx =>
    obtain rfl : n = 3 := tz_len_of hn rfl
    subst hnp
    have g9 := tz_m1_inv h
    clear h
    obtain ⟨n, hnp, h⟩ := g9
    have g9 := tz_pop_inv h
    clear h
    obtain ⟨as, t, rfl, hal, h⟩ := g9
    have g9 := tz_m2_inv h
    clear h
    obtain ⟨hh, m2, ho, h⟩ := g9
    have g9 := tz_bf_inv h
    clear h
    obtain ⟨q1, h⟩ := g9
    rw [Bool.and_eq_true, Bool.or_eq_true] at q1
    have hh9 : hh = 1 ∨ hh = 5 := q1.1.imp Nat.eq_of_beq_eq_true Nat.eq_of_beq_eq_true
    have hq := tz_mth_ok ho
    have g9 := tz_inv_inv h
    clear h
    obtain ⟨hl1, hl2, hl3, hl4, r2, A1, hc1, h⟩ := g9
    have hm2 := tz_Pq_lt hq (by omega)
    obtain ⟨g1, g2⟩ := hcall _ _ _ _ _ hm2 hc1 hl3
    obtain ⟨h1, h2⟩ := hk _ _ _ _ h
    refine ⟨Nat.le_trans g1 h1, fun ha => tz_k_call F ha g1 hm2 hd (Or.inr (Or.inl ⟨rfl, hh9, hal, rfl⟩)) hq hnp (fun z => by omega) hl1 hl2 (Or.inr (tz_okr_inv (Nat.le_trans hca ha) q1.2)) hl4 (by omega) (by have := tz_ss_le h1; omega) g2 (h2 (Nat.le_trans ha g1))⟩
  | invokespecial idx =>
    obtain rfl : n = 3 := tz_len_of hn rfl
    subst hnp
    have g9 := tz_m1_inv h
    clear h
    obtain ⟨n, hnp, h⟩ := g9
    have g9 := tz_pop_inv h
    clear h
    obtain ⟨as, t, rfl, hal, h⟩ := g9
    have g9 := tz_m2_inv h
    clear h
    obtain ⟨hh, m2, ho, h⟩ := g9
    have hq := tz_mth_ok ho
    have g9 := tz_bb_inv h
    clear h
    rcases g9 with ⟨q1, h⟩ | ⟨-, h⟩
    · rw [Bool.and_eq_true, Bool.or_eq_true] at q1
      have hh9 : hh = 2 ∨ hh = 3 := q1.1.imp Nat.eq_of_beq_eq_true Nat.eq_of_beq_eq_true
      have g9 := tz_inv_inv h
      clear h
      obtain ⟨hl1, hl2, hl3, hl4, r2, A1, hc1, h⟩ := g9
      have hm2 := tz_Pq_lt hq (by omega)
      obtain ⟨g1, g2⟩ := hcall _ _ _ _ _ hm2 hc1 hl3
      obtain ⟨h1, h2⟩ := hk _ _ _ _ h
      refine ⟨Nat.le_trans g1 h1, fun ha => tz_k_call F ha g1 hm2 hd (Or.inr (Or.inr ⟨rfl, hh9, hal⟩)) hq hnp (fun z => by omega) hl1 hl2 (Or.inr (tz_okr_inv (Nat.le_trans hca ha) q1.2)) hl4 (by omega) (by have := tz_ss_le h1; omega) g2 (h2 (Nat.le_trans ha g1))⟩
    · have g9 := tz_bf_inv h
      clear h
      obtain ⟨q1, h⟩ := g9
      simp only [Bool.and_eq_true] at q1
      obtain ⟨⟨⟨q1, q2⟩, q3⟩, q4⟩ := q1
      obtain rfl : hh = 6 := Nat.eq_of_beq_eq_true q1
      obtain ⟨h1, h2⟩ := hk _ _ _ _ h
      rcases hq with ⟨z, _⟩ | ⟨z, _⟩ | ⟨z, _⟩ | ⟨z, _⟩ | ⟨z, _⟩ | ⟨-, w1, w2, w3, -⟩ | ⟨z, _⟩ | ⟨z, _⟩
      · exact absurd z (by simp)
      · exact absurd z (by simp)
      · exact absurd z (by simp)
      · exact absurd z (by simp)
      · exact absurd z (by simp)
      · refine ⟨h1, fun ha => ?_⟩
        obtain ⟨a, t9, rfl, -⟩ := tz_okr_inv (Nat.le_trans hca ha) q2
        have : t9 = [] := List.length_eq_zero_iff.mp (by have := Nat.eq_of_beq_eq_true q3; simpa using this)
        subst this
        exact tz_k_obj F hd w1 w2 w3 (Nat.le_of_ble_eq_true q4) (h2 ha)
      · exact absurd z (by simp)
      · exact absurd z (by simp)
  | invokestatic idx =>
    obtain rfl : n = 3 := tz_len_of hn rfl
    subst hnp
    have g9 := tz_m1_inv h
    clear h
    obtain ⟨n, hnp, h⟩ := g9
    have g9 := tz_pop_inv h
    clear h
    obtain ⟨as, t, rfl, hal, h⟩ := g9
    have g9 := tz_m2_inv h
    clear h
    obtain ⟨hh, m2, ho, h⟩ := g9
    have hq := tz_mth_ok ho
    have g9 := tz_bb_inv h
    clear h
    rcases g9 with ⟨q1, h⟩ | ⟨-, h⟩
    · obtain rfl : hh = 0 := Nat.eq_of_beq_eq_true q1
      have g9 := tz_inv_inv h
      clear h
      obtain ⟨hl1, hl2, hl3, hl4, r2, A1, hc1, h⟩ := g9
      have hm2 := tz_Pq_lt hq (by omega)
      obtain ⟨g1, g2⟩ := hcall _ _ _ _ _ hm2 hc1 hl3
      obtain ⟨h1, h2⟩ := hk _ _ _ _ h
      refine ⟨Nat.le_trans g1 h1, fun ha => tz_k_call F ha g1 hm2 hd (Or.inl ⟨rfl, rfl⟩) hq hnp (fun _ => hal) hl1 hl2 (Or.inl rfl) hl4 (by omega) (by have := tz_ss_le h1; omega) g2 (h2 (Nat.le_trans ha g1))⟩
    · have g9 := tz_bf_inv h
      clear h
      obtain ⟨q0, h⟩ := g9
      have hcat : ((t.map (tz_cv G)).map fun v => v.category).sum ≤ 8 := by rw [tz_cat_map hS]; exact Nat.le_of_ble_eq_true q0
      have g9 := tz_bb_inv h
      clear h
      rcases g9 with ⟨q1, h⟩ | ⟨-, h⟩
      · obtain rfl : hh = 7 := Nat.eq_of_beq_eq_true q1
        have g9 := tz_a5_inv h
        clear h
        obtain ⟨k1, k2, i1, i2, n9, rfl, h⟩ := g9
        have g9 := tz_cpy_inv h
        clear h
        obtain ⟨e1, e2, e3, e4, e5, e6, h⟩ := g9
        rcases hq with ⟨z, _⟩ | ⟨z, _⟩ | ⟨z, _⟩ | ⟨z, _⟩ | ⟨z, _⟩ | ⟨z, _⟩ | ⟨-, w1, w2, w3, w4, -⟩ | ⟨z, _⟩
        · exact absurd z (by simp)
        · exact absurd z (by simp)
        · exact absurd z (by simp)
        · exact absurd z (by simp)
        · exact absurd z (by simp)
        · exact absurd z (by simp)
        · rcases h with ⟨d1, d2, h⟩ | ⟨d1, d2, h⟩
          · obtain ⟨h1, h2⟩ := hk _ _ _ _ h
            exact ⟨h1, fun ha => tz_k_cpyi F hrp hd w1 w2 w3 w4 e1 e2 (tz_ok_lt (Nat.le_trans hca ha) e3) (tz_ok_lt (Nat.le_trans hca ha) e4) d1 d2 e5 e6 hcat (h2 ha)⟩
          · obtain ⟨h1, h2⟩ := hk _ _ _ _ h
            exact ⟨h1, fun ha => tz_k_cpyl F hrp hd w1 w2 w3 w4 e1 e2 (tz_ok_lt (Nat.le_trans hca ha) e3) (tz_ok_lt (Nat.le_trans hca ha) e4) d1 d2 e5 e6 hcat (h2 ha)⟩
        · exact absurd z (by simp)
      · have g9 := tz_bb_inv h
        clear h
        rcases g9 with ⟨q1, h⟩ | ⟨-, h⟩
        · obtain rfl : hh = 8 := Nat.eq_of_beq_eq_true q1
          have g9 := tz_a2_inv h
          clear h
          obtain ⟨x, y, rfl, h⟩ := g9
          obtain ⟨h1, h2⟩ := hk _ _ _ _ h
          rcases hq with ⟨z, _⟩ | ⟨z, _⟩ | ⟨z, _⟩ | ⟨z, _⟩ | ⟨z, _⟩ | ⟨z, _⟩ | ⟨z, _⟩ | ⟨-, w1, w2, w3, w4, -⟩
          · exact absurd z (by simp)
          · exact absurd z (by simp)
          · exact absurd z (by simp)
          · exact absurd z (by simp)
          · exact absurd z (by simp)
          · exact absurd z (by simp)
          · exact absurd z (by simp)
          · exact ⟨h1, fun ha => tz_k_mm F (h := 8) hrp (by omega) (by have := tz_ss_le h1; omega) hd w1 w2 w3 w4 hcat (Or.inl rfl) (h2 ha)⟩
        · have g9 := tz_bf_inv h
          clear h
          obtain ⟨q1, h⟩ := g9
          obtain rfl : hh = 9 := Nat.eq_of_beq_eq_true q1
          have g9 := tz_a2_inv h
          clear h
          obtain ⟨x, y, rfl, h⟩ := g9
          obtain ⟨h1, h2⟩ := hk _ _ _ _ h
          rcases hq with ⟨z, _⟩ | ⟨z, _⟩ | ⟨z, _⟩ | ⟨z, _⟩ | ⟨z, _⟩ | ⟨z, _⟩ | ⟨z, _⟩ | ⟨-, w1, w2, w3, w4, -⟩
          · exact absurd z (by simp)
          · exact absurd z (by simp)
          · exact absurd z (by simp)
          · exact absurd z (by simp)
          · exact absurd z (by simp)
          · exact absurd z (by simp)
          · exact absurd z (by simp)
          · exact ⟨h1, fun ha => tz_k_mm F (h := 9) hrp (by omega) (by have := tz_ss_le h1; omega) hd w1 w2 w3 w4 hcat (Or.inr rfl) (h2 ha)⟩
  | ireturn =>
    obtain rfl : n = 1 := tz_len_of hn rfl
    subst hnp
    have g9 := tz_xI_inv h
    clear h
    obtain ⟨x, rfl, h⟩ := g9
    have g9 := tz_retI_inv h
    clear h
    obtain ⟨rfl, rfl, g1, g2⟩ := g9
    exact ⟨Nat.le_refl _, fun ha H locs ls hSt => hX pc ls H locs hSt.1 hSt.2.1 ⟨hd, g1, g2⟩⟩
  | lreturn =>
    obtain rfl : n = 1 := tz_len_of hn rfl
    subst hnp
    have g9 := tz_xL_inv h
    clear h
    obtain ⟨x, rfl, h⟩ := g9
    have g9 := tz_bf_inv h
    clear h
    obtain ⟨q1, h⟩ := g9
    cases h
    exact ⟨Nat.le_refl _, fun ha H locs ls hSt => hX pc ls H locs hSt.1 hSt.2.1 ⟨hd, Nat.eq_of_beq_eq_true q1⟩⟩
  | areturn =>
    obtain rfl : n = 1 := tz_len_of hn rfl
    subst hnp
    have g9 := tz_xR_inv h
    clear h
    obtain ⟨x, rfl, h⟩ := g9
    have g9 := tz_bf_inv h
    clear h
    obtain ⟨q1, h⟩ := g9
    cases h
    exact ⟨Nat.le_refl _, fun ha H locs ls hSt => hX pc ls H locs hSt.1 hSt.2.1 ⟨hd, Nat.eq_of_beq_eq_true q1⟩⟩
  | return_ =>
    obtain rfl : n = 1 := tz_len_of hn rfl
    subst hnp
    have g9 := tz_xV_inv h
    clear h
    obtain ⟨rfl, h⟩ := g9
    have g9 := tz_bf_inv h
    clear h
    obtain ⟨q1, h⟩ := g9
    cases h
    exact ⟨Nat.le_refl _, fun ha H locs ls hSt => hX pc ls H locs hSt.1 hSt.2.1 ⟨hd, Nat.eq_of_beq_eq_true q1⟩⟩
  | lsub =>
    obtain rfl : n = 1 := tz_len_of hn rfl
    subst hnp
    have g9 := tz_l2_inv h
    clear h
    obtain ⟨x, y, t, rfl, h⟩ := g9
    obtain ⟨h1, h2⟩ := hk _ _ _ _ h
    exact ⟨h1, fun ha => tz_k_lsub F hd (h2 ha)⟩
  | lmul =>
    obtain rfl : n = 1 := tz_len_of hn rfl
    subst hnp
    have g9 := tz_l2_inv h
    clear h
    obtain ⟨x, y, t, rfl, h⟩ := g9
    obtain ⟨h1, h2⟩ := hk _ _ _ _ h
    exact ⟨h1, fun ha => tz_k_lmul F hd (h2 ha)⟩
  | ldiv =>
    obtain rfl : n = 1 := tz_len_of hn rfl
    subst hnp
    have g9 := tz_l2_inv h
    clear h
    obtain ⟨x, y, t, rfl, h⟩ := g9
    have g9 := tz_it_inv h
    clear h
    obtain ⟨h0, h⟩ := g9
    obtain ⟨h1, h2⟩ := hk _ _ _ _ h
    exact ⟨h1, fun ha => tz_k_ldiv F h0 hd (h2 ha)⟩
  | lrem =>
    obtain rfl : n = 1 := tz_len_of hn rfl
    subst hnp
    have g9 := tz_l2_inv h
    clear h
    obtain ⟨x, y, t, rfl, h⟩ := g9
    have g9 := tz_it_inv h
    clear h
    obtain ⟨h0, h⟩ := g9
    obtain ⟨h1, h2⟩ := hk _ _ _ _ h
    exact ⟨h1, fun ha => tz_k_lrem F h0 hd (h2 ha)⟩
  | lshr =>
    obtain rfl : n = 1 := tz_len_of hn rfl
    subst hnp
    have g9 := tz_lj_inv h
    clear h
    obtain ⟨x, y, t, rfl, h⟩ := g9
    obtain ⟨h1, h2⟩ := hk _ _ _ _ h
    exact ⟨h1, fun ha => tz_k_lshr F hd (h2 ha)⟩
  | lload j =>
    obtain rfl : n = 2 := tz_len_of hn rfl
    subst hnp
    have g9 := tz_ld_inv h
    clear h
    obtain ⟨v, hl, h⟩ := g9
    have g9 := tz_mL_inv h
    clear h
    obtain ⟨x, rfl, h⟩ := g9
    obtain ⟨h1, h2⟩ := hk _ _ _ _ h
    exact ⟨h1, fun ha => tz_k_lload F hl hd (h2 ha)⟩
  | lstore j =>
    obtain rfl : n = 2 := tz_len_of hn rfl
    subst hnp
    have g9 := tz_l1_inv h
    clear h
    obtain ⟨x, t, rfl, h⟩ := g9
    have g9 := tz_st2_inv h
    clear h
    obtain ⟨q1, q3, h⟩ := g9
    obtain ⟨h1, h2⟩ := hk _ _ _ _ h
    exact ⟨h1, fun ha => tz_k_lstore F hS hd q1 q3 (h2 ha)⟩
  | lstore_n j =>
    obtain rfl : n = 1 := tz_len_of hn rfl
    subst hnp
    have g9 := tz_l1_inv h
    clear h
    obtain ⟨x, t, rfl, h⟩ := g9
    have g9 := tz_st2_inv h
    clear h
    obtain ⟨q1, q3, h⟩ := g9
    obtain ⟨h1, h2⟩ := hk _ _ _ _ h
    exact ⟨h1, fun ha => tz_k_lstore_n F hS hd q1 q3 (h2 ha)⟩
  | _ => exact absurd h (by simp [tz_ins])
