/-! the memory never loses a cell -/
def tz_tp (a : Nat) (x : tz_X) : Prop := ∀ r A2, x = some (r, A2) → a ≤ A2.1
theorem tz_tp.nn {a : Nat} : tz_tp a none := fun _ _ h => by cases h
theorem tz_tp.rf {a : Nat} {r : Option Value} {A : tz_Mem} (h : a ≤ A.1) : tz_tp a (some (r, A)) := fun _ _ e => by cases e; exact h
theorem tz_tp.bf {a : Nat} {b : Bool} {x y : tz_X} (h1 : tz_tp a x) (h2 : tz_tp a y) : tz_tp a (bif b then x else y) := by
  cases b
  · exact h2
  · exact h1
theorem tz_tp.it {a : Nat} {c : Prop} {d : Decidable c} {x y : tz_X} (h1 : tz_tp a x) (h2 : tz_tp a y) : tz_tp a (@ite _ c d x y) := by
  by_cases hc : c
  · rw [if_pos hc]; exact h1
  · rw [if_neg hc]; exact h2
theorem tz_tp.i1 {a : Nat} {st : List Value} {f : Int32 → List Value → tz_X} (hf : ∀ a0 a1, tz_tp a (f a0 a1)) : tz_tp a (tz_i1 st f) := by
  intro r A2 h
  unfold tz_i1 at h
  split at h
  all_goals first | (exact absurd h (by simp)) | exact hf _ _ _ _ h
theorem tz_tp.i2 {a : Nat} {st : List Value} {f : Int32 → Int32 → List Value → tz_X} (hf : ∀ a0 a1 a2, tz_tp a (f a0 a1 a2)) : tz_tp a (tz_i2 st f) := by
  intro r A2 h
  unfold tz_i2 at h
  split at h
  all_goals first | (exact absurd h (by simp)) | exact hf _ _ _ _ _ h
theorem tz_tp.l1 {a : Nat} {st : List Value} {f : Int64 → List Value → tz_X} (hf : ∀ a0 a1, tz_tp a (f a0 a1)) : tz_tp a (tz_l1 st f) := by
  intro r A2 h
  unfold tz_l1 at h
  split at h
  all_goals first | (exact absurd h (by simp)) | exact hf _ _ _ _ h
theorem tz_tp.l2 {a : Nat} {st : List Value} {f : Int64 → Int64 → List Value → tz_X} (hf : ∀ a0 a1 a2, tz_tp a (f a0 a1 a2)) : tz_tp a (tz_l2 st f) := by
  intro r A2 h
  unfold tz_l2 at h
  split at h
  all_goals first | (exact absurd h (by simp)) | exact hf _ _ _ _ _ h
theorem tz_tp.lj {a : Nat} {st : List Value} {f : Int64 → Int32 → List Value → tz_X} (hf : ∀ a0 a1 a2, tz_tp a (f a0 a1 a2)) : tz_tp a (tz_lj st f) := by
  intro r A2 h
  unfold tz_lj at h
  split at h
  all_goals first | (exact absurd h (by simp)) | exact hf _ _ _ _ _ h
theorem tz_tp.r1 {a : Nat} {st : List Value} {f : Nat → List Value → tz_X} (hf : ∀ a0 a1, tz_tp a (f a0 a1)) : tz_tp a (tz_r1 st f) := by
  intro r A2 h
  unfold tz_r1 at h
  split at h
  all_goals first | (exact absurd h (by simp)) | exact hf _ _ _ _ h
theorem tz_tp.ai {a : Nat} {st : List Value} {f : Nat → Int32 → List Value → tz_X} (hf : ∀ a0 a1 a2, tz_tp a (f a0 a1 a2)) : tz_tp a (tz_ai st f) := by
  intro r A2 h
  unfold tz_ai at h
  split at h
  all_goals first | (exact absurd h (by simp)) | exact hf _ _ _ _ _ h
theorem tz_tp.aii {a : Nat} {st : List Value} {f : Nat → Int32 → Int32 → List Value → tz_X} (hf : ∀ a0 a1 a2 a3, tz_tp a (f a0 a1 a2 a3)) : tz_tp a (tz_aii st f) := by
  intro r A2 h
  unfold tz_aii at h
  split at h
  all_goals first | (exact absurd h (by simp)) | exact hf _ _ _ _ _ _ h
theorem tz_tp.ail {a : Nat} {st : List Value} {f : Nat → Int32 → Int64 → List Value → tz_X} (hf : ∀ a0 a1 a2 a3, tz_tp a (f a0 a1 a2 a3)) : tz_tp a (tz_ail st f) := by
  intro r A2 h
  unfold tz_ail at h
  split at h
  all_goals first | (exact absurd h (by simp)) | exact hf _ _ _ _ _ _ h
theorem tz_tp.v1 {a : Nat} {st : List Value} {f : Value → List Value → tz_X} (hf : ∀ a0 a1, tz_tp a (f a0 a1)) : tz_tp a (tz_v1 st f) := by
  intro r A2 h
  unfold tz_v1 at h
  split at h
  all_goals first | (exact absurd h (by simp)) | exact hf _ _ _ _ h
theorem tz_tp.mC {a : Nat} {o : Option (Nat × Int)} {f : Int → tz_X} {g : Nat → tz_X} {e : Int → tz_X} (hf : ∀ a0, tz_tp a (f a0)) (hg : ∀ a0, tz_tp a (g a0)) (he : ∀ a0, tz_tp a (e a0)) : tz_tp a (tz_mC o f g e) := by
  intro r A2 h
  unfold tz_mC at h
  split at h
  all_goals first | (exact absurd h (by simp)) | exact hf _ _ _ h | exact hg _ _ _ h | exact he _ _ _ h
theorem tz_tp.mI {a : Nat} {v : Value} {f : Int32 → tz_X} (hf : ∀ a0, tz_tp a (f a0)) : tz_tp a (tz_mI v f) := by
  intro r A2 h
  unfold tz_mI at h
  split at h
  all_goals first | (exact absurd h (by simp)) | exact hf _ _ _ h
theorem tz_tp.mL {a : Nat} {v : Value} {f : Int64 → tz_X} (hf : ∀ a0, tz_tp a (f a0)) : tz_tp a (tz_mL v f) := by
  intro r A2 h
  unfold tz_mL at h
  split at h
  all_goals first | (exact absurd h (by simp)) | exact hf _ _ _ h
theorem tz_tp.mR {a : Nat} {v : Value} {f : Nat → tz_X} (hf : ∀ a0, tz_tp a (f a0)) : tz_tp a (tz_mR v f) := by
  intro r A2 h
  unfold tz_mR at h
  split at h
  all_goals first | (exact absurd h (by simp)) | exact hf _ _ _ h
theorem tz_tp.mN {a : Nat} {v : Value} {f : tz_X} {g : tz_X} (hf : tz_tp a f) (hg : tz_tp a g) : tz_tp a (tz_mN v f g) := by
  intro r A2 h
  unfold tz_mN at h
  split at h
  all_goals first | (exact absurd h (by simp)) | exact hf  _ _ h | exact hg  _ _ h
theorem tz_tp.m1 {a : Nat} {o : Option Nat} {f : Nat → tz_X} (hf : ∀ a0, tz_tp a (f a0)) : tz_tp a (tz_m1 o f) := by
  intro r A2 h
  unfold tz_m1 at h
  split at h
  all_goals first | (exact absurd h (by simp)) | exact hf _ _ _ h
theorem tz_tp.m2 {a : Nat} {o : Option (Nat × Nat)} {f : Nat → Nat → tz_X} (hf : ∀ a0 a1, tz_tp a (f a0 a1)) : tz_tp a (tz_m2 o f) := by
  intro r A2 h
  unfold tz_m2 at h
  split at h
  all_goals first | (exact absurd h (by simp)) | exact hf _ _ _ _ h
theorem tz_tp.mT {a : Nat} {t : ArrayType} {f : tz_X} {g : tz_X} (hf : tz_tp a f) (hg : tz_tp a g) : tz_tp a (tz_mT t f g) := by
  intro r A2 h
  unfold tz_mT at h
  split at h
  all_goals first | (exact absurd h (by simp)) | exact hf  _ _ h | exact hg  _ _ h
theorem tz_tp.a5 {a : Nat} {q : List Value} {f : Nat → Nat → Int32 → Int32 → Int32 → tz_X} (hf : ∀ a0 a1 a2 a3 a4, tz_tp a (f a0 a1 a2 a3 a4)) : tz_tp a (tz_a5 q f) := by
  intro r A2 h
  unfold tz_a5 at h
  split at h
  all_goals first | (exact absurd h (by simp)) | exact hf _ _ _ _ _ _ _ h
theorem tz_tp.a2 {a : Nat} {q : List Value} {f : Int32 → Int32 → tz_X} (hf : ∀ a0 a1, tz_tp a (f a0 a1)) : tz_tp a (tz_a2 q f) := by
  intro r A2 h
  unfold tz_a2 at h
  split at h
  all_goals first | (exact absurd h (by simp)) | exact hf _ _ _ _ h
theorem tz_tp.xI {a : Nat} {q : List Value} {f : Int32 → tz_X} (hf : ∀ a0, tz_tp a (f a0)) : tz_tp a (tz_xI q f) := by
  intro r A2 h
  unfold tz_xI at h
  split at h
  all_goals first | (exact absurd h (by simp)) | exact hf _ _ _ h
theorem tz_tp.xL {a : Nat} {q : List Value} {f : Int64 → tz_X} (hf : ∀ a0, tz_tp a (f a0)) : tz_tp a (tz_xL q f) := by
  intro r A2 h
  unfold tz_xL at h
  split at h
  all_goals first | (exact absurd h (by simp)) | exact hf _ _ _ h
theorem tz_tp.xR {a : Nat} {q : List Value} {f : Nat → tz_X} (hf : ∀ a0, tz_tp a (f a0)) : tz_tp a (tz_xR q f) := by
  intro r A2 h
  unfold tz_xR at h
  split at h
  all_goals first | (exact absurd h (by simp)) | exact hf _ _ _ h
theorem tz_tp.xV {a : Nat} {q : List Value} {f : tz_X} (hf : tz_tp a f) : tz_tp a (tz_xV q f) := by
  intro r A2 h
  unfold tz_xV at h
  split at h
  all_goals first | (exact absurd h (by simp)) | exact hf  _ _ h
theorem tz_tp.ld {a : Nat} {L : tz_Lo} {i : Nat} {f : Value → tz_X} (hf : ∀ v, tz_tp a (f v)) : tz_tp a (tz_ld L i f) := by
  intro r A2 h
  obtain ⟨v, -, h⟩ := tz_ld_inv h
  exact hf v _ _ h
theorem tz_tp.st {a : Nat} {L : tz_Lo} {i : Nat} {v : Value} {f : tz_Lo → tz_X} (hf : ∀ v, tz_tp a (f v)) : tz_tp a (tz_st L i v f) := by
  unfold tz_st
  exact tz_tp.bf (hf _) tz_tp.nn
theorem tz_tp.st2 {a : Nat} {L : tz_Lo} {i : Nat} {v : Value} {f : tz_Lo → tz_X} (hf : ∀ v, tz_tp a (f v)) : tz_tp a (tz_st2 L i v f) := by
  unfold tz_st2
  exact tz_tp.bf (hf _) tz_tp.nn
theorem tz_tp.tgt {a : Nat} {pc : Nat} {off : Int} {f : Nat → tz_X} (hf : ∀ v, tz_tp a (f v)) : tz_tp a (tz_tgt pc off f) := by
  intro r A2 h
  obtain ⟨v, -, h⟩ := tz_tgt_inv h
  exact hf v _ _ h
theorem tz_tp.tsw {a : Nat} {x : Int32} {d : Int} {f : Int → tz_X} (hf : ∀ v, tz_tp a (f v)) : ∀ (offs : List Int) (lo : Int), tz_tp a (tz_tsw x lo offs d f)
  | [], _ => hf d
  | o :: t, lo => tz_tp.it (hf o) (tz_tp.tsw hf t (lo + 1))
theorem tz_tp.lsw {a : Nat} {x : Int32} {d : Int} {f : Int → tz_X} (hf : ∀ v, tz_tp a (f v)) : ∀ (ps : List (Int × Int)), tz_tp a (tz_lsw x ps d f)
  | [] => hf d
  | o :: t => tz_tp.it (hf o.2) (tz_tp.lsw hf t)
theorem tz_tp.ic {a : Nat} {cd : ClassFile.Cond} {x y : Int32} {u v : tz_X} (ha : tz_tp a u) (hb : tz_tp a v) : tz_tp a (tz_ic cd x y u v) := by
  cases cd
  all_goals exact tz_tp.it ha hb
theorem tz_tp.inv {a : Nat} {call : Nat → List Value → tz_Mem → tz_X} {m m2 : Nat} {args rest : List Value} {A : tz_Mem} {f : List Value → tz_Mem → tz_X} (hA : a ≤ A.1) (hc : ∀ m as A3, a ≤ A3.1 → tz_tp a (call m as A3)) (hf : ∀ x A3, a ≤ A3.1 → tz_tp a (f x A3)) : tz_tp a (tz_inv call m m2 args rest A f) := by
  intro r A2 h
  obtain ⟨-, -, -, -, r2, A1, h1, h2⟩ := tz_inv_inv h
  exact hf _ _ (hc _ _ _ hA _ _ h1) _ _ h2
theorem tz_tp.pop {a n : Nat} {st : List Value} {f : List Value → List Value → tz_X} (hf : ∀ x A, tz_tp a (f x A)) : tz_tp a (tz_pop n st f) := by
  unfold tz_pop
  exact tz_tp.bf (hf _ _) tz_tp.nn
theorem tz_tp.gf {q : Nat} {c : Nat} {A : tz_Mem} {a ci f : Nat} {k : Value → tz_X} (hk : ∀ v, tz_tp q (k v)) : tz_tp q (tz_gf c A a ci f k) := by
  intro r A2 h
  rcases tz_gf_inv h with ⟨v, h, -⟩ | ⟨-, h⟩
  · exact hk _ _ _ h
  · exact hk _ _ _ h
theorem tz_tp.pf {q : Nat} {c ini : Nat} {A : tz_Mem} {a ci f : Nat} {v : Value} {k : tz_Mem → tz_X} (hA : q ≤ A.1) (hk : ∀ A3, q ≤ A3.1 → tz_tp q (k A3)) : tz_tp q (tz_pf c ini A a ci f v k) := by
  intro r A2 h
  rcases tz_pf_inv h with ⟨x, -, -, h⟩ | ⟨n, -, -, h⟩
  · exact hk _ (show q ≤ (tz_s A a f x).1 from hA) _ _ h
  · exact hk _ (show q ≤ (tz_sr A a f n).1 from hA) _ _ h
theorem tz_tp.ix {q : Nat} {A : tz_Mem} {kd a c : Nat} {i : Int32} {o : tz_X} (ho : tz_tp q o) : tz_tp q (tz_ix A kd a c i o) := by
  unfold tz_ix
  exact tz_tp.bf (tz_tp.it tz_tp.nn ho) tz_tp.nn
theorem tz_tp.cpy {q : Nat} {c : Nat} {A : tz_Mem} {k1 k2 : Nat} {i1 i2 n : Int32} {k : tz_Mem → tz_X} (hA : q ≤ A.1) (hk : ∀ A3, q ≤ A3.1 → tz_tp q (k A3)) : tz_tp q (tz_cpy c A k1 k2 i1 i2 n k) := by
  unfold tz_cpy
  exact tz_tp.bf (tz_tp.it tz_tp.nn (tz_tp.bf (hk _ hA) (tz_tp.bf (hk _ hA) tz_tp.nn))) tz_tp.nn
theorem tz_tp.retI {q rk : Nat} {x : Int32} {A : tz_Mem} (h : q ≤ A.1) : tz_tp q (tz_retI rk x A) := by
  intro r A2 e
  obtain ⟨rfl, -⟩ := tz_retI_inv e
  exact h
set_option maxHeartbeats 4000000 in
theorem tz_ins_tp {a : Nat} {call : Nat → List Value → tz_Mem → tz_X} {k : Nat → tz_Lo → List Value → tz_Mem → tz_X} (hc : ∀ m as A3, a ≤ A3.1 → tz_tp a (call m as A3)) (hk : ∀ pc L st A3, a ≤ A3.1 → tz_tp a (k pc L st A3)) (m pc : Nat) (i : Instr) (np : Nat) (L : tz_Lo) (st : List Value) (A : tz_Mem) (hA : a ≤ A.1) : tz_tp a (tz_ins call k m pc i np L st A) := by
  cases i
  all_goals simp only [tz_ins]
  all_goals repeat' first
    | exact tz_tp.nn
    | exact hk _ _ _ _ hA
    | exact hk _ _ _ _ (Nat.le_trans hA (Nat.le_add_right _ _))
    | exact tz_tp.rf hA
    | exact tz_tp.retI hA
    | apply tz_tp.i1 | apply tz_tp.i2 | apply tz_tp.l1 | apply tz_tp.l2 | apply tz_tp.lj | apply tz_tp.r1 | apply tz_tp.ai | apply tz_tp.aii | apply tz_tp.ail | apply tz_tp.v1
    | apply tz_tp.mC | apply tz_tp.mI | apply tz_tp.mL | apply tz_tp.mR | apply tz_tp.mN | apply tz_tp.m1 | apply tz_tp.m2 | apply tz_tp.mT | apply tz_tp.a5 | apply tz_tp.a2 | apply tz_tp.xI | apply tz_tp.xL | apply tz_tp.xR | apply tz_tp.xV
    | apply tz_tp.ld | apply tz_tp.st | apply tz_tp.st2 | apply tz_tp.tgt | apply tz_tp.tsw | apply tz_tp.lsw | apply tz_tp.ic | apply tz_tp.pop | apply tz_tp.gf | apply tz_tp.ix
    | exact tz_tp.pf hA (fun _ h => hk _ _ _ _ h)
    | exact tz_tp.cpy hA (fun _ h => hk _ _ _ _ h)
    | exact tz_tp.inv hA hc (fun _ _ h => hk _ _ _ _ h)
    | apply tz_tp.bf | apply tz_tp.it
    | intro _
theorem tz_go_tp : ∀ (n m pc : Nat) (L : tz_Lo) (st : List Value) (A : tz_Mem) (a : Nat), a ≤ A.1 → tz_tp a (tz_go n m pc L st A)
  | 0, _, _, _, _, _, _, _ => tz_tp.nn
  | n + 1, m, pc, L, st, A, a, hA => by
    show tz_tp a (tz_stp _ _ m pc L st A)
    unfold tz_stp
    generalize tz_code m pc = o
    rcases o with _ | ⟨i, np, mq⟩
    · exact tz_tp.nn
    · exact tz_ins_tp (fun m2 as A3 h => tz_go_tp n m2 0 _ _ A3 a h) (fun pc2 L2 st2 A3 h => tz_go_tp n m pc2 L2 st2 A3 a h) _ _ _ _ _ _ _ hA
theorem tz_go_top {n m pc : Nat} {L : tz_Lo} {st : List Value} {A A2 : tz_Mem} {r : Option Value} (h : tz_go n m pc L st A = some (r, A2)) : A.1 ≤ A2.1 := tz_go_tp n m pc L st A A.1 (Nat.le_refl _) _ _ h
/-! THE SMALL MACHINE IS SOUND: what it comes to, the real one comes to -/
theorem tz_K.mask {p : Program} {l : Launch} {e : Env} {R : Room} {s : State} {ma : MethodId} {args : Array Value} {below : List Frame} {meth : Method} {c : Code} {Q : State → Prop} {G : tz_Gh} {m a0 pc mq : Nat} {dd : Nat × Nat} {L : tz_Lo} {st : List Value} {A : tz_Mem} (h : tz_K p l e R s ma args below meth c Q G m a0 dd pc (tz_mk mq L) st A) : tz_K p l e R s ma args below meth c Q G m a0 dd pc L st A := fun H locs ls hSt => h H locs ls ⟨hSt.1, hSt.2.1, hSt.2.2.mask⟩
theorem tz_lay_at {G : tz_Gh} (hV : (tz_vS G).category = 1) : ∀ (as : List Value) (b i : Nat) (v : Value), (tz_lay as)[i]? = some (some v) → (b + i, tz_cv G v) ∈ lv_args b (as.map (tz_cv G))
  | [], _, _, _, h => by simp [tz_lay] at h
  | u :: t, b, i, v, h => by
    have go : ∀ w : Value, ¬ w.category = 2 → (some w :: tz_lay t)[i]? = some (some v) → (b + i, tz_cv G v) ∈ lv_args b (tz_cv G w :: t.map (tz_cv G)) := by
      intro w hw h
      have hw2 : ¬ (tz_cv G w).category = 2 := by rw [tz_cat_cv hV]; exact hw
      unfold lv_args
      rw [if_neg hw2]
      cases i with
      | zero =>
        simp at h
        subst h
        exact List.mem_cons_self
      | succ i =>
        have := tz_lay_at hV t (b + 1) i v (by simpa using h)
        rw [show b + (i + 1) = b + 1 + i by omega]
        exact List.mem_cons_of_mem _ this
    cases u with
    | long x =>
      show _ ∈ (b, tz_cv G (.long x)) :: lv_args (if (tz_cv G (.long x)).category = 2 then b + 2 else b + 1) (t.map (tz_cv G))
      rw [if_pos (show (tz_cv G (.long x)).category = 2 from rfl)]
      match i, h with
      | 0, h =>
        simp [tz_lay] at h
        subst h
        exact List.mem_cons_self
      | 1, h => simp [tz_lay] at h
      | i + 2, h =>
        have := tz_lay_at hV t (b + 2) i v (by simpa [tz_lay] using h)
        rw [show b + (i + 2) = b + 2 + i by omega]
        exact List.mem_cons_of_mem _ this
    | double x =>
      show _ ∈ (b, tz_cv G (.double x)) :: lv_args (if (tz_cv G (.double x)).category = 2 then b + 2 else b + 1) (t.map (tz_cv G))
      rw [if_pos (show (tz_cv G (.double x)).category = 2 from rfl)]
      match i, h with
      | 0, h =>
        simp [tz_lay] at h
        subst h
        exact List.mem_cons_self
      | 1, h => simp [tz_lay] at h
      | i + 2, h =>
        have := tz_lay_at hV t (b + 2) i v (by simpa [tz_lay] using h)
        rw [show b + (i + 2) = b + 2 + i by omega]
        exact List.mem_cons_of_mem _ this
    | _ => exact go _ (by simp [Value.category]) (by simpa [tz_lay] using h)
theorem tz_lay_len {G : tz_Gh} (hV : (tz_vS G).category = 1) : ∀ as : List Value, (tz_lay as).length = (lg_sl (as.map (tz_cv G))).length
  | [] => rfl
  | u :: t => by
    have ih := tz_lay_len hV t
    unfold lg_sl at ih ⊢
    rw [List.map_cons, List.flatMap_cons, List.length_append, ← ih, tz_cat_cv hV]
    cases u <;> simp [tz_lay, Value.category] <;> omega
theorem tz_ent_has {G : tz_Gh} (hV : (tz_vS G).category = 1) {m : Nat} {as : List Value} (h : (tz_lay as).length ≤ tz_ml m) : tz_has G ((lg_sl (as.map (tz_cv G)) ++ List.replicate (tz_ml m - (lg_sl (as.map (tz_cv G))).length) Slot.unset).toArray) (tz_ml m) (tz_ent m as) := by
  have hl := lv_entry (as.map (tz_cv G)) (n := tz_ml m) (by rw [← tz_lay_len hV]; exact h)
  refine ⟨hl.1, ?_, hl.2.1, fun i v hv => ?_⟩
  · unfold tz_ent
    rw [List.length_append, List.length_replicate]
    omega
  · have h2 : (tz_lay as)[i]? = some (some v) := by
      unfold tz_ent at hv
      by_cases hi : i < (tz_lay as).length
      · rwa [List.getElem?_append_left hi] at hv
      · rw [List.getElem?_append_right (by omega)] at hv
        have := List.mem_of_getElem? hv
        rw [List.mem_replicate] at this
        cases this.2
    have h3 := tz_lay_at hV as 0 i v h2
    rw [Nat.zero_add] at h3
    exact hl.2.2 _ h3
theorem tz_sound {l : Launch} (hM : tz_RowM l) {G : tz_Gh} (hV : (tz_vS G).category = 1) : ∀ n : Nat,
    (∀ (m : Nat) (as : List Value) (A : tz_Mem) (r2 : Option Value) (A2 : tz_Mem), m < 142 → tz_go n m 0 (tz_ent m as) [] A = some (r2, A2) → (tz_lay as).length ≤ tz_ml m → Met l (tz_y m) (tz_wm m) (tz_rm m (A2.1 - A.1) (tz_ss A2.1 - tz_ss A.1)) (tz_Pre (tz_cm m) G as A) (tz_Pst (tz_cm m) G r2 A2) (A2.1 - A.1) (tz_ss A2.1 - tz_ss A.1) (tz_Ab G)) ∧
    (∀ {p : Program} {e : Env} {R : Room} {s : State} {ma : MethodId} {args : Array Value} {below : List Frame} {meth : Method} {c : Code} {Q : State → Prop} {m a0 : Nat} {dd : Nat × Nat}, tz_Fr p l R s ma args meth c G m a0 dd → tz_cm m ≤ a0 → ∀ {rv : Option Value} {A2 : tz_Mem}, A2.1 - a0 + dd.1 ≤ R.cells → tz_ss A2.1 - tz_ss a0 + dd.2 ≤ R.slots → tz_Xt p l e R s ma args below meth c Q G m a0 dd rv A2 → ∀ (pc : Nat) (L : tz_Lo) (st : List Value) (A : tz_Mem), tz_go n m pc L st A = some (rv, A2) → a0 ≤ A.1 → tz_K p l e R s ma args below meth c Q G m a0 dd pc L st A) := by
  intro n
  have step : ∀ n : Nat, (∀ {p : Program} {e : Env} {R : Room} {s : State} {ma : MethodId} {args : Array Value} {below : List Frame} {meth : Method} {c : Code} {Q : State → Prop} {m a0 : Nat} {dd : Nat × Nat}, tz_Fr p l R s ma args meth c G m a0 dd → tz_cm m ≤ a0 → ∀ {rv : Option Value} {A2 : tz_Mem}, A2.1 - a0 + dd.1 ≤ R.cells → tz_ss A2.1 - tz_ss a0 + dd.2 ≤ R.slots → tz_Xt p l e R s ma args below meth c Q G m a0 dd rv A2 → ∀ (pc : Nat) (L : tz_Lo) (st : List Value) (A : tz_Mem), tz_go n m pc L st A = some (rv, A2) → a0 ≤ A.1 → tz_K p l e R s ma args below meth c Q G m a0 dd pc L st A) →
      (∀ (m : Nat) (as : List Value) (A : tz_Mem) (r2 : Option Value) (A2 : tz_Mem), m < 142 → tz_go n m 0 (tz_ent m as) [] A = some (r2, A2) → (tz_lay as).length ≤ tz_ml m → Met l (tz_y m) (tz_wm m) (tz_rm m (A2.1 - A.1) (tz_ss A2.1 - tz_ss A.1)) (tz_Pre (tz_cm m) G as A) (tz_Pst (tz_cm m) G r2 A2) (A2.1 - A.1) (tz_ss A2.1 - tz_ss A.1) (tz_Ab G)) := by
    intro n hK m as A r2 A2 hm hgo hlay
    obtain ⟨pm1, pm2, pm3, pm4, pm5, pm6, pm7, pm8⟩ := tz_pm hm
    refine Met.ofW (cc := tz_by m) (maxL := tz_ml m) (ret := tz_rtt (tz_rc m)) pm3 rfl ?_
    intro p e s ma args below meth c s₁ B hml hv
    obtain ⟨rfl, hRep, hsz, hEX, hTAB⟩ := hv
    have hts := atoms_spec (ws := tz_wm m) B.pre
    have hown : s.vm.findClass (tz_own (tz_pn m)) = some ma.cls := by rw [← pm4]; exact findClass_of_methodNamed B.named
    have hname := (name_of_methodNamed B.named B.method).1
    have hcA : tz_cm m ≤ A.1 := by
      have : tz_cm m = tz_E0 ∨ tz_cm m = tz_N0 := (by decide +kernel : ∀ m, m < 143 → tz_cm m = tz_E0 ∨ tz_cm m = tz_N0) m (by omega)
      rcases this with q | q
      · rw [q]; exact hRep.1
      · rw [q]; exact (hRep.2.1 q).1
    have F : tz_Fr p l (headSpec (tz_wm m) (tz_rm m (A2.1 - A.1) (tz_ss A2.1 - tz_ss A.1))).room s ma ((as.map (tz_cv G)).toArray) meth c G m A.1 (0, 0) := by
      refine ⟨⟨B.exec, B.bytes, hml, hown⟩, fun w hw => hts w (List.mem_cons_of_mem _ hw), fun h => ?_, ⟨Nat.le_refl _, Nat.le_refl _⟩, ⟨hsz, hRep.1, by omega, hV⟩, hEX, hTAB⟩
      rcases pm8 with q | q
      · exact absurd q h
      · exact ⟨hname.trans q.1, by rw [← pm4]; exact q.2⟩
    have hret := B.returns
    rw [lg_entry_eq]
    have k := hK (below := below) (e := e) (Q := MQ below (tz_Pst (tz_cm m) G r2 A2) ((as.map (tz_cv G)).toArray) s (A2.1 - A.1) (tz_ss A2.1 - tz_ss A.1) (tz_Ab G)) F hcA (Nat.le_refl _) (Nat.le_refl _) (rv := r2) ?_ 0 (tz_ent m as) [] A hgo (Nat.le_refl _) s.heap [] _ ⟨hRep, va_S.rf, tz_ent_has hV hlay⟩
    · rw [Nat.sub_self, Nat.sub_self] at k
      exact k
    · intro pc ls H locs hR hS hrd
      have hpost : ∀ (v : Option Value) (t : State), t.heap = H → v = r2.map (tz_cv G) → tz_Pst (tz_cm m) G r2 A2 ((as.map (tz_cv G)).toArray) s (.returned v) t := by
        intro v t ht hv
        refine ⟨by rw [hv], by rw [ht]; exact hR, fun q hq => ?_⟩
        rw [ht]
        exact hS.2.1 q (by rw [hsz]; omega) (Nat.not_le.mpr hq)
      have hx := B.exec
      have hb := B.bytes
      have hlocks := B.notSynchronized
      rcases r2 with _ | v
      · obtain ⟨d1, d2⟩ := hrd
        rw [d2] at hret
        exact W.vret hx hb hret (fun t ht _ => hpost none t ht rfl) hS.2.2 d1
      · cases v with
        | int x =>
          obtain ⟨d1, d2, d3⟩ := hrd
          have hret2 : meth.sig.returnType = some (tz_rty (tz_rc m)) := by
            rw [hret]
            rcases d2 with q | q | q | q <;> rw [q] <;> rfl
          exact W.zret hx hb hret2 d3 (fun t ht _ => hpost _ t ht rfl) hS.2.2 d1
        | long x =>
          obtain ⟨d1, d2⟩ := hrd
          rw [d2] at hret
          exact W.lret hx hb hret (fun t ht _ => hpost _ t ht rfl) hS.2.2 d1
        | ref x =>
          obtain ⟨d1, d2⟩ := hrd
          rw [d2] at hret
          exact W.aret hx hb hret (Or.inl ⟨_, rfl⟩) (Or.inr ⟨_, rfl⟩) (fun t ht _ => hpost _ t ht rfl) hS.2.2 d1
        | _ => exact absurd hrd (by simp [tz_rd])
  induction n with
  | zero =>
    have z : ∀ {p : Program} {e : Env} {R : Room} {s : State} {ma : MethodId} {args : Array Value} {below : List Frame} {meth : Method} {c : Code} {Q : State → Prop} {m a0 : Nat} {dd : Nat × Nat}, tz_Fr p l R s ma args meth c G m a0 dd → tz_cm m ≤ a0 → ∀ {rv : Option Value} {A2 : tz_Mem}, A2.1 - a0 + dd.1 ≤ R.cells → tz_ss A2.1 - tz_ss a0 + dd.2 ≤ R.slots → tz_Xt p l e R s ma args below meth c Q G m a0 dd rv A2 → ∀ (pc : Nat) (L : tz_Lo) (st : List Value) (A : tz_Mem), tz_go 0 m pc L st A = some (rv, A2) → a0 ≤ A.1 → tz_K p l e R s ma args below meth c Q G m a0 dd pc L st A := by
      intro p e R s ma args below meth c Q m a0 dd _ _ rv A2 _ _ _ pc L st A h
      cases h
    exact ⟨step 0 z, z⟩
  | succ n ih =>
    have z : ∀ {p : Program} {e : Env} {R : Room} {s : State} {ma : MethodId} {args : Array Value} {below : List Frame} {meth : Method} {c : Code} {Q : State → Prop} {m a0 : Nat} {dd : Nat × Nat}, tz_Fr p l R s ma args meth c G m a0 dd → tz_cm m ≤ a0 → ∀ {rv : Option Value} {A2 : tz_Mem}, A2.1 - a0 + dd.1 ≤ R.cells → tz_ss A2.1 - tz_ss a0 + dd.2 ≤ R.slots → tz_Xt p l e R s ma args below meth c Q G m a0 dd rv A2 → ∀ (pc : Nat) (L : tz_Lo) (st : List Value) (A : tz_Mem), tz_go (n + 1) m pc L st A = some (rv, A2) → a0 ≤ A.1 → tz_K p l e R s ma args below meth c Q G m a0 dd pc L st A := by
      intro p e R s ma args below meth c Q m a0 dd F hca rv A2 hrC hrS hX pc L st A h ha
      have h9 : tz_stp (fun m2 args A2 => tz_go n m2 0 (tz_ent m2 args) [] A2) (fun pc2 L2 st2 A2 => tz_go n m pc2 L2 st2 A2) m pc L st A = some (rv, A2) := h
      unfold tz_stp at h9
      split at h9
      · rename_i i np mq hcode
        exact tz_K.mask ((tz_ins_sound hM F hca hrC hrS hX (fun pc2 L2 st2 A3 hk => ⟨tz_go_top hk, fun ha2 => ih.2 F hca hrC hrS hX pc2 L2 st2 A3 hk ha2⟩) (fun m2 as A3 r2 A4 hm2 hc hlay => ⟨tz_go_top hc, ih.1 m2 as A3 r2 A4 hm2 hc hlay⟩) (tz_code_A _ _ _ hcode) _ _ _ h9).2 ha)
      · cases h9
    exact ⟨step (n + 1) z, z⟩
