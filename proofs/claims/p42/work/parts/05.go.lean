/-! Longer runs come to the same; what a run comes to, step by step -/
def tz_lm (x : tz_X) (xs : Nat → tz_X) : Prop := ∀ R, x = some R → ∃ n, ∀ j, n ≤ j → xs j = some R
theorem tz_lm.nn {xs : Nat → tz_X} : tz_lm none xs := fun _ h => by cases h
theorem tz_lm.rf {x : tz_X} : tz_lm x (fun _ => x) := fun _ h => ⟨0, fun _ _ => h⟩
theorem tz_lm.bf {b : Bool} {x y : tz_X} {xs ys : Nat → tz_X} (h1 : tz_lm x xs) (h2 : tz_lm y ys) : tz_lm (bif b then x else y) (fun j => bif b then xs j else ys j) := by
  cases b
  · exact h2
  · exact h1
theorem tz_lm.it {c : Prop} {d : Decidable c} {x y : tz_X} {xs ys : Nat → tz_X} (h1 : tz_lm x xs) (h2 : tz_lm y ys) : tz_lm (@ite _ c d x y) (fun j => @ite _ c d (xs j) (ys j)) := by
  intro R h
  by_cases hc : c
  · rw [if_pos hc] at h
    obtain ⟨n, hn⟩ := h1 R h
    exact ⟨n, fun j hj => (if_pos hc).trans (hn j hj)⟩
  · rw [if_neg hc] at h
    obtain ⟨n, hn⟩ := h2 R h
    exact ⟨n, fun j hj => (if_neg hc).trans (hn j hj)⟩
theorem tz_lm.i1 {st : List Value} {f : Int32 → List Value → tz_X} {fs : Nat → Int32 → List Value → tz_X} (hf : ∀ a0 a1, tz_lm (f a0 a1) (fun j => fs j a0 a1)) : tz_lm (tz_i1 st f) (fun j => tz_i1 st (fs j)) := by
  intro R h
  unfold tz_i1 at h
  split at h
  all_goals first | (exact absurd h (by simp)) | exact hf _ _ R h
theorem tz_lm.i2 {st : List Value} {f : Int32 → Int32 → List Value → tz_X} {fs : Nat → Int32 → Int32 → List Value → tz_X} (hf : ∀ a0 a1 a2, tz_lm (f a0 a1 a2) (fun j => fs j a0 a1 a2)) : tz_lm (tz_i2 st f) (fun j => tz_i2 st (fs j)) := by
  intro R h
  unfold tz_i2 at h
  split at h
  all_goals first | (exact absurd h (by simp)) | exact hf _ _ _ R h
theorem tz_lm.l1 {st : List Value} {f : Int64 → List Value → tz_X} {fs : Nat → Int64 → List Value → tz_X} (hf : ∀ a0 a1, tz_lm (f a0 a1) (fun j => fs j a0 a1)) : tz_lm (tz_l1 st f) (fun j => tz_l1 st (fs j)) := by
  intro R h
  unfold tz_l1 at h
  split at h
  all_goals first | (exact absurd h (by simp)) | exact hf _ _ R h
theorem tz_lm.l2 {st : List Value} {f : Int64 → Int64 → List Value → tz_X} {fs : Nat → Int64 → Int64 → List Value → tz_X} (hf : ∀ a0 a1 a2, tz_lm (f a0 a1 a2) (fun j => fs j a0 a1 a2)) : tz_lm (tz_l2 st f) (fun j => tz_l2 st (fs j)) := by
  intro R h
  unfold tz_l2 at h
  split at h
  all_goals first | (exact absurd h (by simp)) | exact hf _ _ _ R h
theorem tz_lm.lj {st : List Value} {f : Int64 → Int32 → List Value → tz_X} {fs : Nat → Int64 → Int32 → List Value → tz_X} (hf : ∀ a0 a1 a2, tz_lm (f a0 a1 a2) (fun j => fs j a0 a1 a2)) : tz_lm (tz_lj st f) (fun j => tz_lj st (fs j)) := by
  intro R h
  unfold tz_lj at h
  split at h
  all_goals first | (exact absurd h (by simp)) | exact hf _ _ _ R h
theorem tz_lm.r1 {st : List Value} {f : Nat → List Value → tz_X} {fs : Nat → Nat → List Value → tz_X} (hf : ∀ a0 a1, tz_lm (f a0 a1) (fun j => fs j a0 a1)) : tz_lm (tz_r1 st f) (fun j => tz_r1 st (fs j)) := by
  intro R h
  unfold tz_r1 at h
  split at h
  all_goals first | (exact absurd h (by simp)) | exact hf _ _ R h
theorem tz_lm.ai {st : List Value} {f : Nat → Int32 → List Value → tz_X} {fs : Nat → Nat → Int32 → List Value → tz_X} (hf : ∀ a0 a1 a2, tz_lm (f a0 a1 a2) (fun j => fs j a0 a1 a2)) : tz_lm (tz_ai st f) (fun j => tz_ai st (fs j)) := by
  intro R h
  unfold tz_ai at h
  split at h
  all_goals first | (exact absurd h (by simp)) | exact hf _ _ _ R h
theorem tz_lm.aii {st : List Value} {f : Nat → Int32 → Int32 → List Value → tz_X} {fs : Nat → Nat → Int32 → Int32 → List Value → tz_X} (hf : ∀ a0 a1 a2 a3, tz_lm (f a0 a1 a2 a3) (fun j => fs j a0 a1 a2 a3)) : tz_lm (tz_aii st f) (fun j => tz_aii st (fs j)) := by
  intro R h
  unfold tz_aii at h
  split at h
  all_goals first | (exact absurd h (by simp)) | exact hf _ _ _ _ R h
theorem tz_lm.ail {st : List Value} {f : Nat → Int32 → Int64 → List Value → tz_X} {fs : Nat → Nat → Int32 → Int64 → List Value → tz_X} (hf : ∀ a0 a1 a2 a3, tz_lm (f a0 a1 a2 a3) (fun j => fs j a0 a1 a2 a3)) : tz_lm (tz_ail st f) (fun j => tz_ail st (fs j)) := by
  intro R h
  unfold tz_ail at h
  split at h
  all_goals first | (exact absurd h (by simp)) | exact hf _ _ _ _ R h
theorem tz_lm.v1 {st : List Value} {f : Value → List Value → tz_X} {fs : Nat → Value → List Value → tz_X} (hf : ∀ a0 a1, tz_lm (f a0 a1) (fun j => fs j a0 a1)) : tz_lm (tz_v1 st f) (fun j => tz_v1 st (fs j)) := by
  intro R h
  unfold tz_v1 at h
  split at h
  all_goals first | (exact absurd h (by simp)) | exact hf _ _ R h
theorem tz_lm.mC {o : Option (Nat × Int)} {f : Int → tz_X} {fs : Nat → Int → tz_X} {g : Nat → tz_X} {gs : Nat → Nat → tz_X} {e : Int → tz_X} {es : Nat → Int → tz_X} (hf : ∀ a0, tz_lm (f a0) (fun j => fs j a0)) (hg : ∀ a0, tz_lm (g a0) (fun j => gs j a0)) (he : ∀ a0, tz_lm (e a0) (fun j => es j a0)) : tz_lm (tz_mC o f g e) (fun j => tz_mC o (fs j) (gs j) (es j)) := by
  intro R h
  unfold tz_mC at h
  split at h
  all_goals first | (exact absurd h (by simp)) | exact hf _ R h | exact hg _ R h | exact he _ R h
theorem tz_lm.mI {v : Value} {f : Int32 → tz_X} {fs : Nat → Int32 → tz_X} (hf : ∀ a0, tz_lm (f a0) (fun j => fs j a0)) : tz_lm (tz_mI v f) (fun j => tz_mI v (fs j)) := by
  intro R h
  unfold tz_mI at h
  split at h
  all_goals first | (exact absurd h (by simp)) | exact hf _ R h
theorem tz_lm.mL {v : Value} {f : Int64 → tz_X} {fs : Nat → Int64 → tz_X} (hf : ∀ a0, tz_lm (f a0) (fun j => fs j a0)) : tz_lm (tz_mL v f) (fun j => tz_mL v (fs j)) := by
  intro R h
  unfold tz_mL at h
  split at h
  all_goals first | (exact absurd h (by simp)) | exact hf _ R h
theorem tz_lm.mR {v : Value} {f : Nat → tz_X} {fs : Nat → Nat → tz_X} (hf : ∀ a0, tz_lm (f a0) (fun j => fs j a0)) : tz_lm (tz_mR v f) (fun j => tz_mR v (fs j)) := by
  intro R h
  unfold tz_mR at h
  split at h
  all_goals first | (exact absurd h (by simp)) | exact hf _ R h
theorem tz_lm.mN {v : Value} {f : tz_X} {fs : Nat → tz_X} {g : tz_X} {gs : Nat → tz_X} (hf : tz_lm f fs) (hg : tz_lm g gs) : tz_lm (tz_mN v f g) (fun j => tz_mN v (fs j) (gs j)) := by
  intro R h
  unfold tz_mN at h
  split at h
  all_goals first | (exact absurd h (by simp)) | exact hf  R h | exact hg  R h
theorem tz_lm.m1 {o : Option Nat} {f : Nat → tz_X} {fs : Nat → Nat → tz_X} (hf : ∀ a0, tz_lm (f a0) (fun j => fs j a0)) : tz_lm (tz_m1 o f) (fun j => tz_m1 o (fs j)) := by
  intro R h
  unfold tz_m1 at h
  split at h
  all_goals first | (exact absurd h (by simp)) | exact hf _ R h
theorem tz_lm.m2 {o : Option (Nat × Nat)} {f : Nat → Nat → tz_X} {fs : Nat → Nat → Nat → tz_X} (hf : ∀ a0 a1, tz_lm (f a0 a1) (fun j => fs j a0 a1)) : tz_lm (tz_m2 o f) (fun j => tz_m2 o (fs j)) := by
  intro R h
  unfold tz_m2 at h
  split at h
  all_goals first | (exact absurd h (by simp)) | exact hf _ _ R h
theorem tz_lm.mT {t : ArrayType} {f : tz_X} {fs : Nat → tz_X} {g : tz_X} {gs : Nat → tz_X} (hf : tz_lm f fs) (hg : tz_lm g gs) : tz_lm (tz_mT t f g) (fun j => tz_mT t (fs j) (gs j)) := by
  intro R h
  unfold tz_mT at h
  split at h
  all_goals first | (exact absurd h (by simp)) | exact hf  R h | exact hg  R h
theorem tz_lm.a5 {l : List Value} {f : Nat → Nat → Int32 → Int32 → Int32 → tz_X} {fs : Nat → Nat → Nat → Int32 → Int32 → Int32 → tz_X} (hf : ∀ a0 a1 a2 a3 a4, tz_lm (f a0 a1 a2 a3 a4) (fun j => fs j a0 a1 a2 a3 a4)) : tz_lm (tz_a5 l f) (fun j => tz_a5 l (fs j)) := by
  intro R h
  unfold tz_a5 at h
  split at h
  all_goals first | (exact absurd h (by simp)) | exact hf _ _ _ _ _ R h
theorem tz_lm.a2 {l : List Value} {f : Int32 → Int32 → tz_X} {fs : Nat → Int32 → Int32 → tz_X} (hf : ∀ a0 a1, tz_lm (f a0 a1) (fun j => fs j a0 a1)) : tz_lm (tz_a2 l f) (fun j => tz_a2 l (fs j)) := by
  intro R h
  unfold tz_a2 at h
  split at h
  all_goals first | (exact absurd h (by simp)) | exact hf _ _ R h
theorem tz_lm.ld {L : tz_Lo} {i : Nat} {f : Value → tz_X} {fs : Nat → Value → tz_X} (hf : ∀ v, tz_lm (f v) (fun j => fs j v)) : tz_lm (tz_ld L i f) (fun j => tz_ld L i (fs j)) := by
  unfold tz_ld
  generalize L[i]? = o
  rcases o with _ | (_ | v)
  · exact tz_lm.nn
  · exact tz_lm.nn
  · exact hf v
theorem tz_lm.st {L : tz_Lo} {i : Nat} {v : Value} {f : tz_Lo → tz_X} {fs : Nat → tz_Lo → tz_X} (hf : ∀ v, tz_lm (f v) (fun j => fs j v)) : tz_lm (tz_st L i v f) (fun j => tz_st L i v (fs j)) := by
  unfold tz_st
  exact tz_lm.bf (hf _) tz_lm.nn
theorem tz_lm.st2 {L : tz_Lo} {i : Nat} {v : Value} {f : tz_Lo → tz_X} {fs : Nat → tz_Lo → tz_X} (hf : ∀ v, tz_lm (f v) (fun j => fs j v)) : tz_lm (tz_st2 L i v f) (fun j => tz_st2 L i v (fs j)) := by
  unfold tz_st2
  exact tz_lm.bf (hf _) tz_lm.nn
theorem tz_lm.tgt {pc : Nat} {off : Int} {f : Nat → tz_X} {fs : Nat → Nat → tz_X} (hf : ∀ v, tz_lm (f v) (fun j => fs j v)) : tz_lm (tz_tgt pc off f) (fun j => tz_tgt pc off (fs j)) := by
  unfold tz_tgt
  generalize (pc : Int) + off = o
  cases o
  · exact hf _
  · exact tz_lm.nn
theorem tz_lm.tsw {x : Int32} {d : Int} {f : Int → tz_X} {fs : Nat → Int → tz_X} (hf : ∀ v, tz_lm (f v) (fun j => fs j v)) : ∀ (offs : List Int) (lo : Int), tz_lm (tz_tsw x lo offs d f) (fun j => tz_tsw x lo offs d (fs j))
  | [], _ => hf d
  | o :: t, lo => tz_lm.it (hf o) (tz_lm.tsw hf t (lo + 1))
theorem tz_lm.lsw {x : Int32} {d : Int} {f : Int → tz_X} {fs : Nat → Int → tz_X} (hf : ∀ v, tz_lm (f v) (fun j => fs j v)) : ∀ (ps : List (Int × Int)), tz_lm (tz_lsw x ps d f) (fun j => tz_lsw x ps d (fs j))
  | [] => hf d
  | o :: t => tz_lm.it (hf o.2) (tz_lm.lsw hf t)
theorem tz_lm.ic {cd : ClassFile.Cond} {x y : Int32} {a b : tz_X} {as bs : Nat → tz_X} (ha : tz_lm a as) (hb : tz_lm b bs) : tz_lm (tz_ic cd x y a b) (fun j => tz_ic cd x y (as j) (bs j)) := by
  cases cd
  all_goals exact tz_lm.it ha hb
theorem tz_lm.bV {o : tz_X} {os : Nat → tz_X} {f : tz_Mem → tz_X} {fs : Nat → tz_Mem → tz_X} (ho : tz_lm o os) (hf : ∀ A, tz_lm (f A) (fun j => fs j A)) : tz_lm (tz_bV o f) (fun j => tz_bV (os j) (fs j)) := by
  intro R h
  unfold tz_bV at h
  split at h
  · obtain ⟨n1, h1⟩ := ho _ rfl
    obtain ⟨n2, h2⟩ := hf _ R h
    exact ⟨max n1 n2, fun j hj => by show tz_bV (os j) (fs j) = _; rw [h1 j (by omega)]; exact h2 j (by omega)⟩
  · cases h
theorem tz_lm.bI {o : tz_X} {os : Nat → tz_X} {f : Int32 → tz_Mem → tz_X} {fs : Nat → Int32 → tz_Mem → tz_X} (ho : tz_lm o os) (hf : ∀ x A, tz_lm (f x A) (fun j => fs j x A)) : tz_lm (tz_bI o f) (fun j => tz_bI (os j) (fs j)) := by
  intro R h
  unfold tz_bI at h
  split at h
  · obtain ⟨n1, h1⟩ := ho _ rfl
    obtain ⟨n2, h2⟩ := hf _ _ R h
    exact ⟨max n1 n2, fun j hj => by show tz_bI (os j) (fs j) = _; rw [h1 j (by omega)]; exact h2 j (by omega)⟩
  · cases h
theorem tz_lm.bL {o : tz_X} {os : Nat → tz_X} {f : Int64 → tz_Mem → tz_X} {fs : Nat → Int64 → tz_Mem → tz_X} (ho : tz_lm o os) (hf : ∀ x A, tz_lm (f x A) (fun j => fs j x A)) : tz_lm (tz_bL o f) (fun j => tz_bL (os j) (fs j)) := by
  intro R h
  unfold tz_bL at h
  split at h
  · obtain ⟨n1, h1⟩ := ho _ rfl
    obtain ⟨n2, h2⟩ := hf _ _ R h
    exact ⟨max n1 n2, fun j hj => by show tz_bL (os j) (fs j) = _; rw [h1 j (by omega)]; exact h2 j (by omega)⟩
  · cases h
theorem tz_lm.bR {o : tz_X} {os : Nat → tz_X} {f : Nat → tz_Mem → tz_X} {fs : Nat → Nat → tz_Mem → tz_X} (ho : tz_lm o os) (hf : ∀ x A, tz_lm (f x A) (fun j => fs j x A)) : tz_lm (tz_bR o f) (fun j => tz_bR (os j) (fs j)) := by
  intro R h
  unfold tz_bR at h
  split at h
  · obtain ⟨n1, h1⟩ := ho _ rfl
    obtain ⟨n2, h2⟩ := hf _ _ R h
    exact ⟨max n1 n2, fun j hj => by show tz_bR (os j) (fs j) = _; rw [h1 j (by omega)]; exact h2 j (by omega)⟩
  · cases h
theorem tz_lm.bd {rk : Nat} {o : tz_X} {os : Nat → tz_X} {f : List Value → tz_Mem → tz_X} {fs : Nat → List Value → tz_Mem → tz_X} (ho : tz_lm o os) (hf : ∀ x A, tz_lm (f x A) (fun j => fs j x A)) : tz_lm (tz_bd rk o f) (fun j => tz_bd rk (os j) (fs j)) := by
  unfold tz_bd
  split
  · exact tz_lm.bV ho (fun A => hf _ A)
  · exact tz_lm.bL ho (fun x A => hf _ A)
  · exact tz_lm.bR ho (fun x A => hf _ A)
  · exact tz_lm.bI ho (fun x A => hf _ A)
theorem tz_lm.inv {call : Nat → List Value → tz_Mem → tz_X} {calls : Nat → Nat → List Value → tz_Mem → tz_X} {m m2 : Nat} {args rest : List Value} {A : tz_Mem} {f : List Value → tz_Mem → tz_X} {fs : Nat → List Value → tz_Mem → tz_X} (hc : ∀ m a A, tz_lm (call m a A) (fun j => calls j m a A)) (hf : ∀ x A, tz_lm (f x A) (fun j => fs j x A)) : tz_lm (tz_inv call m m2 args rest A f) (fun j => tz_inv (calls j) m m2 args rest A (fs j)) := by
  unfold tz_inv
  refine tz_lm.bf (tz_lm.bf (tz_lm.bd (hc _ _ _) (fun x A => hf _ _)) (tz_lm.bf (tz_lm.it (tz_lm.bd (hc _ _ _) (fun x A => hf _ _)) tz_lm.nn) tz_lm.nn)) tz_lm.nn
theorem tz_lm.pop {n : Nat} {st : List Value} {f : List Value → List Value → tz_X} {fs : Nat → List Value → List Value → tz_X} (hf : ∀ x A, tz_lm (f x A) (fun j => fs j x A)) : tz_lm (tz_pop n st f) (fun j => tz_pop n st (fs j)) := by
  unfold tz_pop
  exact tz_lm.bf (hf _ _) tz_lm.nn
theorem tz_lm.gf {c : Nat} {A : tz_Mem} {a ci f : Nat} {k : Value → tz_X} {ks : Nat → Value → tz_X} (hk : ∀ v, tz_lm (k v) (fun j => ks j v)) : tz_lm (tz_gf c A a ci f k) (fun j => tz_gf c A a ci f (ks j)) := by
  unfold tz_gf
  split
  · exact hk _
  · refine tz_lm.bf (hk _) ?_
    generalize A.2.2.2 a f = o
    cases o
    · exact tz_lm.nn
    · exact hk _
  · exact tz_lm.it (hk _) (tz_lm.it (hk _) (tz_lm.it (hk _) (tz_lm.it (hk _) tz_lm.nn)))
  · exact hk _
  · exact hk _
  · exact tz_lm.nn
theorem tz_lm.pf {c ini : Nat} {A : tz_Mem} {a ci f : Nat} {v : Value} {k : tz_Mem → tz_X} {ks : Nat → tz_Mem → tz_X} (hk : ∀ v, tz_lm (k v) (fun j => ks j v)) : tz_lm (tz_pf c ini A a ci f v k) (fun j => tz_pf c ini A a ci f v (ks j)) := by
  unfold tz_pf
  split
  · exact hk _
  · exact tz_lm.it (hk _) tz_lm.nn
  · exact tz_lm.bf (hk _) tz_lm.nn
  · exact hk _
  · exact hk _
  · exact tz_lm.nn
theorem tz_lm.ix {A : tz_Mem} {kd a c : Nat} {i : Int32} {o : tz_X} {os : Nat → tz_X} (ho : tz_lm o os) : tz_lm (tz_ix A kd a c i o) (fun j => tz_ix A kd a c i (os j)) := by
  unfold tz_ix
  exact tz_lm.bf (tz_lm.it tz_lm.nn ho) tz_lm.nn
theorem tz_lm.cpy {c : Nat} {A : tz_Mem} {k1 k2 : Nat} {i1 i2 n : Int32} {k : tz_Mem → tz_X} {ks : Nat → tz_Mem → tz_X} (hk : ∀ v, tz_lm (k v) (fun j => ks j v)) : tz_lm (tz_cpy c A k1 k2 i1 i2 n k) (fun j => tz_cpy c A k1 k2 i1 i2 n (ks j)) := by
  unfold tz_cpy
  exact tz_lm.bf (tz_lm.it tz_lm.nn (tz_lm.bf (hk _) (tz_lm.bf (hk _) tz_lm.nn))) tz_lm.nn
set_option maxHeartbeats 4000000 in
theorem tz_ins_lm {call : Nat → List Value → tz_Mem → tz_X} {calls : Nat → Nat → List Value → tz_Mem → tz_X} {k : Nat → tz_Lo → List Value → tz_Mem → tz_X} {ks : Nat → Nat → tz_Lo → List Value → tz_Mem → tz_X} (hc : ∀ m a A, tz_lm (call m a A) (fun j => calls j m a A)) (hk : ∀ pc L st A, tz_lm (k pc L st A) (fun j => ks j pc L st A)) (m pc : Nat) (i : Instr) (np : Nat) (L : tz_Lo) (st : List Value) (A : tz_Mem) :
    tz_lm (tz_ins call k m pc i np L st A) (fun j => tz_ins (calls j) (ks j) m pc i np L st A) := by
  cases i
  all_goals simp only [tz_ins]
  all_goals repeat' first
    | exact tz_lm.nn
    | exact hk _ _ _ _
    | exact tz_lm.rf
    | apply tz_lm.i1 | apply tz_lm.i2 | apply tz_lm.l1 | apply tz_lm.l2 | apply tz_lm.lj | apply tz_lm.r1 | apply tz_lm.ai | apply tz_lm.aii | apply tz_lm.ail | apply tz_lm.v1
    | apply tz_lm.mC | apply tz_lm.mI | apply tz_lm.mL | apply tz_lm.mR | apply tz_lm.mN | apply tz_lm.m1 | apply tz_lm.m2 | apply tz_lm.mT | apply tz_lm.a5 | apply tz_lm.a2
    | apply tz_lm.ld | apply tz_lm.st | apply tz_lm.st2 | apply tz_lm.tgt | apply tz_lm.tsw | apply tz_lm.lsw | apply tz_lm.ic | apply tz_lm.pop | apply tz_lm.gf | apply tz_lm.pf | apply tz_lm.ix | apply tz_lm.cpy
    | exact tz_lm.inv hc (fun _ _ => hk _ _ _ _)
    | apply tz_lm.bf | apply tz_lm.it
    | intro _
theorem tz_stp_lm {call : Nat → List Value → tz_Mem → tz_X} {calls : Nat → Nat → List Value → tz_Mem → tz_X} {k : Nat → tz_Lo → List Value → tz_Mem → tz_X} {ks : Nat → Nat → tz_Lo → List Value → tz_Mem → tz_X} (hc : ∀ m a A, tz_lm (call m a A) (fun j => calls j m a A)) (hk : ∀ pc L st A, tz_lm (k pc L st A) (fun j => ks j pc L st A)) (m pc : Nat) (L : tz_Lo) (st : List Value) (A : tz_Mem) :
    tz_lm (tz_stp call k m pc L st A) (fun j => tz_stp (calls j) (ks j) m pc L st A) := by
  unfold tz_stp
  generalize tz_code m pc = o
  rcases o with _ | ⟨i, np, mq⟩
  · exact tz_lm.nn
  · exact tz_ins_lm hc hk _ _ _ _ _ _ _
theorem tz_go_succ : ∀ (n m pc : Nat) (L : tz_Lo) (st : List Value) (A : tz_Mem) (R : tz_RR), tz_go n m pc L st A = some R → tz_go (n + 1) m pc L st A = some R := by
  intro n
  induction n with
  | zero => intro m pc L st A R h; simp [tz_go] at h
  | succ n ih =>
    intro m pc L st A R h
    have z := tz_stp_lm (call := fun m2 args A2 => tz_go n m2 0 (tz_ent m2 args) [] A2) (calls := fun _ m2 args A2 => tz_go (n + 1) m2 0 (tz_ent m2 args) [] A2) (k := fun pc2 L2 st2 A2 => tz_go n m pc2 L2 st2 A2) (ks := fun _ pc2 L2 st2 A2 => tz_go (n + 1) m pc2 L2 st2 A2)
      (fun m2 a A2 R2 h2 => ⟨0, fun _ _ => ih _ _ _ _ _ _ h2⟩) (fun _ _ _ _ R2 h2 => ⟨0, fun _ _ => ih _ _ _ _ _ _ h2⟩) m pc L st A R h
    obtain ⟨j, hj⟩ := z
    exact hj j (Nat.le_refl j)
theorem tz_go_le {n j m pc : Nat} {L : tz_Lo} {st : List Value} {A : tz_Mem} {R : tz_RR} (h : tz_go n m pc L st A = some R) (hj : n ≤ j) : tz_go j m pc L st A = some R := by
  induction hj with
  | refl => exact h
  | step _ ih => exact tz_go_succ _ _ _ _ _ _ _ ih
theorem tz_Go_of {n m pc : Nat} {L : tz_Lo} {st : List Value} {A : tz_Mem} {R : tz_RR} (h : tz_go n m pc L st A = some R) : tz_Go m pc L st A = some R := by
  have hx : ∃ n, (tz_go n m pc L st A).isSome = true := ⟨n, by rw [h]; rfl⟩
  unfold tz_Go
  rw [dif_pos hx]
  have h2 := Classical.choose_spec hx
  obtain ⟨R2, e2⟩ := Option.isSome_iff_exists.mp h2
  rw [e2]
  have a := tz_go_le h (Nat.le_max_left n (Classical.choose hx))
  have b := tz_go_le e2 (Nat.le_max_right n (Classical.choose hx))
  rw [a] at b
  exact b.symm
theorem tz_Go_to {m pc : Nat} {L : tz_Lo} {st : List Value} {A : tz_Mem} {R : tz_RR} (h : tz_Go m pc L st A = some R) : ∃ n, tz_go n m pc L st A = some R := by
  unfold tz_Go at h
  by_cases hx : ∃ n, (tz_go n m pc L st A).isSome = true
  · rw [dif_pos hx] at h
    exact ⟨_, h⟩
  · rw [dif_neg hx] at h
    cases h
theorem tz_Go_lm (m pc : Nat) (L : tz_Lo) (st : List Value) (A : tz_Mem) : tz_lm (tz_Go m pc L st A) (fun j => tz_go j m pc L st A) := by
  intro R h
  obtain ⟨n, hn⟩ := tz_Go_to h
  exact ⟨n, fun j hj => tz_go_le hn hj⟩
theorem tz_Go_step (m pc : Nat) (L : tz_Lo) (st : List Value) (A : tz_Mem) : tz_Go m pc L st A = tz_stp (fun m2 args A2 => tz_F m2 args A2) (fun pc2 L2 st2 A2 => tz_Go m pc2 L2 st2 A2) m pc L st A := by
  apply Option.ext
  intro R
  constructor
  · intro h
    obtain ⟨n, hn⟩ := tz_Go_to h
    cases n with
    | zero => simp [tz_go] at hn
    | succ n =>
      have z := tz_stp_lm (call := fun m2 args A2 => tz_go n m2 0 (tz_ent m2 args) [] A2) (calls := fun _ m2 args A2 => tz_F m2 args A2) (k := fun pc2 L2 st2 A2 => tz_go n m pc2 L2 st2 A2) (ks := fun _ pc2 L2 st2 A2 => tz_Go m pc2 L2 st2 A2)
        (fun m2 a A2 R2 h2 => ⟨0, fun _ _ => tz_Go_of h2⟩) (fun _ _ _ _ R2 h2 => ⟨0, fun _ _ => tz_Go_of h2⟩) m pc L st A R hn
      obtain ⟨j, hj⟩ := z
      exact hj j (Nat.le_refl j)
  · intro h
    have z := tz_stp_lm (call := fun m2 args A2 => tz_F m2 args A2) (calls := fun j m2 args A2 => tz_go j m2 0 (tz_ent m2 args) [] A2) (k := fun pc2 L2 st2 A2 => tz_Go m pc2 L2 st2 A2) (ks := fun j pc2 L2 st2 A2 => tz_go j m pc2 L2 st2 A2)
      (fun m2 a A2 => tz_Go_lm _ _ _ _ _) (fun _ _ _ _ => tz_Go_lm _ _ _ _ _) m pc L st A R h
    obtain ⟨n, hn⟩ := z
    exact tz_Go_of (n := n + 1) (hn n (Nat.le_refl n))
def tz_len (i : Instr) : Nat := match i with
  | .bipush _ | .ldc _ | .iload _ | .istore _ | .lload _ | .lstore _ | .aload _ | .astore _ | .newarray _ => 2
  | .sipush _ | .ldc_w _ | .ldc2_w _ | .iinc _ _ | .ifCond _ _ | .if_icmp _ _ | .ifnull _ | .goto _ | .getfield _ | .putfield _ | .getstatic _ | .new _ | .invokevirtual _ | .invokespecial _ | .invokestatic _ => 3
  | .multianewarray _ _ => 4
  | .tableswitch _ _ _ _ | .lookupswitch _ _ => 0
  | _ => 1
def tz_Pd (m k : Nat) (v : Instr × Nat × Nat) : Prop := ∃ n, decode (tz_by m) k = .ok (v.1, n) ∧ v.2.1 = k + n ∧ (tz_len v.1 = 0 ∨ n = tz_len v.1)
