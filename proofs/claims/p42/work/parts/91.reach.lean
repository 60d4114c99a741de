/-! reach -/
def rc_b (x : Int32) (l : Nat) : Bool := x.toBitVec.getLsbD l
theorem rc_is {x : Int32} : bt_is x (rc_b x) := fun _ _ => rfl
theorem rc_or {x : Int32} {l m : Nat} (hl : l < 32) (hm : m < 32) : rc_b (x ||| (tz_j 1 <<< (tz_j l &&& tz_j 31))) m = (rc_b x m || decide (l = m)) := bj_or hl rc_is m hm
theorem rc_1 {l m : Nat} (hl : l < 32) (hm : m < 32) : rc_b (tz_j 1 <<< (tz_j l &&& tz_j 31)) m = decide (l = m) := bt_one hl hm
def rc_e (S : tz_S) (v a b : Nat) : Prop := ∃ t i, t < S 7 0 ∧ i < S 11 t ∧ v ≤ S 9 t ∧ a = S 12 (6 * t + i) ∧ b = S 12 (6 * t + (if i + 1 < S 11 t then i + 1 else 0))
def rc_R (S : tz_S) (v h g : Nat) : Prop := ∀ X : Nat → Prop, X h → (∀ a b, rc_e S v a b → X a → X b) → X g
theorem rc_Rs {S : tz_S} {v h a b : Nat} (r : rc_R S v h a) (e : rc_e S v a b) : rc_R S v h b := fun X x c => c a b e (r X x c)
theorem rc_lt {S : tz_S} {v h g : Nat} (W : sp_W1 S) (hh : h < S 1 0) (r : rc_R S v h g) : g < S 1 0 := by
  refine r (fun g => g < S 1 0) hh (fun a b e _ => ?_)
  obtain ⟨t, i, ht, hi, _, _, e2⟩ := e
  rw [e2]
  refine (W.2.2.2.2.1 t ht).2.2.2.2.2.2.2.2 _ ?_
  split <;> omega
def rc_pv (S : tz_S) (t i : Nat) : Nat := S 12 (6 * t + (if i = 0 then S 11 t - 1 else i - 1))
theorem rc_pe {S : tz_S} {v t i : Nat} (ht : t < S 7 0) (hi : i < S 11 t) (hv : v ≤ S 9 t) : rc_e S v (rc_pv S t i) (S 12 (6 * t + i)) := by
  unfold rc_pv
  by_cases z : i = 0
  · rw [if_pos z]
    refine ⟨t, S 11 t - 1, ht, by omega, hv, rfl, ?_⟩
    rw [if_neg (by omega), z]
  · rw [if_neg z]
    refine ⟨t, i - 1, ht, by omega, hv, rfl, ?_⟩
    rw [if_pos (by omega), Nat.sub_add_cancel (by omega)]
/-- more, and nothing that isn't reached -/
def rc_st (S : tz_S) (v h : Nat) (x y : Int32) : Prop := (∀ l, l < 32 → rc_b x l = true → rc_b y l = true) ∧ (∀ l, l < 32 → rc_b y l = true → rc_R S v h l)
theorem rc_add {S : tz_S} {v h a b : Nat} {x : Int32} (hR : ∀ l, l < 32 → rc_b x l = true → rc_R S v h l) (hb : b < 32) (r : rc_R S v h b) : rc_st S v h x (x ||| (tz_j 1 <<< (tz_j b &&& tz_j 31))) ∧ rc_b (x ||| (tz_j 1 <<< (tz_j b &&& tz_j 31))) b = true := by
  refine ⟨⟨fun l hl q => ?_, fun l hl q => ?_⟩, ?_⟩
  · rw [rc_or hb hl, q]
    rfl
  · rw [rc_or hb hl] at q
    by_cases z : b = l
    · rw [← z]
      exact r
    · exact hR l hl (by simpa [z] using q)
  · rw [rc_or hb hb]
    simp
theorem x_rcI {S : tz_S} {A : tz_Mem} {v h t : Nat} (c : rx_c 30 S A) (W : sp_W1 S) (hv : v ≤ 99) (ht : t < S 7 0) : ∀ k i x, i + k = S 11 t → (∀ l, l < 32 → rc_b x l = true → rc_R S v h l) → ∃ y, q_X10_spread_34 30 (tz_j v) x (tz_j t) (tz_j (rc_pv S t i)) (tz_j i) A = q_X10_spread_5 30 (tz_j v) y (tz_j (t + 1)) A ∧ rc_st S v h x y ∧ (v ≤ S 9 t → ∀ j, i ≤ j → j < S 11 t → rc_b x (rc_pv S t j) = true → rc_b y (S 12 (6 * t + j)) = true) := by
  have h4 := W.2.1
  have h8 := W.1
  have ht2 := W.2.2.2.2.1 t ht
  have hwy := ht2.2.2.2.2.2.2.2.2
  intro k
  induction k with
  | zero =>
    intro i x hi hR
    refine ⟨x, ?_, ⟨fun _ _ q => q, hR⟩, fun _ j a b => by omega⟩
    rw [e_X10_spread_34 _ _ _ _ _ _ h30]
    simp (disch := omega) only [tz_lit, nj_m1, ↓reduceIte, nj_cl, nj_ltt, nj_ltf, nj_let, nj_lef, nj_eqf, nj_lt, nj_le, nj_eq, nj_add, nj_mul, nj_modx, nj_and7, nj_div, tz_bI_some, tz_bV_some, or_false, false_or, or_self, and_false, false_and, and_true, true_and, not_true_eq_false, not_false_eq_true, nt_lef, nt_let, nt_ltf, nt_ltt, nt_eqf, nj_m2, nj_m3, nj_m4, nj_m5, nj_m6, nj_m7, tz_bL_some, nj_sub, ng_ltt, ng_let, ng_gtf, ng_gef, cz_11 c]
  | succ k ih =>
    intro i x hi hR
    have hp : rc_pv S t i < S 1 0 := hwy _ (by split <;> omega)
    have hq := hwy i (by omega)
    rw [e_X10_spread_34 _ _ _ _ _ _ h30]
    by_cases z : v ≤ S 9 t
    · have e1 : f_X10_wayHill 30 (tz_j t) (tz_j i) A = some (some (.int (tz_j (S 12 (6 * t + i)))), A) := by
        rw [e_X10_wayHill _ _ _ h30, Nat.mul_comm 6 t]
        simp (disch := omega) only [tz_lit, nj_m1, ↓reduceIte, nj_cl, nj_ltt, nj_ltf, nj_let, nj_lef, nj_eqf, nj_lt, nj_le, nj_eq, nj_add, nj_mul, nj_modx, nj_and7, nj_div, tz_bI_some, tz_bV_some, or_false, false_or, or_self, and_false, false_and, and_true, true_and, not_true_eq_false, not_false_eq_true, nt_lef, nt_let, nt_ltf, nt_ltt, nt_eqf, nj_m2, nj_m3, nj_m4, nj_m5, nj_m6, nj_m7, tz_bL_some, nj_sub, ng_ltt, ng_let, ng_gtf, ng_gef, cz_12 c]
      have en : rc_pv S t (i + 1) = S 12 (6 * t + i) := by
        unfold rc_pv
        rw [if_neg (by omega), Nat.add_sub_cancel]
      have bt := bj_test (l := rc_pv S t i) (by omega) (rc_is (x := x))
      by_cases y : rc_b x (rc_pv S t i) = true
      · have ra := rc_add (a := 0) hR (show S 12 (6 * t + i) < 32 by omega) (rc_Rs (hR _ (by omega) y) (rc_pe ht (by omega) z))
        obtain ⟨u, e, st, hj⟩ := ih (i + 1) (x ||| (tz_j 1 <<< (tz_j (S 12 (6 * t + i)) &&& tz_j 31))) (by omega) ra.1.2
        rw [en] at e
        refine ⟨u, ?_, ⟨fun l hl q => st.1 l hl (ra.1.1 l hl q), st.2⟩, fun hz j a b q => ?_⟩
        · rw [y] at bt
          simp (disch := omega) only [tz_lit, nj_m1, ↓reduceIte, nj_cl, nj_ltt, nj_ltf, nj_let, nj_lef, nj_eqf, nj_lt, nj_le, nj_eq, nj_add, nj_mul, nj_modx, nj_and7, nj_div, tz_bI_some, tz_bV_some, or_false, false_or, or_self, and_false, false_and, and_true, true_and, not_true_eq_false, not_false_eq_true, nt_lef, nt_let, nt_ltf, nt_ltt, nt_eqf, nj_m2, nj_m3, nj_m4, nj_m5, nj_m6, nj_m7, tz_bL_some, nj_sub, ng_ltt, ng_let, ng_gtf, ng_gef, cz_11 c, cz_9 c, e1, bt, Bool.true_eq_false]
          exact e
        · by_cases y2 : j = i
          · rw [y2]
            exact st.1 _ (by omega) ra.2
          · have hp2 : rc_pv S t j < S 1 0 := hwy _ (by split <;> omega)
            exact hj hz j (by omega) b (ra.1.1 _ (by omega) q)
      · obtain ⟨u, e, st, hj⟩ := ih (i + 1) x (by omega) hR
        rw [en] at e
        refine ⟨u, ?_, st, fun hz j a b q => ?_⟩
        · have y0 : rc_b x (rc_pv S t i) = false := by simpa using y
          rw [y0] at bt
          simp (disch := omega) only [tz_lit, nj_m1, ↓reduceIte, nj_cl, nj_ltt, nj_ltf, nj_let, nj_lef, nj_eqf, nj_lt, nj_le, nj_eq, nj_add, nj_mul, nj_modx, nj_and7, nj_div, tz_bI_some, tz_bV_some, or_false, false_or, or_self, and_false, false_and, and_true, true_and, not_true_eq_false, not_false_eq_true, nt_lef, nt_let, nt_ltf, nt_ltt, nt_eqf, nj_m2, nj_m3, nj_m4, nj_m5, nj_m6, nj_m7, tz_bL_some, nj_sub, ng_ltt, ng_let, ng_gtf, ng_gef, cz_11 c, cz_9 c, e1, bt]
          exact e
        · by_cases y2 : j = i
          · rw [y2] at q
            exact absurd q y
          · exact hj hz j (by omega) b q
    · refine ⟨x, ?_, ⟨fun _ _ q => q, hR⟩, fun hz => absurd hz z⟩
      simp (disch := omega) only [tz_lit, nj_m1, ↓reduceIte, nj_cl, nj_ltt, nj_ltf, nj_let, nj_lef, nj_eqf, nj_lt, nj_le, nj_eq, nj_add, nj_mul, nj_modx, nj_and7, nj_div, tz_bI_some, tz_bV_some, or_false, false_or, or_self, and_false, false_and, and_true, true_and, not_true_eq_false, not_false_eq_true, nt_lef, nt_let, nt_ltf, nt_ltt, nt_eqf, nj_m2, nj_m3, nj_m4, nj_m5, nj_m6, nj_m7, tz_bL_some, nj_sub, ng_ltt, ng_let, ng_gtf, ng_gef, cz_11 c, cz_9 c]
theorem x_rcO {S : tz_S} {A : tz_Mem} {v h : Nat} (c : rx_c 30 S A) (W : sp_W1 S) (hv : v ≤ 99) : ∀ k t x, t + k = S 7 0 → (∀ l, l < 32 → rc_b x l = true → rc_R S v h l) → ∃ y, q_X10_spread_5 30 (tz_j v) x (tz_j t) A = some (some (.int y), A) ∧ rc_st S v h x y ∧ (∀ u j, t ≤ u → u < S 7 0 → j < S 11 u → v ≤ S 9 u → rc_b x (rc_pv S u j) = true → rc_b y (S 12 (6 * u + j)) = true) := by
  have h4 := W.2.1
  have h8 := W.1
  intro k
  induction k with
  | zero =>
    intro t x ht hR
    refine ⟨x, ?_, ⟨fun _ _ q => q, hR⟩, fun u j a b => by omega⟩
    rw [e_X10_spread_5 _ _ _ _ h30]
    simp (disch := omega) only [tz_lit, nj_m1, ↓reduceIte, nj_cl, nj_ltt, nj_ltf, nj_let, nj_lef, nj_eqf, nj_lt, nj_le, nj_eq, nj_add, nj_mul, nj_modx, nj_and7, nj_div, tz_bI_some, tz_bV_some, or_false, false_or, or_self, and_false, false_and, and_true, true_and, not_true_eq_false, not_false_eq_true, nt_lef, nt_let, nt_ltf, nt_ltt, nt_eqf, nj_m2, nj_m3, nj_m4, nj_m5, nj_m6, nj_m7, tz_bL_some, nj_sub, ng_ltt, ng_let, ng_gtf, ng_gef, cz_7 c]
  | succ k ih =>
    intro t x ht hR
    have ht0 : t < S 7 0 := by omega
    have ht2 := W.2.2.2.2.1 t ht0
    have hwy := ht2.2.2.2.2.2.2.2.2
    obtain ⟨y, e, st, hj⟩ := x_rcI (h := h) c W hv ht0 (S 11 t) 0 x (Nat.zero_add _) hR
    obtain ⟨z, e2, st2, hj2⟩ := ih (t + 1) y (by omega) st.2
    refine ⟨z, ?_, ⟨fun l hl q => st2.1 l hl (st.1 l hl q), st2.2⟩, fun u j a b d f q => ?_⟩
    · have e1 : f_X10_wayHill 30 (tz_j t) (tz_j (S 11 t - 1)) A = some (some (.int (tz_j (rc_pv S t 0))), A) := by
        rw [e_X10_wayHill _ _ _ h30]
        unfold rc_pv
        rw [if_pos rfl, Nat.mul_comm 6 t]
        simp (disch := omega) only [tz_lit, nj_m1, ↓reduceIte, nj_cl, nj_ltt, nj_ltf, nj_let, nj_lef, nj_eqf, nj_lt, nj_le, nj_eq, nj_add, nj_mul, nj_modx, nj_and7, nj_div, tz_bI_some, tz_bV_some, or_false, false_or, or_self, and_false, false_and, and_true, true_and, not_true_eq_false, not_false_eq_true, nt_lef, nt_let, nt_ltf, nt_ltt, nt_eqf, nj_m2, nj_m3, nj_m4, nj_m5, nj_m6, nj_m7, tz_bL_some, nj_sub, ng_ltt, ng_let, ng_gtf, ng_gef, cz_12 c]
      rw [e_X10_spread_5 _ _ _ _ h30]
      simp (disch := omega) only [tz_lit, nj_m1, ↓reduceIte, nj_cl, nj_ltt, nj_ltf, nj_let, nj_lef, nj_eqf, nj_lt, nj_le, nj_eq, nj_add, nj_mul, nj_modx, nj_and7, nj_div, tz_bI_some, tz_bV_some, or_false, false_or, or_self, and_false, false_and, and_true, true_and, not_true_eq_false, not_false_eq_true, nt_lef, nt_let, nt_ltf, nt_ltt, nt_eqf, nj_m2, nj_m3, nj_m4, nj_m5, nj_m6, nj_m7, tz_bL_some, nj_sub, ng_ltt, ng_let, ng_gtf, ng_gef, cz_7 c, cz_11 c, e1]
      exact e.trans e2
    · have hp : rc_pv S u j < S 1 0 := (W.2.2.2.2.1 u b).2.2.2.2.2.2.2.2 _ (by split <;> omega)
      have hq : S 12 (6 * u + j) < S 1 0 := (W.2.2.2.2.1 u b).2.2.2.2.2.2.2.2 _ d
      by_cases y2 : u = t
      · subst y2
        exact st2.1 _ (by omega) (hj f j (Nat.zero_le _) d q)
      · exact hj2 u j (by omega) b d f (st.1 _ (by omega) q)
/-- a round: from each that was there the next ones -/
def rc_rd (S : tz_S) (v h : Nat) (x y : Int32) : Prop := rc_st S v h x y ∧ ∀ a b, rc_e S v a b → rc_b x a = true → rc_b y b = true
theorem x_rc1 {S : tz_S} {A : tz_Mem} {v h : Nat} {x : Int32} (c : rx_c 30 S A) (W : sp_W1 S) (hv : v ≤ 99) (hR : ∀ l, l < 32 → rc_b x l = true → rc_R S v h l) : ∃ y, f_X10_spread 30 x (tz_j v) A = some (some (.int y), A) ∧ rc_rd S v h x y := by
  obtain ⟨y, e, st, hj⟩ := x_rcO (h := h) c W hv (S 7 0) 0 x (Nat.zero_add _) hR
  refine ⟨y, ?_, st, fun a b ed q => ?_⟩
  · rw [e_X10_spread _ _ _ h30]
    exact e
  · obtain ⟨t, i, ht, hi, hv2, e1, e2⟩ := ed
    rw [e1] at q
    rw [e2]
    refine hj t _ (Nat.zero_le _) ht (by split <;> omega) hv2 ?_
    unfold rc_pv
    by_cases z : i + 1 < S 11 t
    · rw [if_pos z, if_neg (by omega), Nat.add_sub_cancel]
      exact q
    · rw [if_neg z, if_pos rfl, show S 11 t - 1 = i by omega]
      exact q
/-- how many there are -/
def rc_c (x : Int32) : Nat → Nat
  | 0 => 0
  | n + 1 => rc_c x n + (if rc_b x n = true then 1 else 0)
theorem rc_cl {x : Int32} : ∀ n, rc_c x n ≤ n := by
  intro n
  induction n with
  | zero => exact Nat.le_refl _
  | succ n ih =>
    show rc_c x n + (if rc_b x n = true then 1 else 0) ≤ n + 1
    split <;> omega
theorem rc_cm {x y : Int32} : ∀ n, (∀ l, l < n → rc_b x l = true → rc_b y l = true) → rc_c x n ≤ rc_c y n := by
  intro n
  induction n with
  | zero => exact fun _ => Nat.le_refl _
  | succ n ih =>
    intro h
    have a := ih (fun l hl => h l (by omega))
    show rc_c x n + (if rc_b x n = true then 1 else 0) ≤ rc_c y n + (if rc_b y n = true then 1 else 0)
    by_cases z : rc_b x n = true
    · rw [if_pos z, if_pos (h n (by omega) z)]
      omega
    · rw [if_neg z]
      omega
theorem rc_cs {x y : Int32} {b : Nat} : ∀ n, b < n → (∀ l, l < n → rc_b x l = true → rc_b y l = true) → rc_b y b = true → ¬ rc_b x b = true → rc_c x n + 1 ≤ rc_c y n := by
  intro n
  induction n with
  | zero => exact fun h => absurd h (Nat.not_lt_zero b)
  | succ n ih =>
    intro hb h h1 h2
    show rc_c x n + (if rc_b x n = true then 1 else 0) + 1 ≤ rc_c y n + (if rc_b y n = true then 1 else 0)
    by_cases z : b = n
    · have a := rc_cm n (fun l hl => h l (show l < n + 1 by omega))
      rw [← z, if_neg h2, if_pos h1, z]
      omega
    · have a := ih (by omega) (fun l hl => h l (by omega)) h1 h2
      by_cases y : rc_b x n = true
      · rw [if_pos y, if_pos (h n (by omega) y)]
        omega
      · rw [if_neg y]
        omega
def rc_P (S : tz_S) (v h n : Nat) (x : Int32) : Prop := (∀ l, l < 32 → rc_b x l = true → rc_R S v h l) ∧ rc_b x h = true ∧ ((∀ g, rc_R S v h g → rc_b x g = true) ∨ n + 1 ≤ rc_c x (S 1 0))
theorem rc_Pn {S : tz_S} {v h n : Nat} {x y : Int32} (W : sp_W1 S) (hh : h < S 1 0) (p : rc_P S v h n x) (r : rc_rd S v h x y) : rc_P S v h (n + 1) y := by
  have h8 := W.1
  obtain ⟨p1, p2, p3⟩ := p
  obtain ⟨⟨s1, s2⟩, r2⟩ := r
  refine ⟨s2, s1 _ (by omega) p2, ?_⟩
  rcases p3 with p3 | p3
  · exact Or.inl (fun g hg => s1 g (by have := rc_lt W hh hg; omega) (p3 g hg))
  · by_cases z : ∀ a b, rc_e S v a b → rc_b x a = true → rc_b x b = true
    · exact Or.inl (fun g hg => s1 g (by have := rc_lt W hh hg; omega) (hg (fun g => rc_b x g = true) p2 z))
    · right
      have ⟨a, b, e, q1, q2⟩ : ∃ a b, rc_e S v a b ∧ rc_b x a = true ∧ ¬ rc_b x b = true := by
        refine Classical.byContradiction (fun no => z (fun a b e q => ?_))
        exact Classical.byContradiction (fun q3 => no ⟨a, b, e, q, q3⟩)
      have hb : b < S 1 0 := by
        obtain ⟨t, i, ht, hi, _, _, e2⟩ := e
        rw [e2]
        refine (W.2.2.2.2.1 t ht).2.2.2.2.2.2.2.2 _ ?_
        split <;> omega
      have := rc_cs (b := b) (S 1 0) hb (fun l hl => s1 l (by omega)) (r2 a b e q1) q2
      omega
theorem rc_P0 {S : tz_S} {v h : Nat} (W : sp_W1 S) (hh : h < S 1 0) : rc_P S v h 0 (tz_j 1 <<< (tz_j h &&& tz_j 31)) := by
  have h8 := W.1
  refine ⟨fun l hl q => ?_, ?_, Or.inr ?_⟩
  · rw [rc_1 (by omega) hl] at q
    rw [← of_decide_eq_true q]
    exact fun X a _ => a
  · rw [rc_1 (by omega) (by omega)]
    simp
  · have := rc_cs (x := tz_j 0) (y := tz_j 1 <<< (tz_j h &&& tz_j 31)) (b := h) (S 1 0) hh (fun l hl q => by
      rw [show rc_b (tz_j 0) l = false from bj_zero l (by omega)] at q
      exact absurd q (by simp)) (by rw [rc_1 (by omega) (by omega)]; simp) (by
      rw [show rc_b (tz_j 0) h = false from bj_zero h (by omega)]
      simp)
    omega
theorem rc_Pe {S : tz_S} {v h n m : Nat} {x y : Int32} (W : sp_W1 S) (hh : h < S 1 0) (hn : S 1 0 ≤ n) (hm : S 1 0 ≤ m) (p : rc_P S v h n x) (q : rc_P S v h m y) : x = y := by
  have h8 := W.1
  have c1 := rc_cl (x := x) (S 1 0)
  have c2 := rc_cl (x := y) (S 1 0)
  obtain ⟨p1, _, p3⟩ := p
  obtain ⟨q1, _, q3⟩ := q
  have p4 := p3.resolve_right (by omega)
  have q4 := q3.resolve_right (by omega)
  refine bt_ext (p := rc_b x) rc_is (fun l hl => ?_)
  show rc_b y l = rc_b x l
  rw [Bool.eq_iff_iff]
  exact ⟨fun a => p4 l (q1 l hl a), fun a => q4 l (p1 l hl a)⟩
theorem x_rcR {S : tz_S} {A : tz_Mem} {v h : Nat} (c : rx_c 30 S A) (W : sp_W1 S) (hv : v ≤ 99) (hh : h < S 1 0) : ∀ k r x, r + k = S 1 0 → rc_P S v h r x → ∃ y, q_X11_reach_45 (tz_j v) x (tz_j r) A = some (some (.int y), A) ∧ rc_P S v h (S 1 0) y := by
  have h8 := W.1
  intro k
  induction k with
  | zero =>
    intro r x hr p
    rw [Nat.add_zero] at hr
    subst hr
    refine ⟨x, ?_, p⟩
    rw [e_X11_reach_45]
    simp (disch := omega) only [tz_lit, nj_m1, ↓reduceIte, nj_cl, nj_ltt, nj_ltf, nj_let, nj_lef, nj_eqf, nj_lt, nj_le, nj_eq, nj_add, nj_mul, nj_modx, nj_and7, nj_div, tz_bI_some, tz_bV_some, or_false, false_or, or_self, and_false, false_and, and_true, true_and, not_true_eq_false, not_false_eq_true, nt_lef, nt_let, nt_ltf, nt_ltt, nt_eqf, nj_m2, nj_m3, nj_m4, nj_m5, nj_m6, nj_m7, tz_bL_some, nj_sub, ng_ltt, ng_let, ng_gtf, ng_gef, cz_1 c]
  | succ k ih =>
    intro r x hr p
    obtain ⟨y, e, rd⟩ := x_rc1 (h := h) c W hv p.1
    obtain ⟨z, e2, p2⟩ := ih (r + 1) y (by omega) (rc_Pn W hh p rd)
    refine ⟨z, ?_, p2⟩
    rw [e_X11_reach_45]
    simp (disch := omega) only [tz_lit, nj_m1, ↓reduceIte, nj_cl, nj_ltt, nj_ltf, nj_let, nj_lef, nj_eqf, nj_lt, nj_le, nj_eq, nj_add, nj_mul, nj_modx, nj_and7, nj_div, tz_bI_some, tz_bV_some, or_false, false_or, or_self, and_false, false_and, and_true, true_and, not_true_eq_false, not_false_eq_true, nt_lef, nt_let, nt_ltf, nt_ltt, nt_eqf, nj_m2, nj_m3, nj_m4, nj_m5, nj_m6, nj_m7, tz_bL_some, nj_sub, ng_ltt, ng_let, ng_gtf, ng_gef, cz_1 c, e]
    exact e2
