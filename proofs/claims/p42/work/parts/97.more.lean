/-! storms never have more than there is room for, nor too heavy ones; what is foreseen comes -/
def sp_X (S : tz_S) : Prop := ∀ t, t < S 7 0 → sp_cw (100 + t) (S 15 0) S ≤ S 10 t ∧ ∀ l, l < S 15 0 → S 20 l = 100 + t → S 19 l ≤ S 9 t
theorem cw_mo {p : Nat} {S T : tz_S} : ∀ n, (∀ l, l < n → T 20 l = p → S 20 l = p) → sp_cw p n T ≤ sp_cw p n S := by
  intro n
  induction n with
  | zero => exact fun _ => Nat.le_refl _
  | succ n ih =>
    intro h
    have a := ih (fun l hl => h l (by omega))
    rw [cw_s, cw_s]
    by_cases z : T 20 n = p
    · rw [if_pos z, if_pos (h n (by omega) z)]
      omega
    · rw [if_neg z]
      omega
theorem cw_0 {p : Nat} {S : tz_S} : ∀ n, (∀ l, l < n → S 20 l ≠ p) → sp_cw p n S = 0 := by
  intro n
  induction n with
  | zero => exact fun _ => rfl
  | succ n ih =>
    intro h
    rw [cw_s, ih (fun l hl => h l (by omega)), if_neg (h n (by omega))]
theorem cw_t {p m v : Nat} {S : tz_S} : ∀ n, sp_cw p n (tz_t S 20 m v) ≤ sp_cw p n S + (if m < n then 1 else 0) := by
  intro n
  induction n with
  | zero => exact Nat.zero_le _
  | succ n ih =>
    rw [cw_s, cw_s]
    by_cases z : n = m
    · subst z
      rw [if_neg (by omega)] at ih
      rw [if_pos (show n < n + 1 by omega)]
      split <;> omega
    · rw [tz_ti z]
      by_cases y : m < n
      · rw [if_pos y] at ih
        rw [if_pos (show m < n + 1 by omega)]
        omega
      · rw [if_neg y] at ih
        rw [if_neg (show ¬ m < n + 1 by omega)]
        omega
theorem cw_t1 {p m v n : Nat} {S : tz_S} : sp_cw p n (tz_t S 20 m v) ≤ sp_cw p n S + 1 := by
  have := cw_t (p := p) (m := m) (v := v) (S := S) n
  split at this <;> omega
theorem sayL_20 {t h : Nat} (ht : t < 4) : ∀ k i S, i + k = S 15 0 → sp_W1 S → sp_W2 S → sp_WE S → h < S 1 0 → (∀ l, S 20 l ≠ 100 + t → sp_sayL t h k i S 20 l = S 20 l) ∧ (∀ l, sp_sayL t h k i S 20 l = S 20 l ∨ sp_sayL t h k i S 20 l = 200 ∨ sp_sayL t h k i S 20 l = h) ∧ ∀ j, i ≤ j → j < S 15 0 → sp_sayL t h k i S 20 (S 22 j) ≠ 100 + t := by
  intro k
  induction k with
  | zero => exact fun i S hi _ _ _ _ => ⟨fun _ _ => rfl, fun _ => Or.inl rfl, fun j a b => by omega⟩
  | succ k ih =>
    intro i S hi W W2 WE hh
    have h8 := W.1
    have hl := W.2.2.2.2.2.2.1 i (by omega)
    show (∀ l, S 20 l ≠ 100 + t → sp_sayL t h k (i + 1) (if S 20 (S 22 i) = 100 + t then sp_say (S 22 i) h S else S) 20 l = S 20 l) ∧ (∀ l, sp_sayL t h k (i + 1) (if S 20 (S 22 i) = 100 + t then sp_say (S 22 i) h S else S) 20 l = S 20 l ∨ sp_sayL t h k (i + 1) (if S 20 (S 22 i) = 100 + t then sp_say (S 22 i) h S else S) 20 l = 200 ∨ sp_sayL t h k (i + 1) (if S 20 (S 22 i) = 100 + t then sp_say (S 22 i) h S else S) 20 l = h) ∧ ∀ j, i ≤ j → j < S 15 0 → sp_sayL t h k (i + 1) (if S 20 (S 22 i) = 100 + t then sp_say (S 22 i) h S else S) 20 (S 22 j) ≠ 100 + t
    by_cases q : S 20 (S 22 i) = 100 + t
    · rw [if_pos q]
      have g := say_G W W2 WE hl hh (by omega)
      have sg := (say_get (l := S 22 i) (h := h) (S := S) (by omega))
      have s20 : ∀ l, l ≠ S 22 i → sp_say (S 22 i) h S 20 l = S 20 l := fun l hne => sg.1 20 l (by omega) (by omega) (by omega) (by omega) (by omega)
      have s20i : sp_say (S 22 i) h S 20 (S 22 i) = 200 ∨ sp_say (S 22 i) h S 20 (S 22 i) = h := by
        rw [sg.2.2.1]
        split
        · exact Or.inl rfl
        · exact Or.inr rfl
      have e15 : sp_say (S 22 i) h S 15 0 = S 15 0 := g.1 15 0 (by unfold sp_kp; omega)
      have e22 : ∀ j, sp_say (S 22 i) h S 22 j = S 22 j := fun j => g.1 22 j (by unfold sp_kp; omega)
      obtain ⟨a, b, c⟩ := ih (i + 1) _ (by rw [e15]; omega) g.2.1 g.2.2.1 g.2.2.2.1 (by rw [g.1 1 0 (by unfold sp_kp; omega)]; exact hh)
      refine ⟨fun l hne => ?_, fun l => ?_, fun j h1 h2 => ?_⟩
      · have hli : l ≠ S 22 i := fun z => hne (by rw [z]; exact q)
        rw [a l (by rw [s20 l hli]; exact hne), s20 l hli]
      · rcases b l with r | r | r
        · by_cases z : l = S 22 i
          · rw [z] at r ⊢
            rw [r]
            exact Or.inr s20i
          · rw [r, s20 l z]
            exact Or.inl rfl
        · exact Or.inr (Or.inl r)
        · exact Or.inr (Or.inr r)
      · by_cases z : j = i
        · subst z
          have n1 : sp_say (S 22 j) h S 20 (S 22 j) ≠ 100 + t := by omega
          rw [a _ n1]
          exact n1
        · have := c j (by omega) (by rw [e15]; exact h2)
          rw [e22] at this
          exact this
    · rw [if_neg q]
      obtain ⟨a, b, c⟩ := ih (i + 1) S (by omega) W W2 WE hh
      refine ⟨a, b, fun j h1 h2 => ?_⟩
      by_cases z : j = i
      · subst z
        rw [a _ q]
        exact q
      · exact c j (by omega) h2
theorem take_20 {t h : Nat} : ∀ k i left S, (∀ l, sp_take t h k i left S 20 l = S 20 l ∨ (S 20 l = h ∧ sp_take t h k i left S 20 l = 100 + t ∧ S 19 l ≤ S 9 t)) ∧ ∀ n, sp_cw (100 + t) n (sp_take t h k i left S) ≤ sp_cw (100 + t) n S + left := by
  intro k
  induction k with
  | zero => exact fun _ _ _ => ⟨fun _ => Or.inl rfl, fun _ => Nat.le_add_right _ _⟩
  | succ k ih =>
    intro i left S
    show (∀ l, (if left = 0 then S else if S 20 (S 22 i) = h ∧ S 19 (S 22 i) ≤ S 9 t then sp_take t h k (i + 1) (left - 1) (tz_t S 20 (S 22 i) (100 + t)) else sp_take t h k (i + 1) left S) 20 l = S 20 l ∨ (S 20 l = h ∧ (if left = 0 then S else if S 20 (S 22 i) = h ∧ S 19 (S 22 i) ≤ S 9 t then sp_take t h k (i + 1) (left - 1) (tz_t S 20 (S 22 i) (100 + t)) else sp_take t h k (i + 1) left S) 20 l = 100 + t ∧ S 19 l ≤ S 9 t)) ∧ ∀ n, sp_cw (100 + t) n (if left = 0 then S else if S 20 (S 22 i) = h ∧ S 19 (S 22 i) ≤ S 9 t then sp_take t h k (i + 1) (left - 1) (tz_t S 20 (S 22 i) (100 + t)) else sp_take t h k (i + 1) left S) ≤ sp_cw (100 + t) n S + left
    by_cases c0 : left = 0
    · rw [if_pos c0]
      exact ⟨fun _ => Or.inl rfl, fun _ => Nat.le_add_right _ _⟩
    rw [if_neg c0]
    by_cases c1 : S 20 (S 22 i) = h ∧ S 19 (S 22 i) ≤ S 9 t
    · rw [if_pos c1]
      obtain ⟨a, b⟩ := ih (i + 1) (left - 1) (tz_t S 20 (S 22 i) (100 + t))
      have e19 : ∀ l, tz_t S 20 (S 22 i) (100 + t) 19 l = S 19 l := fun l => tz_tk (by omega)
      have e9 : ∀ l, tz_t S 20 (S 22 i) (100 + t) 9 l = S 9 l := fun l => tz_tk (by omega)
      refine ⟨fun l => ?_, fun n => ?_⟩
      · by_cases z : l = S 22 i
        · subst z
          right
          refine ⟨c1.1, ?_, c1.2⟩
          rcases a (S 22 i) with r | ⟨r1, r2, r3⟩
          · rw [r, tz_t1]
          · exact r2
        · have a' := a l
          rw [tz_ti z, e19, e9] at a'
          exact a'
      · have b' := b n
        have c' := cw_t1 (p := 100 + t) (m := S 22 i) (v := 100 + t) (n := n) (S := S)
        omega
    · rw [if_neg c1]
      exact ih (i + 1) left S
theorem com_X {t : Nat} {S : tz_S} (W : sp_W1 S) (W2 : sp_W2 S) (WE : sp_WE S) (ht : t < S 7 0) (X : sp_X S) : sp_X (sp_com t S) := by
  have h4 := W.2.1
  have h8 := W.1
  have g := adv_G W W2 WE ht
  have gc := com_G W W2 WE ht
  have ht1 : t < sp_adv t S 7 0 := ht
  have hh := at_lt g.2.1 g.2.2.1 ht1
  have hh2 : sp_at (sp_adv t S) t < 8 := Nat.lt_of_lt_of_le hh (by rw [g.1 1 0 (by unfold sp_kp; omega)]; exact h8)
  have gs := sayL_G (t := t) (h := sp_at (sp_adv t S) t) (by omega) (S 15 0) 0 (sp_adv t S) (Nat.zero_add _) g.2.1 g.2.2.1 g.2.2.2.1 hh
  obtain ⟨a1, a2, a3⟩ := sayL_20 (t := t) (h := sp_at (sp_adv t S) t) (by omega) (S 15 0) 0 (sp_adv t S) (Nat.zero_add _) g.2.1 g.2.2.1 g.2.2.2.1 hh
  obtain ⟨b1, b2⟩ := take_20 (t := t) (h := sp_at (sp_adv t S) t) (S 15 0) 0 (S 10 t) (sp_sayL t (sp_at (sp_adv t S) t) (S 15 0) 0 (sp_adv t S))
  have eD : sp_com t S = sp_take t (sp_at (sp_adv t S) t) (S 15 0) 0 (S 10 t) (sp_sayL t (sp_at (sp_adv t S) t) (S 15 0) 0 (sp_adv t S)) := rfl
  rw [← eD] at b1 b2
  have e20 : ∀ l, sp_adv t S 20 l = S 20 l := fun l => rfl
  have no : ∀ l, l < S 15 0 → sp_sayL t (sp_at (sp_adv t S) t) (S 15 0) 0 (sp_adv t S) 20 l ≠ 100 + t := fun l hl => by
    obtain ⟨j, hj, e⟩ := W.2.2.2.2.2.2.2.2 l hl
    have := a3 j (Nat.zero_le _) hj
    have e2 : sp_adv t S 22 j = l := e
    rw [e2] at this
    exact this
  have c15 : sp_com t S 15 0 = S 15 0 := gc.1 15 0 (by unfold sp_kp; omega)
  have s19 : ∀ l, sp_sayL t (sp_at (sp_adv t S) t) (S 15 0) 0 (sp_adv t S) 19 l = S 19 l := fun l => (gs.1 19 l (by unfold sp_kp; omega)).trans (g.1 19 l (by unfold sp_kp; omega))
  have s9 : ∀ l, sp_sayL t (sp_at (sp_adv t S) t) (S 15 0) 0 (sp_adv t S) 9 l = S 9 l := fun l => (gs.1 9 l (by unfold sp_kp; omega)).trans (g.1 9 l (by unfold sp_kp; omega))
  intro u hu
  rw [gc.1 7 0 (by unfold sp_kp; omega)] at hu
  rw [c15, gc.1 10 u (by unfold sp_kp; omega), gc.1 9 u (by unfold sp_kp; omega)]
  by_cases z : u = t
  · subst z
    refine ⟨?_, fun l hl q => ?_⟩
    · have := b2 (S 15 0)
      rw [cw_0 (S 15 0) no] at this
      omega
    · rw [gc.1 19 l (by unfold sp_kp; omega)]
      rcases b1 l with r | ⟨r1, r2, r3⟩
      · exact absurd (r.symm.trans q) (no l hl)
      · rw [s19, s9] at r3
        exact r3
  · have back : ∀ l, sp_com t S 20 l = 100 + u → S 20 l = 100 + u := fun l q => by
      rcases b1 l with r | ⟨r1, r2, r3⟩
      · rw [r] at q
        rcases a2 l with p | p | p
        · rw [p, e20] at q
          exact q
        · omega
        · omega
      · omega
    obtain ⟨x1, x2⟩ := X u hu
    refine ⟨Nat.le_trans (cw_mo _ (fun l _ => back l)) x1, fun l hl q => ?_⟩
    rw [gc.1 19 l (by unfold sp_kp; omega)]
    exact x2 l hl (back l q)
theorem tkL_X : ∀ k t S, t + k = S 7 0 → sp_W1 S → sp_W2 S → sp_WE S → sp_X S → sp_X (sp_tkL k t S) := by
  intro k
  induction k with
  | zero => exact fun _ _ _ _ _ _ X => X
  | succ k ih =>
    intro t S ht W W2 WE X
    show sp_X (sp_tkL k (t + 1) (if S 0 3 % S 8 t = 0 ∧ t ≠ S 0 6 then sp_com t S else S))
    by_cases q : S 0 3 % S 8 t = 0 ∧ t ≠ S 0 6
    · rw [if_pos q]
      have g := com_G W W2 WE (show t < S 7 0 by omega)
      exact ih (t + 1) _ (by rw [g.1 7 0 (by unfold sp_kp; omega)]; omega) g.2.1 g.2.2.1 g.2.2.2.1 (com_X W W2 WE (show t < S 7 0 by omega) X)
    · rw [if_neg q]
      exact ih (t + 1) S (by omega) W W2 WE X
theorem X_mv {S T : tz_S} (X : sp_X S) (e7 : T 7 0 = S 7 0) (e15 : T 15 0 = S 15 0) (e10 : ∀ t, T 10 t = S 10 t) (e9 : ∀ t, T 9 t = S 9 t) (e19 : ∀ l, T 19 l = S 19 l) (e20 : ∀ t l, l < S 15 0 → t < S 7 0 → T 20 l = 100 + t → S 20 l = 100 + t) : sp_X T := by
  intro u hu
  rw [e7] at hu
  rw [e15, e10, e9]
  obtain ⟨x1, x2⟩ := X u hu
  exact ⟨Nat.le_trans (cw_mo _ (fun l hl => e20 u l hl hu)) x1, fun l hl q => by rw [e19]; exact x2 l hl (e20 u l hl hu q)⟩
theorem tk_X {N : Nat} {S : tz_S} (H : sp_H N S) (X : sp_X S) : sp_X (sp_tk S) := by
  obtain ⟨a, b, c⟩ := tk0 H.1 H.2.1 H.2.2.1
  exact tkL_X (S 7 0) 0 (tz_t S 0 3 (S 0 3 + 1)) (Nat.zero_add _) a b c (X_mv X rfl rfl (fun _ => rfl) (fun _ => rfl) (fun _ => rfl) (fun _ _ _ _ q => q))
theorem n_X : ∀ k N S, sp_H N S → sp_X S → sp_X (sp_n k S) := by
  intro k
  induction k with
  | zero => exact fun _ _ _ X => X
  | succ k ih =>
    intro N S H X
    exact ih (N + 1) (sp_tk S) (tk_G H).1 (tk_X H X)
/-! from when on a letter can be there -/
def sp_lo (T l : Nat) (S : tz_S) : Prop := S 21 l = 4294967295 ∨ T ≤ S 21 l
theorem sayL_lo {t h l T : Nat} (ht : t < 4) : ∀ k i S, i + k = S 15 0 → sp_W1 S → sp_W2 S → sp_WE S → h < S 1 0 → T ≤ S 0 3 → sp_lo T l S → sp_lo T l (sp_sayL t h k i S) := by
  intro k
  induction k with
  | zero => exact fun i S _ _ _ _ _ _ q => q
  | succ k ih =>
    intro i S hi W W2 WE hh h3 Q
    have h8 := W.1
    have hl := W.2.2.2.2.2.2.1 i (by omega)
    show sp_lo T l (sp_sayL t h k (i + 1) (if S 20 (S 22 i) = 100 + t then sp_say (S 22 i) h S else S))
    by_cases q : S 20 (S 22 i) = 100 + t
    · rw [if_pos q]
      have g := say_G W W2 WE hl hh (by omega)
      have sg := (say_get (l := S 22 i) (h := h) (S := S) (by omega))
      refine ih (i + 1) _ (by rw [g.1 15 0 (by unfold sp_kp; omega)]; omega) g.2.1 g.2.2.1 g.2.2.2.1 (by rw [g.1 1 0 (by unfold sp_kp; omega)]; exact hh) (by rw [g.1 0 3 (by unfold sp_kp; omega)]; exact h3) ?_
      unfold sp_lo at Q ⊢
      by_cases z : l = S 22 i
      · rw [z, sg.2.2.2.1]
        rw [z] at Q
        split
        · exact Or.inr h3
        · exact Q
      · rw [sg.1 21 l (by omega) (by omega) (by omega) (by omega) (by omega)]
        exact Q
    · rw [if_neg q]
      exact ih (i + 1) S (by omega) W W2 WE hh h3 Q
theorem take_21 {t h l : Nat} : ∀ k i left S, sp_take t h k i left S 21 l = S 21 l := by
  intro k
  induction k with
  | zero => exact fun _ _ _ => rfl
  | succ k ih =>
    intro i left S
    show (if left = 0 then S else if S 20 (S 22 i) = h ∧ S 19 (S 22 i) ≤ S 9 t then sp_take t h k (i + 1) (left - 1) (tz_t S 20 (S 22 i) (100 + t)) else sp_take t h k (i + 1) left S) 21 l = _
    by_cases c0 : left = 0
    · rw [if_pos c0]
    rw [if_neg c0]
    by_cases c1 : S 20 (S 22 i) = h ∧ S 19 (S 22 i) ≤ S 9 t
    · rw [if_pos c1]
      exact (ih _ _ _).trans (tz_tk (by omega))
    · rw [if_neg c1]
      exact ih (i + 1) left S
theorem com_lo {t l T : Nat} {S : tz_S} (W : sp_W1 S) (W2 : sp_W2 S) (WE : sp_WE S) (ht : t < S 7 0) (h3 : T ≤ S 0 3) (Q : sp_lo T l S) : sp_lo T l (sp_com t S) := by
  have h4 := W.2.1
  have g := adv_G W W2 WE ht
  have ht1 : t < sp_adv t S 7 0 := ht
  have hh := at_lt g.2.1 g.2.2.1 ht1
  have q := sayL_lo (l := l) (T := T) (t := t) (h := sp_at (sp_adv t S) t) (by omega) (S 15 0) 0 (sp_adv t S) (Nat.zero_add _) g.2.1 g.2.2.1 g.2.2.2.1 hh h3 Q
  unfold sp_lo at q ⊢
  have e : sp_com t S 21 l = sp_sayL t (sp_at (sp_adv t S) t) (S 15 0) 0 (sp_adv t S) 21 l := take_21 _ _ _ _
  rw [e]
  exact q
theorem tkL_lo {l T : Nat} : ∀ k t S, t + k = S 7 0 → sp_W1 S → sp_W2 S → sp_WE S → T ≤ S 0 3 → sp_lo T l S → sp_lo T l (sp_tkL k t S) := by
  intro k
  induction k with
  | zero => exact fun _ _ _ _ _ _ _ Q => Q
  | succ k ih =>
    intro t S ht W W2 WE h3 Q
    show sp_lo T l (sp_tkL k (t + 1) (if S 0 3 % S 8 t = 0 ∧ t ≠ S 0 6 then sp_com t S else S))
    by_cases q : S 0 3 % S 8 t = 0 ∧ t ≠ S 0 6
    · rw [if_pos q]
      have g := com_G W W2 WE (show t < S 7 0 by omega)
      exact ih (t + 1) _ (by rw [g.1 7 0 (by unfold sp_kp; omega)]; omega) g.2.1 g.2.2.1 g.2.2.2.1 (by rw [g.1 0 3 (by unfold sp_kp; omega)]; exact h3) (com_lo W W2 WE (show t < S 7 0 by omega) h3 Q)
    · rw [if_neg q]
      exact ih (t + 1) S (by omega) W W2 WE h3 Q
theorem n_lo {l T : Nat} : ∀ k N S, sp_H N S → T ≤ S 0 3 + 1 → sp_lo T l S → sp_lo T l (sp_n k S) := by
  intro k
  induction k with
  | zero => exact fun _ _ _ _ Q => Q
  | succ k ih =>
    intro N S H h3 Q
    obtain ⟨a, b, c⟩ := tk0 H.1 H.2.1 H.2.2.1
    have g := tk_G H
    exact ih (N + 1) (sp_tk S) g.1 (by rw [g.2.1]; omega) (tkL_lo (S 7 0) 0 (tz_t S 0 3 (S 0 3 + 1)) (Nat.zero_add _) a b c (by rw [tz_t1]; exact h3) Q)
theorem n_add {b : Nat} : ∀ a S, sp_n (a + b) S = sp_n b (sp_n a S) := by
  intro a
  induction a with
  | zero => intro S; rw [Nat.zero_add]; rfl
  | succ a ih =>
    intro S
    rw [show a + 1 + b = (a + b) + 1 by omega]
    exact ih (sp_tk S)
theorem fs_25 {N l : Nat} {S : tz_S} (H : sp_H N S) (hl : l < S 15 0) : (sp_ar l 500 S 21 l ≠ 4294967295 → sp_ar l 500 S 21 l ≤ S 0 3 + 25 → sp_n 25 S 21 l = sp_ar l 500 S 21 l) ∧ (sp_n 25 S 21 l ≠ 4294967295 → sp_n 25 S 21 l = sp_ar l 500 S 21 l) := by
  have e : sp_ar l 500 S 21 l = sp_n 475 (sp_n 25 S) 21 l := by
    rw [← n_ar 500 N S H, show 500 = 25 + 475 from rfl, n_add]
  obtain ⟨G, G3, Gk⟩ := n_G 25 S H
  have h1 : sp_n 25 S 21 l ≠ 4294967295 → sp_n 25 S 21 l = sp_ar l 500 S 21 l := fun q => by
    have w := (G.2.1.2.1 l (by rw [Gk 15 0 (by unfold sp_kp; omega) (by omega)]; exact hl)).2.2.2
    have z : sp_n 25 S 20 l = 200 := by
      by_cases z : sp_n 25 S 20 l = 200
      · exact z
      · exact absurd (w z) q
    rw [e, n_stay 475 (N + 25) _ G (by omega)]
  refine ⟨fun p1 p2 => ?_, h1⟩
  by_cases q : sp_n 25 S 21 l = 4294967295
  · have := n_lo (l := l) (T := S 0 3 + 26) 475 (N + 25) _ G (by rw [G3]; omega) (Or.inl q)
    unfold sp_lo at this
    omega
  · exact h1 q
/-- coins: not below 0, not above what twelve letters can cost -/
theorem po_le {N : Nat} {S : tz_S} (H : sp_H N S) : ∀ k l q, l + k = S 15 0 → q ≤ 49500 * l → ∃ r, r ≤ 49500 * S 15 0 ∧ sp_po S k l (tz_j q) = tz_j r := by
  have h12 := H.1.2.2.1
  have H0 : sp_H (S 0 3) S := ⟨H.1, H.2.1, H.2.2.1, Nat.le_refl _, H.2.2.2.2⟩
  intro k
  induction k with
  | zero =>
    intro l q hl hq
    rw [Nat.add_zero] at hl
    subst hl
    exact ⟨q, hq, rfl⟩
  | succ k ih =>
    intro l q hl hq
    have hg := (H.1.2.2.2.2.2.1 l (by omega)).2.2.2
    have hw := H.2.1.2.1 l (by omega)
    show ∃ r, r ≤ 49500 * S 15 0 ∧ (if S 20 l < 200 then (if sp_ar l 500 S 21 l = 4294967295 then sp_po S k (l + 1) (tz_j q + tz_j 500 * tz_j (S 19 l)) else sp_po S k (l + 1) (tz_j q + (tz_j (sp_ar l 500 S 21 l) - tz_j (S 0 3)) * tz_j (S 19 l))) else sp_po S k (l + 1) (tz_j q)) = tz_j r
    by_cases z : S 20 l < 200
    · rw [if_pos z]
      by_cases y : sp_ar l 500 S 21 l = 4294967295
      · rw [if_pos y, nj_mul, nj_add]
        exact ih (l + 1) _ (by omega) (by omega)
      · rw [if_neg y]
        have hi := (ar_hi (l := l) H0 (by omega)).resolve_left y
        have lo : S 0 3 ≤ sp_ar l 500 S 21 l := by
          have := n_lo (l := l) (T := S 0 3) 500 N S H (by omega) (Or.inl (hw.2.2.2 (by omega)))
          rw [← n_ar 500 N S H] at y ⊢
          exact this.resolve_left y
        rw [nj_sub lo, nj_mul, nj_add]
        have m1 : (sp_ar l 500 S 21 l - S 0 3) * S 19 l ≤ 500 * 99 := Nat.mul_le_mul (by omega) hg
        exact ih (l + 1) _ (by omega) (by omega)
    · rw [if_neg z]
      exact ih (l + 1) _ (by omega) (by omega)
