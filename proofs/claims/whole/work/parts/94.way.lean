/-! was: a thought letter's way, whatever its word -/
def sm (L : Nat) (S T : tz_S) : Prop := ∀ k i, k < 100 → ¬ (k = 16 ∧ i = L) → T k i = S k i
theorem sm_t {L k i v : Nat} {S T : tz_S} (h : sm L S T) : sm L (tz_t S k i v) (tz_t T k i v) := fun k' i' a b => by
  rw [tz_ta, tz_ta]
  split
  · rfl
  · exact h k' i' a b
theorem sm_hr {L h v v' m : Nat} {S T : tz_S} (s : sm L S T) : sm L (sp_hr h v m S) (sp_hr h v' m T) := by
  obtain ⟨a1, a2, a3⟩ := hr_get (h := h) (w := v) m S
  obtain ⟨b1, b2, b3⟩ := hr_get (h := h) (w := v') m T
  intro k i hk hn
  by_cases z0 : k = 0 ∧ i = 0
  · rw [z0.1, z0.2, a2, b2, s 0 0 (by omega) (by omega)]
  · by_cases z5 : k = 5 ∧ i = h
    · rw [z5.1, z5.2, a3, b3, s 5 h (by omega) (by omega)]
    · rw [a1 k i (by omega) (by omega) (by omega), b1 k i (by omega) (by omega) (by omega)]
      exact s k i hk hn
theorem sm_lis {L l h v v' m m' : Nat} {S T : tz_S} (s : sm L S T) : sm L (sp_lis l h v m S) (sp_lis l h v' m' T) := fun k i a b => by
  rw [lis_get (Or.inl (by omega)), lis_get (Or.inl (by omega))]
  exact s k i a b
theorem sm_fin {L l h : Nat} {S T : tz_S} (s : sm L S T) : sm L (sp_fin l h S) (sp_fin l h T) := by
  unfold sp_fin
  rw [s 18 l (by omega) (by omega), s 0 3 (by omega) (by omega)]
  split
  · exact sm_t (sm_t s)
  · exact sm_t s
theorem sm_tim {L h g : Nat} {S T : tz_S} (s : sm L S T) : sp_tim T h g = sp_tim S h g := by
  unfold sp_tim
  rw [s 2 h (by omega) (by omega), s 3 h (by omega) (by omega)]
theorem sm_bec {L h g : Nat} {S T : tz_S} (s : sm L S T) : sp_bec T h g = sp_bec S h g := by
  unfold sp_bec
  rw [s 2 h (by omega) (by omega), s 3 h (by omega) (by omega)]
theorem sm_say {L l h : Nat} {S T : tz_S} (s : sm L S T) : sm L (sp_say l h S) (sp_say l h T) := by
  have e : sm L (tz_t S 16 l (sp_bec S h (S 16 l))) (tz_t T 16 l (sp_bec T h (T 16 l))) := fun k i a b => by
    rw [tz_ta, tz_ta]
    by_cases z : k = 16 ∧ i = l
    · rw [if_pos z, if_pos z]
      have hl : ¬ l = L := fun q => b ⟨z.1, z.2.trans q⟩
      rw [s 16 l (by omega) (by omega), sm_bec s]
    · rw [if_neg z, if_neg z]
      exact s k i a b
  unfold sp_say
  rw [sm_tim s (h := h) (g := T 19 l), s 19 l (by omega) (by omega)]
  exact sm_fin (sm_lis (sm_hr e))
theorem sm_sayL {L t h : Nat} : ∀ k i S T, sm L S T → sm L (sp_sayL t h k i S) (sp_sayL t h k i T) := by
  intro k
  induction k with
  | zero => exact fun _ _ _ s => s
  | succ k ih =>
    intro i S T s
    show sm L (sp_sayL t h k (i + 1) (if S 20 (S 22 i) = 100 + t then sp_say (S 22 i) h S else S)) (sp_sayL t h k (i + 1) (if T 20 (T 22 i) = 100 + t then sp_say (T 22 i) h T else T))
    rw [s 22 i (by omega) (by omega), s 20 (S 22 i) (by omega) (by omega)]
    split
    · exact ih _ _ _ (sm_say s)
    · exact ih _ _ _ s
theorem sm_take {L t h : Nat} : ∀ k i left S T, sm L S T → sm L (sp_take t h k i left S) (sp_take t h k i left T) := by
  intro k
  induction k with
  | zero => exact fun _ _ _ _ s => s
  | succ k ih =>
    intro i left S T s
    show sm L (if left = 0 then S else if S 20 (S 22 i) = h ∧ S 19 (S 22 i) ≤ S 9 t then sp_take t h k (i + 1) (left - 1) (tz_t S 20 (S 22 i) (100 + t)) else sp_take t h k (i + 1) left S) (if left = 0 then T else if T 20 (T 22 i) = h ∧ T 19 (T 22 i) ≤ T 9 t then sp_take t h k (i + 1) (left - 1) (tz_t T 20 (T 22 i) (100 + t)) else sp_take t h k (i + 1) left T)
    rw [s 22 i (by omega) (by omega), s 20 (S 22 i) (by omega) (by omega), s 19 (S 22 i) (by omega) (by omega), s 9 t (by omega) (by omega)]
    split
    · exact s
    · split
      · exact ih _ _ _ _ (sm_t s)
      · exact ih _ _ _ _ s
theorem sm_adv {L t : Nat} {S T : tz_S} (s : sm L S T) : sm L (sp_adv t S) (sp_adv t T) := by
  unfold sp_adv
  rw [s 13 t (by omega) (by omega), s 11 t (by omega) (by omega)]
  exact sm_t s
theorem sm_at {L t : Nat} {S T : tz_S} (s : sm L S T) : sp_at T t = sp_at S t := by
  unfold sp_at
  rw [s 13 t (by omega) (by omega), s 12 _ (by omega) (by omega)]
theorem sm_com {L t : Nat} {S T : tz_S} (s : sm L S T) : sm L (sp_com t S) (sp_com t T) := by
  unfold sp_com
  rw [sm_at (sm_adv s), s 15 0 (by omega) (by omega), s 10 t (by omega) (by omega)]
  exact sm_take _ _ _ _ _ (sm_sayL _ _ _ _ (sm_adv s))
theorem sm_tkL {L : Nat} : ∀ k t S T, sm L S T → sm L (sp_tkL k t S) (sp_tkL k t T) := by
  intro k
  induction k with
  | zero => exact fun _ _ _ s => s
  | succ k ih =>
    intro t S T s
    show sm L (sp_tkL k (t + 1) (if S 0 3 % S 8 t = 0 ∧ t ≠ S 0 6 then sp_com t S else S)) (sp_tkL k (t + 1) (if T 0 3 % T 8 t = 0 ∧ t ≠ T 0 6 then sp_com t T else T))
    rw [s 0 3 (by omega) (by omega), s 8 t (by omega) (by omega), s 0 6 (by omega) (by omega)]
    split
    · exact ih _ _ _ (sm_com s)
    · exact ih _ _ _ s
theorem sm_tk {L : Nat} {S T : tz_S} (s : sm L S T) : sm L (sp_tk S) (sp_tk T) := by
  unfold sp_tk
  rw [s 7 0 (by omega) (by omega), s 0 3 (by omega) (by omega)]
  exact sm_tkL _ _ _ _ (sm_t s)
/-- its way: one hill more, or none -/
def wa_nx (S : tz_S) (u : Nat) : Nat := if S 13 u + 1 < S 11 u then S 13 u + 1 else 0
def wa_hi (S : tz_S) (u : Nat) : Nat := S 12 (6 * u + wa_nx S u)
theorem wa_13 {S : tz_S} {u : Nat} : sp_adv u S 13 u = wa_nx S u := tz_t1
theorem wa_at {S : tz_S} {u : Nat} : sp_at (sp_adv u S) u = wa_hi S u := by
  unfold sp_at
  rw [wa_13]
  exact tz_tk (by omega)
theorem wa_mv {S S' : tz_S} {u : Nat} (e13 : S' 13 u = S 13 u) (f : sp_f S S') : wa_nx S' u = wa_nx S u ∧ wa_hi S' u = wa_hi S u := by
  have e : wa_nx S' u = wa_nx S u := by
    unfold wa_nx
    rw [e13, f 11 u (by unfold sp_kp; omega)]
  refine ⟨e, ?_⟩
  unfold wa_hi
  rw [e, f 12 _ (by unfold sp_kp; omega)]
theorem say_p0 {l h L : Nat} {S : tz_S} (hh : h < 8) (h3 : S 200 0 = 3) (hL : S 204 1 = L) (hl : l ≠ L) : sp_say l h S 204 0 = S 204 0 ∧ ∀ j, sp_say l h S 205 j = S 205 j := by
  unfold sp_say
  have hg := (hr_get (h := h) (w := sp_bec S h (S 16 l)) (sp_tim S h (S 19 l)) (tz_t S 16 l (sp_bec S h (S 16 l)))).1
  generalize sp_hr h (sp_bec S h (S 16 l)) (sp_tim S h (S 19 l)) (tz_t S 16 l (sp_bec S h (S 16 l))) = S2 at *
  have e : ∀ k i, 200 ≤ k → S2 k i = S k i := fun k i hk => (hg k i (by omega) (by omega) (by omega)).trans (tz_tk (by omega))
  have el : sp_lis l h (sp_bec S h (S 16 l)) (sp_tim S h (S 19 l)) S2 = S2 := by
    unfold sp_lis
    rw [e 200 0 (by omega), h3, if_neg (by omega), if_neg (by omega), if_pos rfl, if_neg (by rw [e 204 1 (by omega), hL]; exact fun q => hl q.1)]
  rw [el, fin_get (Or.inl ⟨by omega, by omega⟩)]
  refine ⟨e 204 0 (by omega), fun j => ?_⟩
  rw [fin_get (Or.inl ⟨by omega, by omega⟩)]
  exact e 205 j (by omega)
theorem say_p1 {h L : Nat} {S : tz_S} (hh : h < 8) (h3 : S 200 0 = 3) (hL : S 204 1 = L) (h5 : S 204 0 < 500) : sp_say L h S 204 0 = S 204 0 + 1 ∧ ∀ j, sp_say L h S 205 j = if j = S 204 0 then h else S 205 j := by
  unfold sp_say
  have hg := (hr_get (h := h) (w := sp_bec S h (S 16 L)) (sp_tim S h (S 19 L)) (tz_t S 16 L (sp_bec S h (S 16 L)))).1
  generalize sp_hr h (sp_bec S h (S 16 L)) (sp_tim S h (S 19 L)) (tz_t S 16 L (sp_bec S h (S 16 L))) = S2 at *
  have e : ∀ k i, 200 ≤ k → S2 k i = S k i := fun k i hk => (hg k i (by omega) (by omega) (by omega)).trans (tz_tk (by omega))
  have el : sp_lis L h (sp_bec S h (S 16 L)) (sp_tim S h (S 19 L)) S2 = tz_t (tz_t S2 205 (S 204 0) h) 204 0 (S 204 0 + 1) := by
    unfold sp_lis
    rw [e 200 0 (by omega), h3, if_neg (by omega), if_neg (by omega), if_pos rfl, e 204 1 (by omega), e 204 0 (by omega), if_pos ⟨hL.symm, h5⟩]
  rw [el, fin_get (Or.inl ⟨by omega, by omega⟩)]
  refine ⟨tz_t1, fun j => ?_⟩
  rw [fin_get (Or.inl ⟨by omega, by omega⟩), tz_tk (by omega), tz_ta]
  by_cases z : j = S 204 0
  · rw [if_pos ⟨rfl, z⟩, if_pos z]
  · rw [if_neg (fun q => z q.2), if_neg z]
    exact e 205 j (by omega)
theorem sayL_p0 {t h L : Nat} (hh : h < 8) : ∀ k i S, S 200 0 = 3 → S 204 1 = L → S 20 L ≠ 100 + t → sp_sayL t h k i S 204 0 = S 204 0 ∧ (∀ j, sp_sayL t h k i S 205 j = S 205 j) ∧ sp_sayL t h k i S 20 L = S 20 L := by
  intro k
  induction k with
  | zero => exact fun _ _ _ _ _ => ⟨rfl, fun _ => rfl, rfl⟩
  | succ k ih =>
    intro i S h3 hL hn
    show sp_sayL t h k (i + 1) (if S 20 (S 22 i) = 100 + t then sp_say (S 22 i) h S else S) 204 0 = S 204 0 ∧ (∀ j, sp_sayL t h k (i + 1) (if S 20 (S 22 i) = 100 + t then sp_say (S 22 i) h S else S) 205 j = S 205 j) ∧ sp_sayL t h k (i + 1) (if S 20 (S 22 i) = 100 + t then sp_say (S 22 i) h S else S) 20 L = S 20 L
    by_cases q : S 20 (S 22 i) = 100 + t
    · rw [if_pos q]
      have hl : S 22 i ≠ L := fun z => hn (by rw [← z]; exact q)
      obtain ⟨a1, a2⟩ := say_p0 hh h3 hL hl
      have a3 : sp_say (S 22 i) h S 20 L = S 20 L := (say_get hh).1 20 L (by omega) (by omega) (by omega) (by omega) (by omega)
      have f := sf_say (l := S 22 i) (S := S) hh
      obtain ⟨b1, b2, b3⟩ := ih (i + 1) _ ((f 200 0 (by unfold sp_kp; omega)).trans h3) ((f 204 1 (by unfold sp_kp; omega)).trans hL) (by rw [a3]; exact hn)
      exact ⟨b1.trans a1, fun j => (b2 j).trans (a2 j), b3.trans a3⟩
    · rw [if_neg q]
      exact ih (i + 1) S h3 hL hn
theorem sayL_p1 {t h L j : Nat} (hh : h < 8) (ht : t < 4) : ∀ k i S, i + k = S 15 0 → i ≤ j → j < S 15 0 → S 22 j = L → S 200 0 = 3 → S 204 1 = L → S 204 0 < 500 → S 20 L = 100 + t → sp_sayL t h k i S 204 0 = S 204 0 + 1 ∧ (∀ j, sp_sayL t h k i S 205 j = if j = S 204 0 then h else S 205 j) ∧ (sp_sayL t h k i S 20 L = 200 ∨ sp_sayL t h k i S 20 L = h) := by
  intro k
  induction k with
  | zero => exact fun i S h1 h2 h3 => by omega
  | succ k ih =>
    intro i S hi hij hj h22 h3 hL h5 hin
    show sp_sayL t h k (i + 1) (if S 20 (S 22 i) = 100 + t then sp_say (S 22 i) h S else S) 204 0 = S 204 0 + 1 ∧ (∀ j, sp_sayL t h k (i + 1) (if S 20 (S 22 i) = 100 + t then sp_say (S 22 i) h S else S) 205 j = if j = S 204 0 then h else S 205 j) ∧ (sp_sayL t h k (i + 1) (if S 20 (S 22 i) = 100 + t then sp_say (S 22 i) h S else S) 20 L = 200 ∨ sp_sayL t h k (i + 1) (if S 20 (S 22 i) = 100 + t then sp_say (S 22 i) h S else S) 20 L = h)
    by_cases z : S 22 i = L
    · rw [z, if_pos hin]
      obtain ⟨a1, a2⟩ := say_p1 hh h3 hL h5
      have a3 : sp_say L h S 20 L = if S 18 L = h then 200 else h := (say_get hh).2.2.1
      have f := sf_say (l := L) (S := S) hh
      have a4 : sp_say L h S 20 L ≠ 100 + t := by
        rw [a3]
        split <;> omega
      obtain ⟨b1, b2, b3⟩ := sayL_p0 (t := t) hh k (i + 1) _ ((f 200 0 (by unfold sp_kp; omega)).trans h3) ((f 204 1 (by unfold sp_kp; omega)).trans hL) a4
      refine ⟨b1.trans a1, fun j => (b2 j).trans (a2 j), ?_⟩
      rw [b3, a3]
      split
      · exact Or.inl rfl
      · exact Or.inr rfl
    · have hij2 : i + 1 ≤ j := by
        by_cases y : i = j
        · rw [y] at z
          exact absurd h22 z
        · omega
      by_cases q : S 20 (S 22 i) = 100 + t
      · rw [if_pos q]
        obtain ⟨a1, a2⟩ := say_p0 hh h3 hL z
        have a3 : sp_say (S 22 i) h S 20 L = S 20 L := (say_get hh).1 20 L (by omega) (by omega) (by omega) (by omega) (by omega)
        have f := sf_say (l := S 22 i) (S := S) hh
        have e15 := f 15 0 (by unfold sp_kp; omega)
        obtain ⟨b1, b2, b3⟩ := ih (i + 1) _ (by rw [e15]; omega) hij2 (by rw [e15]; exact hj) ((f 22 j (by unfold sp_kp; omega)).trans h22) ((f 200 0 (by unfold sp_kp; omega)).trans h3) ((f 204 1 (by unfold sp_kp; omega)).trans hL) (by rw [a1]; exact h5) (a3.trans hin)
        rw [a1] at b1 b2
        refine ⟨b1, fun j => (b2 j).trans ?_, b3⟩
        rw [a2 j]
      · rw [if_neg q]
        exact ih (i + 1) S (by omega) hij2 hj h22 h3 hL h5 hin
theorem take_g {t h : Nat} : ∀ k i left S k' j, k' ≠ 20 → sp_take t h k i left S k' j = S k' j := by
  intro k
  induction k with
  | zero => exact fun _ _ _ _ _ _ => rfl
  | succ k ih =>
    intro i left S k' j hk
    show (if left = 0 then S else if S 20 (S 22 i) = h ∧ S 19 (S 22 i) ≤ S 9 t then sp_take t h k (i + 1) (left - 1) (tz_t S 20 (S 22 i) (100 + t)) else sp_take t h k (i + 1) left S) k' j = _
    by_cases c0 : left = 0
    · rw [if_pos c0]
    rw [if_neg c0]
    by_cases c1 : S 20 (S 22 i) = h ∧ S 19 (S 22 i) ≤ S 9 t
    · rw [if_pos c1]
      exact (ih _ _ _ _ _ hk).trans (tz_tk hk)
    · rw [if_neg c1]
      exact ih _ _ _ _ _ hk
theorem take_20 {t h L : Nat} (hh : h < 100) : ∀ k i left S, sp_take t h k i left S 20 L = S 20 L ∨ (S 20 L = h ∧ sp_take t h k i left S 20 L = 100 + t) := by
  intro k
  induction k with
  | zero => exact fun _ _ _ => Or.inl rfl
  | succ k ih =>
    intro i left S
    show (if left = 0 then S else if S 20 (S 22 i) = h ∧ S 19 (S 22 i) ≤ S 9 t then sp_take t h k (i + 1) (left - 1) (tz_t S 20 (S 22 i) (100 + t)) else sp_take t h k (i + 1) left S) 20 L = _ ∨ (S 20 L = h ∧ (if left = 0 then S else if S 20 (S 22 i) = h ∧ S 19 (S 22 i) ≤ S 9 t then sp_take t h k (i + 1) (left - 1) (tz_t S 20 (S 22 i) (100 + t)) else sp_take t h k (i + 1) left S) 20 L = 100 + t)
    by_cases c0 : left = 0
    · rw [if_pos c0]
      exact Or.inl rfl
    rw [if_neg c0]
    by_cases c1 : S 20 (S 22 i) = h ∧ S 19 (S 22 i) ≤ S 9 t
    · rw [if_pos c1]
      have a := ih (i + 1) (left - 1) (tz_t S 20 (S 22 i) (100 + t))
      by_cases z : L = S 22 i
      · have e : tz_t S 20 (S 22 i) (100 + t) 20 L = 100 + t := by
          rw [z]
          exact tz_t1
        rw [e] at a
        rw [z] at a ⊢
        right
        refine ⟨c1.1, ?_⟩
        rcases a with a | a
        · exact a
        · exact a.2
      · have e : tz_t S 20 (S 22 i) (100 + t) 20 L = S 20 L := tz_ti z
        rw [e] at a
        exact a
    · rw [if_neg c1]
      exact ih (i + 1) left S
theorem com_13 {t u : Nat} {S : tz_S} (W : sp_W1 S) (W2 : sp_W2 S) (WE : sp_WE S) (ht : t < S 7 0) : sp_com t S 13 u = if u = t then wa_nx S t else S 13 u := by
  have g := adv_G W W2 WE ht
  have hh := at_lt g.2.1 g.2.2.1 (show t < sp_adv t S 7 0 from ht)
  have h8 := W.1
  have e1 : sp_adv t S 1 0 = S 1 0 := rfl
  have s13 : ∀ k i S', sp_at (sp_adv t S) t < 8 → sp_sayL t (sp_at (sp_adv t S) t) k i S' 13 u = S' 13 u := by
    intro k
    induction k with
    | zero => exact fun _ _ _ => rfl
    | succ k ih =>
      intro i S' h
      show sp_sayL t (sp_at (sp_adv t S) t) k (i + 1) (if S' 20 (S' 22 i) = 100 + t then sp_say (S' 22 i) (sp_at (sp_adv t S) t) S' else S') 13 u = S' 13 u
      rw [ih (i + 1) _ h]
      split
      · exact (say_get h).1 13 u (by omega) (by omega) (by omega) (by omega) (by omega)
      · rfl
  unfold sp_com
  rw [take_g _ _ _ _ _ _ (by omega), s13 _ _ _ (by omega)]
  unfold sp_adv
  rw [tz_ta]
  by_cases z : u = t
  · rw [if_pos ⟨rfl, z⟩, if_pos z]
    rfl
  · rw [if_neg (fun q => z q.2), if_neg z]
theorem com_p0 {t L : Nat} {S : tz_S} (W : sp_W1 S) (W2 : sp_W2 S) (WE : sp_WE S) (ht : t < S 7 0) (h3 : S 200 0 = 3) (hL : S 204 1 = L) (hn : S 20 L ≠ 100 + t) : sp_com t S 204 0 = S 204 0 ∧ (∀ j, sp_com t S 205 j = S 205 j) ∧ (sp_com t S 20 L = S 20 L ∨ (S 20 L < 8 ∧ sp_com t S 20 L = 100 + t)) := by
  have g := adv_G W W2 WE ht
  have hh := at_lt g.2.1 g.2.2.1 (show t < sp_adv t S 7 0 from ht)
  have h8 := W.1
  have e1 : sp_adv t S 1 0 = S 1 0 := rfl
  have e : ∀ k i, k ≠ 13 → sp_adv t S k i = S k i := fun k i hk => tz_tk hk
  obtain ⟨a1, a2, a3⟩ := sayL_p0 (t := t) (h := sp_at (sp_adv t S) t) (by omega) (S 15 0) 0 (sp_adv t S) h3 hL hn
  refine ⟨(take_g _ _ _ _ _ _ (by omega)).trans a1, fun j => (take_g _ _ _ _ _ _ (by omega)).trans (a2 j), ?_⟩
  rcases take_20 (t := t) (h := sp_at (sp_adv t S) t) (L := L) (by omega) (S 15 0) 0 (S 10 t) (sp_sayL t (sp_at (sp_adv t S) t) (S 15 0) 0 (sp_adv t S)) with b | ⟨b, b2⟩
  · exact Or.inl (b.trans a3)
  · rw [a3] at b
    exact Or.inr ⟨by rw [show S 20 L = sp_at (sp_adv t S) t from b]; omega, b2⟩
theorem com_p1 {t L : Nat} {S : tz_S} (W : sp_W1 S) (W2 : sp_W2 S) (WE : sp_WE S) (ht : t < S 7 0) (hl : L < S 15 0) (h3 : S 200 0 = 3) (hL : S 204 1 = L) (h5 : S 204 0 < 500) (hin : S 20 L = 100 + t) : sp_com t S 204 0 = S 204 0 + 1 ∧ (∀ j, sp_com t S 205 j = if j = S 204 0 then wa_hi S t else S 205 j) ∧ (sp_com t S 20 L = 200 ∨ sp_com t S 20 L < 8 ∨ sp_com t S 20 L = 100 + t) := by
  have g := adv_G W W2 WE ht
  have hh := at_lt g.2.1 g.2.2.1 (show t < sp_adv t S 7 0 from ht)
  have h8 := W.1
  have h4 := W.2.1
  have e1 : sp_adv t S 1 0 = S 1 0 := rfl
  obtain ⟨j, hj, ej⟩ := W.2.2.2.2.2.2.2.2 L hl
  obtain ⟨a1, a2, a3⟩ := sayL_p1 (t := t) (j := j) (h := sp_at (sp_adv t S) t) (by omega) (by omega) (S 15 0) 0 (sp_adv t S) (Nat.zero_add _) (Nat.zero_le _) hj ej h3 hL h5 hin
  refine ⟨(take_g _ _ _ _ _ _ (by omega)).trans a1, fun j => (take_g _ _ _ _ _ _ (by omega)).trans ?_, ?_⟩
  · rw [a2 j, wa_at]
    rfl
  · rcases take_20 (t := t) (h := sp_at (sp_adv t S) t) (L := L) (by omega) (S 15 0) 0 (S 10 t) (sp_sayL t (sp_at (sp_adv t S) t) (S 15 0) 0 (sp_adv t S)) with b | ⟨b, b2⟩
    · have b' : sp_com t S 20 L = _ := b
      rw [b']
      omega
    · exact Or.inr (Or.inr b2)
theorem tkL_p0 {L : Nat} : ∀ k t S, t + k = S 7 0 → sp_W1 S → sp_W2 S → sp_WE S → S 200 0 = 3 → S 204 1 = L → (∀ u, t ≤ u → u < 4 → S 20 L ≠ 100 + u) → sp_tkL k t S 204 0 = S 204 0 ∧ (∀ j, sp_tkL k t S 205 j = S 205 j) ∧ ∀ u, u < t → sp_tkL k t S 13 u = S 13 u := by
  intro k
  induction k with
  | zero => exact fun _ _ _ _ _ _ _ _ _ => ⟨rfl, fun _ => rfl, fun _ _ => rfl⟩
  | succ k ih =>
    intro t S ht W W2 WE h3 hL hn
    have h4 := W.2.1
    show sp_tkL k (t + 1) (if S 0 3 % S 8 t = 0 ∧ t ≠ S 0 6 then sp_com t S else S) 204 0 = S 204 0 ∧ (∀ j, sp_tkL k (t + 1) (if S 0 3 % S 8 t = 0 ∧ t ≠ S 0 6 then sp_com t S else S) 205 j = S 205 j) ∧ ∀ u, u < t → sp_tkL k (t + 1) (if S 0 3 % S 8 t = 0 ∧ t ≠ S 0 6 then sp_com t S else S) 13 u = S 13 u
    by_cases q : S 0 3 % S 8 t = 0 ∧ t ≠ S 0 6
    · rw [if_pos q]
      have g := com_G W W2 WE (show t < S 7 0 by omega)
      obtain ⟨a1, a2, a3⟩ := com_p0 W W2 WE (show t < S 7 0 by omega) h3 hL (hn t (Nat.le_refl _) (by omega))
      obtain ⟨b1, b2, b3⟩ := ih (t + 1) _ (by rw [g.1 7 0 (by unfold sp_kp; omega)]; omega) g.2.1 g.2.2.1 g.2.2.2.1 ((g.1 200 0 (by unfold sp_kp; omega)).trans h3) ((g.1 204 1 (by unfold sp_kp; omega)).trans hL) (fun u hu hu4 => by
        have := hn u (by omega) hu4
        omega)
      refine ⟨b1.trans a1, fun j => (b2 j).trans (a2 j), fun u hu => (b3 u (by omega)).trans ?_⟩
      rw [com_13 W W2 WE (by omega), if_neg (by omega)]
    · rw [if_neg q]
      obtain ⟨b1, b2, b3⟩ := ih (t + 1) S (by omega) W W2 WE h3 hL (fun u hu hu4 => hn u (by omega) hu4)
      exact ⟨b1, b2, fun u hu => b3 u (by omega)⟩
theorem tkL_p1 {L u : Nat} : ∀ k t S, t + k = S 7 0 → sp_W1 S → sp_W2 S → sp_WE S → L < S 15 0 → S 200 0 = 3 → S 204 1 = L → S 204 0 < 500 → S 20 L = 100 + u → t ≤ u → u < S 7 0 → ((S 0 3 % S 8 u = 0 ∧ u ≠ S 0 6) → sp_tkL k t S 204 0 = S 204 0 + 1 ∧ (∀ j, sp_tkL k t S 205 j = if j = S 204 0 then wa_hi S u else S 205 j) ∧ sp_tkL k t S 13 u = wa_nx S u) ∧ (¬ (S 0 3 % S 8 u = 0 ∧ u ≠ S 0 6) → sp_tkL k t S 204 0 = S 204 0 ∧ (∀ j, sp_tkL k t S 205 j = S 205 j) ∧ sp_tkL k t S 13 u = S 13 u) := by
  intro k
  induction k with
  | zero => exact fun t S a _ _ _ _ _ _ _ _ b c => by omega
  | succ k ih =>
    intro t S ht W W2 WE hl h3 hL h5 hin htu hu
    have h4 := W.2.1
    show ((S 0 3 % S 8 u = 0 ∧ u ≠ S 0 6) → sp_tkL k (t + 1) (if S 0 3 % S 8 t = 0 ∧ t ≠ S 0 6 then sp_com t S else S) 204 0 = S 204 0 + 1 ∧ (∀ j, sp_tkL k (t + 1) (if S 0 3 % S 8 t = 0 ∧ t ≠ S 0 6 then sp_com t S else S) 205 j = if j = S 204 0 then wa_hi S u else S 205 j) ∧ sp_tkL k (t + 1) (if S 0 3 % S 8 t = 0 ∧ t ≠ S 0 6 then sp_com t S else S) 13 u = wa_nx S u) ∧ (¬ (S 0 3 % S 8 u = 0 ∧ u ≠ S 0 6) → sp_tkL k (t + 1) (if S 0 3 % S 8 t = 0 ∧ t ≠ S 0 6 then sp_com t S else S) 204 0 = S 204 0 ∧ (∀ j, sp_tkL k (t + 1) (if S 0 3 % S 8 t = 0 ∧ t ≠ S 0 6 then sp_com t S else S) 205 j = S 205 j) ∧ sp_tkL k (t + 1) (if S 0 3 % S 8 t = 0 ∧ t ≠ S 0 6 then sp_com t S else S) 13 u = S 13 u)
    by_cases z : t = u
    · subst z
      by_cases q : S 0 3 % S 8 t = 0 ∧ t ≠ S 0 6
      · rw [if_pos q]
        refine ⟨fun _ => ?_, fun no => absurd q no⟩
        have g := com_G W W2 WE hu
        obtain ⟨a1, a2, a3⟩ := com_p1 W W2 WE hu hl h3 hL h5 hin
        obtain ⟨b1, b2, b3⟩ := tkL_p0 (L := L) k (t + 1) _ (by rw [g.1 7 0 (by unfold sp_kp; omega)]; omega) g.2.1 g.2.2.1 g.2.2.2.1 ((g.1 200 0 (by unfold sp_kp; omega)).trans h3) ((g.1 204 1 (by unfold sp_kp; omega)).trans hL) (fun u hu hu4 => by omega)
        refine ⟨b1.trans a1, fun j => (b2 j).trans (a2 j), (b3 t (by omega)).trans ?_⟩
        rw [com_13 W W2 WE hu, if_pos rfl]
      · rw [if_neg q]
        refine ⟨fun yes => absurd yes q, fun _ => ?_⟩
        obtain ⟨b1, b2, b3⟩ := tkL_p0 (L := L) k (t + 1) S (by omega) W W2 WE h3 hL (fun u hu hu4 => by omega)
        exact ⟨b1, b2, b3 t (by omega)⟩
    · by_cases q : S 0 3 % S 8 t = 0 ∧ t ≠ S 0 6
      · rw [if_pos q]
        have g := com_G W W2 WE (show t < S 7 0 by omega)
        obtain ⟨a1, a2, a3⟩ := com_p0 W W2 WE (show t < S 7 0 by omega) h3 hL (by omega)
        have e13 : sp_com t S 13 u = S 13 u := by
          rw [com_13 W W2 WE (by omega), if_neg (by omega)]
        obtain ⟨m1, m2⟩ := wa_mv e13 g.1
        have b := ih (t + 1) (sp_com t S) (by rw [g.1 7 0 (by unfold sp_kp; omega)]; omega) g.2.1 g.2.2.1 g.2.2.2.1 (by rw [g.1 15 0 (by unfold sp_kp; omega)]; exact hl) ((g.1 200 0 (by unfold sp_kp; omega)).trans h3) ((g.1 204 1 (by unfold sp_kp; omega)).trans hL) (by rw [a1]; exact h5) (by omega) (by omega) (by rw [g.1 7 0 (by unfold sp_kp; omega)]; exact hu)
        rw [g.1 0 3 (by unfold sp_kp; omega), g.1 8 u (by unfold sp_kp; omega), g.1 0 6 (by unfold sp_kp; omega), a1, m1, m2, e13] at b
        refine ⟨fun y => ?_, fun y => ?_⟩
        · obtain ⟨b1, b2, b3⟩ := b.1 y
          refine ⟨b1, fun j => (b2 j).trans ?_, b3⟩
          rw [a2 j]
        · obtain ⟨b1, b2, b3⟩ := b.2 y
          exact ⟨b1, fun j => (b2 j).trans (a2 j), b3⟩
      · rw [if_neg q]
        exact ih (t + 1) S (by omega) W W2 WE hl h3 hL h5 hin (by omega) hu
theorem tk_p {N L : Nat} {S : tz_S} (H : sp_H N S) (hl : L < S 15 0) (h3 : S 200 0 = 3) (hL : S 204 1 = L) (h5 : S 204 0 < 500) : (S 20 L < 100 → sp_tk S 204 0 = S 204 0 ∧ ∀ j, sp_tk S 205 j = S 205 j) ∧ ∀ u, u < S 7 0 → S 20 L = 100 + u → (sp_tk S 204 0 = S 204 0 + 1 ∧ (∀ j, sp_tk S 205 j = if j = S 204 0 then wa_hi S u else S 205 j) ∧ sp_tk S 13 u = wa_nx S u) ∨ (sp_tk S 204 0 = S 204 0 ∧ (∀ j, sp_tk S 205 j = S 205 j) ∧ sp_tk S 13 u = S 13 u) := by
  obtain ⟨w1, w2, w3⟩ := tk0 H.1 H.2.1 H.2.2.1
  refine ⟨fun h => ?_, fun u hu hin => ?_⟩
  · obtain ⟨b1, b2, _⟩ := tkL_p0 (L := L) (S 7 0) 0 (tz_t S 0 3 (S 0 3 + 1)) (Nat.zero_add _) w1 w2 w3 h3 hL (fun u _ hu => by
      rw [tz_tk (by omega)]
      omega)
    exact ⟨b1, b2⟩
  · have b := tkL_p1 (L := L) (u := u) (S 7 0) 0 (tz_t S 0 3 (S 0 3 + 1)) (Nat.zero_add _) w1 w2 w3 hl h3 hL h5 hin (Nat.zero_le _) hu
    by_cases q : tz_t S 0 3 (S 0 3 + 1) 0 3 % tz_t S 0 3 (S 0 3 + 1) 8 u = 0 ∧ u ≠ tz_t S 0 3 (S 0 3 + 1) 0 6
    · exact Or.inl (b.1 q)
    · exact Or.inr (b.2 q)
theorem wa_ne {S : tz_S} {u : Nat} (W : sp_W1 S) (hu : u < S 7 0) : wa_nx S u ≠ S 13 u := by
  have h2 := (W.2.2.2.2.1 u hu).2.2.2.2.2.2.1
  unfold wa_nx
  split <;> omega
