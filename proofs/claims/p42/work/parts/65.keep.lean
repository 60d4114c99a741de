/-! the numbers stay well formed -/
theorem sum_mv {S S' : tz_S} : ∀ n, (∀ h, h < n → S' 5 h = S 5 h) → sp_sum n S' = sp_sum n S := by
  intro n
  induction n with
  | zero => exact fun _ => rfl
  | succ n ih =>
    intro e
    show sp_sum n S' + S' 5 n = sp_sum n S + S 5 n
    rw [ih (fun h hh => e h (by omega)), e n (by omega)]
theorem sum_add {S S' : tz_S} {h c : Nat} (e : ∀ g, g ≠ h → S' 5 g = S 5 g) (eh : S' 5 h = S 5 h + c) : ∀ n, sp_sum n S' = sp_sum n S + (if h < n then c else 0) := by
  intro n
  induction n with
  | zero => rfl
  | succ n ih =>
    show sp_sum n S' + S' 5 n = sp_sum n S + S 5 n + _
    rw [ih]
    by_cases q : n = h
    · subst q
      rw [eh, if_neg (by omega), if_pos (by omega)]
      omega
    · rw [e n q]
      by_cases z : h < n
      · rw [if_pos z, if_pos (by omega)]
        omega
      · rw [if_neg z, if_neg (by omega)]
        omega
theorem say_W2 {l h : Nat} {S : tz_S} (W : sp_W1 S) (W2 : sp_W2 S) (hl : l < S 15 0) (hh : h < S 1 0) (hw : S 20 l ≠ 200) : sp_W2 (sp_say l h S) := by
  have h8 := W.1
  obtain ⟨a, b, c, d, e1, e2, e3⟩ := W2
  obtain ⟨g, g16, g20, g21, g0, g5⟩ := say_get (l := l) (h := h) (S := S) (by omega)
  have k0 : ∀ k i, k = 1 ∨ (7 ≤ k ∧ k ≤ 15) ∨ (k = 0 ∧ i ≠ 0) → sp_say l h S k i = S k i := fun k i hk => g k i (by omega) (by omega) (by omega) (by omega) (by omega)
  refine ⟨fun t ht => ?_, fun m hm => ?_, fun m hm => ?_, ?_, ?_, ?_, ?_⟩
  · rw [k0 13 t (by omega), k0 11 t (by omega)]
    rw [k0 7 0 (by omega)] at ht
    exact a t ht
  · rw [k0 15 0 (by omega)] at hm
    obtain ⟨b1, b2, b3, b4⟩ := b m hm
    unfold sp_wh
    rw [k0 1 0 (by omega), k0 7 0 (by omega), k0 0 3 (by omega)]
    by_cases q : m = l
    · subst q
      rw [g16, g20, g21]
      have := bec_le (S := S) (h := h) b1
      by_cases z : S 18 m = h
      · rw [if_pos z, if_pos z]
        exact ⟨this, by omega, by omega, by omega⟩
      · rw [if_neg z, if_neg z]
        exact ⟨this, by omega, by omega, fun _ => b4 hw⟩
    · rw [g 16 m (by omega) (by omega) (by omega) (by omega) (by omega), g 20 m (by omega) (by omega) (by omega) (by omega) (by omega), g 21 m (by omega) (by omega) (by omega) (by omega) (by omega)]
      exact ⟨b1, b2, b3, b4⟩
  · rw [k0 1 0 (by omega)] at hm
    have := c m hm
    rw [g0]
    by_cases q : m = h
    · subst q
      rw [g5]
      omega
    · rw [g 5 m (by omega) (by omega) (by omega) (by omega) (by omega)]
      omega
  · rw [k0 1 0 (by omega), g0, sum_add (h := h) (c := sp_tim S h (S 19 l)) (S := S) (fun q hq => g 5 q (by omega) (by omega) (by omega) (by omega) (by omega)) g5, if_pos hh, d]
  · rw [k0 0 4 (by omega)]
    exact e1
  · rw [k0 0 5 (by omega)]
    exact e2
  · rw [k0 0 6 (by omega)]
    exact e3
/-- nothing but places of letters and of storms -/
theorem W2_20 {l v : Nat} {S : tz_S} (W2 : sp_W2 S) (hv : sp_wh S v) (hv2 : v ≠ 200) (hw : S 20 l ≠ 200) : sp_W2 (tz_t S 20 l v) := by
  obtain ⟨a, b, c, d, e1, e2, e3⟩ := W2
  refine ⟨fun t ht => ?_, fun m hm => ?_, fun m hm => ?_, ?_, ?_, ?_, ?_⟩
  · rw [tz_tk (by omega)] at ht
    rw [tz_tk (by omega), tz_tk (by omega)]
    exact a t ht
  · rw [tz_tk (by omega)] at hm
    obtain ⟨b1, b2, b3, b4⟩ := b m hm
    unfold sp_wh at b2 hv ⊢
    rw [tz_tk (by omega), tz_ta, tz_tk (by omega), tz_tk (by omega), tz_tk (by omega), tz_tk (by omega)]
    by_cases q : m = l
    · rw [if_pos ⟨rfl, q⟩]
      rw [← q] at hw
      exact ⟨b1, hv, fun z => absurd z hv2, fun _ => b4 hw⟩
    · rw [if_neg (fun z => q z.2)]
      exact ⟨b1, b2, b3, b4⟩
  · rw [tz_tk (by omega)] at hm
    rw [tz_tk (by omega), tz_tk (by omega)]
    exact c m hm
  · rw [tz_tk (by omega), tz_tk (by omega), sum_mv _ (fun h _ => tz_tk (by omega))]
    exact d
  · rw [tz_tk (by omega)]
    exact e1
  · rw [tz_tk (by omega)]
    exact e2
  · rw [tz_tk (by omega)]
    exact e3
theorem W2_13 {t v : Nat} {S : tz_S} (W2 : sp_W2 S) (hv : v < S 11 t) : sp_W2 (tz_t S 13 t v) := by
  obtain ⟨a, b, c, d, e1, e2, e3⟩ := W2
  refine ⟨fun u hu => ?_, fun m hm => ?_, fun m hm => ?_, ?_, ?_, ?_, ?_⟩
  · rw [tz_tk (by omega)] at hu
    rw [tz_ta, tz_tk (by omega)]
    by_cases q : u = t
    · rw [if_pos ⟨rfl, q⟩, q]
      exact hv
    · rw [if_neg (fun z => q z.2)]
      exact a u hu
  · rw [tz_tk (by omega)] at hm
    have b2 := b m hm
    unfold sp_wh at b2 ⊢
    rw [tz_tk (by omega), tz_tk (by omega), tz_tk (by omega), tz_tk (by omega), tz_tk (by omega), tz_tk (by omega)]
    exact b2
  · rw [tz_tk (by omega)] at hm
    rw [tz_tk (by omega), tz_tk (by omega)]
    exact c m hm
  · rw [tz_tk (by omega), tz_tk (by omega), sum_mv _ (fun h _ => tz_tk (by omega))]
    exact d
  · rw [tz_tk (by omega)]
    exact e1
  · rw [tz_tk (by omega)]
    exact e2
  · rw [tz_tk (by omega)]
    exact e3
/-- what holds all through an hour, with what more is heard at most -/
def sp_G (c : Nat) (S S' : tz_S) : Prop := sp_f S S' ∧ sp_W1 S' ∧ sp_W2 S' ∧ sp_WE S' ∧ S 0 0 ≤ S' 0 0 ∧ S' 0 0 ≤ S 0 0 + c
theorem sg_tr {c d e : Nat} {S T U : tz_S} (h1 : sp_G c S T) (h2 : sp_G d T U) (he : c + d ≤ e) : sp_G e S U := ⟨sf_tr h1.1 h2.1, h2.2.1, h2.2.2.1, h2.2.2.2.1, Nat.le_trans h1.2.2.2.2.1 h2.2.2.2.2.1, by have := h1.2.2.2.2.2; have := h2.2.2.2.2.2; omega⟩
theorem sg_rfl {c : Nat} {S : tz_S} (W : sp_W1 S) (W2 : sp_W2 S) (WE : sp_WE S) : sp_G c S S := ⟨sf_rfl, W, W2, WE, Nat.le_refl _, by omega⟩
theorem say_G {l h : Nat} {S : tz_S} (W : sp_W1 S) (W2 : sp_W2 S) (WE : sp_WE S) (hl : l < S 15 0) (hh : h < S 1 0) (hw : S 20 l ≠ 200) : sp_G 11 S (sp_say l h S) := by
  have h8 := W.1
  have f := sf_say (l := l) (h := h) (S := S) (by omega)
  have t := tim_le (g := S 19 l) W hh
  have g := (say_get (l := l) (h := h) (S := S) (by omega)).2.2.2.2.1
  exact ⟨f, sf_W1 f W, say_W2 W W2 hl hh hw, say_WE WE (by omega), by omega, by omega⟩
theorem sayL_G {t h : Nat} (ht : t < 4) : ∀ k i S, i + k = S 15 0 → sp_W1 S → sp_W2 S → sp_WE S → h < S 1 0 → sp_G (11 * k) S (sp_sayL t h k i S) := by
  intro k
  induction k with
  | zero => exact fun i S _ W W2 WE _ => sg_rfl W W2 WE
  | succ k ih =>
    intro i S hi W W2 WE hh
    have h12 := W.2.2.1
    have hl := W.2.2.2.2.2.2.1 i (by omega)
    have h4 := W.2.1
    show sp_G _ S (sp_sayL t h k (i + 1) (if S 20 (S 22 i) = 100 + t then sp_say (S 22 i) h S else S))
    by_cases q : S 20 (S 22 i) = 100 + t
    · rw [if_pos q]
      have g := say_G W W2 WE hl hh (by omega)
      exact sg_tr g (ih (i + 1) _ (by rw [g.1 15 0 (by unfold sp_kp; omega)]; omega) g.2.1 g.2.2.1 g.2.2.2.1 (by rw [g.1 1 0 (by unfold sp_kp; omega)]; exact hh)) (by omega)
    · rw [if_neg q]
      exact sg_tr (sg_rfl (c := 11) W W2 WE) (ih (i + 1) S (by omega) W W2 WE hh) (by omega)
theorem take_G {t h : Nat} : ∀ k i left S, i + k = S 15 0 → sp_W1 S → sp_W2 S → sp_WE S → h < S 1 0 → t < S 7 0 → sp_G 0 S (sp_take t h k i left S) := by
  intro k
  induction k with
  | zero => exact fun i left S _ W W2 WE _ _ => sg_rfl W W2 WE
  | succ k ih =>
    intro i left S hi W W2 WE hh ht
    have h8 := W.1
    have h4 := W.2.1
    show sp_G 0 S (if left = 0 then S else if S 20 (S 22 i) = h ∧ S 19 (S 22 i) ≤ S 9 t then sp_take t h k (i + 1) (left - 1) (tz_t S 20 (S 22 i) (100 + t)) else sp_take t h k (i + 1) left S)
    by_cases c0 : left = 0
    · rw [if_pos c0]
      exact sg_rfl W W2 WE
    rw [if_neg c0]
    by_cases c1 : S 20 (S 22 i) = h ∧ S 19 (S 22 i) ≤ S 9 t
    · rw [if_pos c1]
      have f : sp_f S (tz_t S 20 (S 22 i) (100 + t)) := sf_t (by unfold sp_kp; omega)
      have g : sp_G 0 S (tz_t S 20 (S 22 i) (100 + t)) := ⟨f, sf_W1 f W, W2_20 W2 (by unfold sp_wh; omega) (by omega) (by omega), we_mv WE (fun k i _ _ => tz_tk (by omega)), by rw [tz_tk (by omega)]; omega, by rw [tz_tk (by omega)]; omega⟩
      exact sg_tr g (ih (i + 1) (left - 1) _ (by rw [f 15 0 (by unfold sp_kp; omega)]; omega) g.2.1 g.2.2.1 g.2.2.2.1 (by rw [f 1 0 (by unfold sp_kp; omega)]; exact hh) (by rw [f 7 0 (by unfold sp_kp; omega)]; exact ht)) (by omega)
    · rw [if_neg c1]
      exact ih (i + 1) left S (by omega) W W2 WE hh ht
theorem adv_G {t : Nat} {S : tz_S} (W : sp_W1 S) (W2 : sp_W2 S) (WE : sp_WE S) (ht : t < S 7 0) : sp_G 0 S (sp_adv t S) := by
  have ht2 := W.2.2.2.2.1 t ht
  have f : sp_f S (sp_adv t S) := sf_t (by unfold sp_kp; omega)
  exact ⟨f, sf_W1 f W, W2_13 W2 (by split <;> omega), we_mv WE (fun k i _ _ => tz_tk (by omega)), by rw [show sp_adv t S 0 0 = S 0 0 from rfl]; omega, by rw [show sp_adv t S 0 0 = S 0 0 from rfl]; omega⟩
theorem at_lt {t : Nat} {S : tz_S} (W : sp_W1 S) (W2 : sp_W2 S) (ht : t < S 7 0) : sp_at S t < S 1 0 := (W.2.2.2.2.1 t ht).2.2.2.2.2.2.2.2 _ (W2.1 t ht)
theorem com_G {t : Nat} {S : tz_S} (W : sp_W1 S) (W2 : sp_W2 S) (WE : sp_WE S) (ht : t < S 7 0) : sp_G 132 S (sp_com t S) := by
  have h4 := W.2.1
  have g := adv_G W W2 WE ht
  have ht1 : t < sp_adv t S 7 0 := ht
  have hh := at_lt g.2.1 g.2.2.1 ht1
  have g2 := sayL_G (t := t) (h := sp_at (sp_adv t S) t) (by omega) (S 15 0) 0 (sp_adv t S) (Nat.zero_add _) g.2.1 g.2.2.1 g.2.2.2.1 hh
  have g3 := take_G (t := t) (h := sp_at (sp_adv t S) t) (S 15 0) 0 (S 10 t) (sp_sayL t (sp_at (sp_adv t S) t) (S 15 0) 0 (sp_adv t S)) (by rw [g2.1 15 0 (by unfold sp_kp; omega)]; exact Nat.zero_add _) g2.2.1 g2.2.2.1 g2.2.2.2.1 (by rw [g2.1 1 0 (by unfold sp_kp; omega)]; exact hh) (by rw [g2.1 7 0 (by unfold sp_kp; omega)]; exact ht)
  have h12 := W.2.2.1
  exact sg_tr (sg_tr g g2 (Nat.le_refl _)) g3 (by omega)
theorem tkL_G : ∀ k t S, t + k = S 7 0 → sp_W1 S → sp_W2 S → sp_WE S → sp_G (132 * k) S (sp_tkL k t S) := by
  intro k
  induction k with
  | zero => exact fun t S _ W W2 WE => sg_rfl W W2 WE
  | succ k ih =>
    intro t S ht W W2 WE
    show sp_G _ S (sp_tkL k (t + 1) (if S 0 3 % S 8 t = 0 ∧ t ≠ S 0 6 then sp_com t S else S))
    by_cases q : S 0 3 % S 8 t = 0 ∧ t ≠ S 0 6
    · rw [if_pos q]
      have g := com_G W W2 WE (show t < S 7 0 by omega)
      exact sg_tr g (ih (t + 1) _ (by rw [g.1 7 0 (by unfold sp_kp; omega)]; omega) g.2.1 g.2.2.1 g.2.2.2.1) (by omega)
    · rw [if_neg q]
      exact sg_tr (sg_rfl (c := 132) W W2 WE) (ih (t + 1) S (by omega) W W2 WE) (by omega)
