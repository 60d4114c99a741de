/-! what the class's memory is to the sky as numbers -/
theorem nt_lef {a b : Nat} (h : b < a) : (a ≤ b) = False := eq_false (by omega)
theorem nt_let {a b : Nat} (h : a ≤ b) : (a ≤ b) = True := eq_true h
theorem nt_ltf {a b : Nat} (h : b ≤ a) : (a < b) = False := eq_false (by omega)
theorem nt_ltt {a b : Nat} (h : a < b) : (a < b) = True := eq_true h
theorem nt_eqf {a b : Nat} (h : a ≠ b) : (a = b) = False := eq_false h
theorem tz_gS {A : tz_Mem} {k i k' i' : Nat} {v : Int32} : tz_g (tz_s A k i v) k' i' = if k' = k ∧ i' = i then v else tz_g A k' i' := rfl
theorem tz_gs1 {A : tz_Mem} {k i : Nat} {v : Int32} : tz_g (tz_s A k i v) k i = v := if_pos ⟨rfl, rfl⟩
theorem tz_gsk {A : tz_Mem} {k i k' i' : Nat} {v : Int32} (h : k' ≠ k) : tz_g (tz_s A k i v) k' i' = tz_g A k' i' := if_neg (fun q => h q.1)
theorem tz_gsi {A : tz_Mem} {k i i' : Nat} {v : Int32} (h : i' ≠ i) : tz_g (tz_s A k i v) k i' = tz_g A k i' := if_neg (fun q => h q.2)
def tz_fr (P : Nat → Nat → Prop) (A A' : tz_Mem) : Prop := A'.1 = A.1 ∧ A'.2.2 = A.2.2 ∧ ∀ k i, ¬ P k i → tz_g A' k i = tz_g A k i
theorem fr_rfl {P : Nat → Nat → Prop} {A : tz_Mem} : tz_fr P A A := ⟨rfl, rfl, fun _ _ _ => rfl⟩
theorem fr_tr {P : Nat → Nat → Prop} {A B C : tz_Mem} (h1 : tz_fr P A B) (h2 : tz_fr P B C) : tz_fr P A C := ⟨h2.1.trans h1.1, h2.2.1.trans h1.2.1, fun k i hp => (h2.2.2 k i hp).trans (h1.2.2 k i hp)⟩
theorem fr_s {P : Nat → Nat → Prop} {A B : tz_Mem} {k i : Nat} {v : Int32} (h1 : tz_fr P A B) (hp : P k i) : tz_fr P A (tz_s B k i v) := ⟨h1.1, h1.2.1, fun k' i' hq => (if_neg (fun q => hq (by rw [q.1, q.2]; exact hp))).trans (h1.2.2 k' i' hq)⟩
theorem fr_mo {P Q : Nat → Nat → Prop} {A B : tz_Mem} (h1 : tz_fr P A B) (h : ∀ k i, P k i → Q k i) : tz_fr Q A B := ⟨h1.1, h1.2.1, fun k i hq => h1.2.2 k i (fun p => hq (h k i p))⟩
theorem fr_gr {P : Nat → Nat → Prop} {A B : tz_Mem} (h1 : tz_fr P A B) {k i : Nat} : tz_gr B k i = tz_gr A k i := by
  show B.2.2.2 k i = A.2.2.2 k i
  rw [h1.2.1]
theorem fr_gl {P : Nat → Nat → Prop} {A B : tz_Mem} (h1 : tz_fr P A B) {k i : Nat} : tz_gl B k i = tz_gl A k i := by
  show B.2.2.1 k i = A.2.2.1 k i
  rw [h1.2.1]
theorem fr_con {P : Nat → Nat → Prop} {A B : tz_Mem} (h1 : tz_fr P A B) (h : tz_con A) : tz_con B := by
  refine ⟨by rw [h1.1]; exact h.1, fun k f a b c => ?_⟩
  rw [fr_gr h1]
  exact h.2 k f a b c
theorem fr_sc {P : Nat → Nat → Prop} {A B : tz_Mem} (h1 : tz_fr P A B) (h : ∀ i, ¬ P 0 i) : tz_sc A B := ⟨fr_gr h1, fun i => h1.2.2 0 i (h i)⟩

def rx_pl (k i : Nat) : Prop := (k = 0 ∧ 3 ≤ i ∧ i ≤ 6) ∨ ((k = 1 ∨ k = 7 ∨ k = 15) ∧ i = 0) ∨ ((k = 2 ∨ k = 3 ∨ k = 5) ∧ i < 8) ∨ (((8 ≤ k ∧ k ≤ 11) ∨ k = 13) ∧ i < 4) ∨ (k = 12 ∧ i < 24) ∨ ((16 ≤ k ∧ k ≤ 22) ∧ i < 12)
def rx_c (b : Nat) (S : tz_S) (A : tz_Mem) : Prop := ∀ k i, rx_pl k i → tz_g A (b + k) i = tz_j (S k i)
def rx_l (b : Nat) (S : tz_S) (A : tz_Mem) : Prop := ∀ h, h < S 1 0 → bt_is (tz_g A (b + 4) h) (fun l => decide (l < S 15 0 ∧ S 20 l = h))
def rx_k (b x : Nat) (S : tz_S) (A : tz_Mem) : Prop := ∀ t, t < S 7 0 → t ≠ x → bt_is (tz_g A (b + 14) t) (fun l => decide (l < S 15 0 ∧ S 20 l = 100 + t))
def rx_w (b : Nat) (S : tz_S) (A : tz_Mem) : Prop := ∀ h, h < S 1 0 → ∀ j, j < S 5 h → S 5 h ≤ j + 8 → tz_g A (b + 6) (h * 8 + j % 8) = tz_j (S (100 + h) j)
def rx_e (b : Nat) (S : tz_S) (A : tz_Mem) : Prop := tz_gr A b 7 = (if S 200 0 = 1 then 151 else if S 200 0 = 2 then 152 else if S 200 0 = 3 then 154 else 0)
  ∧ (S 200 0 = 1 → tz_g A 150 0 = tz_j (S 201 0) ∧ tz_g A 150 1 = tz_j (S 201 1))
  ∧ (S 200 0 = 2 → tz_g A 151 0 = tz_j (S 202 0) ∧ tz_g A 151 2 = tz_j (S 202 1) ∧ tz_g A 151 3 = tz_j (S 202 2) ∧ tz_g A 151 4 = tz_j (S 202 3) ∧ ∀ j, j < S 202 1 → tz_g A 152 j = tz_j (S 203 j))
  ∧ (S 200 0 = 3 → tz_g A 153 1 = tz_j (S 204 0) ∧ tz_g A 153 2 = tz_j (S 204 1) ∧ ∀ j, j < S 204 0 → tz_g A 154 j = tz_j (S 205 j))
def rx (b x : Nat) (S : tz_S) (A : tz_Mem) : Prop := rx_c b S A ∧ rx_l b S A ∧ rx_k b x S A ∧ rx_w b S A ∧ rx_e b S A
/-- the ears' numbers -/
def sp_WE (S : tz_S) : Prop := S 200 0 ≤ 3 ∧ (S 200 0 = 1 → S 201 1 ≤ 9999 ∧ (S 201 0 = 4294967295 ∨ S 201 0 < 8))
  ∧ (S 200 0 = 2 → S 202 0 ≤ S 202 1 ∧ S 202 1 ≤ 40 ∧ S 202 2 < 8 ∧ S 202 3 ≤ 1 ∧ ∀ j, S 203 j < 4294967296)
  ∧ (S 200 0 = 3 → S 204 0 ≤ 500 ∧ S 204 1 < 12)
def rx_p (b : Nat) (k _i : Nat) : Prop := (b ≤ k ∧ k < b + 23) ∨ (150 ≤ k ∧ k < 155)
def rx_q (b : Nat) (k _i : Nat) : Prop := ((b ≤ k ∧ k < b + 23) ∧ k ≠ b + 14) ∨ (150 ≤ k ∧ k < 155)
theorem fr_qp {b : Nat} {A B : tz_Mem} (h : tz_fr (rx_q b) A B) : tz_fr (rx_p b) A B := fr_mo h (fun k i q => by unfold rx_q at q; unfold rx_p; omega)
theorem sky_lo {b : Nat} (hb : tz_sky b) : 30 ≤ b ∧ b ≤ 124 := by
  rcases hb with h | h | h | h | h <;> omega

theorem cx_2 {b : Nat} {S : tz_S} {A : tz_Mem} (h : rx_c b S A) {i : Nat} (hi : i < 8) : tz_g A (b + 2) i = tz_j (S 2 i) := h 2 i (by unfold rx_pl; omega)
theorem cx_3 {b : Nat} {S : tz_S} {A : tz_Mem} (h : rx_c b S A) {i : Nat} (hi : i < 8) : tz_g A (b + 3) i = tz_j (S 3 i) := h 3 i (by unfold rx_pl; omega)
theorem cx_5 {b : Nat} {S : tz_S} {A : tz_Mem} (h : rx_c b S A) {i : Nat} (hi : i < 8) : tz_g A (b + 5) i = tz_j (S 5 i) := h 5 i (by unfold rx_pl; omega)
theorem cx_8 {b : Nat} {S : tz_S} {A : tz_Mem} (h : rx_c b S A) {i : Nat} (hi : i < 4) : tz_g A (b + 8) i = tz_j (S 8 i) := h 8 i (by unfold rx_pl; omega)
theorem cx_9 {b : Nat} {S : tz_S} {A : tz_Mem} (h : rx_c b S A) {i : Nat} (hi : i < 4) : tz_g A (b + 9) i = tz_j (S 9 i) := h 9 i (by unfold rx_pl; omega)
theorem cx_10 {b : Nat} {S : tz_S} {A : tz_Mem} (h : rx_c b S A) {i : Nat} (hi : i < 4) : tz_g A (b + 10) i = tz_j (S 10 i) := h 10 i (by unfold rx_pl; omega)
theorem cx_11 {b : Nat} {S : tz_S} {A : tz_Mem} (h : rx_c b S A) {i : Nat} (hi : i < 4) : tz_g A (b + 11) i = tz_j (S 11 i) := h 11 i (by unfold rx_pl; omega)
theorem cx_12 {b : Nat} {S : tz_S} {A : tz_Mem} (h : rx_c b S A) {i : Nat} (hi : i < 24) : tz_g A (b + 12) i = tz_j (S 12 i) := h 12 i (by unfold rx_pl; omega)
theorem cx_13 {b : Nat} {S : tz_S} {A : tz_Mem} (h : rx_c b S A) {i : Nat} (hi : i < 4) : tz_g A (b + 13) i = tz_j (S 13 i) := h 13 i (by unfold rx_pl; omega)
theorem cx_16 {b : Nat} {S : tz_S} {A : tz_Mem} (h : rx_c b S A) {i : Nat} (hi : i < 12) : tz_g A (b + 16) i = tz_j (S 16 i) := h 16 i (by unfold rx_pl; omega)
theorem cx_17 {b : Nat} {S : tz_S} {A : tz_Mem} (h : rx_c b S A) {i : Nat} (hi : i < 12) : tz_g A (b + 17) i = tz_j (S 17 i) := h 17 i (by unfold rx_pl; omega)
theorem cx_18 {b : Nat} {S : tz_S} {A : tz_Mem} (h : rx_c b S A) {i : Nat} (hi : i < 12) : tz_g A (b + 18) i = tz_j (S 18 i) := h 18 i (by unfold rx_pl; omega)
theorem cx_19 {b : Nat} {S : tz_S} {A : tz_Mem} (h : rx_c b S A) {i : Nat} (hi : i < 12) : tz_g A (b + 19) i = tz_j (S 19 i) := h 19 i (by unfold rx_pl; omega)
theorem cx_20 {b : Nat} {S : tz_S} {A : tz_Mem} (h : rx_c b S A) {i : Nat} (hi : i < 12) : tz_g A (b + 20) i = tz_j (S 20 i) := h 20 i (by unfold rx_pl; omega)
theorem cx_21 {b : Nat} {S : tz_S} {A : tz_Mem} (h : rx_c b S A) {i : Nat} (hi : i < 12) : tz_g A (b + 21) i = tz_j (S 21 i) := h 21 i (by unfold rx_pl; omega)
theorem cx_22 {b : Nat} {S : tz_S} {A : tz_Mem} (h : rx_c b S A) {i : Nat} (hi : i < 12) : tz_g A (b + 22) i = tz_j (S 22 i) := h 22 i (by unfold rx_pl; omega)
theorem cx_1 {b : Nat} {S : tz_S} {A : tz_Mem} (h : rx_c b S A) : tz_g A (b + 1) 0 = tz_j (S 1 0) := h 1 0 (by unfold rx_pl; omega)
theorem cx_7 {b : Nat} {S : tz_S} {A : tz_Mem} (h : rx_c b S A) : tz_g A (b + 7) 0 = tz_j (S 7 0) := h 7 0 (by unfold rx_pl; omega)
theorem cx_15 {b : Nat} {S : tz_S} {A : tz_Mem} (h : rx_c b S A) : tz_g A (b + 15) 0 = tz_j (S 15 0) := h 15 0 (by unfold rx_pl; omega)
theorem cx_0_3 {b : Nat} {S : tz_S} {A : tz_Mem} (h : rx_c b S A) : tz_g A b 3 = tz_j (S 0 3) := h 0 3 (by unfold rx_pl; omega)
theorem cx_0_4 {b : Nat} {S : tz_S} {A : tz_Mem} (h : rx_c b S A) : tz_g A b 4 = tz_j (S 0 4) := h 0 4 (by unfold rx_pl; omega)
theorem cx_0_5 {b : Nat} {S : tz_S} {A : tz_Mem} (h : rx_c b S A) : tz_g A b 5 = tz_j (S 0 5) := h 0 5 (by unfold rx_pl; omega)
theorem cx_0_6 {b : Nat} {S : tz_S} {A : tz_Mem} (h : rx_c b S A) : tz_g A b 6 = tz_j (S 0 6) := h 0 6 (by unfold rx_pl; omega)

theorem rx_c_mv {b : Nat} {S S' : tz_S} {A A' : tz_Mem} (h : rx_c b S A) (e : ∀ k i, rx_pl k i → S' k i = S k i) (eA : ∀ k i, rx_pl k i → tz_g A' (b + k) i = tz_g A (b + k) i) : rx_c b S' A' := fun k i hp => by rw [eA k i hp, e k i hp]; exact h k i hp
theorem rx_c_s {b : Nat} {S : tz_S} {A : tz_Mem} {k i v : Nat} (h : rx_c b S A) : rx_c b (tz_t S k i v) (tz_s A (b + k) i (tz_j v)) := fun k' i' hp => by
  rw [tz_gS, tz_ta]
  by_cases q : k' = k ∧ i' = i
  · rw [if_pos q, if_pos ⟨by omega, q.2⟩]
  · rw [if_neg q, if_neg (fun q2 => q ⟨by omega, q2.2⟩)]
    exact h k' i' hp
theorem rx_l_mv {b : Nat} {S S' : tz_S} {A A' : tz_Mem} (h : rx_l b S A) (e1 : S' 1 0 = S 1 0) (e15 : S' 15 0 = S 15 0) (e20 : ∀ l, S' 20 l = S 20 l) (eA : ∀ h, h < S 1 0 → tz_g A' (b + 4) h = tz_g A (b + 4) h) : rx_l b S' A' := fun q hq => by
  rw [eA q (by omega)]
  refine bt_congr (h q (by omega)) (fun l _ => ?_)
  rw [e15, e20]
theorem rx_k_mv {b x : Nat} {S S' : tz_S} {A A' : tz_Mem} (h : rx_k b x S A) (e1 : S' 7 0 = S 7 0) (e15 : S' 15 0 = S 15 0) (e20 : ∀ l, S' 20 l = S 20 l) (eA : ∀ t, t < S 7 0 → t ≠ x → tz_g A' (b + 14) t = tz_g A (b + 14) t) : rx_k b x S' A' := fun q hq hx => by
  rw [eA q (by omega) hx]
  refine bt_congr (h q (by omega) hx) (fun l _ => ?_)
  rw [e15, e20]
theorem rx_w_mv {b : Nat} {S S' : tz_S} {A A' : tz_Mem} (h : rx_w b S A) (e1 : S' 1 0 = S 1 0) (e5 : ∀ h, S' 5 h = S 5 h) (e100 : ∀ h j, S' (100 + h) j = S (100 + h) j) (eA : ∀ i, tz_g A' (b + 6) i = tz_g A (b + 6) i) : rx_w b S' A' := fun q hq j h1 h2 => by
  rw [eA, e100]
  rw [e5] at h1 h2
  exact h q (by omega) j h1 h2
theorem rx_e_mv {b : Nat} {S S' : tz_S} {A A' : tz_Mem} (h : rx_e b S A) (e : ∀ k i, 200 ≤ k → k ≤ 205 → S' k i = S k i) (er : tz_gr A' b 7 = tz_gr A b 7) (eA : ∀ k i, 150 ≤ k → k < 155 → tz_g A' k i = tz_g A k i) : rx_e b S' A' := by
  unfold rx_e at h ⊢
  rw [er, e 200 0 (by omega) (by omega), e 201 0 (by omega) (by omega), e 201 1 (by omega) (by omega), e 202 0 (by omega) (by omega), e 202 1 (by omega) (by omega), e 202 2 (by omega) (by omega), e 202 3 (by omega) (by omega), e 204 0 (by omega) (by omega), e 204 1 (by omega) (by omega),
    eA 150 0 (by omega) (by omega), eA 150 1 (by omega) (by omega), eA 151 0 (by omega) (by omega), eA 151 2 (by omega) (by omega), eA 151 3 (by omega) (by omega), eA 151 4 (by omega) (by omega), eA 153 1 (by omega) (by omega), eA 153 2 (by omega) (by omega)]
  obtain ⟨h1, h2, h3, h4⟩ := h
  refine ⟨h1, h2, fun q => ?_, fun q => ?_⟩
  · obtain ⟨a, b, c, d, f⟩ := h3 q
    refine ⟨a, b, c, d, fun j hj => ?_⟩
    rw [eA 152 j (by omega) (by omega), e 203 j (by omega) (by omega)]
    exact f j hj
  · obtain ⟨a, b, f⟩ := h4 q
    refine ⟨a, b, fun j hj => ?_⟩
    rw [eA 154 j (by omega) (by omega), e 205 j (by omega) (by omega)]
    exact f j hj
/-- a cell that nothing else hangs on -/
theorem rx_s {b x : Nat} {S : tz_S} {A : tz_Mem} {k i v : Nat} (hb : tz_sky b) (hk : k ≤ 22) (h1 : k ≠ 1) (h4 : k ≠ 4) (h5 : k ≠ 5) (h6 : k ≠ 6) (h7 : k ≠ 7) (h14 : k ≠ 14) (h15 : k ≠ 15) (h20 : k ≠ 20) (h : rx b x S A) : rx b x (tz_t S k i v) (tz_s A (b + k) i (tz_j v)) := by
  have hs := sky_lo hb
  obtain ⟨c, l, kk, w, e⟩ := h
  refine ⟨rx_c_s c, rx_l_mv l (tz_tk (by omega)) (tz_tk (by omega)) (fun _ => tz_tk (by omega)) (fun _ _ => tz_gsk (by omega)), rx_k_mv kk (tz_tk (by omega)) (tz_tk (by omega)) (fun _ => tz_tk (by omega)) (fun _ _ _ => tz_gsk (by omega)), rx_w_mv w (tz_tk (by omega)) (fun _ => tz_tk (by omega)) (fun _ _ => tz_tk (by omega)) (fun _ => tz_gsk (by omega)), rx_e_mv e (fun _ _ _ _ => tz_tk (by omega)) rfl (fun _ _ _ _ => tz_gsk (by omega))⟩
/-- other memory -/
theorem rx_mv {b x : Nat} {S : tz_S} {A A' : tz_Mem} (h : rx b x S A) (eA : ∀ k i, b ≤ k → k < b + 23 → tz_g A' k i = tz_g A k i) (er : tz_gr A' b 7 = tz_gr A b 7) (ee : S 200 0 = 0 ∨ ∀ k i, 150 ≤ k → k < 155 → tz_g A' k i = tz_g A k i) : rx b x S A' := by
  obtain ⟨c, l, kk, w, e⟩ := h
  refine ⟨rx_c_mv c (fun _ _ _ => rfl) (fun k i hp => eA _ _ (by omega) (by unfold rx_pl at hp; omega)), rx_l_mv l rfl rfl (fun _ => rfl) (fun _ _ => eA _ _ (by omega) (by omega)), rx_k_mv kk rfl rfl (fun _ => rfl) (fun _ _ _ => eA _ _ (by omega) (by omega)), rx_w_mv w rfl (fun _ => rfl) (fun _ _ => rfl) (fun _ => eA _ _ (by omega) (by omega)), ?_⟩
  rcases ee with ee | ee
  · obtain ⟨h1, h2, h3, h4⟩ := e
    exact ⟨er.trans h1, fun q => by omega, fun q => by omega, fun q => by omega⟩
  · exact rx_e_mv e (fun _ _ _ _ => rfl) er (fun k i h1 h2 => ee k i h1 h2)
/-- the words at a hill: one more -/
theorem rx_hr1 {b x : Nat} {S : tz_S} {A : tz_Mem} {h w : Nat} (hb : tz_sky b) (hn : S 1 0 ≤ 8) (hh : h < S 1 0) (r : rx b x S A) : rx b x (sp_hr1 h w S) (tz_s (tz_s A (b + 6) (h * 8 + S 5 h % 8) (tz_j w)) (b + 5) h (tz_j (S 5 h + 1))) := by
  have hs := sky_lo hb
  obtain ⟨c, l, kk, ww, e⟩ := r
  have c1 : rx_c b (tz_t S (100 + h) (S 5 h) w) (tz_s A (b + 6) (h * 8 + S 5 h % 8) (tz_j w)) := rx_c_mv c (fun k i hp => tz_tk (by unfold rx_pl at hp; omega)) (fun k i hp => tz_gsk (by unfold rx_pl at hp; omega))
  have c2 := rx_c_s (k := 5) (i := h) (v := S 5 h + 1) c1
  have c3 : rx_c b (sp_hr1 h w S) (tz_s (tz_s A (b + 6) (h * 8 + S 5 h % 8) (tz_j w)) (b + 5) h (tz_j (S 5 h + 1))) := rx_c_mv c2 (fun k i hp => by
    show tz_t (tz_t (tz_t S (100 + h) (S 5 h) w) 5 h (S 5 h + 1)) 0 0 (S 0 0 + 1) k i = _
    rw [tz_ta, if_neg (by unfold rx_pl at hp; omega)]) (fun _ _ _ => rfl)
  have q1 : ∀ k i, k ≠ 0 → k ≠ 5 → k ≠ 100 + h → sp_hr1 h w S k i = S k i := fun k i a1 a2 a3 => by
    show tz_t (tz_t (tz_t S (100 + h) (S 5 h) w) 5 h (S 5 h + 1)) 0 0 (S 0 0 + 1) k i = _
    rw [tz_tk a1, tz_tk a2, tz_tk a3]
  have q2 : ∀ k i, k ≠ b + 6 → k ≠ b + 5 → tz_g (tz_s (tz_s A (b + 6) (h * 8 + S 5 h % 8) (tz_j w)) (b + 5) h (tz_j (S 5 h + 1))) k i = tz_g A k i := fun k i a1 a2 => by
    rw [tz_gsk a2, tz_gsk a1]
  refine ⟨c3, rx_l_mv l (q1 _ _ (by omega) (by omega) (by omega)) (q1 _ _ (by omega) (by omega) (by omega)) (fun _ => q1 _ _ (by omega) (by omega) (by omega)) (fun _ _ => q2 _ _ (by omega) (by omega)), rx_k_mv kk (q1 _ _ (by omega) (by omega) (by omega)) (q1 _ _ (by omega) (by omega) (by omega)) (fun _ => q1 _ _ (by omega) (by omega) (by omega)) (fun _ _ _ => q2 _ _ (by omega) (by omega)), ?_, rx_e_mv e (fun _ _ _ _ => q1 _ _ (by omega) (by omega) (by omega)) rfl (fun _ _ _ _ => q2 _ _ (by omega) (by omega))⟩
  intro g hg j hj1 hj2
  rw [q1 1 0 (by omega) (by omega) (by omega)] at hg
  rw [tz_gsk (by omega)]
  by_cases hgh : g = h
  · subst hgh
    have e5 : sp_hr1 g w S 5 g = S 5 g + 1 := by
      show tz_t (tz_t (tz_t S (100 + g) (S 5 g) w) 5 g (S 5 g + 1)) 0 0 (S 0 0 + 1) 5 g = _
      rw [tz_tk (by omega), tz_t1]
    rw [e5] at hj1 hj2
    have e1 : sp_hr1 g w S (100 + g) j = if j = S 5 g then w else S (100 + g) j := by
      show tz_t (tz_t (tz_t S (100 + g) (S 5 g) w) 5 g (S 5 g + 1)) 0 0 (S 0 0 + 1) (100 + g) j = _
      rw [tz_tk (by omega), tz_tk (by omega), tz_ta]
      simp
    rw [e1]
    by_cases hjj : j = S 5 g
    · subst hjj
      rw [if_pos rfl, tz_gs1]
    · rw [if_neg hjj, tz_gsi (by omega)]
      exact ww g hg j (by omega) (by omega)
  · have e5 : sp_hr1 h w S 5 g = S 5 g := by
      show tz_t (tz_t (tz_t S (100 + h) (S 5 h) w) 5 h (S 5 h + 1)) 0 0 (S 0 0 + 1) 5 g = _
      rw [tz_tk (by omega), tz_ti hgh, tz_tk (by omega)]
    rw [e5] at hj1 hj2
    rw [q1 (100 + g) j (by omega) (by omega) (by omega), tz_gsi (by omega)]
    exact ww g hg j hj1 hj2


theorem x_hear_3 {b x h w m : Nat} (hb : tz_sky b) (hm : m < 2147483648) : ∀ k i S A, i + k = m → rx b x S A → S 1 0 ≤ 8 → h < S 1 0 → S 5 h + k < 2147483648 → ∃ A', q_X3_hear_3 b (tz_j h) (tz_j w) (tz_j m) (tz_j i) A = some (none, A') ∧ rx b x (sp_hr h w k S) A' ∧ tz_fr (rx_q b) A A' := by
  intro k
  induction k with
  | zero =>
    intro i S A hi r h8 hh h5
    refine ⟨A, ?_, r, fr_rfl⟩
    rw [e_X3_hear_3 _ _ _ _ _ hb]
    simp (disch := omega) only [tz_lit, nj_m1, ↓reduceIte, nj_cl, nj_ltt, nj_ltf, nj_let, nj_lef, nj_eqf, nj_lt, nj_le, nj_eq, nj_add, nj_mul, nj_mod, nj_and7, nj_div, tz_bI_some, tz_bV_some, or_false, false_or, or_self, and_false, false_and, and_true, true_and, not_true_eq_false, not_false_eq_true, nt_lef, nt_let, nt_ltf, nt_ltt, nt_eqf]
  | succ k ih =>
    intro i S A hi r h8 hh h5
    have c := r.1
    rw [e_X3_hear_3 _ _ _ _ _ hb]
    simp (disch := omega) only [tz_lit, nj_m1, ↓reduceIte, nj_cl, nj_ltt, nj_ltf, nj_let, nj_lef, nj_eqf, nj_lt, nj_le, nj_eq, nj_add, nj_mul, nj_mod, nj_and7, nj_div, tz_bI_some, tz_bV_some, or_false, false_or, or_self, and_false, false_and, and_true, true_and, not_true_eq_false, not_false_eq_true, nt_lef, nt_let, nt_ltf, nt_ltt, nt_eqf, tz_gsk, cx_5 c]
    have q10 : sp_hr1 h w S 1 0 = S 1 0 := by
      show tz_t (tz_t (tz_t S (100 + h) (S 5 h) w) 5 h (S 5 h + 1)) 0 0 (S 0 0 + 1) 1 0 = _
      rw [tz_tk (by omega), tz_tk (by omega), tz_tk (by omega)]
    have q5 : sp_hr1 h w S 5 h = S 5 h + 1 := by
      show tz_t (tz_t (tz_t S (100 + h) (S 5 h) w) 5 h (S 5 h + 1)) 0 0 (S 0 0 + 1) 5 h = _
      rw [tz_tk (by omega), tz_t1]
    obtain ⟨A', e, r', f⟩ := ih (i + 1) _ _ (by omega) (rx_hr1 (w := w) hb h8 hh r) (by rw [q10]; exact h8) (by rw [q10]; exact hh) (by rw [q5]; omega)
    exact ⟨A', e, r', fr_tr (fr_s (fr_s fr_rfl (Or.inl (by omega))) (Or.inl (by omega))) f⟩
