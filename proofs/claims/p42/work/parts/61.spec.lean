/-! the sky as numbers, and what an hour does to it -/
abbrev tz_S : Type := Nat → Nat → Nat
def tz_t (S : tz_S) (k i v : Nat) : tz_S := fun k' i' => if k' = k ∧ i' = i then v else S k' i'
theorem tz_ta {S : tz_S} {k i v k' i' : Nat} : tz_t S k i v k' i' = if k' = k ∧ i' = i then v else S k' i' := rfl
theorem tz_t1 {S : tz_S} {k i v : Nat} : tz_t S k i v k i = v := if_pos ⟨rfl, rfl⟩
theorem tz_tk {S : tz_S} {k i v k' i' : Nat} (h : k' ≠ k) : tz_t S k i v k' i' = S k' i' := if_neg (fun q => h q.1)
theorem tz_ti {S : tz_S} {k i v i' : Nat} (h : i' ≠ i) : tz_t S k i v k i' = S k i' := if_neg (fun q => h q.2)
/-- what a word is at a hill; how often it is heard -/
def sp_bec (S : tz_S) (h w : Nat) : Nat := if S 2 h = 2 then w / 10 else if S 2 h = 5 then (if 9999 < w / 10 + S 3 h then 9999 else w / 10 + S 3 h) else w
def sp_tim (S : tz_S) (h g : Nat) : Nat := if S 2 h = 1 then 2 else if S 2 h = 3 then 2 + S 3 h else if S 2 h = 4 then (if g ≤ 10 * S 3 h then 0 else 1) else if S 2 h = 6 then 0 else 1
def sp_hr1 (h w : Nat) (S : tz_S) : tz_S := tz_t (tz_t (tz_t S (100 + h) (S 5 h) w) 5 h (S 5 h + 1)) 0 0 (S 0 0 + 1)
def sp_hr (h w : Nat) : Nat → tz_S → tz_S
  | 0, S => S
  | m + 1, S => sp_hr h w m (sp_hr1 h w S)
/-- the ears: 200 0 which; 201 the first (found, wanted); 202, 203 the night (matched, length, place, broken; told); 204, 205 the path (length, followed; hills) -/
def sp_ni1 (w : Nat) (S : tz_S) : tz_S := if S 202 3 = 0 ∧ S 202 0 < S 202 1 then (if S 203 (S 202 0) = w then tz_t S 202 0 (S 202 0 + 1) else tz_t S 202 3 1) else S
def sp_ni (w : Nat) : Nat → tz_S → tz_S
  | 0, S => S
  | m + 1, S => sp_ni w m (sp_ni1 w S)
def sp_lis (l h w m : Nat) (S : tz_S) : tz_S :=
  if S 200 0 = 1 then (if w = S 201 1 ∧ 0 < m ∧ (S 201 0 = 4294967295 ∨ h < S 201 0) then tz_t S 201 0 h else S)
  else if S 200 0 = 2 then (if h = S 202 2 then sp_ni w m S else S)
  else if S 200 0 = 3 then (if l = S 204 1 ∧ S 204 0 < 500 then tz_t (tz_t S 205 (S 204 0) h) 204 0 (S 204 0 + 1) else S)
  else S
def sp_fin (l h : Nat) (S : tz_S) : tz_S := if S 18 l = h then tz_t (tz_t S 20 l 200) 21 l (S 0 3) else tz_t S 20 l h
def sp_say (l h : Nat) (S : tz_S) : tz_S := sp_fin l h (sp_lis l h (sp_bec S h (S 16 l)) (sp_tim S h (S 19 l)) (sp_hr h (sp_bec S h (S 16 l)) (sp_tim S h (S 19 l)) (tz_t S 16 l (sp_bec S h (S 16 l)))))
def sp_sayL (t h : Nat) : Nat → Nat → tz_S → tz_S
  | 0, _, S => S
  | k + 1, i, S => sp_sayL t h k (i + 1) (if S 20 (S 22 i) = 100 + t then sp_say (S 22 i) h S else S)
def sp_take (t h : Nat) : Nat → Nat → Nat → tz_S → tz_S
  | 0, _, _, S => S
  | k + 1, i, left, S => if left = 0 then S else if S 20 (S 22 i) = h ∧ S 19 (S 22 i) ≤ S 9 t then sp_take t h k (i + 1) (left - 1) (tz_t S 20 (S 22 i) (100 + t)) else sp_take t h k (i + 1) left S
def sp_at (S : tz_S) (t : Nat) : Nat := S 12 (6 * t + S 13 t)
def sp_adv (t : Nat) (S : tz_S) : tz_S := tz_t S 13 t (if S 13 t + 1 < S 11 t then S 13 t + 1 else 0)
def sp_com (t : Nat) (S : tz_S) : tz_S := sp_take t (sp_at (sp_adv t S) t) (S 15 0) 0 (S 10 t) (sp_sayL t (sp_at (sp_adv t S) t) (S 15 0) 0 (sp_adv t S))
def sp_tkL : Nat → Nat → tz_S → tz_S
  | 0, _, S => S
  | k + 1, t, S => sp_tkL k (t + 1) (if S 0 3 % S 8 t = 0 ∧ t ≠ S 0 6 then sp_com t S else S)
def sp_tk (S : tz_S) : tz_S := sp_tkL (S 7 0) 0 (tz_t S 0 3 (S 0 3 + 1))
def sp_n : Nat → tz_S → tz_S
  | 0, S => S
  | n + 1, S => sp_n n (sp_tk S)
/-- draws -/
def sp_dr (x : Int32) : Int32 := (Int32.toUInt32 x >>> (Int32.toUInt32 16 &&& Int32.toUInt32 31)).toInt32 - (Int32.toUInt32 x >>> (Int32.toUInt32 16 &&& Int32.toUInt32 31)).toInt32 / 100 * 100
def sp_drw (S : tz_S) : tz_S := tz_t S 0 5 ((S 0 5 * 1103515245 + 12345) % 4294967296)
def sp_dyL : Nat → Nat → Nat → tz_S → Nat × tz_S
  | 0, _, c, S => (c, S)
  | k + 1, t, c, S => if S 0 3 % S 8 t = 0 then (if sp_dr (tz_j (sp_drw S 0 5)) < tz_j (S 0 4) then sp_dyL k (t + 1) (c + 1) (sp_drw S) else sp_dyL k (t + 1) c (sp_com t (sp_drw S))) else sp_dyL k (t + 1) c S
def sp_dy (S : tz_S) : Nat × tz_S := sp_dyL (S 7 0) 0 0 (tz_t S 0 3 (S 0 3 + 1))

def sp_sum : Nat → tz_S → Nat
  | 0, _ => 0
  | n + 1, S => sp_sum n S + S 5 n
/-- the letters' order: the heaviest first -/
def sp_lt (S : tz_S) (l m : Nat) : Prop := S 19 m < S 19 l ∨ (S 19 l = S 19 m ∧ l < m)
/-- where a letter is -/
def sp_wh (S : tz_S) (v : Nat) : Prop := v < S 1 0 ∨ (100 ≤ v ∧ v < 100 + S 7 0) ∨ v = 200 ∨ v = 300
/-- well formed, the static part -/
def sp_W1 (S : tz_S) : Prop := S 1 0 ≤ 8 ∧ S 7 0 ≤ 4 ∧ S 15 0 ≤ 12
  ∧ (∀ h, h < S 1 0 → S 2 h ≤ 6 ∧ S 3 h ≤ 9)
  ∧ (∀ t, t < S 7 0 → 1 ≤ S 8 t ∧ S 8 t ≤ 9 ∧ 1 ≤ S 9 t ∧ S 9 t ≤ 99 ∧ 1 ≤ S 10 t ∧ S 10 t ≤ 9 ∧ 2 ≤ S 11 t ∧ S 11 t ≤ 6 ∧ ∀ i, i < S 11 t → S 12 (6 * t + i) < S 1 0)
  ∧ (∀ l, l < S 15 0 → S 17 l < S 1 0 ∧ S 18 l < S 1 0 ∧ 1 ≤ S 19 l ∧ S 19 l ≤ 99)
  ∧ (∀ i, i < S 15 0 → S 22 i < S 15 0)
  ∧ (∀ i j, i < j → j < S 15 0 → sp_lt S (S 22 i) (S 22 j))
  ∧ (∀ l, l < S 15 0 → ∃ i, i < S 15 0 ∧ S 22 i = l)
/-- the moving part -/
def sp_W2 (S : tz_S) : Prop := (∀ t, t < S 7 0 → S 13 t < S 11 t)
  ∧ (∀ l, l < S 15 0 → S 16 l ≤ 9999 ∧ sp_wh S (S 20 l) ∧ (S 20 l = 200 → S 21 l ≤ S 0 3) ∧ (S 20 l ≠ 200 → S 21 l = 4294967295))
  ∧ (∀ h, h < S 1 0 → S 5 h ≤ S 0 0)
  ∧ sp_sum (S 1 0) S = S 0 0
  ∧ S 0 4 ≤ 100 ∧ S 0 5 < 4294967296 ∧ S 0 6 < 4294967296
/-- so much has been heard at most -/
def sp_W3 (N : Nat) (S : tz_S) : Prop := S 0 3 ≤ N ∧ S 0 0 ≤ 528 * S 0 3
