/-! the law's world: both skies are made, as the script has it -/
def LMz (n s m r : Nat) (A : tz_Mem) : Prop := LM n s m r A ∧ (tz_gr A 0 0 ≤ 260 ∧ A.1 ≤ 159) ∧ ∀ t, s ≤ t → t < 4 → tz_g A 157 (20 + t) = tz_j 0
theorem LM_cg {n s m r : Nat} {A B : tz_Mem} (h : LM n s m r A) (hs : s ≤ 4) (e : B.1 = A.1) (e1 : ∀ i, (i < 4 ∨ i = 7 ∨ (16 ≤ i ∧ i < 24)) → tz_g B 157 i = tz_g A 157 i) (e2 : ∀ t, t < s → tz_gl B 158 t = tz_gl A 158 t) : LM n s m r B := by
  obtain ⟨h1, q0, q1, q2, q3, q7, hL⟩ := h
  exact ⟨by rw [e]; exact h1, by rw [e1 _ (by omega)]; exact q0, by rw [e1 _ (by omega)]; exact q1, by rw [e1 _ (by omega)]; exact q2, by rw [e1 _ (by omega)]; exact q3, by rw [e1 _ (by omega)]; exact q7, fun t ht => LW_mv (hL t ht) (e1 _ (by omega)) (e1 _ (by omega)) (e2 t ht)⟩
theorem LM_cf {n s m r : Nat} {A B : tz_Mem} (h : LM n s m r A) (hs : s ≤ 4) (f : cf A B) : LM n s m r B := LM_cg h hs f.1 (fun i _ => (f.2.1 157 i (by omega)).1) (fun t _ => (f.2.1 158 t (by omega)).2)
theorem LMz_cf {n s m r : Nat} {A B : tz_Mem} (h : LMz n s m r A) (hs : s ≤ 4) (f : cf A B) : LMz n s m r B := ⟨LM_cf h.1 hs f, ⟨by rw [f.2.2]; exact h.2.1.1, by rw [f.1]; exact h.2.1.2⟩, fun t a b => by rw [(f.2.1 157 _ (by omega)).1]; exact h.2.2 t a b⟩
theorem LMz_s {n s m r i : Nat} {v : Int32} {A : tz_Mem} (h : LMz n s m r A) (hs : s ≤ 4) (hi : 4 ≤ i ∧ i ≠ 7 ∧ (i < 16 ∨ 24 ≤ i)) : LMz n s m r (tz_s A 157 i v) := ⟨LM_cg h.1 hs rfl (fun j hj => tz_gsi (by omega)) (fun _ _ => rfl), h.2.1, fun t a b => by rw [tz_gsi (by omega)]; exact h.2.2 t a b⟩
theorem LMz_sl {n s m r i : Nat} {v : Int64} {A : tz_Mem} (h : LMz n s m r A) (hs : s ≤ 4) (hi : s ≤ i) : LMz n s m r (tz_sl A 158 i v) := ⟨LM_cg h.1 hs rfl (fun j hj => rfl) (fun t ht => tz_glsl.trans (if_neg (by omega))), h.2.1, h.2.2⟩
/-- memory behind the class's -/
def hi_f (A B : tz_Mem) : Prop := B.1 = A.1 ∧ B.2.2.2 = A.2.2.2 ∧ ∀ k i, k < 157 → tz_g B k i = tz_g A k i ∧ tz_gl B k i = tz_gl A k i
theorem hi_s {A : tz_Mem} {i : Nat} {v : Int32} : hi_f A (tz_s A 157 i v) := ⟨rfl, rfl, fun k j hk => ⟨tz_gsk (by omega), rfl⟩⟩
theorem hi_sl {A : tz_Mem} {i : Nat} {v : Int64} : hi_f A (tz_sl A 158 i v) := ⟨rfl, rfl, fun k j hk => ⟨rfl, tz_glsl.trans (if_neg (by omega))⟩⟩
theorem hi_tr {A B C : tz_Mem} (h1 : hi_f A B) (h2 : hi_f B C) : hi_f A C := ⟨h2.1.trans h1.1, h2.2.1.trans h1.2.1, fun k i h => ⟨(h2.2.2 k i h).1.trans (h1.2.2 k i h).1, (h2.2.2 k i h).2.trans (h1.2.2 k i h).2⟩⟩
theorem CX_hi {N : Nat} {S K : tz_S} {U : tz_U} {V : tz_V} {A B : tz_Mem} (f : hi_f A B) (ww : WX N S K U) (c : CX S K U V A) : CX S K U V B := by
  obtain ⟨f1, f2, f3⟩ := f
  have gr : ∀ k i, tz_gr B k i = tz_gr A k i := fun k i => by show B.2.2.2 k i = A.2.2.2 k i; rw [f2]
  have mv : ∀ b T, b ≤ 124 → rx b 99 T A → sp_st T → rx b 99 T B := fun b T hb r s => rx_mv r (fun k i a b => (f3 k i (by omega)).1) (gr _ _) (Or.inl s.2)
  refine ⟨mv 30 S (by omega) c.1 ww.2.1, fun q => mv 53 K (by omega) (c.2.1 q) ww.2.2.2.1, ⟨fun s hs => ?_, fun i hi => ?_, ?_, ?_, ?_, fun i hi => ?_⟩, ?_⟩
  · obtain ⟨a, b, d⟩ := c.2.2.1.1 s hs
    refine ⟨(f3 _ _ (by omega)).1.trans a, (f3 _ _ (by omega)).1.trans b, fun i hi => (f3 _ _ (by omega)).2.trans (d i hi)⟩
  · exact (f3 _ _ (by omega)).1.trans (c.2.2.1.2.1 i hi)
  · exact (f3 _ _ (by omega)).1.trans c.2.2.1.2.2.1
  · exact (f3 _ _ (by omega)).1.trans c.2.2.1.2.2.2.1
  · exact (f3 _ _ (by omega)).1.trans c.2.2.1.2.2.2.2.1
  · exact (f3 _ _ (by omega)).1.trans (c.2.2.1.2.2.2.2.2 i hi)
  · refine ⟨by rw [f1]; exact c.2.2.2.1, fun k f h1 h2 h3 => ?_⟩
    rw [gr]
    exact c.2.2.2.2 k f h1 h2 h3
/-- while the world is made: h hills so far, of n; s storms, m letters -/
def WI (h n s m : Nat) (S K : tz_S) (U : tz_U) (V : tz_V) (A : tz_Mem) : Prop := CX S K U V A ∧ WX 1000 S K U ∧ LMz n s m 0 A ∧ U 0 5 = tz_j 4294967295 ∧ S 1 0 = h ∧ S 7 0 = s ∧ S 15 0 = m ∧ S 0 3 = 0 ∧ ∀ l, l < m → S 20 l < 100
theorem WI_hi {h n s m : Nat} {S K : tz_S} {U : tz_U} {V : tz_V} {A B : tz_Mem} (w : WI h n s m S K U V A) (f : hi_f A B) (L : LMz n s m 0 B) : WI h n s m S K U V B := ⟨CX_hi f w.2.1 w.1, w.2.1, L, w.2.2.2⟩
/-- hills -/
theorem w_51 {z4 : Int32} {n : Nat} (hn : n ≤ 8) : ∀ k h S K U V A, h + k = n → WI h n 0 0 S K U V A → ∃ S' K' U' V' A', q_L_world_51 z4 (tz_j h) A = q_L_world_127 z4 A' ∧ WI n n 0 0 S' K' U' V' A' := by
  intro k
  induction k with
  | zero =>
    intro h S K U V A hh w
    obtain rfl : h = n := by omega
    refine ⟨S, K, U, V, A, ?_, w⟩
    have hA := w.2.2.1.1.1
    rw [e_L_world_51, if_neg (by omega), w.2.2.1.1.2.1, if_pos (by rw [nj_le (by omega) (by omega)]; omega)]
  | succ k ih =>
    intro h S K U V A hh w
    obtain ⟨c, ww, L, u5, s1, s7, s15, s03, s20⟩ := w
    have hA := L.1.1
    have bA : (A.1 ≤ 157) = False := eq_false (by omega)
    have b8 : ((8 + tz_j h) < 0 ∨ 64 ≤ Int32.toNatClampNeg (8 + tz_j h)) = False := by simp (disch := omega) only [tz_lit, nj_m1, ↓reduceIte, nj_cl, nj_ltt, nj_ltf, nj_let, nj_lef, nj_eqf, nj_lt, nj_le, nj_eq, nj_add, nj_mul, nj_modx, nj_and7, nj_div, tz_bI_some, tz_bV_some, or_false, false_or, or_self, and_false, false_and, and_true, true_and, not_true_eq_false, not_false_eq_true, nt_lef, nt_let, nt_ltf, nt_ltt, nt_eqf, nj_m2, nj_m3, nj_m4, nj_m5, nj_m6, nj_m7, tz_bL_some, nj_sub, ng_ltt, ng_let, ng_gtf, ng_gef]
    have c8 : Int32.toNatClampNeg (8 + tz_j h) = 8 + h := by simp (disch := omega) only [tz_lit, nj_m1, ↓reduceIte, nj_cl, nj_ltt, nj_ltf, nj_let, nj_lef, nj_eqf, nj_lt, nj_le, nj_eq, nj_add, nj_mul, nj_modx, nj_and7, nj_div, tz_bI_some, tz_bV_some, or_false, false_or, or_self, and_false, false_and, and_true, true_and, not_true_eq_false, not_false_eq_true, nt_lef, nt_let, nt_ltf, nt_ltt, nt_eqf, nj_m2, nj_m3, nj_m4, nj_m5, nj_m6, nj_m7, tz_bL_some, nj_sub, ng_ltt, ng_let, ng_gtf, ng_gef]
    obtain ⟨v, e1⟩ := l_at (k := 2 + h) L.2.1.1 (by omega)
    obtain ⟨a, ha, e2⟩ := l_some (m := 7) v A (by omega) (by omega)
    obtain ⟨b, hb, e3⟩ := l_some (m := 10) (v >>> (3 &&& 31)) A (by omega) (by omega)
    have ew : tz_j a + 10 * tz_j b = tz_j (a + 10 * b) := by
      show tz_j a + tz_j 10 * tz_j b = _
      rw [nj_mul, nj_add]
    have em : tz_j (a + 10 * b) - tz_j b * 10 = tz_j a := by
      show _ - tz_j b * tz_j 10 = _
      rw [nj_mul, nj_sub (by omega)]
      congr 1
      omega
    have ed : tz_j (a + 10 * b) / 10 = tz_j b := by
      show _ / tz_j 10 = _
      rw [nj_div (by omega) (by omega)]
      congr 1
      omega
    have f1 : hi_f A (tz_s A 157 (8 + h) (tz_j (a + 10 * b))) := hi_s
    obtain ⟨A2, e4, c4, f4⟩ := c_hill (CX_hi f1 ww c) ww ha hb (by omega)
    have w4 := wx_hill ww ha hb (show S 1 0 < 8 by omega)
    have L4 : LMz n 0 0 0 A2 := LMz_cf (LMz_s L (by omega) (by omega)) (by omega) f4
    obtain ⟨S', K', U', V', A', e5, w5⟩ := ih (h + 1) _ K U V A2 (by omega) ⟨c4, w4, L4, u5, by rw [addH_1]; omega, by rw [addH_g (by omega)]; exact s7, by rw [addH_g (by omega)]; exact s15, by rw [addH_g (by omega)]; exact s03, fun l hl => by omega⟩
    refine ⟨S', K', U', V', A', ?_, w5⟩
    rw [e_L_world_51, if_neg (by omega), L.1.2.1, if_neg (by rw [nj_le (by omega) (by omega)]; omega), show (2 : Int32) + tz_j h = tz_j (2 + h) from nj_add (a := 2), e1, tz_bI_some, show f_L_some v 7 A = _ from e2, tz_bI_some, show f_L_some (v >>> (3 &&& 31)) 10 A = _ from e3, tz_bI_some]
    simp only [bA, b8, ↓reduceIte]
    simp only [c8, tz_gs1, ew, ed, em]
    rw [e4, tz_bI_some, show tz_j h + 1 = tz_j (h + 1) from nj_add (b := 1)]
    exact e5
/-- a told way of the world's -/
theorem iw_of {c len : Nat} {f : Nat → Int32} {w : Nat → Nat} (hc : c ≤ 8) (h1 : ∀ j, j < len → w j < c ∧ f j = tz_j (w j)) (h2 : ∀ j, j + 1 < len → w (j + 1) ≠ w j) (h3 : w 0 ≠ w (len - 1)) : ∀ k i, i + k = len → sp_iw c len f k i := by
  intro k
  induction k with
  | zero => exact fun _ _ => trivial
  | succ k ih =>
    intro i hi
    obtain ⟨a, b⟩ := h1 i (by omega)
    refine ⟨⟨w i, a, b⟩, ?_, ih (i + 1) (by omega)⟩
    by_cases z : i = 0
    · subst z
      rw [if_pos rfl, b, (h1 (len - 1) (by omega)).2]
      intro q
      have := (h1 (len - 1) (by omega)).1
      exact h3 (nj_inj (by omega) (by omega) q)
    · rw [if_neg z, b, (h1 (i - 1) (by omega)).2]
      intro q
      have := (h1 (i - 1) (by omega)).1
      have := h2 (i - 1) (by omega)
      rw [Nat.sub_add_cancel (by omega)] at this
      exact this (nj_inj (by omega) (by omega) q)
/-- while a row is filled with a way: i hills of it -/
def RI (n s i : Nat) (w : Nat → Nat) (S K : tz_S) (U : tz_U) (V : tz_V) (A : tz_Mem) : Prop := WI n n s 0 S K U V A ∧ U 0 7 = tz_j 102 ∧ U 1 7 = tz_j 6 ∧ (∃ N, dg w i N ∧ tz_gl A 158 s = jl N) ∧ (∀ j, j < i → w j < n ∧ Int64.toInt32 (V 7 j) = tz_j (w j)) ∧ ∀ j, j + 1 < i → w (j + 1) ≠ w j
theorem w_249 {z4 z5 z6 v : Int32} {n s sz i h : Nat} {w : Nat → Nat} {S K : tz_S} {U : tz_U} {V : tz_V} {A : tz_Mem} (hn : n ≤ 8) (hs : s < 4) (hi : i < 6) (hh : h < n) (hne : i = 0 ∨ h ≠ w (i - 1)) (r : RI n s i w S K U V A) : ∃ w' U' V' A', q_L_world_249 z4 z5 z6 v (tz_j sz) (tz_j i) (tz_j h) A = q_L_world_194 z4 z5 z6 v (tz_j sz) (tz_j (i + 1)) A' ∧ RI n s (i + 1) w' S K U' V' A' := by
  obtain ⟨⟨c, ww, L, u5, s1, s7, s15, s03, s20⟩, u7, u17, ⟨N, d, g⟩, hv, hd⟩ := r
  have hA := L.1.1
  have q1 : tz_g A 157 1 = tz_j s := L.1.2.2.1
  have bs : (tz_j s < 0 ∨ 40 ≤ Int32.toNatClampNeg (tz_j s)) = False := by simp (disch := omega) only [tz_lit, nj_m1, ↓reduceIte, nj_cl, nj_ltt, nj_ltf, nj_let, nj_lef, nj_eqf, nj_lt, nj_le, nj_eq, nj_add, nj_mul, nj_modx, nj_and7, nj_div, tz_bI_some, tz_bV_some, or_false, false_or, or_self, and_false, false_and, and_true, true_and, not_true_eq_false, not_false_eq_true, nt_lef, nt_let, nt_ltf, nt_ltt, nt_eqf, nj_m2, nj_m3, nj_m4, nj_m5, nj_m6, nj_m7, tz_bL_some, nj_sub, ng_ltt, ng_let, ng_gtf, ng_gef]
  have cs : Int32.toNatClampNeg (tz_j s) = s := nj_cl (by omega)
  have b7 : (A.1 ≤ 157) = False := eq_false (by omega)
  have b8 : (A.1 ≤ 158) = False := eq_false (by omega)
  have eo : tz_gl A 158 s ||| (Int32.toInt64 (tz_j h) <<< (Int32.toInt64 (4 * tz_j i) &&& 63)) = jl (N + h * 16 ^ i) := by
    rw [g]
    exact jl_or d.1 hi (by omega)
  obtain ⟨A2, e2, c2, f2⟩ := c_set (s := 7) (t := 2) (l := 6) (i := i) (x := Int32.toInt64 (tz_j h)) (CX_hi (hi_sl (i := s) (v := jl (N + h * 16 ^ i))) ww c) (by omega) (by omega) (by omega) hi u7 u17
  have L2 : LMz n s 0 0 A2 := LMz_cf (LMz_sl L (by omega) (Nat.le_refl _)) (by omega) f2
  have d2 := dg_s d (show h < 8 by omega)
  refine ⟨fun j => if j = i then h else w j, U, _, A2, ?_, ⟨c2, ww, L2, u5, s1, s7, s15, s03, s20⟩, u7, u17, ⟨_, d2, ?_⟩, fun j hj => ?_, fun j hj => ?_⟩
  · rw [e_L_world_249]
    simp only [q1, b7, b8, bs, ↓reduceIte]
    simp only [cs, eo]
    rw [show f_X11_set 7 (tz_j i) (Int32.toInt64 (tz_j h)) (tz_sl A 158 s (jl (N + h * 16 ^ i))) = _ from e2, tz_bI_some, show tz_j i + 1 = tz_j (i + 1) from nj_add (b := 1)]
  · rw [(f2.2.1 158 s (by omega)).2, tz_glsl, if_pos ⟨rfl, rfl⟩]
  · show (if j = i then h else w j) < n ∧ Int64.toInt32 (if 7 = 7 ∧ j = i then sh_w 2 (Int32.toInt64 (tz_j h)) else V 7 j) = tz_j (if j = i then h else w j)
    by_cases z : j = i
    · subst z
      refine ⟨by rw [if_pos rfl]; exact hh, ?_⟩
      rw [if_pos (show 7 = 7 ∧ j = j from ⟨rfl, rfl⟩), if_pos rfl]
      show Int64.toInt32 (Int32.toInt64 (Int64.toInt32 (Int32.toInt64 (tz_j h)))) = _
      rw [t32, t32]
    · rw [if_neg z, if_neg (fun q => z q.2)]
      exact hv j (by omega)
  · show (if j + 1 = i then h else w (j + 1)) ≠ (if j = i then h else w j)
    by_cases z : j + 1 = i
    · rw [if_pos z, if_neg (by omega), show j = i - 1 by omega]
      exact hne.resolve_left (by omega)
    · rw [if_neg z, if_neg (by omega)]
      exact hd j (by omega)
theorem w_194 {z4 z5 z6 v : Int32} {n s sz : Nat} (h2 : 2 ≤ n) (hn : n ≤ 8) (hs : s < 4) (hsz : sz ≤ 6) : ∀ k i w S K U V A, i + k = sz → RI n s i w S K U V A → ∃ w' U' V' A', q_L_world_194 z4 z5 z6 v (tz_j sz) (tz_j i) A = q_L_world_283 z4 z5 z6 v (tz_j sz) A' ∧ RI n s sz w' S K U' V' A' := by
  intro k
  induction k with
  | zero =>
    intro i w S K U V A hi r
    obtain rfl : i = sz := by omega
    refine ⟨w, U, V, A, ?_, r⟩
    rw [e_L_world_194, if_pos (by rw [nj_le (by omega) (by omega)]; omega)]
  | succ k ih =>
    intro i w S K U V A hi r
    have L := r.1.2.2.1
    have hA := L.1.1
    have q0 : tz_g A 157 0 = tz_j n := L.1.2.1
    have q1 : tz_g A 157 1 = tz_j s := L.1.2.2.1
    have b7 : (A.1 ≤ 157) = False := eq_false (by omega)
    obtain ⟨h, hh, e1⟩ := l_some (m := n) (v >>> ((3 + (3 * tz_j i)) &&& 31)) A (by omega) (by omega)
    have next : ∀ h, h < n → (i = 0 ∨ h ≠ w (i - 1)) → ∃ w' U' V' A', q_L_world_249 z4 z5 z6 v (tz_j sz) (tz_j i) (tz_j h) A = q_L_world_283 z4 z5 z6 v (tz_j sz) A' ∧ RI n s sz w' S K U' V' A' := by
      intro h hh hne
      obtain ⟨w1, U1, V1, A1, e, r1⟩ := w_249 (z4 := z4) (z5 := z5) (z6 := z6) (v := v) (sz := sz) hn hs (by omega) hh hne r
      obtain ⟨w2, U2, V2, A2, e2, r2⟩ := ih (i + 1) w1 S K U1 V1 A1 (by omega) r1
      exact ⟨w2, U2, V2, A2, e.trans e2, r2⟩
    rw [e_L_world_194, if_neg (by rw [nj_le (by omega) (by omega)]; omega), if_neg (by omega), q0, e1, tz_bI_some]
    by_cases z : i = 0
    · rw [if_pos (show tz_j i ≤ 0 by rw [z]; decide)]
      exact next h hh (Or.inl z)
    · have n1 : ¬ tz_j i ≤ 0 := by
        show ¬ tz_j i ≤ tz_j 0
        rw [nj_le (by omega) (by omega)]
        omega
      have e3 : f_L_way (tz_j s) (tz_j i - 1) A = some (some (.int (tz_j (w (i - 1)))), A) := by
        obtain ⟨N, d, g⟩ := r.2.2.2.1
        rw [show tz_j i - 1 = tz_j (i - 1) from nj_sub (b := 1) (by omega), l_way (by omega) hA, g, wv_dg d (by omega) (by omega)]
      have hw := (r.2.2.2.2.1 (i - 1) (by omega)).1
      rw [if_neg n1, if_neg (by omega), q1, e3, tz_bI_some]
      by_cases y : tz_j h = tz_j (w (i - 1))
      · have y2 : h = w (i - 1) := nj_inj (by omega) (by omega) y
        have n0 : ¬ tz_j n = 0 := by
          show ¬ tz_j n = tz_j 0
          rw [nj_eq (by omega) (by omega)]
          omega
        have ea : (tz_j h + 1) - (tz_j h + 1) / tz_j n * tz_j n = tz_j ((h + 1) % n) := by
          rw [show tz_j h + 1 = tz_j (h + 1) from nj_add (b := 1), nj_mod (by omega) (by omega)]
        rw [if_neg (fun q => q y), if_neg (by omega), q0, if_neg n0, ea]
        refine next _ (Nat.mod_lt _ (by omega)) (Or.inr ?_)
        by_cases x : h + 1 = n
        · rw [x, Nat.mod_self]
          omega
        · rw [Nat.mod_eq_of_lt (by omega)]
          omega
      · rw [if_pos y]
        exact next h hh (Or.inr (fun q => y (by rw [q])))
/-- pace, force, room -/
theorem w_283 {z4 z5 z6 v z8 : Int32} {A : tz_Mem} : ∃ p fo ro, (1 ≤ p ∧ p ≤ 9) ∧ (1 ≤ fo ∧ fo ≤ 99) ∧ (1 ≤ ro ∧ ro ≤ 9) ∧ q_L_world_283 z4 z5 z6 v z8 A = q_L_world_368 z4 z5 z6 z8 (tz_j p) (tz_j fo) (tz_j ro) A := by
  have h340 : ∀ p fo, ∃ ro, (1 ≤ ro ∧ ro ≤ 9) ∧ q_L_world_340 z4 z5 z6 v z8 p fo A = q_L_world_368 z4 z5 z6 z8 p fo (tz_j ro) A := fun p fo => by
    rw [e_L_world_340]
    split
    · obtain ⟨r, hr, e⟩ := l_some (m := 9) (v >>> (27 &&& 31)) A (by omega) (by omega)
      refine ⟨1 + r, by omega, ?_⟩
      rw [show f_L_some (v >>> (27 &&& 31)) 9 A = _ from e, tz_bI_some, show (1 : Int32) + tz_j r = tz_j (1 + r) from nj_add (a := 1)]
    · obtain ⟨r, hr, e⟩ := l_some (m := 3) (v >>> (27 &&& 31)) A (by omega) (by omega)
      refine ⟨1 + r, by omega, ?_⟩
      rw [show f_L_some (v >>> (27 &&& 31)) 3 A = _ from e, tz_bI_some, show (1 : Int32) + tz_j r = tz_j (1 + r) from nj_add (a := 1)]
  have h311 : ∀ p, ∃ fo ro, (1 ≤ fo ∧ fo ≤ 99) ∧ (1 ≤ ro ∧ ro ≤ 9) ∧ q_L_world_311 z4 z5 z6 v z8 p A = q_L_world_368 z4 z5 z6 z8 p (tz_j fo) (tz_j ro) A := fun p => by
    rw [e_L_world_311]
    split
    · obtain ⟨r, hr, e⟩ := l_some (m := 99) (v >>> (25 &&& 31)) A (by omega) (by omega)
      obtain ⟨ro, hro, e2⟩ := h340 p (tz_j (1 + r))
      refine ⟨1 + r, ro, by omega, hro, ?_⟩
      rw [show f_L_some (v >>> (25 &&& 31)) 99 A = _ from e, tz_bI_some, show (1 : Int32) + tz_j r = tz_j (1 + r) from nj_add (a := 1)]
      exact e2
    · obtain ⟨ro, hro, e2⟩ := h340 p (tz_j 99)
      exact ⟨99, ro, by omega, hro, e2⟩
  rw [e_L_world_283]
  split
  · obtain ⟨r, hr, e⟩ := l_some (m := 9) (v >>> (21 &&& 31)) A (by omega) (by omega)
    obtain ⟨fo, ro, hfo, hro, e2⟩ := h311 (tz_j (1 + r))
    refine ⟨1 + r, fo, ro, by omega, hfo, hro, ?_⟩
    rw [show f_L_some (v >>> (21 &&& 31)) 9 A = _ from e, tz_bI_some, show (1 : Int32) + tz_j r = tz_j (1 + r) from nj_add (a := 1)]
    exact e2
  · obtain ⟨r, hr, e⟩ := l_some (m := 3) (v >>> (21 &&& 31)) A (by omega) (by omega)
    obtain ⟨fo, ro, hfo, hro, e2⟩ := h311 (tz_j (1 + r))
    refine ⟨1 + r, fo, ro, by omega, hfo, hro, ?_⟩
    rw [show f_L_some (v >>> (21 &&& 31)) 3 A = _ from e, tz_bI_some, show (1 : Int32) + tz_j r = tz_j (1 + r) from nj_add (a := 1)]
    exact e2
theorem w_402 {z4 z5 z6 : Int32} {n s sz z p fo ro : Nat} {w : Nat → Nat} {S K : tz_S} {U : tz_U} {V : tz_V} {A : tz_Mem} (hn : n ≤ 8) (hs : s < 4) (hsz : sz ≤ 6) (hz : z ≤ sz) (hz2 : 2 ≤ z) (hp : 1 ≤ p ∧ p ≤ 9) (hfo : 1 ≤ fo ∧ fo ≤ 99) (hro : 1 ≤ ro ∧ ro ≤ 9) (hd : w 0 ≠ w (z - 1)) (r : RI n s sz w S K U V A) : ∃ S' A', q_L_world_402 z4 z5 z6 (tz_j z) (tz_j p) (tz_j fo) (tz_j ro) A = q_L_world_468 z4 z5 z6 A' ∧ WI n n (s + 1) 0 S' K U V A' := by
  obtain ⟨⟨c, ww, L, u5, s1, s7, s15, s03, s20⟩, u7, u17, ⟨N, d, g⟩, hv, hdi⟩ := r
  have iw : sp_iw (S 1 0) z (fun i => Int64.toInt32 (V 7 i)) z 0 := by
    rw [s1]
    exact iw_of hn (fun j hj => hv j (by omega)) (fun j hj => hdi j (by omega)) hd z 0 (Nat.zero_add _)
  obtain ⟨A1, e1, c1, f1⟩ := (c_storm c ww (s := 7) (n := z) (p := p) (fo := fo) (ro := ro) (t := 2) (l := 6) (by omega) (by omega) (by omega) (by omega) u7 u17 (by omega) hp hfo hro iw).1 (by omega)
  have w1 := wx_storm (V := V) (s := 7) ww (show S 7 0 < 4 by omega) (show 2 ≤ z ∧ z ≤ 6 by omega) hp hfo hro iw
  have L1 := LMz_cf L (by omega) f1
  have hA := L1.1.1
  have q1 : tz_g A1 157 1 = tz_j s := L1.1.2.2.1
  have g1 : tz_gl A1 158 s = jl N := by rw [(f1.2.1 158 s (by omega)).2]; exact g
  have bs : (tz_j s < 0 ∨ 40 ≤ Int32.toNatClampNeg (tz_j s)) = False := by simp (disch := omega) only [tz_lit, nj_m1, ↓reduceIte, nj_cl, nj_ltt, nj_ltf, nj_let, nj_lef, nj_eqf, nj_lt, nj_le, nj_eq, nj_add, nj_mul, nj_modx, nj_and7, nj_div, tz_bI_some, tz_bV_some, or_false, false_or, or_self, and_false, false_and, and_true, true_and, not_true_eq_false, not_false_eq_true, nt_lef, nt_let, nt_ltf, nt_ltt, nt_eqf, nj_m2, nj_m3, nj_m4, nj_m5, nj_m6, nj_m7, tz_bL_some, nj_sub, ng_ltt, ng_let, ng_gtf, ng_gef]
  have cs : Int32.toNatClampNeg (tz_j s) = s := nj_cl (by omega)
  have b16 : ((16 + tz_j s) < 0 ∨ 64 ≤ Int32.toNatClampNeg (16 + tz_j s)) = False := by simp (disch := omega) only [tz_lit, nj_m1, ↓reduceIte, nj_cl, nj_ltt, nj_ltf, nj_let, nj_lef, nj_eqf, nj_lt, nj_le, nj_eq, nj_add, nj_mul, nj_modx, nj_and7, nj_div, tz_bI_some, tz_bV_some, or_false, false_or, or_self, and_false, false_and, and_true, true_and, not_true_eq_false, not_false_eq_true, nt_lef, nt_let, nt_ltf, nt_ltt, nt_eqf, nj_m2, nj_m3, nj_m4, nj_m5, nj_m6, nj_m7, tz_bL_some, nj_sub, ng_ltt, ng_let, ng_gtf, ng_gef]
  have c16 : Int32.toNatClampNeg (16 + tz_j s) = 16 + s := by simp (disch := omega) only [tz_lit, nj_m1, ↓reduceIte, nj_cl, nj_ltt, nj_ltf, nj_let, nj_lef, nj_eqf, nj_lt, nj_le, nj_eq, nj_add, nj_mul, nj_modx, nj_and7, nj_div, tz_bI_some, tz_bV_some, or_false, false_or, or_self, and_false, false_and, and_true, true_and, not_true_eq_false, not_false_eq_true, nt_lef, nt_let, nt_ltf, nt_ltt, nt_eqf, nj_m2, nj_m3, nj_m4, nj_m5, nj_m6, nj_m7, tz_bL_some, nj_sub, ng_ltt, ng_let, ng_gtf, ng_gef]
  have b7 : (A1.1 ≤ 157) = False := eq_false (by omega)
  have b8 : (A1.1 ≤ 158) = False := eq_false (by omega)
  have hN : N < 16777216 := Nat.lt_of_lt_of_le d.1 (pw_le hsz)
  have em : tz_gl A1 158 s &&& (((1 : Int64) <<< (Int32.toInt64 (4 * tz_j z) &&& 63)) - 1) = jl (N % 16 ^ z) := by
    rw [g1]
    exact jl_mask hN (by omega)
  have ea : tz_j s + 1 = tz_j (s + 1) := nj_add (b := 1)
  have ep : ((tz_j p + (10 * tz_j fo)) + (1000 * tz_j ro)) + (10000 * tz_j z) = tz_j (p + 10 * (fo + 100 * ro) + 10000 * z) := by
    show ((tz_j p + (tz_j 10 * tz_j fo)) + (tz_j 1000 * tz_j ro)) + (tz_j 10000 * tz_j z) = _
    rw [nj_mul, nj_mul, nj_mul, nj_add, nj_add, nj_add]
    congr 1
    omega
  have dz := dg_m d hz
  have f2 : hi_f A1 (tz_s (tz_s (tz_sl A1 158 s (jl (N % 16 ^ z))) 157 1 (tz_j (s + 1))) 157 (16 + s) (tz_j (p + 10 * (fo + 100 * ro) + 10000 * z))) := hi_tr hi_sl (hi_tr hi_s hi_s)
  refine ⟨_, tz_s (tz_s (tz_sl A1 158 s (jl (N % 16 ^ z))) 157 1 (tz_j (s + 1))) 157 (16 + s) (tz_j (p + 10 * (fo + 100 * ro) + 10000 * z)), ?_, CX_hi f2 w1 c1, w1, ?_, u5, ?_, ?_, ?_, ?_, fun l hl => by omega⟩
  · rw [e_L_world_402, show f_X11_storm 7 (tz_j z) (tz_j p) (tz_j fo) (tz_j ro) A = _ from e1, tz_bI_some]
    simp only [tz_gsl, q1, b7, b8, bs, b16, ↓reduceIte]
    simp only [cs, c16, em, ea, ep]
  · obtain ⟨⟨k1, k2, k3, k4, k5, k6, k7⟩, k8, k9⟩ := L1
    refine ⟨⟨k1, ?_, ?_, ?_, ?_, ?_, fun t ht => ?_⟩, k8, fun t a b => ?_⟩
    · rw [tz_gsi (by omega), tz_gsi (by omega)]
      exact k2
    · rw [tz_gsi (by omega), tz_gs1]
    · rw [tz_gsi (by omega), tz_gsi (by omega)]
      exact k4
    · rw [tz_gsi (by omega), tz_gsi (by omega)]
      exact k5
    · rw [tz_gsi (by omega), tz_gsi (by omega)]
      exact k6
    · by_cases y : t = s
      · subst y
        refine ⟨p, fo + 100 * ro, z, 0, hp.1, hp.2, by omega, hz2, by omega, by omega, tz_gs1, ?_, fun i hi => ⟨w i, ?_, ?_⟩⟩
        · rw [tz_gsi (by omega), tz_gsi (by omega)]
          exact k9 t (Nat.le_refl _) hs
        · exact Nat.lt_of_lt_of_le (hv i (by omega)).1 hn
        · show wv (tz_gl (tz_sl A1 158 t (jl (N % 16 ^ z))) 158 t) i = _
          rw [tz_glsl, if_pos ⟨rfl, rfl⟩]
          exact wv_dg dz (by omega) hi
      · refine LW_mv (k7 t (by omega)) ?_ ?_ ?_
        · rw [tz_gsi (by omega), tz_gsi (by omega)]
          rfl
        · rw [tz_gsi (by omega), tz_gsi (by omega)]
          rfl
        · show tz_gl (tz_sl A1 158 s (jl (N % 16 ^ z))) 158 t = _
          rw [tz_glsl, if_neg (fun q => y q.2)]
    · rw [tz_gsi (by omega), tz_gsi (by omega)]
      exact k9 t (by omega) b
  · rw [addT_g (by omega)]
    exact s1
  · rw [addT_7, s7]
  · rw [addT_g (by omega)]
    exact s15
  · rw [addT_g (by omega)]
    exact s03
theorem w_368 {z4 z5 z6 : Int32} {n s sz p fo ro : Nat} {w : Nat → Nat} {S K : tz_S} {U : tz_U} {V : tz_V} {A : tz_Mem} (hn : n ≤ 8) (hs : s < 4) (hsz : 2 ≤ sz ∧ sz ≤ 6) (hp : 1 ≤ p ∧ p ≤ 9) (hfo : 1 ≤ fo ∧ fo ≤ 99) (hro : 1 ≤ ro ∧ ro ≤ 9) (r : RI n s sz w S K U V A) : ∃ s' S' A', s' ≤ s + 1 ∧ q_L_world_368 z4 z5 z6 (tz_j sz) (tz_j p) (tz_j fo) (tz_j ro) A = q_L_world_468 z4 z5 z6 A' ∧ WI n n s' 0 S' K U V A' := by
  have L := r.1.2.2.1
  have hA := L.1.1
  have q1 : tz_g A 157 1 = tz_j s := L.1.2.2.1
  have ew : ∀ i, i < sz → f_L_way (tz_j s) (tz_j i) A = some (some (.int (tz_j (w i))), A) := fun i hi => by
    obtain ⟨N, d, g⟩ := r.2.2.2.1
    rw [l_way (by omega) hA, g, wv_dg d (by omega) hi]
  have h393 : ∀ z, z ≤ sz → w 0 ≠ w (z - 1) → ∃ s' S' A', s' ≤ s + 1 ∧ q_L_world_393 z4 z5 z6 (tz_j z) (tz_j p) (tz_j fo) (tz_j ro) A = q_L_world_468 z4 z5 z6 A' ∧ WI n n s' 0 S' K U V A' := fun z hz hd => by
    rw [e_L_world_393]
    by_cases y : 2 ≤ z
    · have y2 : (2 : Int32) ≤ tz_j z := by
        show tz_j 2 ≤ tz_j z
        rw [nj_le (by omega) (by omega)]
        exact y
      rw [if_pos y2]
      obtain ⟨S', A', e, wi⟩ := w_402 (z4 := z4) (z5 := z5) (z6 := z6) hn hs hsz.2 hz y hp hfo hro hd r
      exact ⟨s + 1, S', A', Nat.le_refl _, e, wi⟩
    · have y2 : ¬ (2 : Int32) ≤ tz_j z := by
        show ¬ tz_j 2 ≤ tz_j z
        rw [nj_le (by omega) (by omega)]
        exact y
      rw [if_neg y2]
      exact ⟨s, S, A, by omega, rfl, r.1⟩
  have ez : tz_j sz - 1 = tz_j (sz - 1) := nj_sub (b := 1) (by omega)
  have ez2 : tz_j sz + (-1) = tz_j (sz - 1) := nj_dec (by omega)
  have w0 := (r.2.2.2.2.1 0 (by omega)).1
  have w1 := (r.2.2.2.2.1 (sz - 1) (by omega)).1
  rw [e_L_world_368, if_neg (by omega), q1, ez, ew (sz - 1) (by omega), tz_bI_some, if_neg (by omega), q1, show f_L_way (tz_j s) 0 A = _ from ew 0 (by omega), tz_bI_some]
  by_cases y : tz_j (w (sz - 1)) = tz_j (w 0)
  · have y2 : w (sz - 1) = w 0 := nj_inj (by omega) (by omega) y
    rw [if_neg (fun q => q y), ez2]
    refine h393 (sz - 1) (by omega) ?_
    have := r.2.2.2.2.2 (sz - 1 - 1) (by omega)
    rw [Nat.sub_add_cancel (by omega), y2] at this
    exact this
  · rw [if_pos y]
    exact h393 sz (Nat.le_refl _) (fun q => y (by rw [q]))
theorem w_140 {z4 : Int32} {n st : Nat} (hn : n ≤ 8) (hst : st ≤ 4) : ∀ k t s S K U V A, t + k = st → s ≤ t → WI n n s 0 S K U V A → ∃ s' S' K' U' V' A', s' ≤ 4 ∧ q_L_world_140 z4 (tz_j st) (tz_j t) A = q_L_world_474 z4 A' ∧ WI n n s' 0 S' K' U' V' A' := by
  intro k
  induction k with
  | zero =>
    intro t s S K U V A ht hs w
    obtain rfl : t = st := by omega
    refine ⟨s, S, K, U, V, A, by omega, ?_, w⟩
    rw [e_L_world_140, if_pos (by rw [nj_le (by omega) (by omega)]; omega)]
  | succ k ih =>
    intro t s S K U V A ht hs w
    have L := w.2.2.1
    have hA := L.1.1
    have q0 : tz_g A 157 0 = tz_j n := L.1.2.1
    rw [e_L_world_140, if_neg (by rw [nj_le (by omega) (by omega)]; omega), if_neg (by omega), q0]
    by_cases z : n ≤ 1
    · have z2 : tz_j n ≤ 1 := by
        show tz_j n ≤ tz_j 1
        rw [nj_le (by omega) (by omega)]
        exact z
      rw [if_pos z2]
      exact ⟨s, S, K, U, V, A, by omega, rfl, w⟩
    · have z2 : ¬ tz_j n ≤ 1 := by
        show ¬ tz_j n ≤ tz_j 1
        rw [nj_le (by omega) (by omega)]
        exact z
      rw [if_neg z2]
      obtain ⟨c, ww, _, u5, s1, s7, s15, s03, s20⟩ := w
      obtain ⟨v, e1⟩ := l_at (k := 10 + t) L.2.1.1 (by omega)
      obtain ⟨a, ha, e2⟩ := l_some (m := 5) v A (by omega) (by omega)
      obtain ⟨A3, e3, c3, f3⟩ := c_row (s := 7) (t := 2) (n := 6) c (by omega) (by omega) (by omega)
      have w3 := wx_row (s := 7) (t := 2) (n := 6) ww (by omega) (by omega)
      have L3 := LMz_cf L (by omega) f3
      have hA3 := L3.1.1
      have q1 : tz_g A3 157 1 = tz_j s := L3.1.2.2.1
      have bs : (tz_j s < 0 ∨ 40 ≤ Int32.toNatClampNeg (tz_j s)) = False := by simp (disch := omega) only [tz_lit, nj_m1, ↓reduceIte, nj_cl, nj_ltt, nj_ltf, nj_let, nj_lef, nj_eqf, nj_lt, nj_le, nj_eq, nj_add, nj_mul, nj_modx, nj_and7, nj_div, tz_bI_some, tz_bV_some, or_false, false_or, or_self, and_false, false_and, and_true, true_and, not_true_eq_false, not_false_eq_true, nt_lef, nt_let, nt_ltf, nt_ltt, nt_eqf, nj_m2, nj_m3, nj_m4, nj_m5, nj_m6, nj_m7, tz_bL_some, nj_sub, ng_ltt, ng_let, ng_gtf, ng_gef]
      have cs : Int32.toNatClampNeg (tz_j s) = s := nj_cl (by omega)
      have b7 : (A3.1 ≤ 157) = False := eq_false (by omega)
      have b8 : (A3.1 ≤ 158) = False := eq_false (by omega)
      have r0 : RI n s 0 (fun _ => 0) S K (tz_u (tz_u U 0 7 (tz_j (100 + 2))) 1 7 (tz_j 6)) (fun s' i => if s' = 7 then 0 else V s' i) (tz_sl A3 158 s 0) := by
        refine ⟨⟨CX_hi hi_sl w3 c3, w3, LMz_sl L3 (by omega) (Nat.le_refl _), ?_, s1, s7, s15, s03, s20⟩, ?_, ?_, ⟨0, dg_0, ?_⟩, fun j hj => by omega, fun j hj => by omega⟩
        · rw [tz_uk (by omega), tz_ui (by omega)]
          exact u5
        · rw [tz_uk (by omega), tz_u1]
        · rw [tz_u1]
        · rw [tz_glsl, if_pos ⟨rfl, rfl⟩]
          rfl
      obtain ⟨w4, U4, V4, A4, e4, r4⟩ := w_194 (z4 := z4) (z5 := tz_j st) (z6 := tz_j t) (v := v) (sz := 2 + a) (by omega) hn (show s < 4 by omega) (by omega) (2 + a) 0 _ _ _ _ _ _ (Nat.zero_add _) r0
      obtain ⟨p, fo, ro, hp, hfo, hro, e5⟩ := w_283 (z4 := z4) (z5 := tz_j st) (z6 := tz_j t) (v := v) (z8 := tz_j (2 + a)) (A := A4)
      obtain ⟨s6, S6, A6, hs6, e6, w6⟩ := w_368 (z4 := z4) (z5 := tz_j st) (z6 := tz_j t) hn (show s < 4 by omega) (show 2 ≤ 2 + a ∧ 2 + a ≤ 6 by omega) hp hfo hro r4
      obtain ⟨s7', S7, K7, U7, V7, A7, hs7, e7, w7⟩ := ih (t + 1) s6 S6 K U4 V4 A6 (by omega) (by omega) w6
      refine ⟨s7', S7, K7, U7, V7, A7, hs7, ?_, w7⟩
      rw [show (10 : Int32) + tz_j t = tz_j (10 + t) from nj_add (a := 10), e1, tz_bI_some, show f_L_some v 5 A = _ from e2, tz_bI_some, show f_X11_row 7 2 6 A = _ from e3, tz_bI_some]
      simp only [q1, b7, b8, bs, ↓reduceIte]
      simp only [cs]
      rw [show (2 : Int32) + tz_j a = tz_j (2 + a) from nj_add (a := 2), show q_L_world_194 z4 (tz_j st) (tz_j t) v (tz_j (2 + a)) 0 (tz_sl A3 158 s 0) = _ from e4, e5, e6, e_L_world_468, show tz_j t + 1 = tz_j (t + 1) from nj_add (b := 1)]
      exact e7
