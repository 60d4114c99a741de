/-! the law's world: letters, hours, the fire -/
theorem w_let {n s m r wd f t g : Nat} {A : tz_Mem} (hs : s ≤ 4) (hm : m < 12) (L : LMz n s m r A) : ∃ A', f_L_letter (tz_j wd) (tz_j f) (tz_j t) (tz_j g) A = some (some (.int (tz_j m)), A') ∧ hi_f A A' ∧ LMz n s (m + 1) r A' := by
  have hA := L.1.1
  have q2 : tz_g A 157 2 = tz_j m := L.1.2.2.2.1
  have b24 : ((24 + tz_j m) < 0 ∨ 64 ≤ 24 + m) = False := by simp (disch := omega) only [tz_lit, nj_m1, ↓reduceIte, nj_cl, nj_ltt, nj_ltf, nj_let, nj_lef, nj_eqf, nj_lt, nj_le, nj_eq, nj_add, nj_mul, nj_modx, nj_and7, nj_div, tz_bI_some, tz_bV_some, or_false, false_or, or_self, and_false, false_and, and_true, true_and, not_true_eq_false, not_false_eq_true, nt_lef, nt_let, nt_ltf, nt_ltt, nt_eqf, nj_m2, nj_m3, nj_m4, nj_m5, nj_m6, nj_m7, tz_bL_some, nj_sub, ng_ltt, ng_let, ng_gtf, ng_gef]
  have b36 : ((36 + tz_j m) < 0 ∨ 64 ≤ 36 + m) = False := by simp (disch := omega) only [tz_lit, nj_m1, ↓reduceIte, nj_cl, nj_ltt, nj_ltf, nj_let, nj_lef, nj_eqf, nj_lt, nj_le, nj_eq, nj_add, nj_mul, nj_modx, nj_and7, nj_div, tz_bI_some, tz_bV_some, or_false, false_or, or_self, and_false, false_and, and_true, true_and, not_true_eq_false, not_false_eq_true, nt_lef, nt_let, nt_ltf, nt_ltt, nt_eqf, nj_m2, nj_m3, nj_m4, nj_m5, nj_m6, nj_m7, tz_bL_some, nj_sub, ng_ltt, ng_let, ng_gtf, ng_gef]
  have b48 : ((48 + tz_j m) < 0 ∨ 64 ≤ 48 + m) = False := by simp (disch := omega) only [tz_lit, nj_m1, ↓reduceIte, nj_cl, nj_ltt, nj_ltf, nj_let, nj_lef, nj_eqf, nj_lt, nj_le, nj_eq, nj_add, nj_mul, nj_modx, nj_and7, nj_div, tz_bI_some, tz_bV_some, or_false, false_or, or_self, and_false, false_and, and_true, true_and, not_true_eq_false, not_false_eq_true, nt_lef, nt_let, nt_ltf, nt_ltt, nt_eqf, nj_m2, nj_m3, nj_m4, nj_m5, nj_m6, nj_m7, tz_bL_some, nj_sub, ng_ltt, ng_let, ng_gtf, ng_gef]
  have b4 : ((4 + tz_j m) < 0 ∨ 40 ≤ 4 + m) = False := by simp (disch := omega) only [tz_lit, nj_m1, ↓reduceIte, nj_cl, nj_ltt, nj_ltf, nj_let, nj_lef, nj_eqf, nj_lt, nj_le, nj_eq, nj_add, nj_mul, nj_modx, nj_and7, nj_div, tz_bI_some, tz_bV_some, or_false, false_or, or_self, and_false, false_and, and_true, true_and, not_true_eq_false, not_false_eq_true, nt_lef, nt_let, nt_ltf, nt_ltt, nt_eqf, nj_m2, nj_m3, nj_m4, nj_m5, nj_m6, nj_m7, tz_bL_some, nj_sub, ng_ltt, ng_let, ng_gtf, ng_gef]
  have c24 : Int32.toNatClampNeg (24 + tz_j m) = 24 + m := by simp (disch := omega) only [tz_lit, nj_m1, ↓reduceIte, nj_cl, nj_ltt, nj_ltf, nj_let, nj_lef, nj_eqf, nj_lt, nj_le, nj_eq, nj_add, nj_mul, nj_modx, nj_and7, nj_div, tz_bI_some, tz_bV_some, or_false, false_or, or_self, and_false, false_and, and_true, true_and, not_true_eq_false, not_false_eq_true, nt_lef, nt_let, nt_ltf, nt_ltt, nt_eqf, nj_m2, nj_m3, nj_m4, nj_m5, nj_m6, nj_m7, tz_bL_some, nj_sub, ng_ltt, ng_let, ng_gtf, ng_gef]
  have c36 : Int32.toNatClampNeg (36 + tz_j m) = 36 + m := by simp (disch := omega) only [tz_lit, nj_m1, ↓reduceIte, nj_cl, nj_ltt, nj_ltf, nj_let, nj_lef, nj_eqf, nj_lt, nj_le, nj_eq, nj_add, nj_mul, nj_modx, nj_and7, nj_div, tz_bI_some, tz_bV_some, or_false, false_or, or_self, and_false, false_and, and_true, true_and, not_true_eq_false, not_false_eq_true, nt_lef, nt_let, nt_ltf, nt_ltt, nt_eqf, nj_m2, nj_m3, nj_m4, nj_m5, nj_m6, nj_m7, tz_bL_some, nj_sub, ng_ltt, ng_let, ng_gtf, ng_gef]
  have c48 : Int32.toNatClampNeg (48 + tz_j m) = 48 + m := by simp (disch := omega) only [tz_lit, nj_m1, ↓reduceIte, nj_cl, nj_ltt, nj_ltf, nj_let, nj_lef, nj_eqf, nj_lt, nj_le, nj_eq, nj_add, nj_mul, nj_modx, nj_and7, nj_div, tz_bI_some, tz_bV_some, or_false, false_or, or_self, and_false, false_and, and_true, true_and, not_true_eq_false, not_false_eq_true, nt_lef, nt_let, nt_ltf, nt_ltt, nt_eqf, nj_m2, nj_m3, nj_m4, nj_m5, nj_m6, nj_m7, tz_bL_some, nj_sub, ng_ltt, ng_let, ng_gtf, ng_gef]
  have c4 : Int32.toNatClampNeg (4 + tz_j m) = 4 + m := by simp (disch := omega) only [tz_lit, nj_m1, ↓reduceIte, nj_cl, nj_ltt, nj_ltf, nj_let, nj_lef, nj_eqf, nj_lt, nj_le, nj_eq, nj_add, nj_mul, nj_modx, nj_and7, nj_div, tz_bI_some, tz_bV_some, or_false, false_or, or_self, and_false, false_and, and_true, true_and, not_true_eq_false, not_false_eq_true, nt_lef, nt_let, nt_ltf, nt_ltt, nt_eqf, nj_m2, nj_m3, nj_m4, nj_m5, nj_m6, nj_m7, tz_bL_some, nj_sub, ng_ltt, ng_let, ng_gtf, ng_gef]
  have b7 : (A.1 ≤ 157) = False := eq_false (by omega)
  have b8 : (A.1 ≤ 158) = False := eq_false (by omega)
  have ea : tz_j m + 1 = tz_j (m + 1) := nj_add (b := 1)
  have hc : ∀ (v1 v2 v3 : Int32) (v4 : Int64), hi_f A (tz_s (tz_sl (tz_s (tz_s (tz_s A 157 (24 + m) v1) 157 (36 + m) v2) 157 (48 + m) v3) 158 (4 + m) v4) 157 2 (tz_j (m + 1))) ∧ LMz n s (m + 1) r (tz_s (tz_sl (tz_s (tz_s (tz_s A 157 (24 + m) v1) 157 (36 + m) v2) 157 (48 + m) v3) 158 (4 + m) v4) 157 2 (tz_j (m + 1))) := by
    intro v1 v2 v3 v4
    refine ⟨hi_tr hi_s (hi_tr hi_s (hi_tr hi_s (hi_tr hi_sl hi_s))), ?_⟩
    have L1 : LMz n s m r (tz_sl (tz_s (tz_s (tz_s A 157 (24 + m) v1) 157 (36 + m) v2) 157 (48 + m) v3) 158 (4 + m) v4) := LMz_sl (LMz_s (LMz_s (LMz_s L hs (by omega)) hs (by omega)) hs (by omega)) hs (by omega)
    generalize tz_sl (tz_s (tz_s (tz_s A 157 (24 + m) v1) 157 (36 + m) v2) 157 (48 + m) v3) 158 (4 + m) v4 = B at *
    obtain ⟨⟨k1, k2, k3, k4, k5, k6, k7⟩, k8, k9⟩ := L1
    refine ⟨⟨k1, ?_, ?_, tz_gs1, ?_, ?_, fun t ht => LW_mv (k7 t ht) (tz_gsi (by omega)) (tz_gsi (by omega)) rfl⟩, k8, fun t a b => ?_⟩
    · rw [tz_gsi (by omega)]
      exact k2
    · rw [tz_gsi (by omega)]
      exact k3
    · rw [tz_gsi (by omega)]
      exact k5
    · rw [tz_gsi (by omega)]
      exact k6
    · rw [tz_gsi (by omega)]
      exact k9 t a b
  refine ⟨_, ?_, (hc (tz_j wd + 10000 * tz_j g) (tz_j f) (-1) (Int32.toInt64 (tz_j f + 10 * tz_j t))).1, (hc (tz_j wd + 10000 * tz_j g) (tz_j f) (-1) (Int32.toInt64 (tz_j f + 10 * tz_j t))).2⟩
  rw [e_L_letter]
  simp (disch := omega) only [q2, tz_gsi, tz_gsl, c24, c36, c48, c4, b24, b36, b48, b4, b7, b8, ea, ↓reduceIte]
theorem w_489 {z4 : Int32} {n s ls : Nat} (hn : n ≤ 8) (hs : s ≤ 4) (hls : ls ≤ 12) : ∀ k l m S K U V A, l + k = ls → m ≤ l → WI n n s m S K U V A → ∃ m' S' K' U' V' A', m' ≤ 12 ∧ q_L_world_489 z4 (tz_j ls) (tz_j l) A = q_L_world_624 z4 A' ∧ WI n n s m' S' K' U' V' A' := by
  intro k
  induction k with
  | zero =>
    intro l m S K U V A hl hm w
    obtain rfl : l = ls := by omega
    refine ⟨m, S, K, U, V, A, by omega, ?_, w⟩
    rw [e_L_world_489, if_pos (by rw [nj_le (by omega) (by omega)]; omega)]
  | succ k ih =>
    intro l m S K U V A hl hm w
    have L := w.2.2.1
    have hA := L.1.1
    have q0 : tz_g A 157 0 = tz_j n := L.1.2.1
    have bA : (A.1 ≤ 157) = False := eq_false (by omega)
    rw [e_L_world_489, if_neg (by rw [nj_le (by omega) (by omega)]; omega), if_neg (by omega), q0]
    by_cases z : n ≤ 1
    · have z2 : tz_j n ≤ 1 := by
        show tz_j n ≤ tz_j 1
        rw [nj_le (by omega) (by omega)]
        exact z
      rw [if_pos z2]
      exact ⟨m, S, K, U, V, A, by omega, rfl, w⟩
    · have z2 : ¬ tz_j n ≤ 1 := by
        show ¬ tz_j n ≤ tz_j 1
        rw [nj_le (by omega) (by omega)]
        exact z
      obtain ⟨v, e1⟩ := l_at (k := 14 + l) L.2.1.1 (by omega)
      obtain ⟨a, ha, e2⟩ := l_some (m := n) v A (by omega) (by omega)
      obtain ⟨b, hb, e3⟩ := l_some (m := n - 1) (v >>> (4 &&& 31)) A (by omega) (by omega)
      have e4 := l_some0 (x := a + 1 + b) (m := n) A (by omega) (by omega) (by omega)
      obtain ⟨g, hg, e5⟩ := l_some (m := 99) (v >>> (8 &&& 31)) A (by omega) (by omega)
      have ht : (a + 1 + b) % n < n := Nat.mod_lt _ (by omega)
      have hne : a ≠ (a + 1 + b) % n := by
        by_cases y : a + 1 + b < n
        · rw [Nat.mod_eq_of_lt y]
          omega
        · rw [Nat.mod_eq_sub_mod (by omega), Nat.mod_eq_of_lt (by omega)]
          omega
      have done : ∀ wd, wd < 10000 → ∃ m' S' K' U' V' A', m' ≤ 12 ∧ q_L_world_591 z4 (tz_j ls) (tz_j l) (tz_j a) (tz_j ((a + 1 + b) % n)) (tz_j (1 + g)) (tz_j wd) A = q_L_world_624 z4 A' ∧ WI n n s m' S' K' U' V' A' := by
        intro wd hwd
        obtain ⟨c, ww, _, u5, s1, s7, s15, s03, s20⟩ := w
        obtain ⟨A1, f1, h1, L1⟩ := w_let (wd := wd) (f := a) (t := (a + 1 + b) % n) (g := 1 + g) hs (show m < 12 by omega) L
        obtain ⟨A2, f2, c2, g2⟩ := (c_letter (CX_hi h1 ww c) ww hwd (show a < S 1 0 by omega) (show (a + 1 + b) % n < S 1 0 by omega) hne (show 1 ≤ 1 + g by omega) (by omega)).1 (by omega)
        have w2 := wx_letter ww hwd (show a < S 1 0 by omega) (show (a + 1 + b) % n < S 1 0 by omega) (show 1 ≤ 1 + g by omega) (by omega) (show S 15 0 < 12 by omega)
        obtain ⟨m', S', K', U', V', A', hm', e, wf⟩ := ih (l + 1) (m + 1) _ K U V A2 (by omega) (by omega) ⟨c2, w2, LMz_cf L1 hs g2, u5, by rw [addL_g (by omega) (by omega) (by omega)]; exact s1, by rw [addL_g (by omega) (by omega) (by omega)]; exact s7, by rw [addL_15, s15], by rw [addL_g (by omega) (by omega) (by omega)]; exact s03, fun i hi => by
          by_cases y : i = m
          · rw [y, ← s15, addL_f (by omega) (by omega), fl_20]
            omega
          · rw [addL_g (by omega) (by omega) (by omega)]
            exact s20 i (by omega)⟩
        refine ⟨m', S', K', U', V', A', hm', ?_, wf⟩
        rw [e_L_world_591, f1, tz_bI_some, f2, tz_bI_some, show tz_j l + 1 = tz_j (l + 1) from nj_add (b := 1)]
        exact e
      rw [if_neg z2, show (14 : Int32) + tz_j l = tz_j (14 + l) from nj_add (a := 14), e1, tz_bI_some, if_neg (by omega), q0, e2, tz_bI_some, if_neg (by omega), q0, show tz_j n - 1 = tz_j (n - 1) from nj_sub (b := 1) (by omega), e3, tz_bI_some, if_neg (by omega), q0, show (tz_j a + 1) + tz_j b = tz_j (a + 1 + b) from by
        show (tz_j a + tz_j 1) + tz_j b = _
        rw [nj_add, nj_add], e4, tz_bI_some, show f_L_some (v >>> (8 &&& 31)) 99 A = _ from e5, tz_bI_some, show (1 : Int32) + tz_j g = tz_j (1 + g) from nj_add (a := 1)]
      split
      · obtain ⟨wd, hwd, e6⟩ := l_some (m := 10000) (v >>> (15 &&& 31)) A (by omega) (by omega)
        rw [show f_L_some (v >>> (15 &&& 31)) 10000 A = _ from e6, tz_bI_some]
        exact done wd hwd
      · obtain ⟨wd, hwd, e6⟩ := l_some (m := 40) (v >>> (15 &&& 31)) A (by omega) (by omega)
        rw [show f_L_some (v >>> (15 &&& 31)) 40 A = _ from e6, tz_bI_some]
        exact done wd (by omega)
/-- the world is made -/
def WD (S K : tz_S) (U : tz_U) (V : tz_V) (A : tz_Mem) : Prop := CX S K U V A ∧ WX 1000 S K U ∧ LM (S 1 0) (S 7 0) (S 15 0) (S 0 3) A ∧ (tz_gr A 0 0 ≤ 260 ∧ A.1 ≤ 159) ∧ U 0 5 = tz_j 4294967295 ∧ S 0 3 ≤ 19 ∧ sp_X S
theorem X_20 {l v : Nat} {S : tz_S} (X : sp_X S) (hv : 200 ≤ v) (h4 : S 7 0 ≤ 4) : sp_X (tz_t S 20 l v) := by
  refine X_mv X rfl rfl (fun _ => rfl) (fun _ => rfl) (fun _ => rfl) (fun t i hi ht q => ?_)
  by_cases z : i = l
  · rw [z, tz_t1] at q
    omega
  · rw [tz_ti z] at q
    exact q
theorem w_651 {z4 : Int32} {r : Nat} (hr : r < 20) : ∀ k i A S K U V, i + k = r → CX S K U V A → WX 1000 S K U → LM (S 1 0) (S 7 0) (S 15 0) i A → (tz_gr A 0 0 ≤ 260 ∧ A.1 ≤ 159) → U 0 5 = tz_j 4294967295 → S 0 3 = r → sp_X S → ∃ S' K' U' V' A', q_L_world_651 z4 (tz_j r) (tz_j i) A = some (none, A') ∧ WD S' K' U' V' A' := by
  intro k
  induction k with
  | zero =>
    intro i A S K U V hi c ww L hL u5 s03 X
    obtain rfl : i = r := by omega
    have h4 := ww.1.1.2.1
    have h12 := ww.1.1.2.2.1
    have hA := L.1
    have q2 : tz_g A 157 2 = tz_j (S 15 0) := L.2.2.2.1
    have stop : WD S K U V A := ⟨c, ww, by rw [s03]; exact L, hL, u5, by omega, X⟩
    rw [e_L_world_651, if_pos (by rw [nj_le (by omega) (by omega)]; omega)]
    split
    · exact ⟨S, K, U, V, A, rfl, stop⟩
    · rw [if_neg (by omega), q2]
      by_cases z : S 15 0 = 0
      · rw [if_pos (by rw [z]; decide)]
        exact ⟨S, K, U, V, A, rfl, stop⟩
      · have z2 : ¬ tz_j (S 15 0) ≤ 0 := by
          show ¬ tz_j (S 15 0) ≤ tz_j 0
          rw [nj_le (by omega) (by omega)]
          omega
        obtain ⟨l, hl, e1⟩ := l_some (m := S 15 0) (z4 >>> (22 &&& 31)) A (by omega) (by omega)
        rw [if_neg z2, e1, tz_bI_some]
        by_cases y : S 20 l < 200
        · obtain ⟨A1, e2, c2, f2⟩ := (c_burn c ww hl).1 y
          have w2 := wx_burn ww hl y
          have L2 := LM_cf L h4 f2
          have hA1 := L2.1
          have b36 : ((36 + tz_j l) < 0 ∨ 64 ≤ Int32.toNatClampNeg (36 + tz_j l)) = False := by simp (disch := omega) only [tz_lit, nj_m1, ↓reduceIte, nj_cl, nj_ltt, nj_ltf, nj_let, nj_lef, nj_eqf, nj_lt, nj_le, nj_eq, nj_add, nj_mul, nj_modx, nj_and7, nj_div, tz_bI_some, tz_bV_some, or_false, false_or, or_self, and_false, false_and, and_true, true_and, not_true_eq_false, not_false_eq_true, nt_lef, nt_let, nt_ltf, nt_ltt, nt_eqf, nj_m2, nj_m3, nj_m4, nj_m5, nj_m6, nj_m7, tz_bL_some, nj_sub, ng_ltt, ng_let, ng_gtf, ng_gef]
          have c36 : Int32.toNatClampNeg (36 + tz_j l) = 36 + l := by simp (disch := omega) only [tz_lit, nj_m1, ↓reduceIte, nj_cl, nj_ltt, nj_ltf, nj_let, nj_lef, nj_eqf, nj_lt, nj_le, nj_eq, nj_add, nj_mul, nj_modx, nj_and7, nj_div, tz_bI_some, tz_bV_some, or_false, false_or, or_self, and_false, false_and, and_true, true_and, not_true_eq_false, not_false_eq_true, nt_lef, nt_let, nt_ltf, nt_ltt, nt_eqf, nj_m2, nj_m3, nj_m4, nj_m5, nj_m6, nj_m7, tz_bL_some, nj_sub, ng_ltt, ng_let, ng_gtf, ng_gef]
          have b7 : (A1.1 ≤ 157) = False := eq_false (by omega)
          refine ⟨tz_t S 20 l 300, K, U, V, tz_s A1 157 (36 + l) 300, ?_, CX_hi hi_s w2 c2, w2, ?_, ?_, u5, by show S 0 3 ≤ 19; omega, X_20 X (by omega) h4⟩
          · rw [e2, tz_bI_some, if_neg (fun q => q rfl)]
            simp only [b7, b36, ↓reduceIte]
            rw [c36]
          · show LM (S 1 0) (S 7 0) (S 15 0) (S 0 3) _
            rw [s03]
            exact LM_cg L2 h4 rfl (fun j hj => tz_gsi (by omega)) (fun _ _ => rfl)
          · show tz_gr A1 0 0 ≤ 260 ∧ A1.1 ≤ 159
            rw [f2.2.2, f2.1]
            exact hL
        · obtain ⟨A1, e2, c2, f2⟩ := (c_burn c ww hl).2 y
          refine ⟨S, K, U, V, A1, ?_, c2, ww, by rw [s03]; exact LM_cf L h4 f2, by rw [f2.2.2, f2.1]; exact hL, u5, by omega, X⟩
          rw [e2, tz_bI_some, if_pos (by decide)]
  | succ k ih =>
    intro i A S K U V hi c ww L hL u5 s03 X
    have h4 := ww.1.1.2.1
    have h12 := ww.1.1.2.2.1
    obtain ⟨A1, e1, L1, f1⟩ := l_hour (n := S 1 0) h4 h12 (show i < 1000 by omega) L
    obtain ⟨S', K', U', V', A', e2, w2⟩ := ih (i + 1) A1 S K U V (by omega) (CX_lx f1 ww.2.1 ww.2.2.2.1 c) ww L1 (by
      show A1.2.2.2 0 0 ≤ 260 ∧ A1.1 ≤ 159
      rw [f1.2.1, f1.1]
      exact hL) u5 s03 X
    refine ⟨S', K', U', V', A', ?_, w2⟩
    rw [e_L_world_651, if_neg (by rw [nj_le (by omega) (by omega)]; omega), e1, tz_bV_some, show tz_j i + 1 = tz_j (i + 1) from nj_add (b := 1)]
    exact e2
theorem w_624 {z4 : Int32} {n s m : Nat} {S K : tz_S} {U : tz_U} {V : tz_V} {A : tz_Mem} (w : WI n n s m S K U V A) : ∃ S' K' U' V' A', q_L_world_624 z4 A = some (none, A') ∧ WD S' K' U' V' A' := by
  obtain ⟨c, ww, L, u5, s1, s7, s15, s03, s20⟩ := w
  have h4 := ww.1.1.2.1
  have h12 := ww.1.1.2.2.1
  have X : sp_X S := fun t ht => ⟨by
    rw [s15, cw_0 m (fun l hl => by have := s20 l hl; omega)]
    exact Nat.zero_le _, fun l hl q => by
    have := s20 l (by omega)
    omega⟩
  have LA : LM (S 1 0) (S 7 0) (S 15 0) 0 A := by rw [s1, s7, s15]; exact L.1
  obtain ⟨r, hr, e1⟩ := l_some (m := 20) (z4 >>> (12 &&& 31)) A (by omega) (by omega)
  rw [e_L_world_624, show f_L_some (z4 >>> (12 &&& 31)) 20 A = _ from e1, tz_bI_some]
  by_cases z : r = 0
  · subst z
    rw [if_pos (by decide), e_L_world_648]
    exact w_651 (by omega) 0 0 A S K U V rfl c ww LA L.2.1 u5 s03 X
  · have z2 : ¬ tz_j r ≤ 0 := by
      show ¬ tz_j r ≤ tz_j 0
      rw [nj_le (by omega) (by omega)]
      omega
    obtain ⟨A1, e2, c2, f2⟩ := c_hours c ww (by omega) (show 1 ≤ r by omega) (by omega)
    have w2 := wx_hours (n := r) ww
    obtain ⟨G, G3, Gk⟩ := n_G r S ww.1
    have w3 : WX 1000 (sp_n r S) K U := wx_to w2 (by omega) ww.2.2.1.2.2.2.1
    rw [if_neg z2, e2, tz_bI_some, e_L_world_648]
    refine w_651 hr r 0 A1 (sp_n r S) K U V (Nat.zero_add _) c2 w3 ?_ (by rw [f2.2.2, f2.1]; exact L.2.1) u5 (by omega) (n_X r 1000 S ww.1 X)
    rw [Gk 1 0 (by unfold sp_kp; omega) (by omega), Gk 7 0 (by unfold sp_kp; omega) (by omega), Gk 15 0 (by unfold sp_kp; omega) (by omega)]
    exact LM_cf LA h4 f2
/-- from the fresh object on -/
theorem w_world {S K : tz_S} {U : tz_U} {V : tz_V} {A : tz_Mem} (c : CX S K U V A) (ww : WX 1000 S K U) (s1 : S 1 0 = 0) (s7 : S 7 0 = 0) (s15 : S 15 0 = 0) (s03 : S 0 3 = 0) (u5 : U 0 5 = tz_j 4294967295) (hA : ¬ A.1 ≤ 158) (hA2 : A.1 ≤ 159) (hL : tz_gr A 0 0 ≤ 260) (hz : ∀ i, i < 64 → tz_g A 157 i = tz_j 0) : ∃ S' K' U' V' A', f_L_world A = some (none, A') ∧ WD S' K' U' V' A' := by
  obtain ⟨x, e1⟩ := l_at (k := 0) hL (by omega)
  obtain ⟨n, hn, e2⟩ := l_some (m := 9) x A (by omega) (by omega)
  obtain ⟨y, e3⟩ := l_at (A := tz_s (tz_s A 157 0 (tz_j n)) 157 4 20) (k := 1) hL (by omega)
  have h1 : hi_f A (tz_s (tz_s (tz_s (tz_s (tz_s A 157 0 (tz_j n)) 157 4 20) 157 5 y) 157 60 (-1)) 157 62 (-1)) := hi_tr hi_s (hi_tr hi_s (hi_tr hi_s (hi_tr hi_s hi_s)))
  have L1 : LMz n 0 0 0 (tz_s (tz_s (tz_s (tz_s (tz_s A 157 0 (tz_j n)) 157 4 20) 157 5 y) 157 60 (-1)) 157 62 (-1)) := by
    have L0 : LMz n 0 0 0 (tz_s A 157 0 (tz_j n)) := ⟨⟨hA, tz_gs1, by rw [tz_gsi (by omega)]; exact hz 1 (by omega), by rw [tz_gsi (by omega)]; exact hz 2 (by omega), by rw [tz_gsi (by omega)]; exact hz 3 (by omega), by rw [tz_gsi (by omega)]; exact hz 7 (by omega), fun t ht => absurd ht (Nat.not_lt_zero t)⟩, ⟨hL, hA2⟩, fun t _ ht => by rw [tz_gsi (by omega)]; exact hz (20 + t) (by omega)⟩
    exact LMz_s (LMz_s (LMz_s (LMz_s L0 (by omega) (by omega)) (by omega) (by omega)) (by omega) (by omega)) (by omega) (by omega)
  obtain ⟨v, hv, _, ⟨A2, e4, c2, f2⟩, w2⟩ := c_seed (x := tz_g (tz_s (tz_s (tz_s (tz_s (tz_s A 157 0 (tz_j n)) 157 4 20) 157 5 y) 157 60 (-1)) 157 62 (-1)) 157 5) (CX_hi h1 ww c) ww
  have W0 : WI 0 n 0 0 (tz_t S 0 5 v) K U V A2 := ⟨c2, w2, LMz_cf L1 (by omega) f2, u5, s1, s7, s15, s03, fun l hl => absurd hl (Nat.not_lt_zero l)⟩
  obtain ⟨S3, K3, U3, V3, A3, e5, W3⟩ := w_51 (z4 := x) (n := n) (by omega) n 0 _ _ _ _ _ (Nat.zero_add _) W0
  obtain ⟨st, hst, e6⟩ := l_some (m := 5) (x >>> (4 &&& 31)) A3 (by omega) (by omega)
  obtain ⟨s4, S4, K4, U4, V4, A4, hs4, e7, W4⟩ := w_140 (z4 := x) (n := n) (st := st) (by omega) (by omega) st 0 0 _ _ _ _ _ (Nat.zero_add _) (Nat.le_refl _) W3
  obtain ⟨ls, hls, e8⟩ := l_some (m := 13) (x >>> (8 &&& 31)) A4 (by omega) (by omega)
  obtain ⟨m5, S5, K5, U5, V5, A5, hm5, e9, W5⟩ := w_489 (z4 := x) (n := n) (ls := ls) (by omega) hs4 (by omega) ls 0 0 _ _ _ _ _ (Nat.zero_add _) (Nat.le_refl _) W4
  obtain ⟨S6, K6, U6, V6, A6, e10, W6⟩ := w_624 (z4 := x) W5
  refine ⟨S6, K6, U6, V6, A6, ?_, W6⟩
  rw [e_L_world, show f_L_at 0 A = _ from e1, tz_bI_some, show f_L_some x 9 A = _ from e2, tz_bI_some, if_neg (by omega), show f_L_at 1 _ = _ from e3, tz_bI_some, if_neg (show ¬ (tz_s (tz_s A 157 0 (tz_j n)) 157 4 20).1 ≤ 157 from (by show ¬ A.1 ≤ 157; omega)), e4, tz_bI_some, show q_L_world_51 x 0 A2 = _ from e5, e_L_world_127, show f_L_some (x >>> (4 &&& 31)) 5 A3 = _ from e6, tz_bI_some, show q_L_world_140 x (tz_j st) 0 A3 = _ from e7, e_L_world_474, show f_L_some (x >>> (8 &&& 31)) 13 A4 = _ from e8, tz_bI_some, show q_L_world_489 x (tz_j ls) 0 A4 = _ from e9]
  exact e10
