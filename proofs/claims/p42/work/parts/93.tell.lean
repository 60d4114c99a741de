/-! what is asked, each answer as a number of the sky -/
def st_v (S : tz_S) (u : Nat) : Nat := if u = 0 then S 1 0 else if u = 1 then S 7 0 else if u = 2 then S 15 0 else if u = 3 then sp_cw 200 (S 15 0) S else if u = 4 then sp_cw 300 (S 15 0) S else if u = 5 then S 0 3 else if u = 6 then S 0 4 else if u = 7 then S 0 5 else S 0 0
theorem c_status {N u : Nat} {S K : tz_S} {U : tz_U} {V : tz_V} {A : tz_Mem} (c : CX S K U V A) (ww : WX N S K U) (hN : N ≤ 1000000) (hu : u < 9) : CO S K U V (tz_j (st_v S u)) (f_X11_status (tz_j u) A) A := by
  have W := ww.1.1
  have W2 := ww.1.2.1
  have h8 := W.1
  have h4 := W.2.1
  have h12 := W.2.2.1
  have cc := c.1.1
  have hH := ww.1.2.2.2
  have q3 : tz_g A 30 3 = tz_j (S 0 3) := cx_0_3 cc
  have q4 : tz_g A 30 4 = tz_j (S 0 4) := cx_0_4 cc
  have q5 : tz_g A 30 5 = tz_j (S 0 5) := cx_0_5 cc
  refine co_pure c ?_
  rw [e_X11_status]
  rcases (show u = 0 ∨ u = 1 ∨ u = 2 ∨ u = 3 ∨ u = 4 ∨ u = 5 ∨ u = 6 ∨ u = 7 ∨ u = 8 by omega) with rfl | rfl | rfl | rfl | rfl | rfl | rfl | rfl | rfl
  · show _ = (some (some (Value.int (tz_j (S 1 0))), A) : tz_X)
    simp (disch := omega) only [tz_lit, nj_m1, ↓reduceIte, nj_cl, nj_ltt, nj_ltf, nj_let, nj_lef, nj_eqf, nj_lt, nj_le, nj_eq, nj_add, nj_mul, nj_modx, nj_and7, nj_div, tz_bI_some, tz_bV_some, or_false, false_or, or_self, and_false, false_and, and_true, true_and, not_true_eq_false, not_false_eq_true, nt_lef, nt_let, nt_ltf, nt_ltt, nt_eqf, nj_m2, nj_m3, nj_m4, nj_m5, nj_m6, nj_m7, tz_bL_some, nj_sub, ng_ltt, ng_let, ng_gtf, ng_gef, cz_1 cc]
  · show _ = (some (some (Value.int (tz_j (S 7 0))), A) : tz_X)
    simp (disch := omega) only [tz_lit, nj_m1, ↓reduceIte, nj_cl, nj_ltt, nj_ltf, nj_let, nj_lef, nj_eqf, nj_lt, nj_le, nj_eq, nj_add, nj_mul, nj_modx, nj_and7, nj_div, tz_bI_some, tz_bV_some, or_false, false_or, or_self, and_false, false_and, and_true, true_and, not_true_eq_false, not_false_eq_true, nt_lef, nt_let, nt_ltf, nt_ltt, nt_eqf, nj_m2, nj_m3, nj_m4, nj_m5, nj_m6, nj_m7, tz_bL_some, nj_sub, ng_ltt, ng_let, ng_gtf, ng_gef, cz_7 cc]
  · show _ = (some (some (Value.int (tz_j (S 15 0))), A) : tz_X)
    simp (disch := omega) only [tz_lit, nj_m1, ↓reduceIte, nj_cl, nj_ltt, nj_ltf, nj_let, nj_lef, nj_eqf, nj_lt, nj_le, nj_eq, nj_add, nj_mul, nj_modx, nj_and7, nj_div, tz_bI_some, tz_bV_some, or_false, false_or, or_self, and_false, false_and, and_true, true_and, not_true_eq_false, not_false_eq_true, nt_lef, nt_let, nt_ltf, nt_ltt, nt_eqf, nj_m2, nj_m3, nj_m4, nj_m5, nj_m6, nj_m7, tz_bL_some, nj_sub, ng_ltt, ng_let, ng_gtf, ng_gef, cz_15 cc]
  · show _ = (some (some (Value.int (tz_j (sp_cw 200 (S 15 0) S))), A) : tz_X)
    simp (disch := omega) only [tz_lit, nj_m1, ↓reduceIte, nj_cl, nj_ltt, nj_ltf, nj_let, nj_lef, nj_eqf, nj_lt, nj_le, nj_eq, nj_add, nj_mul, nj_modx, nj_and7, nj_div, tz_bI_some, tz_bV_some, or_false, false_or, or_self, and_false, false_and, and_true, true_and, not_true_eq_false, not_false_eq_true, nt_lef, nt_let, nt_ltf, nt_ltt, nt_eqf, nj_m2, nj_m3, nj_m4, nj_m5, nj_m6, nj_m7, tz_bL_some, nj_sub, ng_ltt, ng_let, ng_gtf, ng_gef, x_cw (b := 30) (p := 200) h30 cc W W2 (show 200 < 1000 by omega)]
  · show _ = (some (some (Value.int (tz_j (sp_cw 300 (S 15 0) S))), A) : tz_X)
    simp (disch := omega) only [tz_lit, nj_m1, ↓reduceIte, nj_cl, nj_ltt, nj_ltf, nj_let, nj_lef, nj_eqf, nj_lt, nj_le, nj_eq, nj_add, nj_mul, nj_modx, nj_and7, nj_div, tz_bI_some, tz_bV_some, or_false, false_or, or_self, and_false, false_and, and_true, true_and, not_true_eq_false, not_false_eq_true, nt_lef, nt_let, nt_ltf, nt_ltt, nt_eqf, nj_m2, nj_m3, nj_m4, nj_m5, nj_m6, nj_m7, tz_bL_some, nj_sub, ng_ltt, ng_let, ng_gtf, ng_gef, x_cw (b := 30) (p := 300) h30 cc W W2 (show 300 < 1000 by omega)]
  · show _ = (some (some (Value.int (tz_j (S 0 3))), A) : tz_X)
    simp (disch := omega) only [tz_lit, nj_m1, ↓reduceIte, nj_cl, nj_ltt, nj_ltf, nj_let, nj_lef, nj_eqf, nj_lt, nj_le, nj_eq, nj_add, nj_mul, nj_modx, nj_and7, nj_div, tz_bI_some, tz_bV_some, or_false, false_or, or_self, and_false, false_and, and_true, true_and, not_true_eq_false, not_false_eq_true, nt_lef, nt_let, nt_ltf, nt_ltt, nt_eqf, nj_m2, nj_m3, nj_m4, nj_m5, nj_m6, nj_m7, tz_bL_some, nj_sub, ng_ltt, ng_let, ng_gtf, ng_gef, q3]
  · show _ = (some (some (Value.int (tz_j (S 0 4))), A) : tz_X)
    simp (disch := omega) only [tz_lit, nj_m1, ↓reduceIte, nj_cl, nj_ltt, nj_ltf, nj_let, nj_lef, nj_eqf, nj_lt, nj_le, nj_eq, nj_add, nj_mul, nj_modx, nj_and7, nj_div, tz_bI_some, tz_bV_some, or_false, false_or, or_self, and_false, false_and, and_true, true_and, not_true_eq_false, not_false_eq_true, nt_lef, nt_let, nt_ltf, nt_ltt, nt_eqf, nj_m2, nj_m3, nj_m4, nj_m5, nj_m6, nj_m7, tz_bL_some, nj_sub, ng_ltt, ng_let, ng_gtf, ng_gef, q4]
  · show _ = (some (some (Value.int (tz_j (S 0 5))), A) : tz_X)
    simp (disch := omega) only [tz_lit, nj_m1, ↓reduceIte, nj_cl, nj_ltt, nj_ltf, nj_let, nj_lef, nj_eqf, nj_lt, nj_le, nj_eq, nj_add, nj_mul, nj_modx, nj_and7, nj_div, tz_bI_some, tz_bV_some, or_false, false_or, or_self, and_false, false_and, and_true, true_and, not_true_eq_false, not_false_eq_true, nt_lef, nt_let, nt_ltf, nt_ltt, nt_eqf, nj_m2, nj_m3, nj_m4, nj_m5, nj_m6, nj_m7, tz_bL_some, nj_sub, ng_ltt, ng_let, ng_gtf, ng_gef, q5]
  · show _ = (some (some (Value.int (tz_j (S 0 0))), A) : tz_X)
    simp (disch := omega) only [tz_lit, nj_m1, ↓reduceIte, nj_cl, nj_ltt, nj_ltf, nj_let, nj_lef, nj_eqf, nj_lt, nj_le, nj_eq, nj_add, nj_mul, nj_modx, nj_and7, nj_div, tz_bI_some, tz_bV_some, or_false, false_or, or_self, and_false, false_and, and_true, true_and, not_true_eq_false, not_false_eq_true, nt_lef, nt_let, nt_ltf, nt_ltt, nt_eqf, nj_m2, nj_m3, nj_m4, nj_m5, nj_m6, nj_m7, tz_bL_some, nj_sub, ng_ltt, ng_let, ng_gtf, ng_gef, x_ever (b := 30) h30 cc W W2 (show S 0 0 < 2147483648 by omega)]
/-- hills -/
def hl_P (S : tz_S) (h u : Nat) (v : Int32) : Prop := (u = 0 → v = tz_j (S 2 h)) ∧ (u = 1 → v = tz_j (S 3 h)) ∧ (u = 2 → bt_is v (fun l => decide (l < S 15 0 ∧ S 20 l = h))) ∧ (u = 3 → bt_is v (fun m => decide (m < S 7 0 ∧ sp_at S m = h)))
theorem hl_u {S : tz_S} {h u : Nat} {v w : Int32} (hu : u < 4) (p : hl_P S h u v) (q : hl_P S h u w) : v = w := by
  rcases (show u = 0 ∨ u = 1 ∨ u = 2 ∨ u = 3 by omega) with z | z | z | z
  · rw [p.1 z, q.1 z]
  · rw [p.2.1 z, q.2.1 z]
  · exact bt_ext (p.2.2.1 z) (q.2.2.1 z)
  · exact bt_ext (p.2.2.2 z) (q.2.2.2 z)
theorem c_hillOf {N h u : Nat} {S K : tz_S} {U : tz_U} {V : tz_V} {A : tz_Mem} (c : CX S K U V A) (ww : WX N S K U) (hh : h < S 1 0) (hu : u < 4) : ∃ v, hl_P S h u v ∧ CO S K U V v (f_X11_hillOf (tz_j h) (tz_j u) A) A := by
  have W := ww.1.1
  have W2 := ww.1.2.1
  have h8 := W.1
  have cc := c.1.1
  have e1 := x_hash1 h30 cc hh (by omega)
  rcases (show u = 0 ∨ u = 1 ∨ u = 2 ∨ u = 3 by omega) with rfl | rfl | rfl | rfl
  · refine ⟨tz_j (S 2 h), ⟨fun _ => rfl, fun q => by omega, fun q => by omega, fun q => by omega⟩, co_pure c ?_⟩
    rw [e_X11_hillOf]
    simp (disch := omega) only [tz_lit, nj_m1, ↓reduceIte, nj_cl, nj_ltt, nj_ltf, nj_let, nj_lef, nj_eqf, nj_lt, nj_le, nj_eq, nj_add, nj_mul, nj_modx, nj_and7, nj_div, tz_bI_some, tz_bV_some, or_false, false_or, or_self, and_false, false_and, and_true, true_and, not_true_eq_false, not_false_eq_true, nt_lef, nt_let, nt_ltf, nt_ltt, nt_eqf, nj_m2, nj_m3, nj_m4, nj_m5, nj_m6, nj_m7, tz_bL_some, nj_sub, ng_ltt, ng_let, ng_gtf, ng_gef, e1, cz_2 cc]
  · refine ⟨tz_j (S 3 h), ⟨fun q => by omega, fun _ => rfl, fun q => by omega, fun q => by omega⟩, co_pure c ?_⟩
    rw [e_X11_hillOf]
    simp (disch := omega) only [tz_lit, nj_m1, ↓reduceIte, nj_cl, nj_ltt, nj_ltf, nj_let, nj_lef, nj_eqf, nj_lt, nj_le, nj_eq, nj_add, nj_mul, nj_modx, nj_and7, nj_div, tz_bI_some, tz_bV_some, or_false, false_or, or_self, and_false, false_and, and_true, true_and, not_true_eq_false, not_false_eq_true, nt_lef, nt_let, nt_ltf, nt_ltt, nt_eqf, nj_m2, nj_m3, nj_m4, nj_m5, nj_m6, nj_m7, tz_bL_some, nj_sub, ng_ltt, ng_let, ng_gtf, ng_gef, e1, cz_3 cc]
  · refine ⟨tz_g A 34 h, ⟨fun q => by omega, fun q => by omega, fun _ => c.1.2.1 h hh, fun q => by omega⟩, co_pure c ?_⟩
    rw [e_X11_hillOf]
    simp (disch := omega) only [tz_lit, nj_m1, ↓reduceIte, nj_cl, nj_ltt, nj_ltf, nj_let, nj_lef, nj_eqf, nj_lt, nj_le, nj_eq, nj_add, nj_mul, nj_modx, nj_and7, nj_div, tz_bI_some, tz_bV_some, or_false, false_or, or_self, and_false, false_and, and_true, true_and, not_true_eq_false, not_false_eq_true, nt_lef, nt_let, nt_ltf, nt_ltt, nt_eqf, nj_m2, nj_m3, nj_m4, nj_m5, nj_m6, nj_m7, tz_bL_some, nj_sub, ng_ltt, ng_let, ng_gtf, ng_gef, e1]
  · obtain ⟨y, e3, hy⟩ := x_allAtL (b := 30) h30 cc W W2 (show h < 8 by omega) (S 7 0) 0 (tz_j 0) (Nat.zero_add _) (bt_congr bj_zero (fun m _ => by simp))
    refine ⟨y, ⟨fun q => by omega, fun q => by omega, fun q => by omega, fun _ => hy⟩, co_pure c ?_⟩
    rw [e_X11_hillOf]
    simp (disch := omega) only [tz_lit, nj_m1, ↓reduceIte, nj_cl, nj_ltt, nj_ltf, nj_let, nj_lef, nj_eqf, nj_lt, nj_le, nj_eq, nj_add, nj_mul, nj_modx, nj_and7, nj_div, tz_bI_some, tz_bV_some, or_false, false_or, or_self, and_false, false_and, and_true, true_and, not_true_eq_false, not_false_eq_true, nt_lef, nt_let, nt_ltf, nt_ltt, nt_eqf, nj_m2, nj_m3, nj_m4, nj_m5, nj_m6, nj_m7, tz_bL_some, nj_sub, ng_ltt, ng_let, ng_gtf, ng_gef, e1, e_X10_allAt _ _ h30, e3]
theorem c_heardn {N h : Nat} {S K : tz_S} {U : tz_U} {V : tz_V} {A : tz_Mem} (c : CX S K U V A) (ww : WX N S K U) (hN : N ≤ 1000000) (hh : h < S 1 0) : CO S K U V (tz_j (sp_kept S h)) (f_X11_heard (tz_j h) (tz_j 4294967295) A) A := by
  have W := ww.1.1
  have W2 := ww.1.2.1
  have h8 := W.1
  have cc := c.1.1
  have e1 := x_hash1 h30 cc hh (by omega)
  have hev := W2.2.2.1 h hh
  have hH := ww.1.2.2.2
  have hk8 : sp_kept S h ≤ 8 ∧ sp_kept S h ≤ S 5 h := by unfold sp_kept; split <;> omega
  have ek : (if 8 < S 5 h then tz_j 8 else tz_j (S 5 h)) = tz_j (sp_kept S h) := by
    unfold sp_kept
    by_cases z : S 5 h < 8
    · rw [if_pos z, if_neg (by omega)]
    · rw [if_neg z]
      split
      · rfl
      · rw [show S 5 h = 8 by omega]
  refine co_pure c ?_
  rw [e_X11_heard]
  simp (disch := omega) only [tz_lit, nj_m1, ↓reduceIte, nj_cl, nj_ltt, nj_ltf, nj_let, nj_lef, nj_eqf, nj_lt, nj_le, nj_eq, nj_add, nj_mul, nj_modx, nj_and7, nj_div, tz_bI_some, tz_bV_some, or_false, false_or, or_self, and_false, false_and, and_true, true_and, not_true_eq_false, not_false_eq_true, nt_lef, nt_let, nt_ltf, nt_ltt, nt_eqf, nj_m2, nj_m3, nj_m4, nj_m5, nj_m6, nj_m7, tz_bL_some, nj_sub, ng_ltt, ng_let, ng_gtf, ng_gef, e1, e_X3_countKept _ _ h30, cx_5 cc, ek]
theorem c_heardi {N h i : Nat} {S K : tz_S} {U : tz_U} {V : tz_V} {A : tz_Mem} (c : CX S K U V A) (ww : WX N S K U) (hN : N ≤ 1000000) (hh : h < S 1 0) (hi : i < sp_kept S h) : CO S K U V (tz_j (S (100 + h) (S 5 h - sp_kept S h + i))) (f_X11_heard (tz_j h) (tz_j i) A) A := by
  have W := ww.1.1
  have W2 := ww.1.2.1
  have h8 := W.1
  have cc := c.1.1
  have e1 := x_hash1 h30 cc hh (by omega)
  have hev := W2.2.2.1 h hh
  have hH := ww.1.2.2.2
  have hk8 : sp_kept S h ≤ 8 ∧ sp_kept S h ≤ S 5 h := by unfold sp_kept; split <;> omega
  have ek : (if 8 < S 5 h then tz_j 8 else tz_j (S 5 h)) = tz_j (sp_kept S h) := by
    unfold sp_kept
    by_cases z : S 5 h < 8
    · rw [if_pos z, if_neg (by omega)]
    · rw [if_neg z]
      split
      · rfl
      · rw [show S 5 h = 8 by omega]
  have z : ¬ tz_j i = tz_j 4294967295 := by rw [nj_eq (by omega) (by omega)]; omega
  have hw := c.1.2.2.2.1 h hh (S 5 h - sp_kept S h + i) (by omega) (by unfold sp_kept at hi ⊢; split <;> omega)
  have em : (S 5 h - sp_kept S h + i) % 8 < 8 := Nat.mod_lt _ (by omega)
  refine co_pure c ?_
  rw [e_X11_heard]
  simp (disch := omega) only [tz_lit, nj_m1, ↓reduceIte, nj_cl, nj_ltt, nj_ltf, nj_let, nj_lef, nj_eqf, nj_lt, nj_le, nj_eq, nj_add, nj_mul, nj_modx, nj_and7, nj_div, tz_bI_some, tz_bV_some, or_false, false_or, or_self, and_false, false_and, and_true, true_and, not_true_eq_false, not_false_eq_true, nt_lef, nt_let, nt_ltf, nt_ltt, nt_eqf, nj_m2, nj_m3, nj_m4, nj_m5, nj_m6, nj_m7, tz_bL_some, nj_sub, ng_ltt, ng_let, ng_gtf, ng_gef, e1, z, e_X3_keptWord _ _ _ h30, e_X3_countKept _ _ h30, cx_5 cc, ek, hw]
theorem c_reach {N h v : Nat} {S K : tz_S} {U : tz_U} {V : tz_V} {A : tz_Mem} (c : CX S K U V A) (ww : WX N S K U) (hh : h < S 1 0) (h1 : 1 ≤ v) (hv : v ≤ 99) : ∃ y, rc_P S v h (S 1 0) y ∧ CO S K U V y (f_X11_reach (tz_j h) (tz_j v) A) A := by
  have W := ww.1.1
  have h8 := W.1
  have cc := c.1.1
  have p0 := rc_P0 (v := v) W hh
  obtain ⟨y, e, p⟩ := x_rcR cc W hv hh (S 1 0) 0 _ (Nat.zero_add _) p0
  have a1 := x_hash1 h30 cc hh (by omega)
  refine ⟨y, p, co_pure c ?_⟩
  rw [e_X11_reach]
  simp (disch := omega) only [tz_lit, nj_m1, ↓reduceIte, nj_cl, nj_ltt, nj_ltf, nj_let, nj_lef, nj_eqf, nj_lt, nj_le, nj_eq, nj_add, nj_mul, nj_modx, nj_and7, nj_div, tz_bI_some, tz_bV_some, or_false, false_or, or_self, and_false, false_and, and_true, true_and, not_true_eq_false, not_false_eq_true, nt_lef, nt_let, nt_ltf, nt_ltt, nt_eqf, nj_m2, nj_m3, nj_m4, nj_m5, nj_m6, nj_m7, tz_bL_some, nj_sub, ng_ltt, ng_let, ng_gtf, ng_gef, a1]
  exact e
/-- storms -/
def sm_P (S : tz_S) (t u : Nat) (v : Int32) : Prop := (u = 0 → v = tz_j (sp_at S t)) ∧ (u = 1 → v = tz_j (S 8 t)) ∧ (u = 2 → v = tz_j (S 9 t)) ∧ (u = 3 → v = tz_j (S 10 t)) ∧ (u = 4 → bt_is v (fun l => decide (l < S 15 0 ∧ S 20 l = 100 + t)))
theorem sm_u {S : tz_S} {t u : Nat} {v w : Int32} (hu : u < 5) (p : sm_P S t u v) (q : sm_P S t u w) : v = w := by
  rcases (show u = 0 ∨ u = 1 ∨ u = 2 ∨ u = 3 ∨ u = 4 by omega) with z | z | z | z | z
  · rw [p.1 z, q.1 z]
  · rw [p.2.1 z, q.2.1 z]
  · rw [p.2.2.1 z, q.2.2.1 z]
  · rw [p.2.2.2.1 z, q.2.2.2.1 z]
  · exact bt_ext (p.2.2.2.2 z) (q.2.2.2.2 z)
theorem c_stormOf {N t u : Nat} {S K : tz_S} {U : tz_U} {V : tz_V} {A : tz_Mem} (c : CX S K U V A) (ww : WX N S K U) (ht : t < S 7 0) (hu : u < 5) : ∃ v, sm_P S t u v ∧ CO S K U V v (f_X11_stormOf (tz_j t) (tz_j u) A) A := by
  have W := ww.1.1
  have W2 := ww.1.2.1
  have h4 := W.2.1
  have cc := c.1.1
  have e1 := x_hast1 h30 cc ht (by omega)
  have e2 := x_at h30 cc W W2 ht
  rcases (show u = 0 ∨ u = 1 ∨ u = 2 ∨ u = 3 ∨ u = 4 by omega) with rfl | rfl | rfl | rfl | rfl
  · refine ⟨tz_j (sp_at S t), ⟨fun _ => rfl, fun q => by omega, fun q => by omega, fun q => by omega, fun q => by omega⟩, co_pure c ?_⟩
    rw [e_X11_stormOf]
    simp (disch := omega) only [tz_lit, nj_m1, ↓reduceIte, nj_cl, nj_ltt, nj_ltf, nj_let, nj_lef, nj_eqf, nj_lt, nj_le, nj_eq, nj_add, nj_mul, nj_modx, nj_and7, nj_div, tz_bI_some, tz_bV_some, or_false, false_or, or_self, and_false, false_and, and_true, true_and, not_true_eq_false, not_false_eq_true, nt_lef, nt_let, nt_ltf, nt_ltt, nt_eqf, nj_m2, nj_m3, nj_m4, nj_m5, nj_m6, nj_m7, tz_bL_some, nj_sub, ng_ltt, ng_let, ng_gtf, ng_gef, e1, e2]
  · refine ⟨tz_j (S 8 t), ⟨fun q => by omega, fun _ => rfl, fun q => by omega, fun q => by omega, fun q => by omega⟩, co_pure c ?_⟩
    rw [e_X11_stormOf]
    simp (disch := omega) only [tz_lit, nj_m1, ↓reduceIte, nj_cl, nj_ltt, nj_ltf, nj_let, nj_lef, nj_eqf, nj_lt, nj_le, nj_eq, nj_add, nj_mul, nj_modx, nj_and7, nj_div, tz_bI_some, tz_bV_some, or_false, false_or, or_self, and_false, false_and, and_true, true_and, not_true_eq_false, not_false_eq_true, nt_lef, nt_let, nt_ltf, nt_ltt, nt_eqf, nj_m2, nj_m3, nj_m4, nj_m5, nj_m6, nj_m7, tz_bL_some, nj_sub, ng_ltt, ng_let, ng_gtf, ng_gef, e1, cz_8 cc]
  · refine ⟨tz_j (S 9 t), ⟨fun q => by omega, fun q => by omega, fun _ => rfl, fun q => by omega, fun q => by omega⟩, co_pure c ?_⟩
    rw [e_X11_stormOf]
    simp (disch := omega) only [tz_lit, nj_m1, ↓reduceIte, nj_cl, nj_ltt, nj_ltf, nj_let, nj_lef, nj_eqf, nj_lt, nj_le, nj_eq, nj_add, nj_mul, nj_modx, nj_and7, nj_div, tz_bI_some, tz_bV_some, or_false, false_or, or_self, and_false, false_and, and_true, true_and, not_true_eq_false, not_false_eq_true, nt_lef, nt_let, nt_ltf, nt_ltt, nt_eqf, nj_m2, nj_m3, nj_m4, nj_m5, nj_m6, nj_m7, tz_bL_some, nj_sub, ng_ltt, ng_let, ng_gtf, ng_gef, e1, cz_9 cc]
  · refine ⟨tz_j (S 10 t), ⟨fun q => by omega, fun q => by omega, fun q => by omega, fun _ => rfl, fun q => by omega⟩, co_pure c ?_⟩
    rw [e_X11_stormOf]
    simp (disch := omega) only [tz_lit, nj_m1, ↓reduceIte, nj_cl, nj_ltt, nj_ltf, nj_let, nj_lef, nj_eqf, nj_lt, nj_le, nj_eq, nj_add, nj_mul, nj_modx, nj_and7, nj_div, tz_bI_some, tz_bV_some, or_false, false_or, or_self, and_false, false_and, and_true, true_and, not_true_eq_false, not_false_eq_true, nt_lef, nt_let, nt_ltf, nt_ltt, nt_eqf, nj_m2, nj_m3, nj_m4, nj_m5, nj_m6, nj_m7, tz_bL_some, nj_sub, ng_ltt, ng_let, ng_gtf, ng_gef, e1, cz_10 cc]
  · refine ⟨tz_g A 44 t, ⟨fun q => by omega, fun q => by omega, fun q => by omega, fun q => by omega, fun _ => c.1.2.2.1 t ht (by omega)⟩, co_pure c ?_⟩
    rw [e_X11_stormOf]
    simp (disch := omega) only [tz_lit, nj_m1, ↓reduceIte, nj_cl, nj_ltt, nj_ltf, nj_let, nj_lef, nj_eqf, nj_lt, nj_le, nj_eq, nj_add, nj_mul, nj_modx, nj_and7, nj_div, tz_bI_some, tz_bV_some, or_false, false_or, or_self, and_false, false_and, and_true, true_and, not_true_eq_false, not_false_eq_true, nt_lef, nt_let, nt_ltf, nt_ltt, nt_eqf, nj_m2, nj_m3, nj_m4, nj_m5, nj_m6, nj_m7, tz_bL_some, nj_sub, ng_ltt, ng_let, ng_gtf, ng_gef, e1]
/-- letters -/
theorem c_letterOf {N l u : Nat} {S K : tz_S} {U : tz_U} {V : tz_V} {A : tz_Mem} (c : CX S K U V A) (ww : WX N S K U) (hl : l < S 15 0) (hu : u < 6) : CO S K U V (tz_j (S (16 + u) l)) (f_X11_letterOf (tz_j l) (tz_j u) A) A := by
  have W := ww.1.1
  have h12 := W.2.2.1
  have cc := c.1.1
  have e1 := x_hasl1 h30 cc hl (by omega)
  refine co_pure c ?_
  rw [e_X11_letterOf]
  rcases (show u = 0 ∨ u = 1 ∨ u = 2 ∨ u = 3 ∨ u = 4 ∨ u = 5 by omega) with rfl | rfl | rfl | rfl | rfl | rfl
  · simp (disch := omega) only [tz_lit, nj_m1, ↓reduceIte, nj_cl, nj_ltt, nj_ltf, nj_let, nj_lef, nj_eqf, nj_lt, nj_le, nj_eq, nj_add, nj_mul, nj_modx, nj_and7, nj_div, tz_bI_some, tz_bV_some, or_false, false_or, or_self, and_false, false_and, and_true, true_and, not_true_eq_false, not_false_eq_true, nt_lef, nt_let, nt_ltf, nt_ltt, nt_eqf, nj_m2, nj_m3, nj_m4, nj_m5, nj_m6, nj_m7, tz_bL_some, nj_sub, ng_ltt, ng_let, ng_gtf, ng_gef, e1, cz_16 cc]
  · simp (disch := omega) only [tz_lit, nj_m1, ↓reduceIte, nj_cl, nj_ltt, nj_ltf, nj_let, nj_lef, nj_eqf, nj_lt, nj_le, nj_eq, nj_add, nj_mul, nj_modx, nj_and7, nj_div, tz_bI_some, tz_bV_some, or_false, false_or, or_self, and_false, false_and, and_true, true_and, not_true_eq_false, not_false_eq_true, nt_lef, nt_let, nt_ltf, nt_ltt, nt_eqf, nj_m2, nj_m3, nj_m4, nj_m5, nj_m6, nj_m7, tz_bL_some, nj_sub, ng_ltt, ng_let, ng_gtf, ng_gef, e1, cz_17 cc]
  · simp (disch := omega) only [tz_lit, nj_m1, ↓reduceIte, nj_cl, nj_ltt, nj_ltf, nj_let, nj_lef, nj_eqf, nj_lt, nj_le, nj_eq, nj_add, nj_mul, nj_modx, nj_and7, nj_div, tz_bI_some, tz_bV_some, or_false, false_or, or_self, and_false, false_and, and_true, true_and, not_true_eq_false, not_false_eq_true, nt_lef, nt_let, nt_ltf, nt_ltt, nt_eqf, nj_m2, nj_m3, nj_m4, nj_m5, nj_m6, nj_m7, tz_bL_some, nj_sub, ng_ltt, ng_let, ng_gtf, ng_gef, e1, cz_18 cc]
  · simp (disch := omega) only [tz_lit, nj_m1, ↓reduceIte, nj_cl, nj_ltt, nj_ltf, nj_let, nj_lef, nj_eqf, nj_lt, nj_le, nj_eq, nj_add, nj_mul, nj_modx, nj_and7, nj_div, tz_bI_some, tz_bV_some, or_false, false_or, or_self, and_false, false_and, and_true, true_and, not_true_eq_false, not_false_eq_true, nt_lef, nt_let, nt_ltf, nt_ltt, nt_eqf, nj_m2, nj_m3, nj_m4, nj_m5, nj_m6, nj_m7, tz_bL_some, nj_sub, ng_ltt, ng_let, ng_gtf, ng_gef, e1, cz_19 cc]
  · simp (disch := omega) only [tz_lit, nj_m1, ↓reduceIte, nj_cl, nj_ltt, nj_ltf, nj_let, nj_lef, nj_eqf, nj_lt, nj_le, nj_eq, nj_add, nj_mul, nj_modx, nj_and7, nj_div, tz_bI_some, tz_bV_some, or_false, false_or, or_self, and_false, false_and, and_true, true_and, not_true_eq_false, not_false_eq_true, nt_lef, nt_let, nt_ltf, nt_ltt, nt_eqf, nj_m2, nj_m3, nj_m4, nj_m5, nj_m6, nj_m7, tz_bL_some, nj_sub, ng_ltt, ng_let, ng_gtf, ng_gef, e1, cz_20 cc]
  · simp (disch := omega) only [tz_lit, nj_m1, ↓reduceIte, nj_cl, nj_ltt, nj_ltf, nj_let, nj_lef, nj_eqf, nj_lt, nj_le, nj_eq, nj_add, nj_mul, nj_modx, nj_and7, nj_div, tz_bI_some, tz_bV_some, or_false, false_or, or_self, and_false, false_and, and_true, true_and, not_true_eq_false, not_false_eq_true, nt_lef, nt_let, nt_ltf, nt_ltt, nt_eqf, nj_m2, nj_m3, nj_m4, nj_m5, nj_m6, nj_m7, tz_bL_some, nj_sub, ng_ltt, ng_let, ng_gtf, ng_gef, e1, cz_21 cc]
theorem c_arrives {N l : Nat} {S K : tz_S} {U : tz_U} {V : tz_V} {A : tz_Mem} (c : CX S K U V A) (ww : WX N S K U) (hN : N ≤ 1000000) (hl : l < S 15 0) : CO S K U V (tz_j (sp_ar l 500 S 21 l)) (f_X11_arrives (tz_j l) A) A := by
  have W := ww.1.1
  have h12 := W.2.2.1
  have e1 := x_hasl1 h30 c.1.1 hl (by omega)
  obtain ⟨A1, f1, g1⟩ := x_wo (K := K) (U := U) (V := V) (v := 4294967295) (show N ≤ 1100000 by omega) c.1 ww.1 ww.2.1 hl (by omega)
  rw [t06 ww.2.1] at f1
  refine co_th c ww ⟨A1, ?_, g1⟩
  rw [e_X11_arrives]
  simp only [tz_lit, nj_m1, nj_m2, nj_m3, nj_m4, nj_m5, nj_m6, nj_m7, ↓reduceIte, tz_bI_some, tz_bV_some, tz_bL_some, cj10, cj01, cjm0, eq_self, not_true_eq_false, not_false_eq_true, or_false, false_or, or_true, true_or, or_self, and_true, true_and, and_false, false_and, e1, f1]
theorem c_needs {N l : Nat} {S K : tz_S} {U : tz_U} {V : tz_V} {A : tz_Mem} (c : CX S K U V A) (ww : WX N S K U) (hN : N ≤ 1000000) (hl : l < S 15 0) : CO S K U V ((sp_nd S l (S 7 0) 0 (if sp_ar l 500 S 21 l = 4294967295 then 2147483647 else sp_ar l 500 S 21 l) (tz_j 0) (tz_j 4294967295)).1) (f_X11_needs (tz_j l) (tz_j 0) A) A := by
  have W := ww.1.1
  have W2 := ww.1.2.1
  have h4 := W.2.1
  have h12 := W.2.2.1
  have e1 := x_hasl1 h30 c.1.1 hl (by omega)
  have k2 := k_two1 (A := A) (show 0 < 2 by omega)
  obtain ⟨A1, f1, g1⟩ := x_wo (K := K) (U := U) (V := V) (v := 4294967295) (show N ≤ 1100000 by omega) c.1 ww.1 ww.2.1 hl (by omega)
  rw [t06 ww.2.1] at f1
  have c1 := CX_th ww.2.1 ww.2.2.2.1 g1 c
  have ha := ar_hi (l := l) ww.1 hl
  generalize hs : sp_ar l 500 S 21 l = a at *
  obtain ⟨A2, f2, g2⟩ := x_ndL (l := l) (u := 0) (show N ≤ 1100000 by omega) ww.2.1 ww.2.2.2.1 hl (by omega) ww.1 (S 7 0) 0 (if a = 4294967295 then 2147483647 else a) (tz_j 0) (tz_j 4294967295) A1 (Nat.zero_add _) (by split <;> omega) c1
  rw [if_pos rfl] at f2
  refine co_th c ww ⟨A2, ?_, fx_tr g1 g2⟩
  rw [e_X11_needs]
  by_cases z : a = 4294967295
  · rw [if_pos z] at f2 ⊢
    simp only [tz_lit, nj_m1, nj_m2, nj_m3, nj_m4, nj_m5, nj_m6, nj_m7, ↓reduceIte, tz_bI_some, tz_bV_some, tz_bL_some, cj10, cj01, cjm0, eq_self, not_true_eq_false, not_false_eq_true, or_false, false_or, or_true, true_or, or_self, and_true, true_and, and_false, false_and, e1, k2, f1, z, f2]
  · rw [if_neg z] at f2 ⊢
    have n2 : (tz_j a = tz_j 4294967295) = False := nj_eqf z (by omega) (by omega)
    simp only [tz_lit, nj_m1, nj_m2, nj_m3, nj_m4, nj_m5, nj_m6, nj_m7, ↓reduceIte, tz_bI_some, tz_bV_some, tz_bL_some, cj10, cj01, cjm0, eq_self, not_true_eq_false, not_false_eq_true, or_false, false_or, or_true, true_or, or_self, and_true, true_and, and_false, false_and, e1, k2, f1, n2, f2]
theorem c_behind {N l n u : Nat} {S K : tz_S} {U : tz_U} {V : tz_V} {A : tz_Mem} (c : CX S K U V A) (ww : WX N S K U) (hN : N ≤ 1000000) (hl : l < S 15 0) (hn : n ≤ 500) (hu : u < 2) : CO S K U V (if u = 0 then tz_j (sp_n n S 20 l) else tz_j (sp_n n S 16 l)) (f_X11_behind (tz_j l) (tz_j n) (tz_j u) A) A := by
  have W := ww.1.1
  have h12 := W.2.2.1
  have e1 := x_hasl1 h30 c.1.1 hl (by omega)
  have k3 := k_two1 (A := A) hu
  obtain ⟨A1, f1, r1, g1⟩ := x_bec2 h76 h30 (by omega) W ww.2.1 c.1
  obtain ⟨A2, f2, r2, g2⟩ := x_pass (n := n) h76 (show N + n ≤ 2000000 by omega) r1 ww.1
  refine co_th c ww ⟨A2, ?_, fx_tr (fx_mo g1 (fun k i => th_b)) (fx_mo (fx_fr g2) (fun k i => th_r))⟩
  rw [e_X11_behind]
  simp only [tz_lit, nj_m1, nj_m2, nj_m3, nj_m4, nj_m5, nj_m6, nj_m7, ↓reduceIte, tz_bI_some, tz_bV_some, tz_bL_some, cj10, cj01, cjm0, eq_self, not_true_eq_false, not_false_eq_true, or_false, false_or, or_true, true_or, or_self, and_true, true_and, and_false, false_and, e1, k3, f1, f2]
  rcases (show u = 0 ∨ u = 1 by omega) with rfl | rfl
  · simp (disch := omega) only [tz_lit, nj_m1, ↓reduceIte, nj_cl, nj_ltt, nj_ltf, nj_let, nj_lef, nj_eqf, nj_lt, nj_le, nj_eq, nj_add, nj_mul, nj_modx, nj_and7, nj_div, tz_bI_some, tz_bV_some, or_false, false_or, or_self, and_false, false_and, and_true, true_and, not_true_eq_false, not_false_eq_true, nt_lef, nt_let, nt_ltf, nt_ltt, nt_eqf, nj_m2, nj_m3, nj_m4, nj_m5, nj_m6, nj_m7, tz_bL_some, nj_sub, ng_ltt, ng_let, ng_gtf, ng_gef, f1, f2, cg_20 r2.1]
  · simp (disch := omega) only [tz_lit, nj_m1, ↓reduceIte, nj_cl, nj_ltt, nj_ltf, nj_let, nj_lef, nj_eqf, nj_lt, nj_le, nj_eq, nj_add, nj_mul, nj_modx, nj_and7, nj_div, tz_bI_some, tz_bV_some, or_false, false_or, or_self, and_false, false_and, and_true, true_and, not_true_eq_false, not_false_eq_true, nt_lef, nt_let, nt_ltf, nt_ltt, nt_eqf, nj_m2, nj_m3, nj_m4, nj_m5, nj_m6, nj_m7, tz_bL_some, nj_sub, ng_ltt, ng_let, ng_gtf, ng_gef, f1, f2, cg_16 r2.1]
theorem c_postage {N : Nat} {S K : tz_S} {U : tz_U} {V : tz_V} {A : tz_Mem} (c : CX S K U V A) (ww : WX N S K U) (hN : N ≤ 1000000) : CO S K U V (sp_po S (S 15 0) 0 (tz_j 0)) (f_X11_postage A) A := by
  have W := ww.1.1
  obtain ⟨A1, f1, r1, g1⟩ := x_bec2 h76 h30 (by omega) W ww.2.1 c.1
  obtain ⟨A2, f2, r2, g2⟩ := x_pass (n := 500) h76 (show N + 500 ≤ 2000000 by omega) r1 ww.1
  have g := fx_tr (fx_mo g1 (fun k i => th_b)) (fx_mo (fx_fr g2) (fun k i => th_r))
  have c2 := CX_th ww.2.1 ww.2.2.2.1 g c
  have f3 := x_poL (show N ≤ 1100000 by omega) ww.1 c2.1.1 r2.1 (S 15 0) 0 (tz_j 0) (Nat.zero_add _)
  refine co_th c ww ⟨A2, ?_, g⟩
  rw [e_X11_postage]
  simp only [tz_lit, nj_m1, nj_m2, nj_m3, nj_m4, nj_m5, nj_m6, nj_m7, ↓reduceIte, tz_bI_some, tz_bV_some, tz_bL_some, cj10, cj01, cjm0, eq_self, not_true_eq_false, not_false_eq_true, or_false, false_or, or_true, true_or, or_self, and_true, true_and, and_false, false_and, f1, f2, f3]
theorem c_loudest {N : Nat} {S K : tz_S} {U : tz_U} {V : tz_V} {A : tz_Mem} (c : CX S K U V A) (ww : WX N S K U) (hN : N ≤ 1000000) (z : ¬ S 1 0 = 0) : CO S K U V (sp_ld (fun h => tz_j (sp_n 40 S 5 h) - tz_j (S 5 h)) (S 1 0) 0 (tz_j 0) (tz_j 4294967295)) (f_X11_loudest (tz_j 40) (tz_j 0) A) A := by
  have W := ww.1.1
  have h8 := W.1
  have cc := c.1.1
  have q31 : tz_g A 31 0 = tz_j (S 1 0) := cz_1 cc
  have n0 : (tz_j (S 1 0) = tz_j 0) = False := nj_eqf z (by omega) (by omega)
  have k2 := k_two1 (A := A) (show 0 < 2 by omega)
  have n1 : (tz_j 40 < tz_j 0) = False := nj_ltf (by omega) (by omega)
  have n2 : (tz_j 40 ≤ tz_j 500) = True := nj_let (by omega) (by omega)
  obtain ⟨A1, f1, r1, g1⟩ := x_bec2 h76 h30 (by omega) W ww.2.1 c.1
  obtain ⟨A2, f2, r2, g2⟩ := x_pass (n := 40) h76 (show N + 40 ≤ 2000000 by omega) r1 ww.1
  have gg := fx_tr (fx_mo g1 (fun k i => th_b)) (fx_mo (fx_fr g2) (fun k i => th_r))
  have c2 := CX_th ww.2.1 ww.2.2.2.1 gg c
  have q31b : tz_g A2 31 0 = tz_j (S 1 0) := cz_1 c2.1.1
  have f3 := x_ldL (A := A2) (u := 0) (f := fun h => tz_j (sp_n 40 S 5 h) - tz_j (S 5 h)) (by omega) h8 q31b (fun h hh => by rw [if_pos rfl, cz_5 c2.1.1 hh, cg_5 r2.1 hh]) (S 1 0) 0 (tz_j 0) (tz_j 4294967295) (Nat.zero_add _)
  refine co_th c ww ⟨A2, ?_, gg⟩
  rw [e_X11_loudest]
  simp only [tz_lit, nj_m1, nj_m2, nj_m3, nj_m4, nj_m5, nj_m6, nj_m7, ↓reduceIte, tz_bI_some, tz_bV_some, tz_bL_some, cj10, cj01, cjm0, eq_self, not_true_eq_false, not_false_eq_true, or_false, false_or, or_true, true_or, or_self, and_true, true_and, and_false, false_and, q31, n0, k2, n1, n2, f1, f2, f3]
theorem c_firstHeard {N : Nat} {S K : tz_S} {U : tz_U} {V : tz_V} {A : tz_Mem} (c : CX S K U V A) (ww : WX N S K U) (hN : N ≤ 1000000) : CO S K U V (if sp_fh 500 (sp_fs 7 S) 201 0 = 4294967295 then tz_j 4294967295 else tz_j (sp_fh 500 (sp_fs 7 S) 0 3)) (f_X11_firstHeard (tz_j 7) (tz_j 1) A) A := by
  have W := ww.1.1
  have h8 := W.1
  have k2 := k_two1 (A := A) (show 1 < 2 by omega)
  have k1 : f_X11_isWord (tz_j 7) A = some (some (.int (tz_j 1)), A) := by
    rw [e_X11_isWord]
    simp (disch := omega) only [tz_lit, nj_m1, ↓reduceIte, nj_cl, nj_ltt, nj_ltf, nj_let, nj_lef, nj_eqf, nj_lt, nj_le, nj_eq, nj_add, nj_mul, nj_modx, nj_and7, nj_div, tz_bI_some, tz_bV_some, or_false, false_or, or_self, and_false, false_and, and_true, true_and, not_true_eq_false, not_false_eq_true, nt_lef, nt_let, nt_ltf, nt_ltt, nt_eqf, nj_m2, nj_m3, nj_m4, nj_m5, nj_m6, nj_m7, tz_bL_some, nj_sub, ng_ltt, ng_let, ng_gtf, ng_gef]
  obtain ⟨A1, f1, r1, g1⟩ := x_bec2 h76 h30 (by omega) W ww.2.1 c.1
  have el : f_X2_listenFor (tz_j 7) A1 = some (none, tz_s (tz_s A1 150 1 (tz_j 7)) 150 0 (tz_j 4294967295)) := by
    rw [e_X2_listenFor]
    simp only [tz_lit, nj_m1, nj_m2, nj_m3, nj_m4, nj_m5, nj_m6, nj_m7, ↓reduceIte, tz_bI_some, tz_bV_some, tz_bL_some, cj10, cj01, cjm0, eq_self, not_true_eq_false, not_false_eq_true, or_false, false_or, or_true, true_or, or_self, and_true, true_and, and_false, false_and]
  have r2 : rx 76 99 (sp_fs 7 S) (tz_sr (tz_s (tz_s A1 150 1 (tz_j 7)) 150 0 (tz_j 4294967295)) 76 7 151) := by
    refine rx_ear h76 r1 (fun k i hk => fs_get hk) (fun k i hk => ?_) ?_ h8
    · rw [tz_gsr, tz_gsk (by omega), tz_gsk (by omega)]
    · have e200 : sp_fs 7 S 200 0 = 1 := rfl
      have eg : tz_gr (tz_sr (tz_s (tz_s A1 150 1 (tz_j 7)) 150 0 (tz_j 4294967295)) 76 7 151) 76 7 = 151 := tz_grr
      refine ⟨eg.trans (if_pos rfl).symm, fun _ => ⟨?_, ?_⟩, fun q => ?_, fun q => ?_⟩
      · rw [tz_gsr, tz_gs1]
        rfl
      · rw [tz_gsr, tz_gsi (by omega), tz_gs1]
        rfl
      · rw [e200] at q
        omega
      · rw [e200] at q
        omega
  obtain ⟨A2, f2, g2⟩ := x_fhL (u := 1) (by omega) 500 0 N (sp_fs 7 S) _ (by omega) (by omega) r2 (fs_H ww.1 (by omega)) rfl
  rw [if_neg (by omega)] at f2
  refine co_th c ww ⟨A2, ?_, fx_tr (fx_sr (fx_s (fx_s (fx_mo g1 (fun k i => th_b)) (by unfold th_p; omega)) (by unfold th_p; omega)) (by unfold th_p; omega) h76) (fx_mo (fx_fr g2) (fun k i => th_r))⟩
  rw [e_X11_firstHeard]
  simp only [tz_lit, nj_m1, nj_m2, nj_m3, nj_m4, nj_m5, nj_m6, nj_m7, ↓reduceIte, tz_bI_some, tz_bV_some, tz_bL_some, cj10, cj01, cjm0, eq_self, not_true_eq_false, not_false_eq_true, or_false, false_or, or_true, true_or, or_self, and_true, true_and, and_false, false_and, k2, k1, f1, el, f2]
