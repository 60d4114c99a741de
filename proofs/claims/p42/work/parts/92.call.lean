/-! the class's calls as the law makes them: what each answers, what state it leaves -/
def CO (S K : tz_S) (U : tz_U) (V : tz_V) (v : Int32) (X : tz_X) (A : tz_Mem) : Prop := ∃ A', X = some (some (.int v), A') ∧ CX S K U V A' ∧ cf A A'
theorem co_pure {S K : tz_S} {U : tz_U} {V : tz_V} {v : Int32} {X : tz_X} {A : tz_Mem} (c : CX S K U V A) (h : X = some (some (.int v), A)) : CO S K U V v X A := ⟨A, h, c, cf_rfl⟩
theorem co_ref {S K : tz_S} {U : tz_U} {V : tz_V} {v : Int32} {X : tz_X} {A : tz_Mem} (r : Nat) (hr : r < 8) (c : CX S K U V A) (h : X = some (some (.int v), tz_s A 156 r (tz_g A 156 r + tz_j 1))) : CO S K (ur U r) V v X A := ⟨_, h, CX_ref hr c, cf_s (by omega)⟩
theorem co_th {N : Nat} {S K : tz_S} {U : tz_U} {V : tz_V} {v : Int32} {X : tz_X} {A : tz_Mem} (c : CX S K U V A) (ww : WX N S K U) (h : ∃ A1, X = some (some (.int v), A1) ∧ tz_fx th_p A A1) : CO S K U V v X A := by
  obtain ⟨A1, e, f⟩ := h
  exact ⟨A1, e, CX_th ww.2.1 ww.2.2.2.1 f c, cf_fx f (fun k i h => by unfold th_p at h; omega)⟩
theorem co_sky {N : Nat} {S S' K : tz_S} {U : tz_U} {V : tz_V} {X : tz_X} {A : tz_Mem} {v : Int32} (c : CX S K U V A) (ww : WX N S K U) (hF : ∃ A1, X = some (some (.int v), A1) ∧ rx 30 99 S' A1 ∧ tz_fx (fun k _ => (30 ≤ k ∧ k < 53) ∨ th_p k 0 ∨ (122 ≤ k ∧ k < 148)) A A1) : CO S' K U V v X A := by
  obtain ⟨A1, e1, r1, f1⟩ := hF
  have g : ∀ k i, ¬ ((30 ≤ k ∧ k < 53) ∨ ((76 ≤ k ∧ k < 122) ∨ (150 ≤ k ∧ k < 156)) ∨ (122 ≤ k ∧ k < 148)) → tz_g A1 k i = tz_g A k i := fun k i h => f1.2.2.1 k i h
  have gl : ∀ k i, tz_gl A1 k i = tz_gl A k i := fun k i => by show A1.2.2.1 k i = A.2.2.1 k i; rw [f1.2.1]
  refine ⟨A1, e1, ⟨r1, fun q => rx_mv (c.2.1 q) (fun k i h1 h2 => g k i (by omega)) (f1.2.2.2 _ _ (fun q => by have := q.1; unfold th_p at this; omega)) (Or.inl ww.2.2.2.1.2), ⟨fun s hs => ?_, fun i hi => ?_, ?_, ?_, ?_, fun i hi => ?_⟩, fx_con f1 c.2.2.2⟩, cf_fx f1 (fun k i h => by unfold th_p at h; omega)⟩
  · obtain ⟨a, b, d⟩ := c.2.2.1.1 s hs
    rw [g _ _ (by omega), g _ _ (by omega)]
    refine ⟨a, b, fun i hi => ?_⟩
    rw [gl]
    exact d i hi
  · rw [g _ _ (by omega)]
    exact c.2.2.1.2.1 i hi
  · rw [g _ _ (by omega)]
    exact c.2.2.1.2.2.1
  · rw [g _ _ (by omega)]
    exact c.2.2.1.2.2.2.1
  · rw [g _ _ (by omega)]
    exact c.2.2.1.2.2.2.2.1
  · rw [g _ _ (by omega)]
    exact c.2.2.1.2.2.2.2.2 i hi
theorem wx_ref {N r : Nat} {S K : tz_S} {U : tz_U} (w : WX N S K U) : WX N S K (ur U r) := ⟨w.1, w.2.1, w.2.2.1, w.2.2.2.1, wu_mv w.2.2.2.2 (Nat.le_refl _) (fun k i a _ _ => tz_uk a)⟩
theorem wx_sky {N M : Nat} {S S' K : tz_S} {U : tz_U} (w : WX N S K U) (hN : N ≤ M) (hH : sp_H M S') (hst : sp_st S') (h1 : S 1 0 ≤ S' 1 0) : WX M S' K U := ⟨hH, hst, sp_H_mo w.2.2.1 hN, w.2.2.2.1, wu_mv w.2.2.2.2 h1 (fun _ _ _ _ _ => rfl)⟩
/-! shelves -/
theorem c_row {s t n : Nat} {S K : tz_S} {U : tz_U} {V : tz_V} {A : tz_Mem} (c : CX S K U V A) (hs : s < 8) (ht : t < 4) (hn : n < 161) : CO S K (tz_u (tz_u U 0 s (tz_j (100 + t))) 1 s (tz_j n)) (fun s' i => if s' = s then 0 else V s' i) (tz_j 1) (f_X11_row (tz_j s) (tz_j t) (tz_j n) A) A := by
  have hk : tz_rw (22 + s) := by unfold tz_rw; omega
  obtain ⟨A1, e1, g1, f1⟩ := x_fillL hk 160 0 (tz_s (tz_s A 19 s (tz_j (100 + t))) 20 s (tz_j n)) (by omega)
  refine ⟨A1, ?_, CX_sh c f1.1 (fun k i a b => by rw [fl_g f1, tz_gsk b, tz_gsk a]) (fun k i => fl_gr f1) (fun k i a b => by rw [tz_uk b, tz_uk a]) (fun s' hs' => ⟨?_, ?_, fun i hi => ?_⟩), f1.1, fun k i hk2 => ⟨?_, ?_⟩, fl_gr f1⟩
  · rw [e_X11_row]
    simp (disch := omega) only [tz_lit, nj_m1, ↓reduceIte, nj_cl, nj_ltt, nj_ltf, nj_let, nj_lef, nj_eqf, nj_lt, nj_le, nj_eq, nj_add, nj_mul, nj_modx, nj_and7, nj_div, tz_bI_some, tz_bV_some, or_false, false_or, or_self, and_false, false_and, and_true, true_and, not_true_eq_false, not_false_eq_true, nt_lef, nt_let, nt_ltf, nt_ltt, nt_eqf, nj_m2, nj_m3, nj_m4, nj_m5, nj_m6, nj_m7, tz_bL_some, nj_sub, ng_ltt, ng_let, ng_gtf, ng_gef, e_X8_has, e_X8_putRow, e_J7_fill_d0a16 _ _ hk]
    rw [show q_J7_fill_d0a16_6 (22 + s) 0 (tz_j 0) (tz_j 160) (tz_s (tz_s A 19 s (tz_j (100 + t))) 20 s (tz_j n)) = _ from e1]
    rfl
  · rw [fl_g f1, tz_gsk (by omega), tz_gS, tz_uk (by omega), tz_ua]
    by_cases z : s' = s
    · rw [if_pos ⟨rfl, z⟩, if_pos ⟨rfl, z⟩]
    · rw [if_neg (fun q => z q.2), if_neg (fun q => z q.2)]
      exact (c.2.2.1.1 s' hs').1
  · rw [fl_g f1, tz_gS, tz_ua]
    by_cases z : s' = s
    · rw [if_pos ⟨rfl, z⟩, if_pos ⟨rfl, z⟩]
    · rw [if_neg (fun q => z q.2), if_neg (fun q => z q.2), tz_gsk (by omega), tz_uk (by omega)]
      exact (c.2.2.1.1 s' hs').2.1
  · by_cases z : s' = s
    · rw [z, if_pos rfl]
      exact g1 i (by omega) hi
    · rw [if_neg z, f1.2.2.2 _ _ (by omega)]
      exact (c.2.2.1.1 s' hs').2.2 i hi
  · rw [fl_g f1, tz_gsk (by omega), tz_gsk (by omega)]
  · rw [f1.2.2.2 _ _ (by omega)]
    rfl
theorem wx_row {N s t n : Nat} {S K : tz_S} {U : tz_U} (w : WX N S K U) (ht : t < 4) (hn : n < 161) : WX N S K (tz_u (tz_u U 0 s (tz_j (100 + t))) 1 s (tz_j n)) := by
  obtain ⟨a, b, d⟩ := w.2.2.2.2
  refine ⟨w.1, w.2.1, w.2.2.1, w.2.2.2.1, fun s' hs' => ⟨?_, ?_⟩, by rw [tz_uk (by omega), tz_uk (by omega)]; exact b, by rw [tz_uk (by omega), tz_uk (by omega)]; exact d⟩
  · rw [tz_uk (by omega), tz_ua]
    by_cases z : s' = s
    · rw [if_pos ⟨rfl, z⟩]
      exact Or.inr (Or.inr ⟨t, ht, rfl⟩)
    · rw [if_neg (fun q => z q.2)]
      exact (a s' hs').1
  · rw [tz_ua]
    by_cases z : s' = s
    · rw [if_pos ⟨rfl, z⟩]
      exact ⟨n, by omega, rfl⟩
    · rw [if_neg (fun q => z q.2), tz_uk (by omega)]
      exact (a s' hs').2
theorem c_holds {s : Nat} {S K : tz_S} {U : tz_U} {V : tz_V} {A : tz_Mem} (c : CX S K U V A) (hs : s < 8) : CO S K U V (U 0 s) (f_X11_holds (tz_j s) A) A := by
  have q := (c.2.2.1.1 s hs).1
  refine co_pure c ?_
  rw [e_X11_holds]
  simp (disch := omega) only [tz_lit, nj_m1, ↓reduceIte, nj_cl, nj_ltt, nj_ltf, nj_let, nj_lef, nj_eqf, nj_lt, nj_le, nj_eq, nj_add, nj_mul, nj_modx, nj_and7, nj_div, tz_bI_some, tz_bV_some, or_false, false_or, or_self, and_false, false_and, and_true, true_and, not_true_eq_false, not_false_eq_true, nt_lef, nt_let, nt_ltf, nt_ltt, nt_eqf, nj_m2, nj_m3, nj_m4, nj_m5, nj_m6, nj_m7, tz_bL_some, nj_sub, ng_ltt, ng_let, ng_gtf, ng_gef, e_X8_has, q]
theorem c_show {s h : Nat} {S K : tz_S} {U : tz_U} {V : tz_V} {A : tz_Mem} (c : CX S K U V A) (hs : s < 8) (h8 : S 1 0 ≤ 8) (hh : h < S 1 0) : CO S K (tz_u U 0 s (tz_j h)) V (tz_j 1) (f_X11_show (tz_j s) (tz_j h) A) A := by
  have e1 := x_hash1 (Or.inl rfl) c.1.1 hh (by omega)
  refine ⟨tz_s A 19 s (tz_j h), ?_, CX_sh c rfl (fun k i a b => tz_gsk a) (fun k i => rfl) (fun k i a b => tz_uk a) (fun s' hs' => ⟨?_, ?_, ?_⟩), cf_s (by omega)⟩
  · rw [e_X11_show]
    simp (disch := omega) only [tz_lit, nj_m1, ↓reduceIte, nj_cl, nj_ltt, nj_ltf, nj_let, nj_lef, nj_eqf, nj_lt, nj_le, nj_eq, nj_add, nj_mul, nj_modx, nj_and7, nj_div, tz_bI_some, tz_bV_some, or_false, false_or, or_self, and_false, false_and, and_true, true_and, not_true_eq_false, not_false_eq_true, nt_lef, nt_let, nt_ltf, nt_ltt, nt_eqf, nj_m2, nj_m3, nj_m4, nj_m5, nj_m6, nj_m7, tz_bL_some, nj_sub, ng_ltt, ng_let, ng_gtf, ng_gef, e_X8_has, e1]
  · rw [tz_gS, tz_ua]
    by_cases z : s' = s
    · rw [if_pos ⟨rfl, z⟩, if_pos ⟨rfl, z⟩]
    · rw [if_neg (fun q => z q.2), if_neg (fun q => z q.2)]
      exact (c.2.2.1.1 s' hs').1
  · rw [tz_gsk (by omega), tz_uk (by omega)]
    exact (c.2.2.1.1 s' hs').2.1
  · exact (c.2.2.1.1 s' hs').2.2
theorem wx_show {N s h : Nat} {S K : tz_S} {U : tz_U} (w : WX N S K U) (hh : h < S 1 0) : WX N S K (tz_u U 0 s (tz_j h)) := by
  obtain ⟨a, b, d⟩ := w.2.2.2.2
  refine ⟨w.1, w.2.1, w.2.2.1, w.2.2.2.1, fun s' hs' => ⟨?_, ?_⟩, by rw [tz_uk (by omega)]; exact b, by rw [tz_uk (by omega)]; exact d⟩
  · rw [tz_ua]
    by_cases z : s' = s
    · rw [if_pos ⟨rfl, z⟩]
      exact Or.inr (Or.inl ⟨h, hh, rfl⟩)
    · rw [if_neg (fun q => z q.2)]
      exact (a s' hs').1
  · rw [tz_uk (by omega)]
    exact (a s' hs').2
theorem c_set {s t l i : Nat} {x : Int64} {S K : tz_S} {U : tz_U} {V : tz_V} {A : tz_Mem} (c : CX S K U V A) (hs : s < 8) (ht : t < 4) (hl : l ≤ 160) (hi : i < l) (z : U 0 s = tz_j (100 + t)) (z1 : U 1 s = tz_j l) : CO S K U (fun s' i' => if s' = s ∧ i' = i then sh_w t x else V s' i') (tz_j 1) (f_X11_set (tz_j s) (tz_j i) x A) A := by
  obtain ⟨q, q1, q2⟩ := c.2.2.1.1 s hs
  have a1 := (x_ror c hs).2.2 t ht z
  rw [z] at q
  rw [z1] at q1
  have a2 := x_he1 hs hi hl ht q q1
  have a3 := x_put (x := x) hs (show i < 160 by omega) ht (show tz_g A 19 s - tz_j 100 = tz_j t by rw [q, hu_s t ht])
  refine ⟨tz_sl A (22 + s) i (sh_w t x), ?_, CX_sh c rfl (fun _ _ _ _ => rfl) (fun _ _ => rfl) (fun _ _ _ _ => rfl) (fun s' hs' => ⟨(c.2.2.1.1 s' hs').1, (c.2.2.1.1 s' hs').2.1, fun i' hi' => ?_⟩), rfl, fun k' i' h => ⟨rfl, if_neg (by omega)⟩, rfl⟩
  · rw [e_X11_set]
    simp only [tz_lit, nj_m1, nj_m2, nj_m3, nj_m4, nj_m5, nj_m6, nj_m7, ↓reduceIte, tz_bI_some, tz_bV_some, tz_bL_some, cj10, cj01, cjm0, eq_self, not_true_eq_false, not_false_eq_true, or_false, false_or, or_true, true_or, or_self, and_true, true_and, and_false, false_and, a1, a2, a3]
  · show (if 22 + s' = 22 + s ∧ i' = i then sh_w t x else tz_gl A (22 + s') i') = (if s' = s ∧ i' = i then sh_w t x else V s' i')
    by_cases e : s' = s ∧ i' = i
    · rw [if_pos e, if_pos (c := 22 + s' = 22 + s ∧ i' = i) ⟨by omega, e.2⟩]
    · rw [if_neg e, if_neg (c := 22 + s' = 22 + s ∧ i' = i) (fun q => e ⟨by omega, q.2⟩)]
      exact (c.2.2.1.1 s' hs').2.2 i' hi'
/-! hills, storms, letters -/
theorem c_hill {N x y : Nat} {S K : tz_S} {U : tz_U} {V : tz_V} {A : tz_Mem} (c : CX S K U V A) (ww : WX N S K U) (hx : x < 7) (hy : y < 10) (z : S 1 0 < 8) : CO (sp_addH x y S) K U V (tz_j (S 1 0)) (f_X11_hill (tz_j x) (tz_j y) A) A := by
  have W := ww.1.1
  have a1 := fun A => x_isKind1 (A := A) hx
  have n1 : (tz_j y < tz_j 0) = False := nj_ltf (by omega) (by omega)
  have n2 : (tz_j y ≤ tz_j 9) = True := nj_let (by omega) (by omega)
  have a2 : f_X3_isFull 30 A = some (some (.int (tz_j 0)), A) := by
    rw [e_X3_isFull _ h30]
    simp (disch := omega) only [tz_lit, nj_m1, ↓reduceIte, nj_cl, nj_ltt, nj_ltf, nj_let, nj_lef, nj_eqf, nj_lt, nj_le, nj_eq, nj_add, nj_mul, nj_modx, nj_and7, nj_div, tz_bI_some, tz_bV_some, or_false, false_or, or_self, and_false, false_and, and_true, true_and, not_true_eq_false, not_false_eq_true, nt_lef, nt_let, nt_ltf, nt_ltt, nt_eqf, nj_m2, nj_m3, nj_m4, nj_m5, nj_m6, nj_m7, tz_bL_some, nj_sub, ng_ltt, ng_let, ng_gtf, ng_gef, cx_1 c.1.1]
  obtain ⟨A1, f1, r1, g1⟩ := x_addH (x := x) (y := y) h30 c.1 W ww.1.2.1 z
  refine co_sky c ww ⟨A1, ?_, r1, fx_mo (fx_fr g1) (fun k i h => by unfold rx_p at h; unfold th_p; omega)⟩
  rw [e_X11_hill]
  simp only [tz_lit, nj_m1, nj_m2, nj_m3, nj_m4, nj_m5, nj_m6, nj_m7, ↓reduceIte, tz_bI_some, tz_bV_some, tz_bL_some, cj10, cj01, cjm0, eq_self, not_true_eq_false, not_false_eq_true, or_false, false_or, or_true, true_or, or_self, and_true, true_and, and_false, false_and, a1, n1, n2, a2, f1]
theorem wx_hill {N x y : Nat} {S K : tz_S} {U : tz_U} (w : WX N S K U) (hx : x < 7) (hy : y < 10) (z : S 1 0 < 8) : WX N (sp_addH x y S) K U := wx_sky w (Nat.le_refl _) (addH_H w.1 z (by omega) (by omega)) w.2.1 (by rw [addH_1]; omega)
theorem c_hill7 {S K : tz_S} {U : tz_U} {V : tz_V} {A : tz_Mem} (c : CX S K U V A) : CO S K (ur U 1) V (tz_j 4294967295) (f_X11_hill (tz_j 7) (tz_j 0) A) A := by
  have a1 := x_isKind0 (x := tz_j 7) (A := A) (Or.inr (by decide))
  refine co_ref 1 (by omega) c ?_
  rw [e_X11_hill]
  simp only [tz_lit, nj_m1, nj_m2, nj_m3, nj_m4, nj_m5, nj_m6, nj_m7, ↓reduceIte, tz_bI_some, tz_bV_some, tz_bL_some, cj10, cj01, cjm0, eq_self, not_true_eq_false, not_false_eq_true, or_false, false_or, or_true, true_or, or_self, and_true, true_and, and_false, false_and, a1, x_ref1, x_ref2, x_ref3, x_ref4, x_ref5, x_ref6, x_ref7, e_X11_refuseLower]
theorem c_storm {N s n p fo ro t l : Nat} {S K : tz_S} {U : tz_U} {V : tz_V} {A : tz_Mem} (c : CX S K U V A) (ww : WX N S K U) (hs : s < 8) (ht : t < 4) (hl : l ≤ 160) (hnl : n ≤ l) (z : U 0 s = tz_j (100 + t)) (z1 : U 1 s = tz_j l) (hlen : 2 ≤ n ∧ n ≤ 6) (hp : 1 ≤ p ∧ p ≤ 9) (hfo : 1 ≤ fo ∧ fo ≤ 99) (hro : 1 ≤ ro ∧ ro ≤ 9) (hw : sp_iw (S 1 0) n (fun i => Int64.toInt32 (V s i)) n 0) :
    (S 7 0 < 4 → CO (sp_addT n p fo ro (fun i => (Int64.toInt32 (V s i)).toNatClampNeg) S) K U V (tz_j (S 7 0)) (f_X11_storm (tz_j s) (tz_j n) (tz_j p) (tz_j fo) (tz_j ro) A) A) ∧
    (¬ S 7 0 < 4 → CO S K (ur U 7) V (tz_j 4294967289) (f_X11_storm (tz_j s) (tz_j n) (tz_j p) (tz_j fo) (tz_j ro) A) A) := by
  have W := ww.1.1
  have h8 := W.1
  have h4 := W.2.1
  obtain ⟨q, q1, q2⟩ := c.2.2.1.1 s hs
  rw [z1] at q1
  have n3 := nj_ix8 (s := s) (n := 8) hs (by omega)
  have hcl : (tz_j s).toNatClampNeg = s := nj_cl (by omega)
  have a1 := (x_ror c hs).2.2 t ht z
  have n5a : (tz_j n < tz_j 0) = False := nj_ltf (by omega) (by omega)
  have n5b : (tz_j 0 ≤ tz_j n) = True := nj_let (by omega) (by omega)
  have n6 : (tz_j n ≤ tz_j l) = True := nj_let hnl (by omega)
  have cfn : ∀ i, i < n → f_X8_number (tz_j s) (tz_j i) A = some (some (.int (Int64.toInt32 (V s i))), A) := fun i hi => x_num hs (by omega) (by rw [q2 i (by omega)])
  have a2 := x_sn1 (A := A) hp hfo hro
  have j1 : (tz_j n < tz_j 2) = False := nj_ltf (by omega) (by omega)
  have j2 : (tz_j n ≤ tz_j 6) = True := nj_let (by omega) (by omega)
  have j3 : tz_j n - tz_j 1 = tz_j (n - 1) := nj_sub (by omega)
  have a9 := cfn (n - 1) (by omega)
  have a8 := x_iw1 (s := s) (f := fun i => Int64.toInt32 (V s i)) c.1.1 h8 (by omega) cfn n 0 (by omega) hw
  rw [if_pos rfl] at a8
  have a3 : f_X11_isWay (tz_j s) (tz_j n) A = some (some (.int (tz_j 1)), A) := by
    rw [e_X11_isWay]
    simp only [tz_lit, nj_m1, nj_m2, nj_m3, nj_m4, nj_m5, nj_m6, nj_m7, ↓reduceIte, tz_bI_some, tz_bV_some, tz_bL_some, cj10, cj01, cjm0, eq_self, not_true_eq_false, not_false_eq_true, or_false, false_or, or_true, true_or, or_self, and_true, true_and, and_false, false_and, j1, j2, j3, a9]
    exact a8
  refine ⟨fun full => ?_, fun full => ?_⟩
  · have a4 : f_X10_isFull 30 A = some (some (.int (tz_j 0)), A) := by
      rw [e_X10_isFull _ h30]
      simp (disch := omega) only [tz_lit, nj_m1, ↓reduceIte, nj_cl, nj_ltt, nj_ltf, nj_let, nj_lef, nj_eqf, nj_lt, nj_le, nj_eq, nj_add, nj_mul, nj_modx, nj_and7, nj_div, tz_bI_some, tz_bV_some, or_false, false_or, or_self, and_false, false_and, and_true, true_and, not_true_eq_false, not_false_eq_true, nt_lef, nt_let, nt_ltf, nt_ltt, nt_eqf, nj_m2, nj_m3, nj_m4, nj_m5, nj_m6, nj_m7, tz_bL_some, nj_sub, ng_ltt, ng_let, ng_gtf, ng_gef, cx_7 c.1.1]
    obtain ⟨A1, f1, g1, ff1, _⟩ := x_cpn (s := s) (len := n) (f := fun i => Int64.toInt32 (V s i)) hs (by omega) n 0 A (by omega) (fun j hj => by rw [q2 j (by omega)])
    have f2 : f_X8_copyNumbers_s155 (tz_j s) (tz_j n) A = some (none, A1) := by
      rw [e_X8_copyNumbers_s155]
      exact f1
    have hwy : ∀ i, i < n → (Int64.toInt32 (V s i)).toNatClampNeg < S 1 0 ∧ Int64.toInt32 (V s i) = tz_j ((Int64.toInt32 (V s i)).toNatClampNeg) := fun i hi => by
      obtain ⟨h, hh, e⟩ := iw_h n 0 hw i (by omega) (by omega)
      rw [e, nj_cl (by omega)]
      exact ⟨hh, rfl⟩
    have r1 : rx 30 99 S A1 := rx_mv c.1 (fun k i h1 h2 => ff1.2.2.1 k i (by omega)) (ff1.2.2.2 30 7 (fun y => by have := y.1; omega)) (Or.inl ww.2.1.2)
    obtain ⟨A2, f3, r3, ff3⟩ := x_addT155 (len := n) (p := p) (fo := fo) (ro := ro) (wy := fun i => (Int64.toInt32 (V s i)).toNatClampNeg) h30 r1 W ww.1.2.1 full (by omega) (fun i hi => (g1 i (by omega) hi).trans (hwy i hi).2)
    refine co_sky c ww ⟨A2, ?_, r3, fx_tr (fx_mo ff1 (fun k i h => by unfold th_p; omega)) (fx_mo ff3 (fun k i h => by unfold bc_p at h; unfold th_p; omega))⟩
    rw [e_X11_storm]
    simp (disch := omega) only [tz_lit, nj_m1, nj_m2, nj_m3, nj_m4, nj_m5, nj_m6, nj_m7, ↓reduceIte, tz_bI_some, tz_bV_some, tz_bL_some, cj10, cj01, cjm0, eq_self, not_true_eq_false, not_false_eq_true, or_false, false_or, or_true, true_or, or_self, and_true, true_and, and_false, false_and, nj_eqf, nj_ltt, nj_ltf, nj_let, nj_lef, nj_cl, nt_lef, ng_ltt, ng_let, ng_gtf, ng_gef, e_X8_refusalOfElements, a1, n5a, n5b, n6, n3, hcl, q1, a2, a3, a4, f2, f3]
  · have a4 : f_X10_isFull 30 A = some (some (.int (tz_j 1)), A) := by
      rw [e_X10_isFull _ h30]
      simp (disch := omega) only [tz_lit, nj_m1, ↓reduceIte, nj_cl, nj_ltt, nj_ltf, nj_let, nj_lef, nj_eqf, nj_lt, nj_le, nj_eq, nj_add, nj_mul, nj_modx, nj_and7, nj_div, tz_bI_some, tz_bV_some, or_false, false_or, or_self, and_false, false_and, and_true, true_and, not_true_eq_false, not_false_eq_true, nt_lef, nt_let, nt_ltf, nt_ltt, nt_eqf, nj_m2, nj_m3, nj_m4, nj_m5, nj_m6, nj_m7, tz_bL_some, nj_sub, ng_ltt, ng_let, ng_gtf, ng_gef, cx_7 c.1.1]
    have e4 : S 7 0 = 4 := by omega
    refine co_ref 7 (by omega) c ?_
    rw [e_X11_storm]
    simp (disch := omega) only [tz_lit, nj_m1, nj_m2, nj_m3, nj_m4, nj_m5, nj_m6, nj_m7, ↓reduceIte, tz_bI_some, tz_bV_some, tz_bL_some, cj10, cj01, cjm0, eq_self, not_true_eq_false, not_false_eq_true, or_false, false_or, or_true, true_or, or_self, and_true, true_and, and_false, false_and, nj_eqf, nj_ltt, nj_ltf, nj_let, nj_lef, nj_cl, nt_lef, ng_ltt, ng_let, ng_gtf, ng_gef, e_X8_refusalOfElements, a1, n5a, n5b, n6, n3, hcl, q1, a2, a3, a4, x_ref1, x_ref2, x_ref3, x_ref4, x_ref5, x_ref6, x_ref7, e_X11_refuseLower]
theorem c_storm6 {N s n p fo ro t l : Nat} {S K : tz_S} {U : tz_U} {V : tz_V} {A : tz_Mem} (c : CX S K U V A) (ww : WX N S K U) (hs : s < 8) (ht : t < 4) (hl : l ≤ 160) (hnl : n ≤ l) (z : U 0 s = tz_j (100 + t)) (z1 : U 1 s = tz_j l) (hlen : 2 ≤ n ∧ n ≤ 6) (hp : 1 ≤ p ∧ p ≤ 9) (hfo : 1 ≤ fo ∧ fo ≤ 99) (hro : 1 ≤ ro ∧ ro ≤ 9) (hw : ¬ sp_iw (S 1 0) n (fun i => Int64.toInt32 (V s i)) n 0) : CO S K (ur U 6) V (tz_j 4294967290) (f_X11_storm (tz_j s) (tz_j n) (tz_j p) (tz_j fo) (tz_j ro) A) A := by
  have W := ww.1.1
  have h8 := W.1
  obtain ⟨q, q1, q2⟩ := c.2.2.1.1 s hs
  rw [z1] at q1
  have n3 := nj_ix8 (s := s) (n := 8) hs (by omega)
  have hcl : (tz_j s).toNatClampNeg = s := nj_cl (by omega)
  have a1 := (x_ror c hs).2.2 t ht z
  have n5a : (tz_j n < tz_j 0) = False := nj_ltf (by omega) (by omega)
  have n5b : (tz_j 0 ≤ tz_j n) = True := nj_let (by omega) (by omega)
  have n6 : (tz_j n ≤ tz_j l) = True := nj_let hnl (by omega)
  have cfn : ∀ i, i < n → f_X8_number (tz_j s) (tz_j i) A = some (some (.int (Int64.toInt32 (V s i))), A) := fun i hi => x_num hs (by omega) (by rw [q2 i (by omega)])
  have a2 := x_sn1 (A := A) hp hfo hro
  have j1 : (tz_j n < tz_j 2) = False := nj_ltf (by omega) (by omega)
  have j2 : (tz_j n ≤ tz_j 6) = True := nj_let (by omega) (by omega)
  have j3 : tz_j n - tz_j 1 = tz_j (n - 1) := nj_sub (by omega)
  have a9 := cfn (n - 1) (by omega)
  have a8 := x_iw0 (s := s) (f := fun i => Int64.toInt32 (V s i)) c.1.1 h8 (by omega) cfn n 0 (by omega) hw
  rw [if_pos rfl] at a8
  have a3 : f_X11_isWay (tz_j s) (tz_j n) A = some (some (.int (tz_j 0)), A) := by
    rw [e_X11_isWay]
    simp only [tz_lit, nj_m1, nj_m2, nj_m3, nj_m4, nj_m5, nj_m6, nj_m7, ↓reduceIte, tz_bI_some, tz_bV_some, tz_bL_some, cj10, cj01, cjm0, eq_self, not_true_eq_false, not_false_eq_true, or_false, false_or, or_true, true_or, or_self, and_true, true_and, and_false, false_and, j1, j2, j3, a9]
    exact a8
  refine co_ref 6 (by omega) c ?_
  rw [e_X11_storm]
  simp (disch := omega) only [tz_lit, nj_m1, nj_m2, nj_m3, nj_m4, nj_m5, nj_m6, nj_m7, ↓reduceIte, tz_bI_some, tz_bV_some, tz_bL_some, cj10, cj01, cjm0, eq_self, not_true_eq_false, not_false_eq_true, or_false, false_or, or_true, true_or, or_self, and_true, true_and, and_false, false_and, nj_eqf, nj_ltt, nj_ltf, nj_let, nj_lef, nj_cl, nt_lef, ng_ltt, ng_let, ng_gtf, ng_gef, e_X8_refusalOfElements, a1, n5a, n5b, n6, n3, hcl, q1, a2, a3, x_ref1, x_ref2, x_ref3, x_ref4, x_ref5, x_ref6, x_ref7, e_X11_refuseLower]
theorem iw_wy {N s n : Nat} {S K : tz_S} {U : tz_U} {V : tz_V} (w : WX N S K U) (hw : sp_iw (S 1 0) n (fun i => Int64.toInt32 (V s i)) n 0) : ∀ i, i < n → (Int64.toInt32 (V s i)).toNatClampNeg < S 1 0 := fun i hi => by
  obtain ⟨h, hh, e⟩ := iw_h n 0 hw i (by omega) (by omega)
  have h8 := w.1.1.1
  rw [e, nj_cl (by omega)]
  exact hh
theorem wx_storm {N s n p fo ro : Nat} {S K : tz_S} {U : tz_U} {V : tz_V} (w : WX N S K U) (full : S 7 0 < 4) (hlen : 2 ≤ n ∧ n ≤ 6) (hp : 1 ≤ p ∧ p ≤ 9) (hfo : 1 ≤ fo ∧ fo ≤ 99) (hro : 1 ≤ ro ∧ ro ≤ 9) (hw : sp_iw (S 1 0) n (fun i => Int64.toInt32 (V s i)) n 0) : WX N (sp_addT n p fo ro (fun i => (Int64.toInt32 (V s i)).toNatClampNeg) S) K U := wx_sky w (Nat.le_refl _) (addT_H w.1 full hlen hp hfo hro (iw_wy w hw)) ⟨(addT_g (by omega)).trans w.2.1.1, (addT_g (by omega)).trans w.2.1.2⟩ (Nat.le_of_eq (addT_g (by omega)).symm)
theorem c_letter {N a f t v : Nat} {S K : tz_S} {U : tz_U} {V : tz_V} {A : tz_Mem} (c : CX S K U V A) (ww : WX N S K U) (ha : a < 10000) (hf : f < S 1 0) (ht : t < S 1 0) (hft : f ≠ t) (hv1 : 1 ≤ v) (hv : v ≤ 99) :
    (S 15 0 < 12 → CO (sp_addL a f t v S) K U V (tz_j (S 15 0)) (f_X11_letter (tz_j a) (tz_j f) (tz_j t) (tz_j v) A) A) ∧
    (¬ S 15 0 < 12 → CO S K (ur U 7) V (tz_j 4294967289) (f_X11_letter (tz_j a) (tz_j f) (tz_j t) (tz_j v) A) A) := by
  have W := ww.1.1
  have h8 := W.1
  have h12 := W.2.2.1
  have a1 := x_hash1 h30 c.1.1 hf (by omega)
  have a2 := x_hash1 h30 c.1.1 ht (by omega)
  have a3 := x_isWord1 (A := A) ha
  have n1 : (tz_j v < tz_j 1) = False := nj_ltf (by omega) (by omega)
  have n2 : (tz_j 99 < tz_j v) = False := nj_ltf (by omega) (by omega)
  have n3 : (tz_j f = tz_j t) = False := nj_eqf hft (by omega) (by omega)
  refine ⟨fun z => ?_, fun z => ?_⟩
  · have a4 : f_X4_isFull 30 A = some (some (.int (tz_j 0)), A) := by
      rw [e_X4_isFull _ h30]
      simp (disch := omega) only [tz_lit, nj_m1, ↓reduceIte, nj_cl, nj_ltt, nj_ltf, nj_let, nj_lef, nj_eqf, nj_lt, nj_le, nj_eq, nj_add, nj_mul, nj_modx, nj_and7, nj_div, tz_bI_some, tz_bV_some, or_false, false_or, or_self, and_false, false_and, and_true, true_and, not_true_eq_false, not_false_eq_true, nt_lef, nt_let, nt_ltf, nt_ltt, nt_eqf, nj_m2, nj_m3, nj_m4, nj_m5, nj_m6, nj_m7, tz_bL_some, nj_sub, ng_ltt, ng_let, ng_gtf, ng_gef, cx_15 c.1.1]
    obtain ⟨A1, f1, r1, g1⟩ := x_addL (a := a) (t := t) h30 c.1 W z hf hv
    refine co_sky c ww ⟨A1, ?_, r1, fx_mo (fx_fr g1) (fun k i h => by unfold rx_p at h; unfold th_p; omega)⟩
    rw [e_X11_letter]
    simp only [tz_lit, nj_m1, nj_m2, nj_m3, nj_m4, nj_m5, nj_m6, nj_m7, ↓reduceIte, tz_bI_some, tz_bV_some, tz_bL_some, cj10, cj01, cjm0, eq_self, not_true_eq_false, not_false_eq_true, or_false, false_or, or_true, true_or, or_self, and_true, true_and, and_false, false_and, e_X11_refusalOfLetter, a1, a2, a3, a4, n1, n2, n3, f1]
  · have a4 : f_X4_isFull 30 A = some (some (.int (tz_j 1)), A) := by
      rw [e_X4_isFull _ h30]
      simp (disch := omega) only [tz_lit, nj_m1, ↓reduceIte, nj_cl, nj_ltt, nj_ltf, nj_let, nj_lef, nj_eqf, nj_lt, nj_le, nj_eq, nj_add, nj_mul, nj_modx, nj_and7, nj_div, tz_bI_some, tz_bV_some, or_false, false_or, or_self, and_false, false_and, and_true, true_and, not_true_eq_false, not_false_eq_true, nt_lef, nt_let, nt_ltf, nt_ltt, nt_eqf, nj_m2, nj_m3, nj_m4, nj_m5, nj_m6, nj_m7, tz_bL_some, nj_sub, ng_ltt, ng_let, ng_gtf, ng_gef, cx_15 c.1.1]
    refine co_ref 7 (by omega) c ?_
    rw [e_X11_letter]
    simp (disch := omega) only [tz_lit, nj_m1, nj_m2, nj_m3, nj_m4, nj_m5, nj_m6, nj_m7, ↓reduceIte, tz_bI_some, tz_bV_some, tz_bL_some, cj10, cj01, cjm0, eq_self, not_true_eq_false, not_false_eq_true, or_false, false_or, or_true, true_or, or_self, and_true, true_and, and_false, false_and, nj_eqf, nj_ltt, nj_ltf, nj_let, nj_lef, nj_cl, nt_lef, ng_ltt, ng_let, ng_gtf, ng_gef, e_X11_refusalOfLetter, a1, a2, a3, a4, n1, n2, n3, x_ref1, x_ref2, x_ref3, x_ref4, x_ref5, x_ref6, x_ref7, e_X11_refuseLower]
theorem wx_letter {N a f t v : Nat} {S K : tz_S} {U : tz_U} (w : WX N S K U) (ha : a < 10000) (hf : f < S 1 0) (ht : t < S 1 0) (hv1 : 1 ≤ v) (hv : v ≤ 99) (z : S 15 0 < 12) : WX N (sp_addL a f t v S) K U := wx_sky w (Nat.le_refl _) (addL_H w.1 z (by omega) hf ht ⟨hv1, hv⟩) ⟨(addL_g (by omega) (by omega) (by omega)).trans w.2.1.1, (addL_g (by omega) (by omega) (by omega)).trans w.2.1.2⟩ (Nat.le_of_eq (addL_g (by omega) (by omega) (by omega)).symm)
theorem c_letter1 {N : Nat} {S K : tz_S} {U : tz_U} {V : tz_V} {A : tz_Mem} (c : CX S K U V A) (ww : WX N S K U) : CO S K (ur U 1) V (tz_j 4294967295) (f_X11_letter (tz_j 0) (tz_j (S 1 0)) (tz_j 0) (tz_j 1) A) A := by
  have h8 := ww.1.1.1
  have a1 := x_hash0 (x := tz_j (S 1 0)) h30 c.1.1 (Or.inr (of_eq_true (nj_let (Nat.le_refl _) (by omega)))) (by omega)
  refine co_ref 1 (by omega) c ?_
  rw [e_X11_letter]
  simp (disch := omega) only [tz_lit, nj_m1, nj_m2, nj_m3, nj_m4, nj_m5, nj_m6, nj_m7, ↓reduceIte, tz_bI_some, tz_bV_some, tz_bL_some, cj10, cj01, cjm0, eq_self, not_true_eq_false, not_false_eq_true, or_false, false_or, or_true, true_or, or_self, and_true, true_and, and_false, false_and, nj_eqf, nj_ltt, nj_ltf, nj_let, nj_lef, nj_cl, nt_lef, ng_ltt, ng_let, ng_gtf, ng_gef, e_X11_refusalOfLetter, a1, x_ref1, x_ref2, x_ref3, x_ref4, x_ref5, x_ref6, x_ref7, e_X11_refuseLower]
theorem c_burn {N l : Nat} {S K : tz_S} {U : tz_U} {V : tz_V} {A : tz_Mem} (c : CX S K U V A) (ww : WX N S K U) (hl : l < S 15 0) :
    (S 20 l < 200 → CO (tz_t S 20 l 300) K U V (tz_j 1) (f_X11_burn (tz_j l) A) A) ∧ (¬ S 20 l < 200 → CO S K U V (tz_j 0) (f_X11_burn (tz_j l) A) A) := by
  have W := ww.1.1
  have h8 := W.1
  have h12 := W.2.2.1
  have h4 := W.2.1
  have a1 := x_hasl1 h30 c.1.1 hl h12
  refine ⟨fun y => ?_, fun y => ?_⟩
  · obtain ⟨A1, f1, r1, g1⟩ := x_burn1 h30 c.1 W ww.1.2.1 hl y
    refine co_sky c ww ⟨A1, ?_, r1, fx_mo (fx_fr g1) (fun k i h => by unfold rx_p at h; unfold th_p; omega)⟩
    rw [e_X11_burn]
    simp only [tz_lit, nj_m1, nj_m2, nj_m3, nj_m4, nj_m5, nj_m6, nj_m7, ↓reduceIte, tz_bI_some, tz_bV_some, tz_bL_some, cj10, cj01, cjm0, eq_self, not_true_eq_false, not_false_eq_true, or_false, false_or, or_true, true_or, or_self, and_true, true_and, and_false, false_and, a1, f1]
  · have a2 := x_burn0 h30 c.1 W ww.1.2.1 hl (by omega)
    refine co_pure c ?_
    rw [e_X11_burn]
    simp only [tz_lit, nj_m1, nj_m2, nj_m3, nj_m4, nj_m5, nj_m6, nj_m7, ↓reduceIte, tz_bI_some, tz_bV_some, tz_bL_some, cj10, cj01, cjm0, eq_self, not_true_eq_false, not_false_eq_true, or_false, false_or, or_true, true_or, or_self, and_true, true_and, and_false, false_and, a1, a2]
theorem wx_burn {N l : Nat} {S K : tz_S} {U : tz_U} (w : WX N S K U) (hl : l < S 15 0) (y : S 20 l < 200) : WX N (tz_t S 20 l 300) K U := by
  have hv := (w.1.2.1.2.1 l hl).2.1
  exact wx_sky w (Nat.le_refl _) (H_20 w.1 (by unfold sp_wh; omega) (by omega) (by omega)) w.2.1 (Nat.le_refl _)
theorem c_burn5 {N : Nat} {S K : tz_S} {U : tz_U} {V : tz_V} {A : tz_Mem} (c : CX S K U V A) (ww : WX N S K U) : CO S K (ur U 5) V (tz_j 4294967291) (f_X11_burn (tz_j (S 15 0)) A) A := by
  have h12 := ww.1.1.2.2.1
  have a1 := x_hasl0 (x := tz_j (S 15 0)) h30 c.1.1 (Or.inr (of_eq_true (nj_let (Nat.le_refl _) (by omega)))) h12
  refine co_ref 5 (by omega) c ?_
  rw [e_X11_burn]
  simp only [tz_lit, nj_m1, nj_m2, nj_m3, nj_m4, nj_m5, nj_m6, nj_m7, ↓reduceIte, tz_bI_some, tz_bV_some, tz_bL_some, cj10, cj01, cjm0, eq_self, not_true_eq_false, not_false_eq_true, or_false, false_or, or_true, true_or, or_self, and_true, true_and, and_false, false_and, a1, x_ref1, x_ref2, x_ref3, x_ref4, x_ref5, x_ref6, x_ref7, e_X11_refuseLower]
/-! hours in truth, dry ones, the draws' start -/
theorem c_hours {N n : Nat} {S K : tz_S} {U : tz_U} {V : tz_V} {A : tz_Mem} (c : CX S K U V A) (ww : WX N S K U) (hN : N ≤ 1100000) (h1 : 1 ≤ n) (hn : n ≤ 500) : CO (sp_n n S) K U V (tz_j (sp_cw 200 (sp_n n S 15 0) (sp_n n S)) - tz_j (sp_cw 200 (S 15 0) S)) (f_X11_hours (tz_j n) A) A := by
  have W := ww.1.1
  have W2 := ww.1.2.1
  have n1 : (tz_j n < tz_j 1) = False := nj_ltf (by omega) (by omega)
  have n2 : (tz_j n ≤ tz_j 500) = True := nj_let (by omega) (by omega)
  have k1 := x_cw (b := 30) (p := 200) h30 c.1.1 W W2 (by omega)
  obtain ⟨A2, f2, r2, g2⟩ := x_pass (n := n) h30 (show N + n ≤ 2000000 by omega) c.1 ww.1
  obtain ⟨Hn, Hn3, Hnk⟩ := n_G n S ww.1
  have k2 := x_cw (b := 30) (p := 200) h30 r2.1 Hn.1 Hn.2.1 (by omega)
  refine co_sky c ww ⟨A2, ?_, r2, fx_mo (fx_fr g2) (fun k i h => by unfold rx_p at h; unfold th_p; omega)⟩
  rw [e_X11_hours]
  simp only [tz_lit, nj_m1, nj_m2, nj_m3, nj_m4, nj_m5, nj_m6, nj_m7, ↓reduceIte, tz_bI_some, tz_bV_some, tz_bL_some, cj10, cj01, cjm0, eq_self, not_true_eq_false, not_false_eq_true, or_false, false_or, or_true, true_or, or_self, and_true, true_and, and_false, false_and, n1, n2, k1, f2, k2]
theorem wx_hours {N n : Nat} {S K : tz_S} {U : tz_U} (w : WX N S K U) : WX (N + n) (sp_n n S) K U := by
  obtain ⟨Hn, Hn3, Hnk⟩ := n_G n S w.1
  exact wx_sky w (by omega) Hn ⟨by rw [Hnk 0 6 (by unfold sp_kp; omega) (by omega)]; exact w.2.1.1, by rw [Hnk 200 0 (by unfold sp_kp; omega) (by omega)]; exact w.2.1.2⟩ (by rw [Hnk 1 0 (by unfold sp_kp; omega) (by omega)]; exact Nat.le_refl _)
theorem wx_to {N M : Nat} {S K : tz_S} {U : tz_U} (w : WX N S K U) (h1 : S 0 3 ≤ M) (h2 : K 0 3 ≤ M) : WX M S K U := ⟨⟨w.1.1, w.1.2.1, w.1.2.2.1, h1, w.1.2.2.2.2⟩, w.2.1, ⟨w.2.2.1.1, w.2.2.1.2.1, w.2.2.1.2.2.1, h2, w.2.2.1.2.2.2.2⟩, w.2.2.2.1, w.2.2.2.2⟩
theorem c_hours0 {S K : tz_S} {U : tz_U} {V : tz_V} {A : tz_Mem} (c : CX S K U V A) : CO S K (ur U 6) V (tz_j 4294967290) (f_X11_hours (tz_j 0) A) A := by
  have n1 : (tz_j 0 < tz_j 1) = True := nj_ltt (by omega) (by omega)
  refine co_ref 6 (by omega) c ?_
  rw [e_X11_hours]
  simp only [tz_lit, nj_m1, nj_m2, nj_m3, nj_m4, nj_m5, nj_m6, nj_m7, ↓reduceIte, tz_bI_some, tz_bV_some, tz_bL_some, cj10, cj01, cjm0, eq_self, not_true_eq_false, not_false_eq_true, or_false, false_or, or_true, true_or, or_self, and_true, true_and, and_false, false_and, n1, x_ref1, x_ref2, x_ref3, x_ref4, x_ref5, x_ref6, x_ref7, e_X11_refuseLower]
theorem c_hours501 {S K : tz_S} {U : tz_U} {V : tz_V} {A : tz_Mem} (c : CX S K U V A) : CO S K (ur U 6) V (tz_j 4294967290) (f_X11_hours (tz_j 501) A) A := by
  have n1 : (tz_j 501 < tz_j 1) = False := nj_ltf (by omega) (by omega)
  have n2 : (tz_j 501 ≤ tz_j 500) = False := nj_lef (by omega) (by omega)
  refine co_ref 6 (by omega) c ?_
  rw [e_X11_hours]
  simp only [tz_lit, nj_m1, nj_m2, nj_m3, nj_m4, nj_m5, nj_m6, nj_m7, ↓reduceIte, tz_bI_some, tz_bV_some, tz_bL_some, cj10, cj01, cjm0, eq_self, not_true_eq_false, not_false_eq_true, or_false, false_or, or_true, true_or, or_self, and_true, true_and, and_false, false_and, n1, n2, x_ref1, x_ref2, x_ref3, x_ref4, x_ref5, x_ref6, x_ref7, e_X11_refuseLower]
theorem c_dry {N v : Nat} {S K : tz_S} {U : tz_U} {V : tz_V} {A : tz_Mem} (c : CX S K U V A) (ww : WX N S K U) (hv : v < 101) : CO (tz_t S 0 4 v) K U V (tz_j (S 0 4)) (f_X11_dry (tz_j v) A) A := by
  have q : tz_g A 30 4 = tz_j (S 0 4) := cx_0_4 c.1.1
  refine co_sky c ww ⟨tz_s A 30 4 (tz_j v), ?_, rx_s (b := 30) (k := 0) (Or.inl rfl) (by omega) (by omega) (by omega) (by omega) (by omega) (by omega) (by omega) (by omega) (by omega) c.1, fx_s fx_rfl (Or.inl (by omega))⟩
  rw [e_X11_dry]
  simp (disch := omega) only [tz_lit, nj_m1, ↓reduceIte, nj_cl, nj_ltt, nj_ltf, nj_let, nj_lef, nj_eqf, nj_lt, nj_le, nj_eq, nj_add, nj_mul, nj_modx, nj_and7, nj_div, tz_bI_some, tz_bV_some, or_false, false_or, or_self, and_false, false_and, and_true, true_and, not_true_eq_false, not_false_eq_true, nt_lef, nt_let, nt_ltf, nt_ltt, nt_eqf, nj_m2, nj_m3, nj_m4, nj_m5, nj_m6, nj_m7, tz_bL_some, nj_sub, ng_ltt, ng_let, ng_gtf, ng_gef, q]
theorem wx_dry {N v : Nat} {S K : tz_S} {U : tz_U} (w : WX N S K U) (hv : v < 101) : WX N (tz_t S 0 4 v) K U := wx_sky w (Nat.le_refl _) (H_0i w.1 (Or.inl ⟨rfl, by omega⟩)) ⟨w.2.1.1, w.2.1.2⟩ (Nat.le_refl _)
theorem c_dry101 {S K : tz_S} {U : tz_U} {V : tz_V} {A : tz_Mem} (c : CX S K U V A) : CO S K (ur U 6) V (tz_j 4294967290) (f_X11_dry (tz_j 101) A) A := by
  refine co_ref 6 (by omega) c ?_
  rw [e_X11_dry]
  simp (disch := omega) only [tz_lit, nj_m1, ↓reduceIte, nj_cl, nj_ltt, nj_ltf, nj_let, nj_lef, nj_eqf, nj_lt, nj_le, nj_eq, nj_add, nj_mul, nj_modx, nj_and7, nj_div, tz_bI_some, tz_bV_some, or_false, false_or, or_self, and_false, false_and, and_true, true_and, not_true_eq_false, not_false_eq_true, nt_lef, nt_let, nt_ltf, nt_ltt, nt_eqf, nj_m2, nj_m3, nj_m4, nj_m5, nj_m6, nj_m7, tz_bL_some, nj_sub, ng_ltt, ng_let, ng_gtf, ng_gef, x_ref1, x_ref2, x_ref3, x_ref4, x_ref5, x_ref6, x_ref7, e_X11_refuseLower]
theorem c_seed {N : Nat} {x : Int32} {S K : tz_S} {U : tz_U} {V : tz_V} {A : tz_Mem} (c : CX S K U V A) (ww : WX N S K U) : ∃ v, v < 4294967296 ∧ x = tz_j v ∧ CO (tz_t S 0 5 v) K U V (tz_j (S 0 5)) (f_X11_seed x A) A ∧ WX N (tz_t S 0 5 v) K U := by
  have q : tz_g A 30 5 = tz_j (S 0 5) := cx_0_5 c.1.1
  obtain ⟨v, hv, rfl⟩ := nj_any x
  refine ⟨v, hv, rfl, co_sky c ww ⟨tz_s A 30 5 (tz_j v), ?_, rx_s (b := 30) (k := 0) (Or.inl rfl) (by omega) (by omega) (by omega) (by omega) (by omega) (by omega) (by omega) (by omega) (by omega) c.1, fx_s fx_rfl (Or.inl (by omega))⟩, wx_sky ww (Nat.le_refl _) (H_0i ww.1 (Or.inr ⟨rfl, by omega⟩)) ⟨ww.2.1.1, ww.2.1.2⟩ (Nat.le_refl _)⟩
  rw [e_X11_seed, q]
theorem c_drought {N n : Nat} {S K : tz_S} {U : tz_U} {V : tz_V} {A : tz_Mem} (c : CX S K U V A) (ww : WX N S K U) (hN : N ≤ 1100000) (h1 : 1 ≤ n) (hn : n ≤ 200) : CO (sp_dg n 0 S).2 K U V (tz_j (sp_dg n 0 S).1) (f_X11_drought (tz_j n) A) A ∧ WX (N + n) (sp_dg n 0 S).2 K U := by
  obtain ⟨A1, f1, r1, g1⟩ := x_dg (n := n) h30 rfl (by omega) n 0 0 N S A (by omega) (by omega) c.1 ww.1
  obtain ⟨gH, gc, gk⟩ := dg_G n 0 S ww.1
  have k1 := gk 1 0 (by unfold sp_kd sp_kp; omega)
  refine ⟨co_sky c ww ⟨A1, ?_, r1, fx_mo (fx_fr g1) (fun k i h => by unfold rx_p at h; unfold th_p; omega)⟩, wx_sky ww (by omega) gH ⟨(gk 0 6 (by unfold sp_kd sp_kp; omega)).trans ww.2.1.1, (gk 200 0 (by unfold sp_kd sp_kp; omega)).trans ww.2.1.2⟩ (Nat.le_of_eq k1.symm)⟩
  rw [e_X11_drought]
  simp (disch := omega) only [tz_lit, nj_m1, nj_m2, nj_m3, nj_m4, nj_m5, nj_m6, nj_m7, ↓reduceIte, tz_bI_some, tz_bV_some, tz_bL_some, cj10, cj01, cjm0, eq_self, not_true_eq_false, not_false_eq_true, or_false, false_or, or_true, true_or, or_self, and_true, true_and, and_false, false_and, nj_eqf, nj_ltt, nj_ltf, nj_let, nj_lef, nj_cl, nt_lef, ng_ltt, ng_let, ng_gtf, ng_gef, f1]
theorem c_drought201 {S K : tz_S} {U : tz_U} {V : tz_V} {A : tz_Mem} (c : CX S K U V A) : CO S K (ur U 6) V (tz_j 4294967290) (f_X11_drought (tz_j 201) A) A := by
  refine co_ref 6 (by omega) c ?_
  rw [e_X11_drought]
  simp (disch := omega) only [tz_lit, nj_m1, ↓reduceIte, nj_cl, nj_ltt, nj_ltf, nj_let, nj_lef, nj_eqf, nj_lt, nj_le, nj_eq, nj_add, nj_mul, nj_modx, nj_and7, nj_div, tz_bI_some, tz_bV_some, or_false, false_or, or_self, and_false, false_and, and_true, true_and, not_true_eq_false, not_false_eq_true, nt_lef, nt_let, nt_ltf, nt_ltt, nt_eqf, nj_m2, nj_m3, nj_m4, nj_m5, nj_m6, nj_m7, tz_bL_some, nj_sub, ng_ltt, ng_let, ng_gtf, ng_gef, x_ref1, x_ref2, x_ref3, x_ref4, x_ref5, x_ref6, x_ref7, e_X11_refuseLower]
/-! the image -/
theorem c_image {N : Nat} {S K : tz_S} {U : tz_U} {V : tz_V} {A : tz_Mem} (c : CX S K U V A) (ww : WX N S K U) : CO S S (tz_u U 3 1 (tz_j 1)) V (tz_j (S 1 0)) (f_X11_image A) A ∧ WX N S S (tz_u U 3 1 (tz_j 1)) := by
  have W := ww.1.1
  have h8 := W.1
  obtain ⟨A1, f1, r1, g1⟩ := x_bec2 h53 h30 (by omega) W ww.2.1 c.1
  have ff : tz_fx im_p A (tz_s A1 17 12 (tz_j 1)) := fx_s (fx_mo g1 (fun k i h => Or.inl h)) (Or.inr ⟨rfl, rfl⟩)
  have e : ∀ k i, ¬ (53 ≤ k ∧ k < 76) → (k ≠ 17 ∨ i ≠ 12) → tz_g (tz_s A1 17 12 (tz_j 1)) k i = tz_g A k i := fun k i h1 h2 => ff.2.2.1 k i (by unfold im_p bc_p; omega)
  have gl : ∀ k i, tz_gl (tz_s A1 17 12 (tz_j 1)) k i = tz_gl A k i := fun k i => by
    show A1.2.2.1 k i = A.2.2.1 k i
    rw [g1.2.1]
  have q31 : tz_g (tz_s A1 17 12 (tz_j 1)) 31 0 = tz_j (S 1 0) := (e 31 0 (by omega) (by omega)).trans (cz_1 c.1.1)
  have u0 : ∀ s, tz_u U 3 1 (tz_j 1) 0 s = U 0 s := fun s => tz_uk (by omega)
  have u1 : ∀ s, tz_u U 3 1 (tz_j 1) 1 s = U 1 s := fun s => tz_uk (by omega)
  have u2 : ∀ s, tz_u U 3 1 (tz_j 1) 2 s = U 2 s := fun s => tz_uk (by omega)
  have u3 : tz_u U 3 1 (tz_j 1) 3 0 = U 3 0 := tz_ui (by omega)
  have u4 : tz_u U 3 1 (tz_j 1) 4 0 = U 4 0 := tz_uk (by omega)
  have u5 : ∀ s, tz_u U 3 1 (tz_j 1) 5 s = U 5 s := fun s => tz_uk (by omega)
  refine ⟨⟨tz_s A1 17 12 (tz_j 1), ?_, ⟨rx_mv c.1 (fun k i h1 h2 => e k i (by omega) (by omega)) (ff.2.2.2 30 7 (fun q => by have := q.1; unfold im_p bc_p at this; omega)) (Or.inl ww.2.1.2), fun _ => rx_mv r1 (fun k i h1 h2 => tz_gsk (by omega)) rfl (Or.inl ww.2.1.2), ⟨fun s hs => ?_, fun i hi => ?_, ?_, ?_, ?_, fun i hi => ?_⟩, fx_con ff c.2.2.2⟩, cf_fx ff (fun k i h => by unfold im_p bc_p at h; omega)⟩, ⟨ww.1, ww.2.1, ww.1, ww.2.1, fun s hs => ?_, Or.inr tz_u1, ?_⟩⟩
  · rw [e_X11_image]
    simp only [tz_lit, nj_m1, nj_m2, nj_m3, nj_m4, nj_m5, nj_m6, nj_m7, ↓reduceIte, tz_bI_some, tz_bV_some, tz_bL_some, cj10, cj01, cjm0, eq_self, not_true_eq_false, not_false_eq_true, or_false, false_or, or_true, true_or, or_self, and_true, true_and, and_false, false_and, f1, q31]
  · obtain ⟨a, b, d⟩ := c.2.2.1.1 s hs
    rw [e _ _ (by omega) (by omega), e _ _ (by omega) (by omega), u0, u1]
    refine ⟨a, b, fun i hi => ?_⟩
    rw [gl]
    exact d i hi
  · rw [e _ _ (by omega) (by omega), u2]
    exact c.2.2.1.2.1 i hi
  · rw [e _ _ (by omega) (by omega), u3]
    exact c.2.2.1.2.2.1
  · rw [tz_gs1, tz_u1]
  · rw [e _ _ (by omega) (by omega), u4]
    exact c.2.2.1.2.2.2.2.1
  · rw [e _ _ (by omega) (by omega), u5]
    exact c.2.2.1.2.2.2.2.2 i hi
  · rw [u0, u1]
    exact ww.2.2.2.2.1 s hs
  · rw [u4]
    exact ww.2.2.2.2.2.2
theorem c_restore6 {S K : tz_S} {U : tz_U} {V : tz_V} {A : tz_Mem} (c : CX S K U V A) (z : U 3 1 = tz_j 0) : CO S K (ur U 6) V (tz_j 4294967290) (f_X11_restore A) A := by
  have q : tz_g A 17 12 = tz_j 0 := c.2.2.1.2.2.2.1.trans z
  refine co_ref 6 (by omega) c ?_
  rw [e_X11_restore]
  simp only [tz_lit, nj_m1, nj_m2, nj_m3, nj_m4, nj_m5, nj_m6, nj_m7, ↓reduceIte, tz_bI_some, tz_bV_some, tz_bL_some, cj10, cj01, cjm0, eq_self, not_true_eq_false, not_false_eq_true, or_false, false_or, or_true, true_or, or_self, and_true, true_and, and_false, false_and, q, x_ref1, x_ref2, x_ref3, x_ref4, x_ref5, x_ref6, x_ref7, e_X11_refuseLower]
theorem c_restore {N : Nat} {S K : tz_S} {U : tz_U} {V : tz_V} {A : tz_Mem} (c : CX S K U V A) (ww : WX N S K U) (z : U 3 1 = tz_j 1) : CO K K (dr_u (K 1 0) U) V (tz_j (K 1 0)) (f_X11_restore A) A ∧ WX N K K (dr_u (K 1 0) U) := by
  have W := ww.1.1
  have h8 := W.1
  have k8 := ww.2.2.1.1.1
  have WK := ww.2.2.1.1
  have kst := ww.2.2.2.1
  have q : tz_g A 17 12 = tz_j 1 := c.2.2.1.2.2.2.1.trans z
  obtain ⟨A1, f1, r1, g1⟩ := x_bec2 h30 h53 (by omega) WK kst (c.2.1 z)
  have q31 : tz_g A1 31 0 = tz_j (K 1 0) := cz_1 r1.1
  obtain ⟨A2, f2, l2, d1, d2, d3⟩ := x_drop (n := K 1 0) 8 0 A1 (by omega)
  have q32 : tz_g A2 31 0 = tz_j (K 1 0) := (d3 _ _ (by omega)).trans q31
  have f3 : f_X8_dropHillsFrom (tz_j (K 1 0)) A1 = some (none, A2) := by
    rw [e_X8_dropHillsFrom]
    exact f2
  have e : ∀ k i, ¬ (30 ≤ k ∧ k < 53) → k ≠ 19 → tz_g A2 k i = tz_g A k i := fun k i h1 h2 => (d3 k i (by omega)).trans (g1.2.2.1 k i (by unfold bc_p; omega))
  have gl : ∀ k i, tz_gl A2 k i = tz_gl A k i := fun k i => by
    show A2.2.2.1 k i = A.2.2.1 k i
    rw [d2, g1.2.1]
  have gr : ∀ k i, tz_gr A2 k i = tz_gr A1 k i := fun k i => by
    show A2.2.2.2 k i = A1.2.2.2 k i
    rw [d2]
  have ff : tz_fx bi_p A A2 := ⟨d1.trans g1.1, by rw [d2]; exact g1.2.1, fun k i h => e k i (by unfold bi_p bc_p at h; omega) (by unfold bi_p bc_p at h; omega), fun k i h => (gr k i).trans (g1.2.2.2 k i (fun y => h ⟨Or.inl y.1, y.2⟩))⟩
  refine ⟨⟨A2, ?_, ⟨rx_mv r1 (fun k i h1 h2 => d3 k i (by omega)) (gr _ _) (Or.inl kst.2), fun _ => rx_mv (c.2.1 z) (fun k i h1 h2 => e k i (by omega) (by omega)) ((gr _ _).trans (g1.2.2.2 53 7 (fun y => by have := y.1; unfold bc_p at this; omega))) (Or.inl kst.2), ⟨fun s hs => ?_, fun i hi => ?_, ?_, ?_, ?_, fun i hi => ?_⟩, fx_con ff c.2.2.2⟩, cf_fx ff (fun k i h => by unfold bi_p bc_p at h; omega)⟩, ⟨ww.2.2.1, kst, ww.2.2.1, kst, fun s hs => ?_, ww.2.2.2.2.2.1, ww.2.2.2.2.2.2⟩⟩
  · rw [e_X11_restore]
    simp only [tz_lit, nj_m1, nj_m2, nj_m3, nj_m4, nj_m5, nj_m6, nj_m7, ↓reduceIte, tz_bI_some, tz_bV_some, tz_bL_some, cj10, cj01, cjm0, eq_self, not_true_eq_false, not_false_eq_true, or_false, false_or, or_true, true_or, or_self, and_true, true_and, and_false, false_and, q, f1, q31, f3, q32]
  · obtain ⟨a, b, d⟩ := c.2.2.1.1 s hs
    refine ⟨?_, ?_, fun i hi => ?_⟩
    · rw [l2 s (by omega) hs, g1.2.2.1 _ _ (by unfold bc_p; omega), a]
      rfl
    · rw [e _ _ (by omega) (by omega)]
      exact b
    · rw [gl]
      exact d i hi
  · rw [e _ _ (by omega) (by omega)]
    exact c.2.2.1.2.1 i hi
  · rw [e _ _ (by omega) (by omega)]
    exact c.2.2.1.2.2.1
  · rw [e _ _ (by omega) (by omega)]
    exact c.2.2.1.2.2.2.1
  · rw [e _ _ (by omega) (by omega)]
    exact c.2.2.1.2.2.2.2.1
  · rw [e _ _ (by omega) (by omega)]
    exact c.2.2.1.2.2.2.2.2 i hi
  · exact ⟨sh_d_wu h8 k8 (ww.2.2.2.2.1 s hs).1, (ww.2.2.2.2.1 s hs).2⟩
