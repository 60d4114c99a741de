/-! what all asking tells is the same wherever the sky is the same -/
def TIv (S : tz_S) (F : tz_Mem → tz_X) (v : Int32) : Prop := ∀ K U V A, CX S K U V A → WX 1000 S K U → CO S K U V v (F A) A
def CL (S K : tz_S) (U : tz_U) (V : tz_V) (v : Int64) (X : tz_X) (A : tz_Mem) : Prop := ∃ A', X = some (some (.long v), A') ∧ CX S K U V A' ∧ cf A A'
def TJ (S : tz_S) (F : tz_Mem → tz_X) : Prop := ∃ v, ∀ K U V A, CX S K U V A → WX 1000 S K U → CL S K U V v (F A) A
theorem ti_u {S : tz_S} {F : tz_Mem → tz_X} {P : Int32 → Prop} (hP : ∀ v w, P v → P w → v = w) (h : ∀ K U V A, CX S K U V A → WX 1000 S K U → ∃ v, P v ∧ CO S K U V v (F A) A) : ∃ v, TIv S F v := by
  by_cases z : ∃ v, P v
  · obtain ⟨v, p⟩ := z
    refine ⟨v, fun K U V A c w => ?_⟩
    obtain ⟨v2, p2, o⟩ := h K U V A c w
    rw [hP v v2 p p2]
    exact o
  · exact ⟨tz_j 0, fun K U V A c w => absurd (by obtain ⟨v, p, _⟩ := h K U V A c w; exact ⟨v, p⟩) z⟩
theorem tj_bv {S : tz_S} {F : tz_Mem → tz_X} {H : Int32 → tz_Mem → tz_X} {v : Int32} (h1 : TIv S F v) (h2 : TJ S (H v)) : TJ S (fun A => tz_bI (F A) H) := by
  obtain ⟨w, h⟩ := h2
  refine ⟨w, fun K U V A c ww => ?_⟩
  obtain ⟨A1, e, c1, f1⟩ := h1 K U V A c ww
  obtain ⟨A2, e2, c2, f2⟩ := h K U V A1 c1 ww
  refine ⟨A2, ?_, c2, cf_tr f1 f2⟩
  show tz_bI (F A) H = _
  rw [e, tz_bI_some]
  exact e2
theorem tj_bI {S : tz_S} {F : tz_Mem → tz_X} {H : Int32 → tz_Mem → tz_X} (h1 : ∃ v, TIv S F v) (h2 : ∀ v, TJ S (H v)) : TJ S (fun A => tz_bI (F A) H) := by
  obtain ⟨v, h⟩ := h1
  exact tj_bv h (h2 v)
theorem tj_eq {S : tz_S} {F G : tz_Mem → tz_X} (h : ∀ A, F A = G A) (g : TJ S G) : TJ S F := by
  rw [show F = G from funext h]
  exact g
theorem tj_end {S : tz_S} {v : Int64} : TJ S (fun A => some (some (.long v), A)) := ⟨v, fun K U V A c _ => ⟨A, rfl, c, cf_rfl⟩⟩
theorem tv_status {S : tz_S} {u : Nat} (hu : u < 9) : TIv S (f_X11_status (tz_j u)) (tz_j (st_v S u)) := fun _ _ _ _ c ww => c_status c ww (by omega) hu
theorem tv_heardn {S : tz_S} {h : Nat} (hh : h < S 1 0) : TIv S (f_X11_heard (tz_j h) (tz_j 4294967295)) (tz_j (sp_kept S h)) := fun _ _ _ _ c ww => c_heardn c ww (by omega) hh
theorem ti_hillOf {S : tz_S} {h u : Nat} (hh : h < S 1 0) (hu : u < 4) : ∃ v, TIv S (f_X11_hillOf (tz_j h) (tz_j u)) v := ti_u (fun _ _ => hl_u hu) (fun _ _ _ _ c ww => c_hillOf c ww hh hu)
theorem ti_heardi {S : tz_S} {h i : Nat} (hh : h < S 1 0) (hi : i < sp_kept S h) : ∃ v, TIv S (f_X11_heard (tz_j h) (tz_j i)) v := ⟨_, fun _ _ _ _ c ww => c_heardi c ww (by omega) hh hi⟩
theorem ti_reach {S : tz_S} {h v : Nat} (W : sp_W1 S) (hh : h < S 1 0) (h1 : 1 ≤ v) (hv : v ≤ 99) : ∃ y, TIv S (f_X11_reach (tz_j h) (tz_j v)) y := ti_u (fun _ _ p q => rc_Pe W hh (Nat.le_refl _) (Nat.le_refl _) p q) (fun _ _ _ _ c ww => c_reach c ww hh h1 hv)
theorem ti_stormOf {S : tz_S} {t u : Nat} (ht : t < S 7 0) (hu : u < 5) : ∃ v, TIv S (f_X11_stormOf (tz_j t) (tz_j u)) v := ti_u (fun _ _ => sm_u hu) (fun _ _ _ _ c ww => c_stormOf c ww ht hu)
theorem ti_letterOf {S : tz_S} {l u : Nat} (hl : l < S 15 0) (hu : u < 6) : ∃ v, TIv S (f_X11_letterOf (tz_j l) (tz_j u)) v := ⟨_, fun _ _ _ _ c ww => c_letterOf c ww hl hu⟩
theorem ti_arrives {S : tz_S} {l : Nat} (hl : l < S 15 0) : ∃ v, TIv S (f_X11_arrives (tz_j l)) v := ⟨_, fun _ _ _ _ c ww => c_arrives c ww (by omega) hl⟩
theorem ti_needs {S : tz_S} {l : Nat} (hl : l < S 15 0) : ∃ v, TIv S (f_X11_needs (tz_j l) (tz_j 0)) v := ⟨_, fun _ _ _ _ c ww => c_needs c ww (by omega) hl⟩
theorem ti_behind {S : tz_S} {l n u : Nat} (hl : l < S 15 0) (hn : n ≤ 500) (hu : u < 2) : ∃ v, TIv S (f_X11_behind (tz_j l) (tz_j n) (tz_j u)) v := ⟨_, fun _ _ _ _ c ww => c_behind c ww (by omega) hl hn hu⟩
theorem ti_postage {S : tz_S} : ∃ v, TIv S f_X11_postage v := ⟨_, fun _ _ _ _ c ww => c_postage c ww (by omega)⟩
theorem ti_loudest {S : tz_S} (z : ¬ S 1 0 = 0) : ∃ v, TIv S (f_X11_loudest (tz_j 40) (tz_j 0)) v := ⟨_, fun _ _ _ _ c ww => c_loudest c ww (by omega) z⟩
theorem ti_firstHeard {S : tz_S} : ∃ v, TIv S (f_X11_firstHeard (tz_j 7) (tz_j 1)) v := ⟨_, fun _ _ _ _ c ww => c_firstHeard c ww (by omega)⟩
/-! the rows of the telling, from behind -/
theorem t_217 {S : tz_S} (W : sp_W1 S) {l : Nat} (hl : l < S 15 0) (ih : ∀ z1, TJ S (q_L_told_207 z1 (tz_j (S 1 0)) (tz_j (S 15 0)) (tz_j (l + 1)))) : ∀ j u z1, u + j = 6 → TJ S (q_L_told_217 z1 (tz_j (S 1 0)) (tz_j (S 15 0)) (tz_j l) (tz_j u)) := by
  intro j
  induction j with
  | zero =>
    intro u z1 hu
    obtain rfl : u = 6 := by omega
    refine tj_eq (G := fun A => tz_bI (f_X11_arrives (tz_j l) A) (fun y1 A1 => tz_bI (f_X11_needs (tz_j l) (tz_j 0) A1) (fun y2 A2 => tz_bI (f_X11_behind (tz_j l) (tz_j 17) (tz_j 0) A2) (fun y3 A3 => q_L_told_207 ((((31 * z1) + (Int32.toInt64 y1)) + (Int32.toInt64 (3 * y2))) + (Int32.toInt64 (5 * y3))) (tz_j (S 1 0)) (tz_j (S 15 0)) (tz_j (l + 1)) A3)))) (fun A => ?_) ?_
    · rw [e_L_told_217]
      simp (disch := omega) only [tz_lit, nj_m1, ↓reduceIte, nj_cl, nj_ltt, nj_ltf, nj_let, nj_lef, nj_eqf, nj_lt, nj_le, nj_eq, nj_add, nj_mul, nj_modx, nj_and7, nj_div, tz_bI_some, tz_bV_some, or_false, false_or, or_self, and_false, false_and, and_true, true_and, not_true_eq_false, not_false_eq_true, nt_lef, nt_let, nt_ltf, nt_ltt, nt_eqf, nj_m2, nj_m3, nj_m4, nj_m5, nj_m6, nj_m7, tz_bL_some, nj_sub, ng_ltt, ng_let, ng_gtf, ng_gef]
    · exact tj_bI (ti_arrives hl) (fun y1 => tj_bI (ti_needs hl) (fun y2 => tj_bI (ti_behind hl (by omega) (by omega)) (fun y3 => ih _)))
  | succ j jh =>
    intro u z1 hu
    refine tj_eq (G := fun A => tz_bI (f_X11_letterOf (tz_j l) (tz_j u) A) (fun y1 A1 => q_L_told_217 ((31 * z1) + (Int32.toInt64 y1)) (tz_j (S 1 0)) (tz_j (S 15 0)) (tz_j l) (tz_j (u + 1)) A1)) (fun A => ?_) ?_
    · rw [e_L_told_217]
      simp (disch := omega) only [tz_lit, nj_m1, ↓reduceIte, nj_cl, nj_ltt, nj_ltf, nj_let, nj_lef, nj_eqf, nj_lt, nj_le, nj_eq, nj_add, nj_mul, nj_modx, nj_and7, nj_div, tz_bI_some, tz_bV_some, or_false, false_or, or_self, and_false, false_and, and_true, true_and, not_true_eq_false, not_false_eq_true, nt_lef, nt_let, nt_ltf, nt_ltt, nt_eqf, nj_m2, nj_m3, nj_m4, nj_m5, nj_m6, nj_m7, tz_bL_some, nj_sub, ng_ltt, ng_let, ng_gtf, ng_gef]
    · exact tj_bI (ti_letterOf hl (by omega)) (fun y1 => jh _ _ (by omega))
theorem t_207 {S : tz_S} (W : sp_W1 S) : ∀ k l z1, l + k = S 15 0 → TJ S (q_L_told_207 z1 (tz_j (S 1 0)) (tz_j (S 15 0)) (tz_j l)) := by
  have h8 := W.1
  have h12 := W.2.2.1
  intro k
  induction k with
  | zero =>
    intro l z1 hl
    obtain rfl : l = S 15 0 := by omega
    by_cases z : S 1 0 = 0
    · refine tj_eq (G := fun A => tz_bI (f_X11_postage A) (fun y1 A1 => tz_bI (f_X11_firstHeard (tz_j 7) (tz_j 1) A1) (fun y2 A2 => some (some (.long ((((31 * z1) + (Int32.toInt64 y1)) + (Int32.toInt64 (tz_j (3 * 0)))) + (Int32.toInt64 (5 * y2)))), A2)))) (fun A => ?_) ?_
      · rw [e_L_told_207]
        simp (disch := omega) only [tz_lit, nj_m1, ↓reduceIte, nj_cl, nj_ltt, nj_ltf, nj_let, nj_lef, nj_eqf, nj_lt, nj_le, nj_eq, nj_add, nj_mul, nj_modx, nj_and7, nj_div, tz_bI_some, tz_bV_some, or_false, false_or, or_self, and_false, false_and, and_true, true_and, not_true_eq_false, not_false_eq_true, nt_lef, nt_let, nt_ltf, nt_ltt, nt_eqf, nj_m2, nj_m3, nj_m4, nj_m5, nj_m6, nj_m7, tz_bL_some, nj_sub, ng_ltt, ng_let, ng_gtf, ng_gef, z]
      · exact tj_bI ti_postage (fun y1 => tj_bI ti_firstHeard (fun y2 => tj_end))
    · refine tj_eq (G := fun A => tz_bI (f_X11_postage A) (fun y1 A1 => tz_bI (f_X11_loudest (tz_j 40) (tz_j 0) A1) (fun y2 A2 => tz_bI (f_X11_firstHeard (tz_j 7) (tz_j 1) A2) (fun y3 A3 => some (some (.long ((((31 * z1) + (Int32.toInt64 y1)) + (Int32.toInt64 (3 * y2))) + (Int32.toInt64 (5 * y3)))), A3))))) (fun A => ?_) ?_
      · rw [e_L_told_207]
        simp (disch := omega) only [tz_lit, nj_m1, ↓reduceIte, nj_cl, nj_ltt, nj_ltf, nj_let, nj_lef, nj_eqf, nj_lt, nj_le, nj_eq, nj_add, nj_mul, nj_modx, nj_and7, nj_div, tz_bI_some, tz_bV_some, or_false, false_or, or_self, and_false, false_and, and_true, true_and, not_true_eq_false, not_false_eq_true, nt_lef, nt_let, nt_ltf, nt_ltt, nt_eqf, nj_m2, nj_m3, nj_m4, nj_m5, nj_m6, nj_m7, tz_bL_some, nj_sub, ng_ltt, ng_let, ng_gtf, ng_gef]
      · exact tj_bI ti_postage (fun y1 => tj_bI (ti_loudest z) (fun y2 => tj_bI ti_firstHeard (fun y3 => tj_end)))
  | succ k ih =>
    intro l z1 hl
    refine tj_eq (G := q_L_told_217 z1 (tz_j (S 1 0)) (tz_j (S 15 0)) (tz_j l) (tz_j 0)) (fun A => ?_) (t_217 W (by omega) (fun z => ih _ z (by omega)) 6 0 z1 (by omega))
    rw [e_L_told_207]
    simp (disch := omega) only [tz_lit, nj_m1, ↓reduceIte, nj_cl, nj_ltt, nj_ltf, nj_let, nj_lef, nj_eqf, nj_lt, nj_le, nj_eq, nj_add, nj_mul, nj_modx, nj_and7, nj_div, tz_bI_some, tz_bV_some, or_false, false_or, or_self, and_false, false_and, and_true, true_and, not_true_eq_false, not_false_eq_true, nt_lef, nt_let, nt_ltf, nt_ltt, nt_eqf, nj_m2, nj_m3, nj_m4, nj_m5, nj_m6, nj_m7, tz_bL_some, nj_sub, ng_ltt, ng_let, ng_gtf, ng_gef]
theorem t_170 {S : tz_S} (W : sp_W1 S) {t : Nat} (ht : t < S 7 0) (ih : ∀ z1, TJ S (q_L_told_160 z1 (tz_j (S 1 0)) (tz_j (S 7 0)) (tz_j (S 15 0)) (tz_j (t + 1)))) : ∀ j u z1, u + j = 5 → TJ S (q_L_told_170 z1 (tz_j (S 1 0)) (tz_j (S 7 0)) (tz_j (S 15 0)) (tz_j t) (tz_j u)) := by
  intro j
  induction j with
  | zero =>
    intro u z1 hu
    obtain rfl : u = 5 := by omega
    refine tj_eq (fun A => ?_) (ih z1)
    rw [e_L_told_170]
    simp (disch := omega) only [tz_lit, nj_m1, ↓reduceIte, nj_cl, nj_ltt, nj_ltf, nj_let, nj_lef, nj_eqf, nj_lt, nj_le, nj_eq, nj_add, nj_mul, nj_modx, nj_and7, nj_div, tz_bI_some, tz_bV_some, or_false, false_or, or_self, and_false, false_and, and_true, true_and, not_true_eq_false, not_false_eq_true, nt_lef, nt_let, nt_ltf, nt_ltt, nt_eqf, nj_m2, nj_m3, nj_m4, nj_m5, nj_m6, nj_m7, tz_bL_some, nj_sub, ng_ltt, ng_let, ng_gtf, ng_gef]
  | succ j jh =>
    intro u z1 hu
    refine tj_eq (G := fun A => tz_bI (f_X11_stormOf (tz_j t) (tz_j u) A) (fun y1 A1 => q_L_told_170 ((31 * z1) + (Int32.toInt64 y1)) (tz_j (S 1 0)) (tz_j (S 7 0)) (tz_j (S 15 0)) (tz_j t) (tz_j (u + 1)) A1)) (fun A => ?_) ?_
    · rw [e_L_told_170]
      simp (disch := omega) only [tz_lit, nj_m1, ↓reduceIte, nj_cl, nj_ltt, nj_ltf, nj_let, nj_lef, nj_eqf, nj_lt, nj_le, nj_eq, nj_add, nj_mul, nj_modx, nj_and7, nj_div, tz_bI_some, tz_bV_some, or_false, false_or, or_self, and_false, false_and, and_true, true_and, not_true_eq_false, not_false_eq_true, nt_lef, nt_let, nt_ltf, nt_ltt, nt_eqf, nj_m2, nj_m3, nj_m4, nj_m5, nj_m6, nj_m7, tz_bL_some, nj_sub, ng_ltt, ng_let, ng_gtf, ng_gef]
    · exact tj_bI (ti_stormOf ht (by omega)) (fun y1 => jh _ _ (by omega))
theorem t_160 {S : tz_S} (W : sp_W1 S) : ∀ k t z1, t + k = S 7 0 → TJ S (q_L_told_160 z1 (tz_j (S 1 0)) (tz_j (S 7 0)) (tz_j (S 15 0)) (tz_j t)) := by
  have h4 := W.2.1
  intro k
  induction k with
  | zero =>
    intro t z1 ht
    obtain rfl : t = S 7 0 := by omega
    refine tj_eq (fun A => ?_) (t_207 W (S 15 0) 0 z1 (Nat.zero_add _))
    rw [e_L_told_160]
    simp (disch := omega) only [tz_lit, nj_m1, ↓reduceIte, nj_cl, nj_ltt, nj_ltf, nj_let, nj_lef, nj_eqf, nj_lt, nj_le, nj_eq, nj_add, nj_mul, nj_modx, nj_and7, nj_div, tz_bI_some, tz_bV_some, or_false, false_or, or_self, and_false, false_and, and_true, true_and, not_true_eq_false, not_false_eq_true, nt_lef, nt_let, nt_ltf, nt_ltt, nt_eqf, nj_m2, nj_m3, nj_m4, nj_m5, nj_m6, nj_m7, tz_bL_some, nj_sub, ng_ltt, ng_let, ng_gtf, ng_gef]
  | succ k ih =>
    intro t z1 ht
    refine tj_eq (fun A => ?_) (t_170 W (show t < S 7 0 by omega) (fun z => ih _ z (by omega)) 5 0 z1 (by omega))
    rw [e_L_told_160]
    simp (disch := omega) only [tz_lit, nj_m1, ↓reduceIte, nj_cl, nj_ltt, nj_ltf, nj_let, nj_lef, nj_eqf, nj_lt, nj_le, nj_eq, nj_add, nj_mul, nj_modx, nj_and7, nj_div, tz_bI_some, tz_bV_some, or_false, false_or, or_self, and_false, false_and, and_true, true_and, not_true_eq_false, not_false_eq_true, nt_lef, nt_let, nt_ltf, nt_ltt, nt_eqf, nj_m2, nj_m3, nj_m4, nj_m5, nj_m6, nj_m7, tz_bL_some, nj_sub, ng_ltt, ng_let, ng_gtf, ng_gef]
theorem t_106 {S : tz_S} (W : sp_W1 S) {h : Nat} (hh : h < S 1 0) (ih : ∀ z1, TJ S (q_L_told_57 z1 (tz_j (S 1 0)) (tz_j (S 7 0)) (tz_j (S 15 0)) (tz_j (h + 1)))) : ∀ j i z1, i + j = sp_kept S h → TJ S (q_L_told_106 z1 (tz_j (S 1 0)) (tz_j (S 7 0)) (tz_j (S 15 0)) (tz_j h) (tz_j (sp_kept S h)) (tz_j i)) := by
  have hk8 : sp_kept S h ≤ 8 := by unfold sp_kept; split <;> omega
  intro j
  induction j with
  | zero =>
    intro i z1 hi
    obtain rfl : i = sp_kept S h := by omega
    refine tj_eq (G := fun A => tz_bI (f_X11_reach (tz_j h) (tz_j 30) A) (fun y1 A1 => q_L_told_57 ((31 * z1) + (Int32.toInt64 y1)) (tz_j (S 1 0)) (tz_j (S 7 0)) (tz_j (S 15 0)) (tz_j (h + 1)) A1)) (fun A => ?_) ?_
    · rw [e_L_told_106]
      simp (disch := omega) only [tz_lit, nj_m1, ↓reduceIte, nj_cl, nj_ltt, nj_ltf, nj_let, nj_lef, nj_eqf, nj_lt, nj_le, nj_eq, nj_add, nj_mul, nj_modx, nj_and7, nj_div, tz_bI_some, tz_bV_some, or_false, false_or, or_self, and_false, false_and, and_true, true_and, not_true_eq_false, not_false_eq_true, nt_lef, nt_let, nt_ltf, nt_ltt, nt_eqf, nj_m2, nj_m3, nj_m4, nj_m5, nj_m6, nj_m7, tz_bL_some, nj_sub, ng_ltt, ng_let, ng_gtf, ng_gef]
    · exact tj_bI (ti_reach W hh (by omega) (by omega)) (fun y1 => ih _)
  | succ j jh =>
    intro i z1 hi
    refine tj_eq (G := fun A => tz_bI (f_X11_heard (tz_j h) (tz_j i) A) (fun y1 A1 => q_L_told_106 ((31 * z1) + (Int32.toInt64 y1)) (tz_j (S 1 0)) (tz_j (S 7 0)) (tz_j (S 15 0)) (tz_j h) (tz_j (sp_kept S h)) (tz_j (i + 1)) A1)) (fun A => ?_) ?_
    · rw [e_L_told_106]
      simp (disch := omega) only [tz_lit, nj_m1, ↓reduceIte, nj_cl, nj_ltt, nj_ltf, nj_let, nj_lef, nj_eqf, nj_lt, nj_le, nj_eq, nj_add, nj_mul, nj_modx, nj_and7, nj_div, tz_bI_some, tz_bV_some, or_false, false_or, or_self, and_false, false_and, and_true, true_and, not_true_eq_false, not_false_eq_true, nt_lef, nt_let, nt_ltf, nt_ltt, nt_eqf, nj_m2, nj_m3, nj_m4, nj_m5, nj_m6, nj_m7, tz_bL_some, nj_sub, ng_ltt, ng_let, ng_gtf, ng_gef]
    · exact tj_bI (ti_heardi hh (by omega)) (fun y1 => jh _ _ (by omega))
theorem t_66 {S : tz_S} (W : sp_W1 S) {h : Nat} (hh : h < S 1 0) (ih : ∀ z1, TJ S (q_L_told_57 z1 (tz_j (S 1 0)) (tz_j (S 7 0)) (tz_j (S 15 0)) (tz_j (h + 1)))) : ∀ j u z1, u + j = 4 → TJ S (q_L_told_66 z1 (tz_j (S 1 0)) (tz_j (S 7 0)) (tz_j (S 15 0)) (tz_j h) (tz_j u)) := by
  intro j
  induction j with
  | zero =>
    intro u z1 hu
    obtain rfl : u = 4 := by omega
    refine tj_eq (G := fun A => tz_bI (f_X11_heard (tz_j h) (tz_j 4294967295) A) (fun y1 A1 => q_L_told_106 z1 (tz_j (S 1 0)) (tz_j (S 7 0)) (tz_j (S 15 0)) (tz_j h) y1 (tz_j 0) A1)) (fun A => ?_) ?_
    · rw [e_L_told_66]
      simp (disch := omega) only [tz_lit, nj_m1, ↓reduceIte, nj_cl, nj_ltt, nj_ltf, nj_let, nj_lef, nj_eqf, nj_lt, nj_le, nj_eq, nj_add, nj_mul, nj_modx, nj_and7, nj_div, tz_bI_some, tz_bV_some, or_false, false_or, or_self, and_false, false_and, and_true, true_and, not_true_eq_false, not_false_eq_true, nt_lef, nt_let, nt_ltf, nt_ltt, nt_eqf, nj_m2, nj_m3, nj_m4, nj_m5, nj_m6, nj_m7, tz_bL_some, nj_sub, ng_ltt, ng_let, ng_gtf, ng_gef]
    · exact tj_bv (tv_heardn hh) (t_106 W hh ih (sp_kept S h) 0 z1 (Nat.zero_add _))
  | succ j jh =>
    intro u z1 hu
    refine tj_eq (G := fun A => tz_bI (f_X11_hillOf (tz_j h) (tz_j u) A) (fun y1 A1 => q_L_told_66 ((31 * z1) + (Int32.toInt64 y1)) (tz_j (S 1 0)) (tz_j (S 7 0)) (tz_j (S 15 0)) (tz_j h) (tz_j (u + 1)) A1)) (fun A => ?_) ?_
    · rw [e_L_told_66]
      simp (disch := omega) only [tz_lit, nj_m1, ↓reduceIte, nj_cl, nj_ltt, nj_ltf, nj_let, nj_lef, nj_eqf, nj_lt, nj_le, nj_eq, nj_add, nj_mul, nj_modx, nj_and7, nj_div, tz_bI_some, tz_bV_some, or_false, false_or, or_self, and_false, false_and, and_true, true_and, not_true_eq_false, not_false_eq_true, nt_lef, nt_let, nt_ltf, nt_ltt, nt_eqf, nj_m2, nj_m3, nj_m4, nj_m5, nj_m6, nj_m7, tz_bL_some, nj_sub, ng_ltt, ng_let, ng_gtf, ng_gef]
    · exact tj_bI (ti_hillOf hh (by omega)) (fun y1 => jh _ _ (by omega))
theorem t_57 {S : tz_S} (W : sp_W1 S) : ∀ k h z1, h + k = S 1 0 → TJ S (q_L_told_57 z1 (tz_j (S 1 0)) (tz_j (S 7 0)) (tz_j (S 15 0)) (tz_j h)) := by
  have h8 := W.1
  intro k
  induction k with
  | zero =>
    intro h z1 hh
    obtain rfl : h = S 1 0 := by omega
    refine tj_eq (fun A => ?_) (t_160 W (S 7 0) 0 z1 (Nat.zero_add _))
    rw [e_L_told_57]
    simp (disch := omega) only [tz_lit, nj_m1, ↓reduceIte, nj_cl, nj_ltt, nj_ltf, nj_let, nj_lef, nj_eqf, nj_lt, nj_le, nj_eq, nj_add, nj_mul, nj_modx, nj_and7, nj_div, tz_bI_some, tz_bV_some, or_false, false_or, or_self, and_false, false_and, and_true, true_and, not_true_eq_false, not_false_eq_true, nt_lef, nt_let, nt_ltf, nt_ltt, nt_eqf, nj_m2, nj_m3, nj_m4, nj_m5, nj_m6, nj_m7, tz_bL_some, nj_sub, ng_ltt, ng_let, ng_gtf, ng_gef]
  | succ k ih =>
    intro h z1 hh
    refine tj_eq (fun A => ?_) (t_66 W (show h < S 1 0 by omega) (fun z => ih _ z (by omega)) 4 0 z1 (by omega))
    rw [e_L_told_57]
    simp (disch := omega) only [tz_lit, nj_m1, ↓reduceIte, nj_cl, nj_ltt, nj_ltf, nj_let, nj_lef, nj_eqf, nj_lt, nj_le, nj_eq, nj_add, nj_mul, nj_modx, nj_and7, nj_div, tz_bI_some, tz_bV_some, or_false, false_or, or_self, and_false, false_and, and_true, true_and, not_true_eq_false, not_false_eq_true, nt_lef, nt_let, nt_ltf, nt_ltt, nt_eqf, nj_m2, nj_m3, nj_m4, nj_m5, nj_m6, nj_m7, tz_bL_some, nj_sub, ng_ltt, ng_let, ng_gtf, ng_gef]
theorem t_27 {S : tz_S} (W : sp_W1 S) : ∀ k u z1, u + k = 9 → TJ S (q_L_told_27 z1 (tz_j (S 1 0)) (tz_j (S 7 0)) (tz_j (S 15 0)) (tz_j u)) := by
  intro k
  induction k with
  | zero =>
    intro u z1 hu
    obtain rfl : u = 9 := by omega
    refine tj_eq (fun A => ?_) (t_57 W (S 1 0) 0 z1 (Nat.zero_add _))
    rw [e_L_told_27]
    simp (disch := omega) only [tz_lit, nj_m1, ↓reduceIte, nj_cl, nj_ltt, nj_ltf, nj_let, nj_lef, nj_eqf, nj_lt, nj_le, nj_eq, nj_add, nj_mul, nj_modx, nj_and7, nj_div, tz_bI_some, tz_bV_some, or_false, false_or, or_self, and_false, false_and, and_true, true_and, not_true_eq_false, not_false_eq_true, nt_lef, nt_let, nt_ltf, nt_ltt, nt_eqf, nj_m2, nj_m3, nj_m4, nj_m5, nj_m6, nj_m7, tz_bL_some, nj_sub, ng_ltt, ng_let, ng_gtf, ng_gef]
  | succ k ih =>
    intro u z1 hu
    refine tj_eq (G := fun A => tz_bI (f_X11_status (tz_j u) A) (fun y1 A1 => q_L_told_27 ((31 * z1) + (Int32.toInt64 y1)) (tz_j (S 1 0)) (tz_j (S 7 0)) (tz_j (S 15 0)) (tz_j (u + 1)) A1)) (fun A => ?_) ?_
    · rw [e_L_told_27]
      simp (disch := omega) only [tz_lit, nj_m1, ↓reduceIte, nj_cl, nj_ltt, nj_ltf, nj_let, nj_lef, nj_eqf, nj_lt, nj_le, nj_eq, nj_add, nj_mul, nj_modx, nj_and7, nj_div, tz_bI_some, tz_bV_some, or_false, false_or, or_self, and_false, false_and, and_true, true_and, not_true_eq_false, not_false_eq_true, nt_lef, nt_let, nt_ltf, nt_ltt, nt_eqf, nj_m2, nj_m3, nj_m4, nj_m5, nj_m6, nj_m7, tz_bL_some, nj_sub, ng_ltt, ng_let, ng_gtf, ng_gef]
    · exact tj_bI ⟨_, tv_status (by omega)⟩ (fun y1 => ih _ _ (by omega))
theorem t_told {S : tz_S} (W : sp_W1 S) : TJ S f_L_told := by
  refine tj_eq (G := fun A => tz_bI (f_X11_status (tz_j 0) A) (fun y1 A1 => tz_bI (f_X11_status (tz_j 1) A1) (fun y2 A2 => tz_bI (f_X11_status (tz_j 2) A2) (fun y3 A3 => q_L_told_27 7 y1 y2 y3 (tz_j 0) A3)))) (fun A => ?_) ?_
  · rw [e_L_told]
    rfl
  · exact tj_bv (tv_status (by omega)) (tj_bv (tv_status (by omega)) (tj_bv (tv_status (by omega)) (t_27 W 9 0 7 (by omega))))
/-- the sum that all asking tells of a sky -/
noncomputable def sp_told (S : tz_S) (W : sp_W1 S) : Int64 := Classical.choose (t_told W)
theorem c_told {S K : tz_S} {U : tz_U} {V : tz_V} {A : tz_Mem} (W : sp_W1 S) (c : CX S K U V A) (ww : WX 1000 S K U) : CL S K U V (sp_told S W) (f_L_told A) A := Classical.choose_spec (t_told W) K U V A c ww
