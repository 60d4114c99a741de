/-! was: both -/
theorem nw_g {A : tz_Mem} {k i : Nat} (h : k < A.1) : tz_g (tz_nw A 1) k i = tz_g A k i := if_neg (by omega)
theorem nw_gl {A : tz_Mem} {k i : Nat} (h : k < A.1) : tz_gl (tz_nw A 1) k i = tz_gl A k i := if_neg (by omega)
theorem nw_gr {A : tz_Mem} {k i : Nat} (h : k < A.1) : tz_gr (tz_nw A 1) k i = tz_gr A k i := if_neg (by omega)
theorem MX_back2 {D : Nat → Int32} {S K : tz_S} {U : tz_U} {V : tz_V} {A B : tz_Mem} (W : sp_W1 S) (hst : sp_st S) (m : MX D S K U V A) (hB : tz_N0 ≤ B.1) (g : ∀ k i, k < 184 → ¬ mt_p k i → tz_g B k i = tz_g A k i) (gl : ∀ k i, k < 184 → tz_gl B k i = tz_gl A k i) (e : ∀ k i, kp_d k i → tz_g B k i = tz_g A k i) (e34 : tz_g B 157 34 = tz_g A 157 34) (e36 : tz_g B 157 36 = tz_g A 157 36) : ∃ D', MX D' S K U V B := by
  obtain ⟨r, k, ⟨u1, u2, u3, u4, u5, u6⟩, _⟩ := m
  obtain ⟨D', r'⟩ := rm_kp W r e e34 e36 (Or.inl (by rw [hst.2]; omega))
  refine ⟨D', r', fun q => rmk_mv (k q) (fun j _ => g _ _ (by omega) (by unfold mt_p mo_p; omega)), ⟨fun s hs => ?_, fun i hi => ?_, ?_, ?_, ?_, fun i hi => ?_⟩, hB⟩
  · obtain ⟨a, b, d⟩ := u1 s hs
    rw [g _ _ (by omega) (by unfold mt_p mo_p; omega), g _ _ (by omega) (by unfold mt_p mo_p; omega)]
    refine ⟨a, b, fun i hi => ?_⟩
    rw [gl _ _ (by omega)]
    exact d i hi
  · rw [g _ _ (by omega) (by unfold mt_p mo_p; omega)]
    exact u2 i hi
  · rw [g _ _ (by omega) (by unfold mt_p mo_p; omega)]
    exact u3
  · rw [g _ _ (by omega) (by unfold mt_p mo_p; omega)]
    exact u4
  · rw [g _ _ (by omega) (by unfold mt_p mo_p; omega)]
    exact u5
  · rw [g _ _ (by omega) (by unfold mt_p mo_p; omega)]
    exact u6 i hi
def wf_p (z k i : Nat) : Prop := mo_p k i ∨ k = z
theorem wf_mo {z k i : Nat} (h : mo_p k i) : wf_p z k i := Or.inl h
theorem m_wasL {D : Nat → Int32} {L z : Nat} {z1 z5 : Int32} (hz : tz_N0 ≤ z) : ∀ k i N S T A, i + k = 500 → N + k ≤ 2000000 → rm D T A → sp_H N T → sp_H N S → sm L S T → S 200 0 = 3 → S 204 1 = L → S 204 0 ≤ i → T 200 0 = 0 → L < S 15 0 → z < A.1 → (∀ j, j < S 204 0 → tz_g A z j = tz_j (S 205 j) ∧ S 205 j < S 1 0) → ∃ B, q_X12_was_118 z1 z5 (tz_j L) (tz_j (S 204 0)) z (tz_j i) A = tz_bV (f_X12_again_s181 B) (fun A1 => q_X12_was_266 z1 z5 (tz_j (sp_ar L k S 204 0)) z (if sp_ar L k S 20 L = 200 then tz_j 1 else tz_j 0) (tz_j 0) (tz_j 4294967295) (tz_j 9999) A1) ∧ tz_fr (wf_p z) A B ∧ tz_g B 157 36 = tz_j 4294967295 ∧ (∀ j, j < sp_ar L k S 204 0 → tz_g B z j = tz_j (sp_ar L k S 205 j) ∧ sp_ar L k S 205 j < S 1 0) ∧ sp_ar L k S 204 0 ≤ 500 := by
  have hz2 : 184 ≤ z := hz
  -- the loop's end
  have fin : ∀ (S T : tz_S) (A : tz_Mem) (y8 : Int32), rm D T A → sm L S T → sp_W1 S → sp_W2 S → L < S 15 0 → L < T 15 0 → (if ¬ tz_g A 175 L = tz_j 200 then tz_bV (f_X12_again_s181 A) (fun A1 => q_X12_was_266 z1 z5 y8 z (tz_j 0) (tz_j 0) (tz_j 4294967295) (tz_j 9999) A1) else tz_bV (f_X12_again_s181 A) (fun A1 => q_X12_was_266 z1 z5 y8 z (tz_j 1) (tz_j 0) (tz_j 4294967295) (tz_j 9999) A1) : tz_X) = tz_bV (f_X12_again_s181 A) (fun A1 => q_X12_was_266 z1 z5 y8 z (if S 20 L = 200 then tz_j 1 else tz_j 0) (tz_j 0) (tz_j 4294967295) (tz_j 9999) A1) := by
    intro S T A y8 r s W W2 hl hlT
    have q20 : tz_g A 175 L = tz_j (S 20 L) := by rw [cm_175 r.1 hlT, s 20 L (by omega) (by omega)]
    have hw := (W2.2.1 L hl).2.1
    have h8 := W.1
    have h4 := W.2.1
    unfold sp_wh at hw
    by_cases y : S 20 L = 200
    · rw [if_pos y, if_neg (by rw [q20, y]; exact fun q => q rfl)]
    · rw [if_neg y, if_pos (by rw [q20, nj_eq (by omega) (by omega)]; exact y)]
  intro k
  induction k with
  | zero =>
    intro i N S T A hi hN r HT H s h3 hL hlen hT0 hl hzA hP
    have h12 := H.1.2.2.1
    have hlT : L < T 15 0 := by rw [s 15 0 (by omega) (by omega)]; exact hl
    obtain rfl : i = 500 := by omega
    have n1 : (tz_j 500 ≤ tz_j 500) = True := nj_let (Nat.le_refl _) (by omega)
    have n3 := nj_ix8 (s := L) (n := 12) (by omega) (by omega)
    have c1 : (tz_j L).toNatClampNeg = L := nj_cl (by omega)
    refine ⟨A, ?_, fr_rfl, r.2.2.2.2.2 (by rw [hT0]; omega), hP, hlen⟩
    have f := fin S T A (tz_j (S 204 0)) r s H.1 H.2.1 hl hlT
    rw [e_X12_was_118 _ _ _ _ _ _ _ hz]
    simp only [tz_lit, nj_m1, nj_m2, nj_m3, nj_m4, nj_m5, nj_m6, nj_m7, ↓reduceIte, tz_bI_some, tz_bV_some, tz_bL_some, cj10, cj01, cjm0, eq_self, not_true_eq_false, not_false_eq_true, or_false, false_or, or_true, true_or, or_self, and_true, true_and, and_false, false_and, n1, n3, c1]
    exact f
  | succ k ih =>
    intro i N S T A hi hN r HT H s h3 hL hlen hT0 hl hzA hP
    have h8 := H.1.1
    have h4 := H.1.2.1
    have h12 := H.1.2.2.1
    have e15 : T 15 0 = S 15 0 := s 15 0 (by omega) (by omega)
    have hlT : L < T 15 0 := by omega
    have n1 : (tz_j 500 ≤ tz_j i) = False := nj_lef (by omega) (by omega)
    have n3 := nj_ix8 (s := L) (n := 12) (by omega) (by omega)
    have c1 : (tz_j L).toNatClampNeg = L := nj_cl (by omega)
    have q20 : tz_g A 175 L = tz_j (S 20 L) := by rw [cm_175 r.1 hlT, s 20 L (by omega) (by omega)]
    have hw := (H.2.1.2.1 L hl).2.1
    unfold sp_wh at hw
    have a3 : tz_j i + tz_j 1 = tz_j (i + 1) := nj_add
    have es : sp_ar L (k + 1) S = if S 20 L < 200 then sp_ar L k (sp_tk S) else S := rfl
    by_cases y : S 20 L < 200
    · rw [es, if_pos y]
      have n4 : (tz_j 200 ≤ tz_j (S 20 L)) = False := nj_lef (by omega) (by omega)
      obtain ⟨A1, e1, r1, f1⟩ := m_tk (by omega) r HT (by omega)
      obtain ⟨g1, g2, g3⟩ := tk_G H
      obtain ⟨t1, t2, t3⟩ := tk_G HT
      obtain ⟨p0, p1⟩ := tk_p H hl h3 hL (show S 204 0 < 500 by omega)
      have s' := sm_tk s
      have e1' : sp_tk S 1 0 = S 1 0 := g3 1 0 (by unfold sp_kp; omega) (by omega)
      have hz1 : z < A1.1 := by rw [f1.1]; exact hzA
      have hcell : ∀ j, tz_g A1 z j = tz_g A z j := fun j => f1.2.2 z j (by unfold mo_p; omega)
      have next := fun A2 (r2 : rm D (sp_tk T) A2) (hl2 : sp_tk S 204 0 ≤ i + 1) (hz2 : z < A2.1) (hP2 : ∀ j, j < sp_tk S 204 0 → tz_g A2 z j = tz_j (sp_tk S 205 j) ∧ sp_tk S 205 j < sp_tk S 1 0) => ih (i + 1) (N + 1) (sp_tk S) (sp_tk T) A2 (by omega) (by omega) r2 t1 g1 s' ((g3 200 0 (by unfold sp_kp; omega) (by omega)).trans h3) ((g3 204 1 (by unfold sp_kp; omega) (by omega)).trans hL) hl2 ((t3 200 0 (by unfold sp_kp; omega) (by omega)).trans hT0) (by rw [g3 15 0 (by unfold sp_kp; omega) (by omega)]; exact hl) hz2 hP2
      rw [e1'] at next
      by_cases y1 : S 20 L < 100
      · obtain ⟨b1, b2⟩ := p0 y1
        obtain ⟨B, e, fB, h36, hcl, hle⟩ := next A1 r1 (by omega) hz1 (fun j hj => by
          rw [b2 j, hcell]
          exact hP j (by omega))
        refine ⟨B, ?_, fr_tr (fr_mo f1 (fun k i => wf_mo)) fB, h36, hcl, hle⟩
        have n5 : (tz_j (S 20 L) ≤ tz_j 99) = True := nj_let (by omega) (by omega)
        rw [b1] at e
        rw [e_X12_was_118 _ _ _ _ _ _ _ hz]
        simp only [tz_lit, nj_m1, nj_m2, nj_m3, nj_m4, nj_m5, nj_m6, nj_m7, ↓reduceIte, tz_bI_some, tz_bV_some, tz_bL_some, cj10, cj01, cjm0, eq_self, not_true_eq_false, not_false_eq_true, or_false, false_or, or_true, true_or, or_self, and_true, true_and, and_false, false_and, n1, n3, c1, q20, n4, n5, e1, a3]
        exact e
      · obtain ⟨u, hu, eu⟩ : ∃ u, u < S 7 0 ∧ S 20 L = 100 + u := ⟨S 20 L - 100, by omega, by omega⟩
        have n5 : (tz_j (S 20 L) ≤ tz_j 99) = False := nj_lef (by omega) (by omega)
        have d1 : tz_j (S 20 L) - tz_j 100 = tz_j u := by rw [nj_sub (by omega), eu, Nat.add_sub_cancel_left]
        have n6 : (tz_j u = tz_j 4294967295) = False := nj_eqf (by omega) (by omega) (by omega)
        have n7 := nj_ix8 (s := u) (n := 4) (by omega) (by omega)
        have c2 : (tz_j u).toNatClampNeg = u := nj_cl (by omega)
        have e7 : T 7 0 = S 7 0 := s 7 0 (by omega) (by omega)
        have huT : u < T 7 0 := by omega
        have huT' : u < sp_tk T 7 0 := by rw [t3 7 0 (by unfold sp_kp; omega) (by omega)]; exact huT
        have k0 : tz_g A 167 u = tz_j (S 13 u) := by rw [cm_167 r.1 huT, s 13 u (by omega) (by omega)]
        have k1 : tz_g A1 167 u = tz_j (sp_tk S 13 u) := by rw [cm_167 r1.1 huT', s' 13 u (by omega) (by omega)]
        have h13 := H.2.1.1 u hu
        have h11 := (H.1.2.2.2.2.1 u hu).2.2.2.2.2.2
        rcases p1 u hu eu with ⟨b1, b2, b3⟩ | ⟨b1, b2, b3⟩
        · have hnx : wa_nx S u < S 11 u := by
            unfold wa_nx
            split <;> omega
          have hhi : wa_hi S u < S 1 0 := h11.2.2 _ hnx
          have hne := wa_ne H.1 hu
          have n8 : (tz_j (wa_nx S u) = tz_j (S 13 u)) = False := nj_eqf hne (by omega) (by omega)
          rw [b3] at k1
          have ea := m_at r1.1 t1.1 t1.2.1 huT'
          have ea2 : sp_at (sp_tk T) u = wa_hi S u := by
            rw [sm_at s']
            unfold sp_at wa_hi
            rw [b3, g3 12 _ (by unfold sp_kp; omega) (by omega)]
          rw [ea2] at ea
          have n9 : (A1.1 ≤ z) = False := eq_false (by omega)
          have n10 := nj_ix8 (s := S 204 0) (n := 501) (by omega) (by omega)
          have c3 : (tz_j (S 204 0)).toNatClampNeg = S 204 0 := nj_cl (by omega)
          have a4 : tz_j (S 204 0) + tz_j 1 = tz_j (S 204 0 + 1) := nj_add
          obtain ⟨B, e, fB, h36, hcl, hle⟩ := next (tz_s A1 z (S 204 0) (tz_j (wa_hi S u))) (rm_A r1 (fun k i h => tz_gsk (by omega))) (by omega) hz1 (fun j hj => by
            rw [b2 j]
            by_cases x : j = S 204 0
            · rw [if_pos x, x, tz_gs1]
              exact ⟨rfl, hhi⟩
            · rw [if_neg x, tz_gsi x, hcell]
              exact hP j (by omega))
          refine ⟨B, ?_, fr_tr (fr_s (fr_mo f1 (fun k i => wf_mo)) (Or.inr rfl)) fB, h36, hcl, hle⟩
          rw [b1] at e
          rw [e_X12_was_118 _ _ _ _ _ _ _ hz]
          simp only [tz_lit, nj_m1, nj_m2, nj_m3, nj_m4, nj_m5, nj_m6, nj_m7, ↓reduceIte, tz_bI_some, tz_bV_some, tz_bL_some, cj10, cj01, cjm0, eq_self, not_true_eq_false, not_false_eq_true, or_false, false_or, or_true, true_or, or_self, and_true, true_and, and_false, false_and, n1, n3, c1, q20, n4, n5, d1, n6, n7, c2, e1, k0, k1, n8, ea, n9, n10, c3, a3, a4]
          exact e
        · have n8 : (tz_j (S 13 u) = tz_j (S 13 u)) = True := eq_true rfl
          rw [b3] at k1
          obtain ⟨B, e, fB, h36, hcl, hle⟩ := next A1 r1 (by omega) hz1 (fun j hj => by
            rw [b2 j, hcell]
            exact hP j (by omega))
          refine ⟨B, ?_, fr_tr (fr_mo f1 (fun k i => wf_mo)) fB, h36, hcl, hle⟩
          rw [b1] at e
          rw [e_X12_was_118 _ _ _ _ _ _ _ hz]
          simp only [tz_lit, nj_m1, nj_m2, nj_m3, nj_m4, nj_m5, nj_m6, nj_m7, ↓reduceIte, tz_bI_some, tz_bV_some, tz_bL_some, cj10, cj01, cjm0, eq_self, not_true_eq_false, not_false_eq_true, or_false, false_or, or_true, true_or, or_self, and_true, true_and, and_false, false_and, n1, n3, c1, q20, n4, n5, d1, n6, n7, c2, e1, k0, k1, a3]
          exact e
    · rw [es, if_neg y]
      have n4 : (tz_j 200 ≤ tz_j (S 20 L)) = True := nj_let (by omega) (by omega)
      refine ⟨A, ?_, fr_rfl, r.2.2.2.2.2 (by rw [hT0]; omega), hP, by omega⟩
      have f := fin S T A (tz_j (S 204 0)) r s H.1 H.2.1 hl hlT
      rw [q20] at f
      rw [e_X12_was_118 _ _ _ _ _ _ _ hz]
      simp only [tz_lit, nj_m1, nj_m2, nj_m3, nj_m4, nj_m5, nj_m6, nj_m7, ↓reduceIte, tz_bI_some, tz_bV_some, tz_bL_some, cj10, cj01, cjm0, eq_self, not_true_eq_false, not_false_eq_true, or_false, false_or, or_true, true_or, or_self, and_true, true_and, and_false, false_and, n1, n3, c1, q20, n4]
      exact f
def sp_ps (L : Nat) (S : tz_S) : tz_S := fun k i => if k = 200 then 3 else if k = 204 then (if i = 1 then L else 0) else S k i
theorem ps_get {L : Nat} {S : tz_S} {k i : Nat} (h : k < 200) : sp_ps L S k i = S k i := by
  unfold sp_ps
  rw [if_neg (by omega), if_neg (by omega)]
theorem ps_H {N L : Nat} {S : tz_S} (H : sp_H N S) (hL : L < 12) : sp_H N (sp_ps L S) := by
  have e200 : sp_ps L S 200 0 = 3 := rfl
  refine H_ear H (fun k i h => ps_get h) ⟨by rw [e200]; omega, fun q => ?_, fun q => ?_, fun _ => ⟨Nat.zero_le _, hL⟩⟩
  · rw [e200] at q
    omega
  · rw [e200] at q
    omega
theorem sm_add {L a a' f t v : Nat} {S : tz_S} (hL : L = S 15 0) (W : sp_W1 S) : sm L (sp_ps L (sp_addL a f t v S)) (sp_addL a' f t v S) := by
  intro k i hk hn
  rw [ps_get (by omega)]
  by_cases z : k = 22
  · obtain ⟨p, h1, h2, h3, h4⟩ := addL_o (a := a) (f := f) (t := t) (v := v) W
    obtain ⟨p', h1', h2', h3', h4'⟩ := addL_o (a := a') (f := f) (t := t) (v := v) W
    have io : ∀ b, sp_addL b f t v S 22 i = sp_io v (S 15 0) (S 15 0) (sp_fl (S 15 0) b f t v S) 22 i := fun b => tz_tk (by omega)
    have hp : p = p' := by
      by_cases x : p < p'
      · have b1 := h2 p (Nat.le_refl _) (by omega)
        rcases h3' with h3' | h3'
        · omega
        · have b2 := h2 (p' - 1) (by omega) (by omega)
          omega
      · by_cases x2 : p' < p
        · rcases h3 with h3 | h3
          · omega
          · have b2 := h2' (p - 1) (by omega) (by omega)
            omega
        · omega
    rw [z, h4, h4', hp]
  · by_cases z15 : k = 15
    · by_cases i0 : i = 0
      · rw [z15, i0, addL_15, addL_15]
      · rw [z15]
        unfold sp_addL
        rw [tz_ti i0, tz_ti i0]
        obtain ⟨q, _, _, _, h5⟩ := io_eq (v := v) (n := S 15 0) (S 15 0) (sp_fl (S 15 0) a f t v S)
        obtain ⟨q', _, _, _, h5'⟩ := io_eq (v := v) (n := S 15 0) (S 15 0) (sp_fl (S 15 0) a' f t v S)
        rw [h5, h5', if_neg (by omega), if_neg (by omega), fl_g1 (by omega), fl_g1 (by omega)]
    · rw [addL_f z z15, addL_f z z15]
      by_cases x : i = S 15 0
      · rw [x]
        by_cases k16 : k = 16
        · exact absurd ⟨k16, by rw [x, hL]⟩ hn
        · unfold sp_fl
          simp only [tz_ta, k16, false_and, ↓reduceIte]
      · rw [fl_g1 (Or.inl x), fl_g1 (Or.inl x)]
theorem ar_p {L : Nat} : ∀ k N S, sp_H N S → L < S 15 0 → S 200 0 = 3 → S 204 1 = L → S 204 0 + k ≤ 500 → (∀ j, j < S 204 0 → S 205 j < S 1 0) → sp_ar L k S 204 0 ≤ 500 ∧ ∀ j, j < sp_ar L k S 204 0 → sp_ar L k S 205 j < S 1 0 := by
  intro k
  induction k with
  | zero => exact fun N S _ _ _ _ h5 hP => ⟨h5, hP⟩
  | succ k ih =>
    intro N S H hl h3 hL h5 hP
    have es : sp_ar L (k + 1) S = if S 20 L < 200 then sp_ar L k (sp_tk S) else S := rfl
    rw [es]
    by_cases y : S 20 L < 200
    · rw [if_pos y]
      obtain ⟨g1, g2, g3⟩ := tk_G H
      obtain ⟨p0, p1⟩ := tk_p H hl h3 hL (by omega)
      have hw := (H.2.1.2.1 L hl).2.1
      have h8 := H.1.1
      unfold sp_wh at hw
      have e1 : sp_tk S 1 0 = S 1 0 := g3 1 0 (by unfold sp_kp; omega) (by omega)
      have next := fun h5 hP => ih (N + 1) (sp_tk S) g1 (by rw [g3 15 0 (by unfold sp_kp; omega) (by omega)]; exact hl) ((g3 200 0 (by unfold sp_kp; omega) (by omega)).trans h3) ((g3 204 1 (by unfold sp_kp; omega) (by omega)).trans hL) h5 hP
      rw [e1] at next
      by_cases y1 : S 20 L < 100
      · obtain ⟨b1, b2⟩ := p0 y1
        exact next (by omega) (fun j hj => by
          rw [b2 j]
          exact hP j (by omega))
      · obtain ⟨u, hu, eu⟩ : ∃ u, u < S 7 0 ∧ S 20 L = 100 + u := ⟨S 20 L - 100, by omega, by omega⟩
        rcases p1 u hu eu with ⟨b1, b2, b3⟩ | ⟨b1, b2, b3⟩
        · have hnx : wa_nx S u < S 11 u := by
            have := (H.1.2.2.2.2.1 u hu).2.2.2.2.2.2.1
            unfold wa_nx
            split <;> omega
          exact next (by omega) (fun j hj => by
            rw [b2 j]
            by_cases x : j = S 204 0
            · rw [if_pos x]
              exact (H.1.2.2.2.2.1 u hu).2.2.2.2.2.2.2.2 _ hnx
            · rw [if_neg x]
              exact hP j (by omega))
        · exact next (by omega) (fun j hj => by
            rw [b2 j]
            exact hP j (by omega))
    · rw [if_neg y]
      exact ⟨by omega, hP⟩
theorem p_was (x1 x2 x3 x4 x5 : Int32) : tz_twoI tz_J (f_X11_was x1 x2 x3 x4 x5) (f_X12_was x1 x2 x3 x4 x5) := by
  refine two_of (fun N S K U V A hN c ww => ?_)
  have W := ww.1.1
  have h8 := W.1
  have h4 := W.2.1
  have h12 := W.2.2.1
  rcases x_rol c.1.1 W x1 x2 x3 x4 with ⟨a, f, t, v, rfl, ha, rfl, hf, rfl, ht, hne, rfl, hv1, hv, hn12, a1⟩ | ⟨a1, ho⟩ | ⟨a1, f, t, rfl, hf, rfl, ht, ho⟩ | ⟨a1, h15, a, f, t, v, rfl, ha, rfl, hf, rfl, ht, hne, rfl, hv1, hv⟩
  · have b1 : ∀ A, f_X12_within (tz_j a) (tz_j 0) (tz_j 9999) A = some (some (.int (tz_j 1)), A) := fun A => by
      rw [m_within (by omega) (by omega) (by omega), if_pos ⟨(by omega), (by omega)⟩]
    have b4 : ∀ A, f_X12_within (tz_j v) (tz_j 1) (tz_j 99) A = some (some (.int (tz_j 1)), A) := fun A => by
      rw [m_within (by omega) (by omega) (by omega), if_pos ⟨(by omega), (by omega)⟩]
    have b7 : ∀ A D, MX D S K U V A → f_X12_isHill (tz_j f) A = some (some (.int (tz_j 1)), A) ∧ f_X12_isHill (tz_j t) A = some (some (.int (tz_j 1)), A) := fun A D m => ⟨m_hash1 m.1.1 hf (by omega), m_hash1 m.1.1 ht (by omega)⟩
    rcases nj_three x5 2 (by omega) with ⟨u, hu, rfl⟩ | h5
    · have k5 := k_two1 (A := A) hu
      have b5 := fun A => w_in (A := A) (u := u) (n := 1) (by omega) (by omega)
      have u10 : (tz_j u = tz_j 0) = (u = 0) := nj_eq (by omega) (by omega)
      generalize hL : S 15 0 = L at *
      have Ha := addL_H (a := a) (f := f) (t := t) (v := v) ww.1 (by omega) (show a ≤ 9999 by omega) hf ht ⟨hv1, hv⟩
      have H0 := ps_H (L := L) Ha (by omega)
      have Ht := addL_H (a := 0) (f := f) (t := t) (v := v) ww.1 (by omega) (show 0 ≤ 9999 by omega) hf ht ⟨hv1, hv⟩
      have s0 : sm L (sp_ps L (sp_addL a f t v S)) (sp_addL 0 f t v S) := sm_add hL.symm W
      have e15 : sp_ps L (sp_addL a f t v S) 15 0 = L + 1 := by
        rw [ps_get (by omega), addL_15, hL]
      have e10 : sp_ps L (sp_addL a f t v S) 1 0 = S 1 0 := by
        rw [ps_get (by omega), addL_g (by omega) (by omega) (by omega)]
      -- the class
      obtain ⟨A1, f1, r1, g1⟩ := x_bec2 h76 h30 (by omega) W ww.2.1 c.1
      obtain ⟨A2, f2, r2, g2⟩ := x_addL (a := a) (f := f) (t := t) (v := v) h76 r1 W (by omega) hf hv
      rw [hL] at f2
      have f3 : f_X6_follow (tz_j L) A2 = some (none, tz_s (tz_s A2 153 2 (tz_j L)) 153 1 (tz_j 0)) := by
        rw [e_X6_follow]
        rfl
      have r3 : rx 76 99 (sp_ps L (sp_addL a f t v S)) (tz_sr (tz_s (tz_s A2 153 2 (tz_j L)) 153 1 (tz_j 0)) 76 7 154) := by
        refine rx_ear h76 r2 (fun k i hk => ps_get hk) (fun k i hk => ?_) ?_ Ha.1.1
        · rw [tz_gsr, tz_gsk (by omega), tz_gsk (by omega)]
        · have e200 : sp_ps L (sp_addL a f t v S) 200 0 = 3 := rfl
          have eg : tz_gr (tz_sr (tz_s (tz_s A2 153 2 (tz_j L)) 153 1 (tz_j 0)) 76 7 154) 76 7 = 154 := tz_grr
          refine ⟨eg.trans ?_, fun q => ?_, fun q => ?_, fun _ => ⟨?_, ?_, fun j hj => ?_⟩⟩
          · rw [e200, if_neg (by omega), if_neg (by omega), if_pos rfl]
          · rw [e200] at q
            omega
          · rw [e200] at q
            omega
          · rw [tz_gsr, tz_gs1]
            rfl
          · rw [tz_gsr, tz_gsi (by omega), tz_gs1]
            rfl
          · exact absurd (show j < 0 from hj) (Nat.not_lt_zero j)
      obtain ⟨A4, f4, r4, g4⟩ := x_ar (l := L) h76 (show N + 500 ≤ 2000000 by omega) r3 H0 (by omega)
      have He := (ar_G (l := L) 500 N _ H0)
      generalize hE : sp_ar L 500 (sp_ps L (sp_addL a f t v S)) = E at *
      have hEl : L < E 15 0 := by
        rw [He.2 15 0 (by unfold sp_kp; omega) (by omega), e15]
        omega
      have hE1 : E 1 0 = S 1 0 := (He.2 1 0 (by unfold sp_kp; omega) (by omega)).trans e10
      have hEw := He.1.2.1.2.1 L hEl
      have hE3 := He.1.2.2.2.1
      have hE200 : E 200 0 = 3 := (He.2 200 0 (by unfold sp_kp; omega) (by omega)).trans rfl
      have fx4 : tz_fx th_p A A4 := fx_tr (fx_sr (fx_s (fx_s (fx_tr (fx_mo g1 (fun k i => th_b)) (fx_mo (fx_fr g2) (fun k i => th_r))) (by unfold th_p; omega)) (by unfold th_p; omega)) (by unfold th_p; omega) h76) (fx_mo (fx_fr g4) (fun k i => th_r))
      have c4 := CX_th ww.2.1 ww.2.2.2.1 fx4 c
      -- the model, whatever the letter came to
      have mod : ∀ (A : tz_Mem) (D : Nat → Int32), MX D S K U V A → ∃ A3 B C D', f_X12_keep_s181 A = some (none, A3) ∧ (∃ A5, f_X12_newLetter (tz_j 0) (tz_j f) (tz_j t) (tz_j v) A3 = some (some (.int (tz_j L)), A5) ∧ ∀ y6, q_X12_was_108 (tz_j a) (tz_j f) (tz_j t) (tz_j v) (tz_j u) y6 (tz_j L) (tz_j 0) A5 = tz_bV (f_X12_again_s181 B) (fun A1 => q_X12_was_266 (tz_j a) (tz_j u) (tz_j (E 204 0)) A5.1 (if E 20 L = 200 then tz_j 1 else tz_j 0) (tz_j 0) (tz_j 4294967295) (tz_j 9999) A1)) ∧ f_X12_again_s181 B = some (none, C) ∧ MX D' S K U V C ∧ mf A C ∧ ∃ z, tz_N0 ≤ z ∧ z < C.1 ∧ (∀ A5, f_X12_newLetter (tz_j 0) (tz_j f) (tz_j t) (tz_j v) A3 = some (some (.int (tz_j L)), A5) → A5.1 = z) ∧ (∀ j, j < E 204 0 → tz_g C z j = tz_j (E 205 j) ∧ E 205 j < S 1 0) ∧ E 204 0 ≤ 500 := by
        intro A D m
        obtain ⟨A3, k3, kk, ka, kb, kc⟩ := m_keep_181 A
        have r5 : rm D S A3 := rm_A m.1 (fun k i h => kc k i (by omega))
        obtain ⟨A5, e5, r6, f5⟩ := m_addL (a := 0) (f := f) (t := t) (v := v) r5 (by omega)
        rw [hL] at e5
        have hN0 : tz_N0 ≤ A5.1 := by
          rw [f5.1, ka]
          exact m.2.2.2
        have hN1 : 184 ≤ A5.1 := hN0
        have r7 : rm D (sp_addL 0 f t v S) (tz_nw A5 1) := rm_A r6 (fun k i h => nw_g (by omega))
        obtain ⟨B, eB, fB, h36, hcl, hle⟩ := m_wasL (z1 := tz_j a) (z5 := tz_j u) (z := A5.1) hN0 500 0 N (sp_ps L (sp_addL a f t v S)) (sp_addL 0 f t v S) (tz_nw A5 1) (by omega) (by omega) r7 Ht H0 s0 rfl rfl (Nat.zero_le _) ((addL_g (by omega) (by omega) (by omega)).trans ww.2.1.2) (by omega) (Nat.lt_succ_self _) (fun j hj => absurd (show j < 0 from hj) (Nat.not_lt_zero j))
        rw [hE, e10] at hcl
        rw [hE] at eB hle
        obtain ⟨C, eC, ck, ca, cb, cc⟩ := m_again_181 B
        have b1 : B.1 = A5.1 + 1 := fB.1
        have gB : ∀ k i, k < 184 → ¬ mo_p k i → tz_g B k i = tz_g A3 k i := fun k i h1 h2 => by
          rw [fB.2.2 k i (fun q => by rcases q with q | q; exact h2 q; omega), nw_g (by omega)]
          exact f5.2.2 k i h2
        have g181 : ∀ j, tz_g B 181 j = tz_g A3 181 j := fun j => gB 181 j (by omega) mo_181
        have gkd : ∀ k i, kp_d k i → tz_g C k i = tz_g A k i := fun k i h => by
          obtain ⟨j, hj⟩ := kp_of h
          rw [ck k i j hj, g181, kk k i j hj]
        have gl : ∀ k i, k < 184 → tz_gl C k i = tz_gl A k i := fun k i h => by
          have e1 : tz_gl C k i = tz_gl B k i := by
            show C.2.2.1 k i = B.2.2.1 k i
            rw [cb]
          rw [e1, fr_gl fB, nw_gl (by omega), fr_gl f5]
          show A3.2.2.1 k i = A.2.2.1 k i
          rw [kb]
        have gr : ∀ k i, k < 184 → tz_gr C k i = tz_gr A k i := fun k i h => by
          have e1 : tz_gr C k i = tz_gr B k i := by
            show C.2.2.2 k i = B.2.2.2 k i
            rw [cb]
          rw [e1, fr_gr fB, nw_gr (by omega), fr_gr f5]
          show A3.2.2.2 k i = A.2.2.2 k i
          rw [kb]
        have gg : ∀ k i, k < 184 → ¬ mt_p k i → tz_g C k i = tz_g A k i := fun k i h1 h2 => by
          rw [cc k i (fun q => h2 (kp_mt q)), gB k i h1 (fun q => h2 (mo_mt q)), kc k i (fun q => h2 (by unfold mt_p; omega))]
        have e34 : tz_g C 157 34 = tz_g A 157 34 := by
          rw [cc 157 34 kd_34, gB 157 34 (by omega) mo_34, kc 157 34 (by omega)]
        have e36 : tz_g C 157 36 = tz_g A 157 36 := by
          rw [cc 157 36 kd_36, h36]
          exact (m.1.2.2.2.2.2 (by rw [ww.2.1.2]; omega)).symm
        have hC1 : C.1 = A.1 + 1 := by
          rw [ca, b1, f5.1, ka]
        obtain ⟨D', m'⟩ := MX_back2 W ww.2.1 m (by rw [hC1]; have := m.2.2.2; omega) gg gl gkd e34 e36
        have hA5 : A5.1 = A.1 := by rw [f5.1, ka]
        refine ⟨A3, B, C, D', k3, ⟨A5, e5, fun y6 => ?_⟩, eC, m', ⟨by omega, by omega, fun k i h => ⟨?_, gl k i (by omega)⟩, gr⟩, A5.1, hN0, by omega, fun A6 e6 => ?_, fun j hj => ?_, hle⟩
        · rw [e_X12_was_108 _ _ _ _ _ _ _ _ _ hN0]
          exact eB
        · exact gg k i (by omega) (by unfold mt_p mo_p; omega)
        · rw [e5] at e6
          injection e6 with e6
          injection e6 with _ e6
          rw [e6]
        · obtain ⟨q1, q2⟩ := hcl j hj
          refine ⟨?_, q2⟩
          rw [cc A5.1 j (fun q => by unfold kp_d at q; omega)]
          exact q1
      obtain ⟨hle, hpl⟩ := ar_p (L := L) 500 N (sp_ps L (sp_addL a f t v S)) H0 (by omega) rfl rfl (by rw [show sp_ps L (sp_addL a f t v S) 204 0 = 0 from rfl]; omega) (fun j hj => absurd (show j < 0 from hj) (Nat.not_lt_zero j))
      rw [hE, e10] at hpl
      rw [hE] at hle
      by_cases y : E 20 L = 200
      · have n1 : (tz_j (E 21 L) = tz_j 4294967295) = False := by
          have := hEw.2.2.1 y
          exact nj_eqf (by omega) (by omega) (by omega)
        obtain ⟨p1, _, p3⟩ := r4.2.2.2.2.2.2.2 hE200
        have q1 : tz_g (tz_s (tz_s A4 153 3 (tz_j a)) 153 4 (tz_j a)) 153 1 = tz_j (E 204 0) := by
          rw [tz_gsi (by omega), tz_gsi (by omega)]
          exact p1
        obtain ⟨A6, f6, g6, hres⟩ := x_gbL (P := fun j => E 205 j) W (E 204 0) a a (tz_s (tz_s A4 153 3 (tz_j a)) 153 4 (tz_j a)) hle (rx_c_mv c4.1.1 (fun _ _ _ => rfl) (fun k i hp => by rw [tz_gsk (by unfold rx_pl at hp; omega), tz_gsk (by unfold rx_pl at hp; omega)])) (fun j hj => by
          rw [tz_gsk (by omega), tz_gsk (by omega)]
          exact ⟨p3 j hj, hpl j hj⟩) (Nat.le_refl _) (by omega) ((tz_gsi (by omega)).trans tz_gs1) tz_gs1
        obtain ⟨gb1, gb2⟩ := wa_gb1 (P := fun j => E 205 j) W (E 204 0) a a (Nat.le_refl _) (by omega) hpl
        have f7 : f_X6_goBack 30 (tz_j a) A4 = some (none, A6) := by
          rw [e_X6_goBack _ _ h30]
          simp only [tz_lit, nj_m1, nj_m2, nj_m3, nj_m4, nj_m5, nj_m6, nj_m7, ↓reduceIte, tz_bI_some, tz_bV_some, tz_bL_some, cj10, cj01, cjm0, eq_self, not_true_eq_false, not_false_eq_true, or_false, false_or, or_true, true_or, or_self, and_true, true_and, and_false, false_and, q1, nj_p1]
          exact f6
        generalize hG : wa_gb S (fun j => E 205 j) (E 204 0) a a = G at *
        have fx6 : tz_fx th_p A A6 := fx_tr (fx_s (fx_s fx4 (by unfold th_p; omega)) (by unfold th_p; omega)) (fx_mo (fx_fr g6) (fun k i h => by unfold wg_p at h; unfold th_p; omega))
        have g19 : G.1 ≤ G.2 → G.1 ≤ 9999 := fun h => by omega
        have fc : f_X6_countWords A6 = some (some (.int (tz_j (G.2 + 1 - G.1))), A6) ∧ f_X6_leastWord A6 = some (some (.int (if G.1 ≤ G.2 then tz_j G.1 else tz_j 4294967295)), A6) := by
          rw [e_X6_countWords, e_X6_leastWord]
          rcases hres with ⟨h1, h2, h3⟩ | ⟨h1, h2⟩
          · have n2 : (tz_j G.2 < tz_j G.1) = False := nj_ltf (by omega) (by omega)
            have n3 : tz_j G.2 - tz_j G.1 + tz_j 1 = tz_j (G.2 + 1 - G.1) := by
              rw [nj_sub h1, nj_add, show G.2 - G.1 + 1 = G.2 + 1 - G.1 by omega]
            simp only [tz_lit, nj_m1, nj_m2, nj_m3, nj_m4, nj_m5, nj_m6, nj_m7, ↓reduceIte, tz_bI_some, tz_bV_some, tz_bL_some, cj10, cj01, cjm0, eq_self, not_true_eq_false, not_false_eq_true, or_false, false_or, or_true, true_or, or_self, and_true, true_and, and_false, false_and, h2, h3, n2, n3, if_pos h1]
          · rw [h1]
            simp only [tz_lit, nj_m1, nj_m2, nj_m3, nj_m4, nj_m5, nj_m6, nj_m7, ↓reduceIte, tz_bI_some, tz_bV_some, tz_bL_some, cj10, cj01, cjm0, eq_self, not_true_eq_false, not_false_eq_true, or_false, false_or, or_true, true_or, or_self, and_true, true_and, and_false, false_and, h2]
            first | exact ⟨rfl, rfl⟩ | exact rfl
        refine out_th (v := if u = 0 then tz_j (G.2 + 1 - G.1) else if G.1 ≤ G.2 then tz_j G.1 else tz_j 4294967295) c ww ⟨A6, ?_, fx6⟩ (fun A D m => ?_)
        · rw [e_X11_was]
          rcases (show u = 0 ∨ u = 1 by omega) with hu0 | hu0
          · subst hu0
            simp (disch := omega) only [tz_lit, nj_m1, nj_m2, nj_m3, nj_m4, nj_m5, nj_m6, nj_m7, ↓reduceIte, tz_bI_some, tz_bV_some, tz_bL_some, cj10, cj01, cjm0, eq_self, not_true_eq_false, not_false_eq_true, or_false, false_or, or_true, true_or, or_self, and_true, true_and, and_false, false_and, nj_eqf, nj_ltt, nj_ltf, nj_let, nj_lef, nj_cl, nt_lef, ng_ltt, ng_let, ng_gtf, ng_gef, a1, k5, f1, f2, f3, f4, n1, f7, fc.1, fc.2]
          · subst hu0
            simp (disch := omega) only [tz_lit, nj_m1, nj_m2, nj_m3, nj_m4, nj_m5, nj_m6, nj_m7, ↓reduceIte, tz_bI_some, tz_bV_some, tz_bL_some, cj10, cj01, cjm0, eq_self, not_true_eq_false, not_false_eq_true, or_false, false_or, or_true, true_or, or_self, and_true, true_and, and_false, false_and, nj_eqf, nj_ltt, nj_ltf, nj_let, nj_lef, nj_cl, nt_lef, ng_ltt, ng_let, ng_gtf, ng_gef, a1, k5, f1, f2, f3, f4, n1, f7, fc.1, fc.2, show (1 = 0) = False from eq_false (by omega)]
        · obtain ⟨A3, B, C, D', k3, ⟨A5, e5, e6⟩, eC, m', mm, z, hz, hzC, hA5, hcl, _⟩ := mod A D m
          have hz5 := hA5 A5 e5
          refine ⟨C, D', ?_, m', mm⟩
          have b := m_266 (P := fun j => E 205 j) (a := G.1) (b := G.2) (u := u) (g := a) hz W m'.1.1 hzC hle hcl hu (by omega) gb1 (fun x hx => by
            rw [← gb2 x hx]
            omega) 10000 (Nat.le_refl _)
          rw [nj_dec (by omega), show G.2 + 1 - max G.1 10000 = 0 by omega, if_neg (show ¬ max G.1 10000 ≤ G.2 by omega)] at b
          have e2 := nhD m.1.1 h8 hf ht hne (by omega)
          rw [e_X12_was]
          simp (disch := omega) only [tz_lit, nj_m1, nj_m2, nj_m3, nj_m4, nj_m5, nj_m6, nj_m7, ↓reduceIte, tz_bI_some, tz_bV_some, tz_bL_some, cj10, cj01, cjm0, eq_self, not_true_eq_false, not_false_eq_true, or_false, false_or, or_true, true_or, or_self, and_true, true_and, and_false, false_and, nj_eqf, nj_ltt, nj_ltf, nj_let, nj_lef, nj_cl, nt_lef, ng_ltt, ng_let, ng_gtf, ng_gef, (b7 A D m).1, (b7 A D m).2, b5, b1, b4, e2, k3, e5, e6, eC, hz5]
          rw [if_pos y]
          exact b
      · have hno := hEw.2.2.2 y
        rw [hno] at f4
        refine out_th (v := if u = 0 then tz_j 0 else tz_j 4294967295) c ww ⟨A4, ?_, fx4⟩ (fun A D m => ?_)
        · rw [e_X11_was]
          rcases (show u = 0 ∨ u = 1 by omega) with hu0 | hu0
          · subst hu0
            simp (disch := omega) only [tz_lit, nj_m1, nj_m2, nj_m3, nj_m4, nj_m5, nj_m6, nj_m7, ↓reduceIte, tz_bI_some, tz_bV_some, tz_bL_some, cj10, cj01, cjm0, eq_self, not_true_eq_false, not_false_eq_true, or_false, false_or, or_true, true_or, or_self, and_true, true_and, and_false, false_and, nj_eqf, nj_ltt, nj_ltf, nj_let, nj_lef, nj_cl, nt_lef, ng_ltt, ng_let, ng_gtf, ng_gef, a1, k5, f1, f2, f3, f4]
          · subst hu0
            simp (disch := omega) only [tz_lit, nj_m1, nj_m2, nj_m3, nj_m4, nj_m5, nj_m6, nj_m7, ↓reduceIte, tz_bI_some, tz_bV_some, tz_bL_some, cj10, cj01, cjm0, eq_self, not_true_eq_false, not_false_eq_true, or_false, false_or, or_true, true_or, or_self, and_true, true_and, and_false, false_and, nj_eqf, nj_ltt, nj_ltf, nj_let, nj_lef, nj_cl, nt_lef, ng_ltt, ng_let, ng_gtf, ng_gef, a1, k5, f1, f2, f3, f4, show (1 = 0) = False from eq_false (by omega)]
        · obtain ⟨A3, B, C, D', k3, ⟨A5, e5, e6⟩, eC, m', mm, z, hz, hzC, hA5, hcl, _⟩ := mod A D m
          have hz5 := hA5 A5 e5
          refine ⟨C, D', ?_, m', mm⟩
          have e2 := nhD m.1.1 h8 hf ht hne (by omega)
          rw [e_X12_was]
          simp (disch := omega) only [tz_lit, nj_m1, nj_m2, nj_m3, nj_m4, nj_m5, nj_m6, nj_m7, ↓reduceIte, tz_bI_some, tz_bV_some, tz_bL_some, cj10, cj01, cjm0, eq_self, not_true_eq_false, not_false_eq_true, or_false, false_or, or_true, true_or, or_self, and_true, true_and, and_false, false_and, nj_eqf, nj_ltt, nj_ltf, nj_let, nj_lef, nj_cl, nt_lef, ng_ltt, ng_let, ng_gtf, ng_gef, (b7 A D m).1, (b7 A D m).2, b5, b1, b4, e2, k3, e5, e6, eC, hz5]
          rw [if_neg y]
          exact m_266n hz hu
    · have k5 := k_two0 (A := A) h5
      have b5 := fun A => w_out (A := A) (n := 1) (by omega) h5
      refine out_ref (v := tz_j 4294967291 - tz_j 10) 5 (by omega) c ww ?_ (fun A D m => ?_)
      · rw [e_X11_was]
        simp (disch := omega) only [tz_lit, nj_m1, nj_m2, nj_m3, nj_m4, nj_m5, nj_m6, nj_m7, ↓reduceIte, tz_bI_some, tz_bV_some, tz_bL_some, cj10, cj01, cjm0, eq_self, not_true_eq_false, not_false_eq_true, or_false, false_or, or_true, true_or, or_self, and_true, true_and, and_false, false_and, nj_eqf, nj_ltt, nj_ltf, nj_let, nj_lef, nj_cl, nt_lef, ng_ltt, ng_let, ng_gtf, ng_gef, a1, k5, x_ref1, x_ref2, x_ref3, x_ref4, x_ref5, x_ref6, x_ref7, e_X11_refuseLower]
      · skip
        rw [e_X12_was]
        simp (disch := omega) only [tz_lit, nj_m1, nj_m2, nj_m3, nj_m4, nj_m5, nj_m6, nj_m7, ↓reduceIte, tz_bI_some, tz_bV_some, tz_bL_some, cj10, cj01, cjm0, eq_self, not_true_eq_false, not_false_eq_true, or_false, false_or, or_true, true_or, or_self, and_true, true_and, and_false, false_and, nj_eqf, nj_ltt, nj_ltf, nj_let, nj_lef, nj_cl, nt_lef, ng_ltt, ng_let, ng_gtf, ng_gef, (b7 A D m).1, (b7 A D m).2, b5, m_no1, m_no2, m_no3, m_no4, m_no5, m_no6, m_no7, e_X12_no10]
  · refine out_ref (v := tz_j 4294967295 - tz_j 10) 1 (by omega) c ww ?_ (fun A D m => ?_)
    · rw [e_X11_was]
      simp (disch := omega) only [tz_lit, nj_m1, nj_m2, nj_m3, nj_m4, nj_m5, nj_m6, nj_m7, ↓reduceIte, tz_bI_some, tz_bV_some, tz_bL_some, cj10, cj01, cjm0, eq_self, not_true_eq_false, not_false_eq_true, or_false, false_or, or_true, true_or, or_self, and_true, true_and, and_false, false_and, nj_eqf, nj_ltt, nj_ltf, nj_let, nj_lef, nj_cl, nt_lef, ng_ltt, ng_let, ng_gtf, ng_gef, a1, x_ref1, x_ref2, x_ref3, x_ref4, x_ref5, x_ref6, x_ref7, e_X11_refuseLower]
    · have bad : f_X12_isHill x2 A = some (some (.int (tz_j 0)), A) ∨ (f_X12_isHill x2 A = some (some (.int (tz_j 1)), A) ∧ f_X12_isHill x3 A = some (some (.int (tz_j 0)), A)) := by
        rcases ho with h | h
        · exact Or.inl (m_hash0 m.1.1 h (by omega))
        · rcases nj_three x2 (S 1 0) (by omega) with ⟨g, hg, rfl⟩ | h2
          · exact Or.inr ⟨m_hash1 m.1.1 hg (by omega), m_hash0 m.1.1 h (by omega)⟩
          · exact Or.inl (m_hash0 m.1.1 h2 (by omega))
      rw [e_X12_was]
      rcases bad with b | ⟨b, b2⟩
      · simp (disch := omega) only [tz_lit, nj_m1, nj_m2, nj_m3, nj_m4, nj_m5, nj_m6, nj_m7, ↓reduceIte, tz_bI_some, tz_bV_some, tz_bL_some, cj10, cj01, cjm0, eq_self, not_true_eq_false, not_false_eq_true, or_false, false_or, or_true, true_or, or_self, and_true, true_and, and_false, false_and, nj_eqf, nj_ltt, nj_ltf, nj_let, nj_lef, nj_cl, nt_lef, ng_ltt, ng_let, ng_gtf, ng_gef, b, m_no1, m_no2, m_no3, m_no4, m_no5, m_no6, m_no7, e_X12_no10]
      · simp (disch := omega) only [tz_lit, nj_m1, nj_m2, nj_m3, nj_m4, nj_m5, nj_m6, nj_m7, ↓reduceIte, tz_bI_some, tz_bV_some, tz_bL_some, cj10, cj01, cjm0, eq_self, not_true_eq_false, not_false_eq_true, or_false, false_or, or_true, true_or, or_self, and_true, true_and, and_false, false_and, nj_eqf, nj_ltt, nj_ltf, nj_let, nj_lef, nj_cl, nt_lef, ng_ltt, ng_let, ng_gtf, ng_gef, b, b2, m_no1, m_no2, m_no3, m_no4, m_no5, m_no6, m_no7, e_X12_no10]
  · have b7 : ∀ A D, MX D S K U V A → f_X12_isHill (tz_j f) A = some (some (.int (tz_j 1)), A) ∧ f_X12_isHill (tz_j t) A = some (some (.int (tz_j 1)), A) := fun A D m => ⟨m_hash1 m.1.1 hf (by omega), m_hash1 m.1.1 ht (by omega)⟩
    have wv := fun (A : tz_Mem) (x a b : Int32) => wi_v (x := x) (a := a) (b := b) A
    rcases nj_three x5 2 (by omega) with ⟨u, hu, rfl⟩ | h5
    · have k5 := k_two1 (A := A) hu
      have b5 := fun A => w_in (A := A) (u := u) (n := 1) (by omega) (by omega)
      refine out_ref (v := tz_j 4294967290 - tz_j 10) 6 (by omega) c ww ?_ (fun A D m => ?_)
      · rw [e_X11_was]
        simp (disch := omega) only [tz_lit, nj_m1, nj_m2, nj_m3, nj_m4, nj_m5, nj_m6, nj_m7, ↓reduceIte, tz_bI_some, tz_bV_some, tz_bL_some, cj10, cj01, cjm0, eq_self, not_true_eq_false, not_false_eq_true, or_false, false_or, or_true, true_or, or_self, and_true, true_and, and_false, false_and, nj_eqf, nj_ltt, nj_ltf, nj_let, nj_lef, nj_cl, nt_lef, ng_ltt, ng_let, ng_gtf, ng_gef, a1, k5, x_ref1, x_ref2, x_ref3, x_ref4, x_ref5, x_ref6, x_ref7, e_X11_refuseLower]
      · have e2 := nhC m.1.1 h8 hf ht
        rw [e_X12_was]
        rcases ho with y | y | y
        · simp (disch := omega) only [tz_lit, nj_m1, nj_m2, nj_m3, nj_m4, nj_m5, nj_m6, nj_m7, ↓reduceIte, tz_bI_some, tz_bV_some, tz_bL_some, cj10, cj01, cjm0, eq_self, not_true_eq_false, not_false_eq_true, or_false, false_or, or_true, true_or, or_self, and_true, true_and, and_false, false_and, nj_eqf, nj_ltt, nj_ltf, nj_let, nj_lef, nj_cl, nt_lef, ng_ltt, ng_let, ng_gtf, ng_gef, (b7 A D m).1, (b7 A D m).2, b5, y, e2, m_no1, m_no2, m_no3, m_no4, m_no5, m_no6, m_no7, e_X12_no10]
        · rcases wv A x1 (tz_j 0) (tz_j 9999) with y1 | y1
          · simp (disch := omega) only [tz_lit, nj_m1, nj_m2, nj_m3, nj_m4, nj_m5, nj_m6, nj_m7, ↓reduceIte, tz_bI_some, tz_bV_some, tz_bL_some, cj10, cj01, cjm0, eq_self, not_true_eq_false, not_false_eq_true, or_false, false_or, or_true, true_or, or_self, and_true, true_and, and_false, false_and, nj_eqf, nj_ltt, nj_ltf, nj_let, nj_lef, nj_cl, nt_lef, ng_ltt, ng_let, ng_gtf, ng_gef, (b7 A D m).1, (b7 A D m).2, b5, y1, e2, m_no1, m_no2, m_no3, m_no4, m_no5, m_no6, m_no7, e_X12_no10]
          · simp (disch := omega) only [tz_lit, nj_m1, nj_m2, nj_m3, nj_m4, nj_m5, nj_m6, nj_m7, ↓reduceIte, tz_bI_some, tz_bV_some, tz_bL_some, cj10, cj01, cjm0, eq_self, not_true_eq_false, not_false_eq_true, or_false, false_or, or_true, true_or, or_self, and_true, true_and, and_false, false_and, nj_eqf, nj_ltt, nj_ltf, nj_let, nj_lef, nj_cl, nt_lef, ng_ltt, ng_let, ng_gtf, ng_gef, (b7 A D m).1, (b7 A D m).2, b5, y1, y, e2, m_no1, m_no2, m_no3, m_no4, m_no5, m_no6, m_no7, e_X12_no10]
        · subst y
          have e3 : ∀ g, f_X12_noHanding (tz_j f) (tz_j f) g A = some (some (.int (tz_j 4294967290)), A) := fun g => nhB m.1.1 h8 hf
          rcases wv A x1 (tz_j 0) (tz_j 9999) with y1 | y1
          · simp (disch := omega) only [tz_lit, nj_m1, nj_m2, nj_m3, nj_m4, nj_m5, nj_m6, nj_m7, ↓reduceIte, tz_bI_some, tz_bV_some, tz_bL_some, cj10, cj01, cjm0, eq_self, not_true_eq_false, not_false_eq_true, or_false, false_or, or_true, true_or, or_self, and_true, true_and, and_false, false_and, nj_eqf, nj_ltt, nj_ltf, nj_let, nj_lef, nj_cl, nt_lef, ng_ltt, ng_let, ng_gtf, ng_gef, (b7 A D m).1, b5, y1, e3, m_no1, m_no2, m_no3, m_no4, m_no5, m_no6, m_no7, e_X12_no10]
          · rcases wv A x4 (tz_j 1) (tz_j 99) with y2 | y2
            · simp (disch := omega) only [tz_lit, nj_m1, nj_m2, nj_m3, nj_m4, nj_m5, nj_m6, nj_m7, ↓reduceIte, tz_bI_some, tz_bV_some, tz_bL_some, cj10, cj01, cjm0, eq_self, not_true_eq_false, not_false_eq_true, or_false, false_or, or_true, true_or, or_self, and_true, true_and, and_false, false_and, nj_eqf, nj_ltt, nj_ltf, nj_let, nj_lef, nj_cl, nt_lef, ng_ltt, ng_let, ng_gtf, ng_gef, (b7 A D m).1, b5, y1, y2, e3, m_no1, m_no2, m_no3, m_no4, m_no5, m_no6, m_no7, e_X12_no10]
            · simp (disch := omega) only [tz_lit, nj_m1, nj_m2, nj_m3, nj_m4, nj_m5, nj_m6, nj_m7, ↓reduceIte, tz_bI_some, tz_bV_some, tz_bL_some, cj10, cj01, cjm0, eq_self, not_true_eq_false, not_false_eq_true, or_false, false_or, or_true, true_or, or_self, and_true, true_and, and_false, false_and, nj_eqf, nj_ltt, nj_ltf, nj_let, nj_lef, nj_cl, nt_lef, ng_ltt, ng_let, ng_gtf, ng_gef, (b7 A D m).1, b5, y1, y2, e3, m_no1, m_no2, m_no3, m_no4, m_no5, m_no6, m_no7, e_X12_no10]
    · have k5 := k_two0 (A := A) h5
      have b5 := fun A => w_out (A := A) (n := 1) (by omega) h5
      refine out_ref (v := tz_j 4294967291 - tz_j 10) 5 (by omega) c ww ?_ (fun A D m => ?_)
      · rw [e_X11_was]
        simp (disch := omega) only [tz_lit, nj_m1, nj_m2, nj_m3, nj_m4, nj_m5, nj_m6, nj_m7, ↓reduceIte, tz_bI_some, tz_bV_some, tz_bL_some, cj10, cj01, cjm0, eq_self, not_true_eq_false, not_false_eq_true, or_false, false_or, or_true, true_or, or_self, and_true, true_and, and_false, false_and, nj_eqf, nj_ltt, nj_ltf, nj_let, nj_lef, nj_cl, nt_lef, ng_ltt, ng_let, ng_gtf, ng_gef, a1, k5, x_ref1, x_ref2, x_ref3, x_ref4, x_ref5, x_ref6, x_ref7, e_X11_refuseLower]
      · skip
        rw [e_X12_was]
        simp (disch := omega) only [tz_lit, nj_m1, nj_m2, nj_m3, nj_m4, nj_m5, nj_m6, nj_m7, ↓reduceIte, tz_bI_some, tz_bV_some, tz_bL_some, cj10, cj01, cjm0, eq_self, not_true_eq_false, not_false_eq_true, or_false, false_or, or_true, true_or, or_self, and_true, true_and, and_false, false_and, nj_eqf, nj_ltt, nj_ltf, nj_let, nj_lef, nj_cl, nt_lef, ng_ltt, ng_let, ng_gtf, ng_gef, (b7 A D m).1, (b7 A D m).2, b5, m_no1, m_no2, m_no3, m_no4, m_no5, m_no6, m_no7, e_X12_no10]
  · have b7 : ∀ A D, MX D S K U V A → f_X12_isHill (tz_j f) A = some (some (.int (tz_j 1)), A) ∧ f_X12_isHill (tz_j t) A = some (some (.int (tz_j 1)), A) := fun A D m => ⟨m_hash1 m.1.1 hf (by omega), m_hash1 m.1.1 ht (by omega)⟩
    have b1 : ∀ A, f_X12_within (tz_j a) (tz_j 0) (tz_j 9999) A = some (some (.int (tz_j 1)), A) := fun A => by
      rw [m_within (by omega) (by omega) (by omega), if_pos ⟨(by omega), (by omega)⟩]
    have b4 : ∀ A, f_X12_within (tz_j v) (tz_j 1) (tz_j 99) A = some (some (.int (tz_j 1)), A) := fun A => by
      rw [m_within (by omega) (by omega) (by omega), if_pos ⟨(by omega), (by omega)⟩]
    rcases nj_three x5 2 (by omega) with ⟨u, hu, rfl⟩ | h5
    · have k5 := k_two1 (A := A) hu
      have b5 := fun A => w_in (A := A) (u := u) (n := 1) (by omega) (by omega)
      refine out_ref (v := tz_j 4294967289 - tz_j 10) 7 (by omega) c ww ?_ (fun A D m => ?_)
      · rw [e_X11_was]
        simp (disch := omega) only [tz_lit, nj_m1, nj_m2, nj_m3, nj_m4, nj_m5, nj_m6, nj_m7, ↓reduceIte, tz_bI_some, tz_bV_some, tz_bL_some, cj10, cj01, cjm0, eq_self, not_true_eq_false, not_false_eq_true, or_false, false_or, or_true, true_or, or_self, and_true, true_and, and_false, false_and, nj_eqf, nj_ltt, nj_ltf, nj_let, nj_lef, nj_cl, nt_lef, ng_ltt, ng_let, ng_gtf, ng_gef, a1, k5, x_ref1, x_ref2, x_ref3, x_ref4, x_ref5, x_ref6, x_ref7, e_X11_refuseLower]
      · skip
        have e2 := nhE m.1.1 h8 hf ht hne h15
        rw [e_X12_was]
        simp (disch := omega) only [tz_lit, nj_m1, nj_m2, nj_m3, nj_m4, nj_m5, nj_m6, nj_m7, ↓reduceIte, tz_bI_some, tz_bV_some, tz_bL_some, cj10, cj01, cjm0, eq_self, not_true_eq_false, not_false_eq_true, or_false, false_or, or_true, true_or, or_self, and_true, true_and, and_false, false_and, nj_eqf, nj_ltt, nj_ltf, nj_let, nj_lef, nj_cl, nt_lef, ng_ltt, ng_let, ng_gtf, ng_gef, (b7 A D m).1, (b7 A D m).2, b5, b1, b4, e2, m_no1, m_no2, m_no3, m_no4, m_no5, m_no6, m_no7, e_X12_no10]
    · have k5 := k_two0 (A := A) h5
      have b5 := fun A => w_out (A := A) (n := 1) (by omega) h5
      refine out_ref (v := tz_j 4294967291 - tz_j 10) 5 (by omega) c ww ?_ (fun A D m => ?_)
      · rw [e_X11_was]
        simp (disch := omega) only [tz_lit, nj_m1, nj_m2, nj_m3, nj_m4, nj_m5, nj_m6, nj_m7, ↓reduceIte, tz_bI_some, tz_bV_some, tz_bL_some, cj10, cj01, cjm0, eq_self, not_true_eq_false, not_false_eq_true, or_false, false_or, or_true, true_or, or_self, and_true, true_and, and_false, false_and, nj_eqf, nj_ltt, nj_ltf, nj_let, nj_lef, nj_cl, nt_lef, ng_ltt, ng_let, ng_gtf, ng_gef, a1, k5, x_ref1, x_ref2, x_ref3, x_ref4, x_ref5, x_ref6, x_ref7, e_X11_refuseLower]
      · skip
        rw [e_X12_was]
        simp (disch := omega) only [tz_lit, nj_m1, nj_m2, nj_m3, nj_m4, nj_m5, nj_m6, nj_m7, ↓reduceIte, tz_bI_some, tz_bV_some, tz_bL_some, cj10, cj01, cjm0, eq_self, not_true_eq_false, not_false_eq_true, or_false, false_or, or_true, true_or, or_self, and_true, true_and, and_false, false_and, nj_eqf, nj_ltt, nj_ltf, nj_let, nj_lef, nj_cl, nt_lef, ng_ltt, ng_let, ng_gtf, ng_gef, (b7 A D m).1, (b7 A D m).2, b5, m_no1, m_no2, m_no3, m_no4, m_no5, m_no6, m_no7, e_X12_no10]
