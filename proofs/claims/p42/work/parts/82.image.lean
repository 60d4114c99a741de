/-! the image, burning -/
theorem h53 : tz_sky 53 := by unfold tz_sky; omega
def im_p (k i : Nat) : Prop := bc_p 53 k i ∨ (k = 17 ∧ i = 12)
def bi_p (k i : Nat) : Prop := bc_p 30 k i ∨ k = 19
def sh_d (n : Nat) (x : Int32) : Int32 := if x < tz_j 100 then (if x < tz_j n then x else tz_j 4294967295) else x
def dr_u (n : Nat) (U : tz_U) : tz_U := fun k i => if k = 0 then sh_d n (U 0 i) else U k i
theorem x_drop {n : Nat} : ∀ k i A, i + k = 8 → ∃ A', q_X8_dropHillsFrom_2 (tz_j n) (tz_j i) A = some (none, A') ∧ (∀ s, i ≤ s → s < 8 → tz_g A' 19 s = sh_d n (tz_g A 19 s)) ∧ A'.1 = A.1 ∧ A'.2.2 = A.2.2 ∧ ∀ k' i', ¬ (k' = 19 ∧ i ≤ i' ∧ i' < 8) → tz_g A' k' i' = tz_g A k' i' := by
  intro k
  induction k with
  | zero =>
    intro i A hi
    refine ⟨A, ?_, fun s h1 h2 => by omega, rfl, rfl, fun _ _ _ => rfl⟩
    rw [e_X8_dropHillsFrom_2]
    simp (disch := omega) only [tz_lit, nj_m1, ↓reduceIte, nj_cl, nj_ltt, nj_ltf, nj_let, nj_lef, nj_eqf, nj_lt, nj_le, nj_eq, nj_add, nj_mul, nj_modx, nj_and7, nj_div, tz_bI_some, tz_bV_some, or_false, false_or, or_self, and_false, false_and, and_true, true_and, not_true_eq_false, not_false_eq_true, nt_lef, nt_let, nt_ltf, nt_ltt, nt_eqf, nj_m2, nj_m3, nj_m4, nj_m5, nj_m6, nj_m7, tz_bL_some, nj_sub, ng_ltt, ng_let, ng_gtf, ng_gef]
  | succ k ih =>
    intro i A hi
    have n1 : (tz_j 8 ≤ tz_j i) = False := nj_lef (by omega) (by omega)
    have n2 := nj_ix8 (s := i) (n := 8) (by omega) (by omega)
    have n3 : (tz_j i).toNatClampNeg = i := nj_cl (by omega)
    have n4 : tz_j i + tz_j 1 = tz_j (i + 1) := nj_add
    rcases pr_tf (tz_g A 19 i < tz_j 100) with y | y
    · have a1 : f_X8_holdsRow (tz_j i) A = some (some (.int (tz_j 0)), A) := by
        rw [e_X8_holdsRow]
        simp only [tz_lit, nj_m1, nj_m2, nj_m3, nj_m4, nj_m5, nj_m6, nj_m7, ↓reduceIte, tz_bI_some, tz_bV_some, tz_bL_some, cj10, cj01, cjm0, eq_self, not_true_eq_false, not_false_eq_true, or_false, false_or, or_true, true_or, or_self, and_true, true_and, and_false, false_and, n2, n3, y]
      rcases pr_tf (tz_g A 19 i < tz_j n) with x | x
      · obtain ⟨A', f, g, e1, e2, e3⟩ := ih (i + 1) A (by omega)
        refine ⟨A', ?_, fun s h1 h2 => ?_, e1, e2, fun k' i' h => e3 k' i' (by omega)⟩
        · rw [e_X8_dropHillsFrom_2]
          simp only [tz_lit, nj_m1, nj_m2, nj_m3, nj_m4, nj_m5, nj_m6, nj_m7, ↓reduceIte, tz_bI_some, tz_bV_some, tz_bL_some, cj10, cj01, cjm0, eq_self, not_true_eq_false, not_false_eq_true, or_false, false_or, or_true, true_or, or_self, and_true, true_and, and_false, false_and, n1, n2, n3, n4, a1, x, f]
        · by_cases z : s = i
          · subst z
            rw [e3 _ _ (by omega)]
            unfold sh_d
            simp only [tz_lit, nj_m1, nj_m2, nj_m3, nj_m4, nj_m5, nj_m6, nj_m7, ↓reduceIte, tz_bI_some, tz_bV_some, tz_bL_some, cj10, cj01, cjm0, eq_self, not_true_eq_false, not_false_eq_true, or_false, false_or, or_true, true_or, or_self, and_true, true_and, and_false, false_and, x, y]
          · exact g s (by omega) h2
      · obtain ⟨A', f, g, e1, e2, e3⟩ := ih (i + 1) (tz_s A 19 i (tz_j 4294967295)) (by omega)
        refine ⟨A', ?_, fun s h1 h2 => ?_, e1, e2, fun k' i' h => (e3 k' i' (by omega)).trans (by rw [tz_gS, if_neg (by omega)])⟩
        · rw [e_X8_dropHillsFrom_2]
          simp only [tz_lit, nj_m1, nj_m2, nj_m3, nj_m4, nj_m5, nj_m6, nj_m7, ↓reduceIte, tz_bI_some, tz_bV_some, tz_bL_some, cj10, cj01, cjm0, eq_self, not_true_eq_false, not_false_eq_true, or_false, false_or, or_true, true_or, or_self, and_true, true_and, and_false, false_and, n1, n2, n3, n4, a1, x, f]
        · by_cases z : s = i
          · subst z
            rw [e3 _ _ (by omega), tz_gs1]
            unfold sh_d
            simp only [tz_lit, nj_m1, nj_m2, nj_m3, nj_m4, nj_m5, nj_m6, nj_m7, ↓reduceIte, tz_bI_some, tz_bV_some, tz_bL_some, cj10, cj01, cjm0, eq_self, not_true_eq_false, not_false_eq_true, or_false, false_or, or_true, true_or, or_self, and_true, true_and, and_false, false_and, x, y]
          · rw [g s (by omega) h2, tz_gsi z]
    · have a1 : f_X8_holdsRow (tz_j i) A = some (some (.int (tz_j 1)), A) := by
        rw [e_X8_holdsRow]
        simp only [tz_lit, nj_m1, nj_m2, nj_m3, nj_m4, nj_m5, nj_m6, nj_m7, ↓reduceIte, tz_bI_some, tz_bV_some, tz_bL_some, cj10, cj01, cjm0, eq_self, not_true_eq_false, not_false_eq_true, or_false, false_or, or_true, true_or, or_self, and_true, true_and, and_false, false_and, n2, n3, y]
      obtain ⟨A', f, g, e1, e2, e3⟩ := ih (i + 1) A (by omega)
      refine ⟨A', ?_, fun s h1 h2 => ?_, e1, e2, fun k' i' h => e3 k' i' (by omega)⟩
      · rw [e_X8_dropHillsFrom_2]
        simp only [tz_lit, nj_m1, nj_m2, nj_m3, nj_m4, nj_m5, nj_m6, nj_m7, ↓reduceIte, tz_bI_some, tz_bV_some, tz_bL_some, cj10, cj01, cjm0, eq_self, not_true_eq_false, not_false_eq_true, or_false, false_or, or_true, true_or, or_self, and_true, true_and, and_false, false_and, n1, n2, n3, n4, a1, cj10, f]
      · by_cases z : s = i
        · subst z
          rw [e3 _ _ (by omega)]
          unfold sh_d
          simp only [tz_lit, nj_m1, nj_m2, nj_m3, nj_m4, nj_m5, nj_m6, nj_m7, ↓reduceIte, tz_bI_some, tz_bV_some, tz_bL_some, cj10, cj01, cjm0, eq_self, not_true_eq_false, not_false_eq_true, or_false, false_or, or_true, true_or, or_self, and_true, true_and, and_false, false_and, y]
        · exact g s (by omega) h2
theorem sh_d_wu {S K : tz_S} {x : Int32} (h8 : S 1 0 ≤ 8) (k8 : K 1 0 ≤ 8) (h : x = tz_j 4294967295 ∨ (∃ h, h < S 1 0 ∧ x = tz_j h) ∨ (∃ t, t < 4 ∧ x = tz_j (100 + t))) : sh_d (K 1 0) x = tz_j 4294967295 ∨ (∃ h, h < K 1 0 ∧ sh_d (K 1 0) x = tz_j h) ∨ (∃ t, t < 4 ∧ sh_d (K 1 0) x = tz_j (100 + t)) := by
  unfold sh_d
  rcases h with rfl | ⟨h, hh, rfl⟩ | ⟨t, ht, rfl⟩
  · refine Or.inl ?_
    simp (disch := omega) only [tz_lit, nj_m1, nj_m2, nj_m3, nj_m4, nj_m5, nj_m6, nj_m7, ↓reduceIte, tz_bI_some, tz_bV_some, tz_bL_some, cj10, cj01, cjm0, eq_self, not_true_eq_false, not_false_eq_true, or_false, false_or, or_true, true_or, or_self, and_true, true_and, and_false, false_and, nj_eqf, nj_ltt, nj_ltf, nj_let, nj_lef, nj_cl, nt_lef, ng_ltt, ng_let, ng_gtf, ng_gef]
  · by_cases y : h < K 1 0
    · refine Or.inr (Or.inl ⟨h, y, ?_⟩)
      simp (disch := omega) only [tz_lit, nj_m1, nj_m2, nj_m3, nj_m4, nj_m5, nj_m6, nj_m7, ↓reduceIte, tz_bI_some, tz_bV_some, tz_bL_some, cj10, cj01, cjm0, eq_self, not_true_eq_false, not_false_eq_true, or_false, false_or, or_true, true_or, or_self, and_true, true_and, and_false, false_and, nj_eqf, nj_ltt, nj_ltf, nj_let, nj_lef, nj_cl, nt_lef, ng_ltt, ng_let, ng_gtf, ng_gef]
    · refine Or.inl ?_
      simp (disch := omega) only [tz_lit, nj_m1, nj_m2, nj_m3, nj_m4, nj_m5, nj_m6, nj_m7, ↓reduceIte, tz_bI_some, tz_bV_some, tz_bL_some, cj10, cj01, cjm0, eq_self, not_true_eq_false, not_false_eq_true, or_false, false_or, or_true, true_or, or_self, and_true, true_and, and_false, false_and, nj_eqf, nj_ltt, nj_ltf, nj_let, nj_lef, nj_cl, nt_lef, ng_ltt, ng_let, ng_gtf, ng_gef]
  · refine Or.inr (Or.inr ⟨t, ht, ?_⟩)
    simp (disch := omega) only [tz_lit, nj_m1, nj_m2, nj_m3, nj_m4, nj_m5, nj_m6, nj_m7, ↓reduceIte, tz_bI_some, tz_bV_some, tz_bL_some, cj10, cj01, cjm0, eq_self, not_true_eq_false, not_false_eq_true, or_false, false_or, or_true, true_or, or_self, and_true, true_and, and_false, false_and, nj_eqf, nj_ltt, nj_ltf, nj_let, nj_lef, nj_cl, nt_lef, ng_ltt, ng_let, ng_gtf, ng_gef]
theorem x_burn0 {b l : Nat} {S : tz_S} {A : tz_Mem} (hb : tz_sky b) (r : rx b 99 S A) (W : sp_W1 S) (W2 : sp_W2 S) (hl : l < S 15 0) (hw : 200 ≤ S 20 l) : f_X9_burnLetter b (tz_j l) A = some (some (.int (tz_j 0)), A) := by
  have h12 := W.2.2.1
  have h8 := W.1
  have h4 := W.2.1
  have hv := (W2.2.1 l hl).2.1
  unfold sp_wh at hv
  have ho : tz_g A (b + 20) l = tz_j (S 20 l) := cx_20 r.1 (by omega)
  rw [e_X9_burnLetter _ _ hb]
  simp (disch := omega) only [tz_lit, nj_m1, ↓reduceIte, nj_cl, nj_ltt, nj_ltf, nj_let, nj_lef, nj_eqf, nj_lt, nj_le, nj_eq, nj_add, nj_mul, nj_modx, nj_and7, nj_div, tz_bI_some, tz_bV_some, or_false, false_or, or_self, and_false, false_and, and_true, true_and, not_true_eq_false, not_false_eq_true, nt_lef, nt_let, nt_ltf, nt_ltt, nt_eqf, nj_m2, nj_m3, nj_m4, nj_m5, nj_m6, nj_m7, tz_bL_some, nj_sub, ng_ltt, ng_let, ng_gtf, ng_gef, ho]
theorem x_burn1 {b l : Nat} {S : tz_S} {A : tz_Mem} (hb : tz_sky b) (r : rx b 99 S A) (W : sp_W1 S) (W2 : sp_W2 S) (hl : l < S 15 0) (hw : S 20 l < 200) : ∃ A', f_X9_burnLetter b (tz_j l) A = some (some (.int (tz_j 1)), A') ∧ rx b 99 (tz_t S 20 l 300) A' ∧ tz_fr (rx_p b) A A' := by
  have hs := sky_lo hb
  have h12 := W.2.2.1
  have h8 := W.1
  have h4 := W.2.1
  have hv := (W2.2.1 l hl).2.1
  unfold sp_wh at hv
  have ho : tz_g A (b + 20) l = tz_j (S 20 l) := cx_20 r.1 (by omega)
  by_cases c1 : S 20 l < 100
  · have r2 : rx b 99 (tz_t S 20 l 300) (tz_s (tz_s A (b + 4) (S 20 l) (tz_g A (b + 4) (S 20 l) &&& ((tz_j 1 <<< (tz_j l &&& tz_j 31)) ^^^ tz_j 4294967295))) (b + 20) l (tz_j 300)) := by
      refine rx_move hb r h8 (fun g hg => ?_) (fun u hu hx => ?_) (fun k i a1 a2 a3 => ?_) ?_ rfl
      · rw [tz_gsk (by omega)]
        by_cases q : g = S 20 l
        · rw [q, tz_gs1]
          refine bt_congr (bj_clr (by omega) (r.2.1 _ (by omega))) (fun m _ => ?_)
          by_cases z : m = l
          · have z1 : ¬ 300 = S 20 l := by omega
            simp [z, z1]
          · have z2 : ¬ l = m := fun y => z y.symm
            simp [z, z2]
        · rw [tz_gsi q]
          refine bt_congr (r.2.1 g hg) (fun m _ => ?_)
          by_cases z : m = l
          · subst z
            have z1 : ¬ 300 = g := by omega
            have z2 : ¬ S 20 m = g := by omega
            simp [z1, z2]
          · simp [z]
      · rw [tz_gsk (by omega), tz_gsk (by omega)]
        refine bt_congr (r.2.2.1 u hu hx) (fun m _ => ?_)
        by_cases z : m = l
        · subst z
          have z1 : ¬ S 20 m = 100 + u := by omega
          have z2 : ¬ 300 = 100 + u := by omega
          simp [z1, z2]
        · simp [z]
      · rw [tz_gS, if_neg (by omega), tz_gsk a1]
      · rw [tz_gs1]
    have f : tz_fr (rx_p b) A (tz_s (tz_s A (b + 4) (S 20 l) (tz_g A (b + 4) (S 20 l) &&& ((tz_j 1 <<< (tz_j l &&& tz_j 31)) ^^^ tz_j 4294967295))) (b + 20) l (tz_j 300)) := fr_s (fr_s fr_rfl (Or.inl (by omega))) (Or.inl (by omega))
    refine ⟨_, ?_, r2, f⟩
    rw [e_X9_burnLetter _ _ hb]
    simp (disch := omega) only [tz_lit, nj_m1, ↓reduceIte, nj_cl, nj_ltt, nj_ltf, nj_let, nj_lef, nj_eqf, nj_lt, nj_le, nj_eq, nj_add, nj_mul, nj_modx, nj_and7, nj_div, tz_bI_some, tz_bV_some, or_false, false_or, or_self, and_false, false_and, and_true, true_and, not_true_eq_false, not_false_eq_true, nt_lef, nt_let, nt_ltf, nt_ltt, nt_eqf, nj_m2, nj_m3, nj_m4, nj_m5, nj_m6, nj_m7, tz_bL_some, nj_sub, ng_ltt, ng_let, ng_gtf, ng_gef, ho]
  · obtain ⟨t, ht, e⟩ : ∃ t, t < S 7 0 ∧ S 20 l = 100 + t := ⟨S 20 l - 100, by omega, by omega⟩
    rw [e] at ho
    have r2 : rx b 99 (tz_t S 20 l 300) (tz_s (tz_s A (b + 14) t (tz_g A (b + 14) t &&& ((tz_j 1 <<< (tz_j l &&& tz_j 31)) ^^^ tz_j 4294967295))) (b + 20) l (tz_j 300)) := by
      refine rx_move hb r h8 (fun g hg => ?_) (fun u hu hx => ?_) (fun k i a1 a2 a3 => ?_) ?_ rfl
      · rw [tz_gsk (by omega), tz_gsk (by omega)]
        refine bt_congr (r.2.1 g hg) (fun m _ => ?_)
        by_cases z : m = l
        · subst z
          have z1 : ¬ 300 = g := by omega
          have z2 : ¬ S 20 m = g := by omega
          simp [z1, z2]
        · simp [z]
      · rw [tz_gsk (by omega)]
        by_cases q : u = t
        · rw [q, tz_gs1]
          refine bt_congr (bj_clr (by omega) (r.2.2.1 t ht (by omega))) (fun m _ => ?_)
          by_cases z : m = l
          · have z1 : ¬ 300 = 100 + t := by omega
            simp [z, z1]
          · have z2 : ¬ l = m := fun y => z y.symm
            simp [z, z2]
        · rw [tz_gsi q]
          refine bt_congr (r.2.2.1 u hu hx) (fun m _ => ?_)
          by_cases z : m = l
          · subst z
            have z1 : ¬ S 20 m = 100 + u := by omega
            have z2 : ¬ 300 = 100 + u := by omega
            simp [z1, z2]
          · simp [z]
      · rw [tz_gS, if_neg (by omega), tz_gsk a2]
      · rw [tz_gs1]
    have f : tz_fr (rx_p b) A (tz_s (tz_s A (b + 14) t (tz_g A (b + 14) t &&& ((tz_j 1 <<< (tz_j l &&& tz_j 31)) ^^^ tz_j 4294967295))) (b + 20) l (tz_j 300)) := fr_s (fr_s fr_rfl (Or.inl (by omega))) (Or.inl (by omega))
    have e4 : tz_j (100 + t) - tz_j 100 = tz_j t := hu_s t (by omega)
    refine ⟨_, ?_, r2, f⟩
    rw [e_X9_burnLetter _ _ hb]
    simp (disch := omega) only [tz_lit, nj_m1, ↓reduceIte, nj_cl, nj_ltt, nj_ltf, nj_let, nj_lef, nj_eqf, nj_lt, nj_le, nj_eq, nj_add, nj_mul, nj_modx, nj_and7, nj_div, tz_bI_some, tz_bV_some, or_false, false_or, or_self, and_false, false_and, and_true, true_and, not_true_eq_false, not_false_eq_true, nt_lef, nt_let, nt_ltf, nt_ltt, nt_eqf, nj_m2, nj_m3, nj_m4, nj_m5, nj_m6, nj_m7, tz_bL_some, ng_ltt, ng_let, ng_gtf, ng_gef, ho, e4]
theorem H_20 {N l v : Nat} {S : tz_S} (H : sp_H N S) (hv : sp_wh S v) (hv2 : v ≠ 200) (hw : S 20 l ≠ 200) : sp_H N (tz_t S 20 l v) := by
  obtain ⟨W, W2, WE, h3, hT⟩ := H
  have f : sp_f S (tz_t S 20 l v) := sf_t (by unfold sp_kp; omega)
  exact ⟨sf_W1 f W, W2_20 W2 hv hv2 hw, we_mv WE (fun k i _ _ => tz_tk (by omega)), h3, hT⟩
