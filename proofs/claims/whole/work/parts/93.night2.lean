/-! the told night: both -/
def sp_ns (u n : Nat) (T : Nat → Nat) (S : tz_S) : tz_S := fun k i => if k = 200 then 2 else if k = 202 then (if i = 1 then n else if i = 2 then u else 0) else if k = 203 then T i else S k i
theorem ns_get {u n : Nat} {T : Nat → Nat} {S : tz_S} {k i : Nat} (h : k < 200) : sp_ns u n T S k i = S k i := by
  unfold sp_ns
  rw [if_neg (by omega), if_neg (by omega), if_neg (by omega)]
theorem ns_H {N u n : Nat} {T : Nat → Nat} {S : tz_S} (H : sp_H N S) (hu : u < 8) (hn : n ≤ 40) (hT : ∀ j, T j < 4294967296) : sp_H N (sp_ns u n T S) := by
  have e200 : sp_ns u n T S 200 0 = 2 := rfl
  refine H_ear H (fun k i h => ns_get h) ⟨by rw [e200]; omega, fun q => ?_, fun _ => ⟨Nat.zero_le _, hn, hu, Nat.zero_le _, hT⟩, fun q => ?_⟩
  · rw [e200] at q
    omega
  · rw [e200] at q
    omega
theorem x_cpn2 {s len : Nat} {f : Nat → Int32} (hs : s < 8) (hl : len ≤ 40) : ∀ k i A, i + k = len → (∀ j, j < len → Int64.toInt32 (tz_gl A (22 + s) j) = f j) → ∃ A', q_X8_copyNumbers_s152_3 (tz_j s) (tz_j len) (tz_j i) A = some (none, A') ∧ (∀ j, i ≤ j → j < len → tz_g A' 152 j = f j) ∧ tz_fx (fun k _ => k = 152) A A' ∧ ∀ j, j < i → tz_g A' 152 j = tz_g A 152 j := by
  intro k
  induction k with
  | zero =>
    intro i A hi hf
    have n1 : (tz_j len ≤ tz_j i) = True := nj_let (by omega) (by omega)
    refine ⟨A, ?_, fun j h1 h2 => by omega, fx_rfl, fun _ _ => rfl⟩
    rw [e_X8_copyNumbers_s152_3]
    simp only [tz_lit, nj_m1, nj_m2, nj_m3, nj_m4, nj_m5, nj_m6, nj_m7, ↓reduceIte, tz_bI_some, tz_bV_some, tz_bL_some, cj10, cj01, cjm0, eq_self, not_true_eq_false, not_false_eq_true, or_false, false_or, or_true, true_or, or_self, and_true, true_and, and_false, false_and, n1]
  | succ k ih =>
    intro i A hi hf
    have n1 : (tz_j len ≤ tz_j i) = False := nj_lef (by omega) (by omega)
    have n2 : (tz_j 40 ≤ tz_j i) = False := nj_lef (by omega) (by omega)
    have a1 := x_num (A := A) hs (show i < 160 by omega) (hf i (by omega))
    have n3 := nj_ix8 (s := i) (n := 40) (by omega) (by omega)
    have c1 : (tz_j i).toNatClampNeg = i := nj_cl (by omega)
    have a3 : tz_j i + tz_j 1 = tz_j (i + 1) := nj_add
    obtain ⟨A', e, g, ff, h⟩ := ih (i + 1) (tz_s A 152 i (f i)) (by omega) hf
    refine ⟨A', ?_, fun j h1 h2 => ?_, fx_tr (fx_s fx_rfl rfl) ff, fun j hj => (h j (by omega)).trans (tz_gsi (by omega))⟩
    · rw [e_X8_copyNumbers_s152_3]
      simp only [tz_lit, nj_m1, nj_m2, nj_m3, nj_m4, nj_m5, nj_m6, nj_m7, ↓reduceIte, tz_bI_some, tz_bV_some, tz_bL_some, cj10, cj01, cjm0, eq_self, not_true_eq_false, not_false_eq_true, or_false, false_or, or_true, true_or, or_self, and_true, true_and, and_false, false_and, n1, n2, n3, c1, a1, a3, e]
    · by_cases z : j = i
      · rw [z, h i (by omega), tz_gs1]
      · exact g j (by omega) h2
theorem x_ngL {n : Nat} (hn : n ≤ 40) : ∀ k i N S A, i + k = 500 → N + k ≤ 2000000 → rx 76 99 S A → sp_H N S → S 200 0 = 2 → S 202 1 = n → ∃ A', q_X11_night_106 (tz_j n) (tz_j i) A = some (some (.int (if sp_ng k S 202 0 < n then tz_j (sp_ng k S 202 0) else tz_j 4294967295)), A') ∧ tz_fr (rx_p 76) A A' := by
  have fin : ∀ (a : Nat) (A : tz_Mem), a ≤ n → (if tz_j a = tz_j n then some (some (.int (tz_j 4294967295)), A) else some (some (.int (tz_j a)), A) : tz_X) = some (some (.int (if a < n then tz_j a else tz_j 4294967295)), A) := by
    intro a A ha
    by_cases z : a < n
    · have n1 : (tz_j a = tz_j n) = False := nj_eqf (by omega) (by omega) (by omega)
      simp only [tz_lit, nj_m1, nj_m2, nj_m3, nj_m4, nj_m5, nj_m6, nj_m7, ↓reduceIte, tz_bI_some, tz_bV_some, tz_bL_some, cj10, cj01, cjm0, eq_self, not_true_eq_false, not_false_eq_true, or_false, false_or, or_true, true_or, or_self, and_true, true_and, and_false, false_and, n1, if_pos z]
    · have n1 : (tz_j a = tz_j n) = True := nj_eqt (by omega)
      simp only [tz_lit, nj_m1, nj_m2, nj_m3, nj_m4, nj_m5, nj_m6, nj_m7, ↓reduceIte, tz_bI_some, tz_bV_some, tz_bL_some, cj10, cj01, cjm0, eq_self, not_true_eq_false, not_false_eq_true, or_false, false_or, or_true, true_or, or_self, and_true, true_and, and_false, false_and, n1, if_neg z]
  intro k
  induction k with
  | zero =>
    intro i N S A hi hN r H h2 h1
    have we := H.2.2.1.2.2.1 h2
    obtain rfl : i = 500 := by omega
    have n1 : (tz_j 500 ≤ tz_j 500) = True := nj_let (by omega) (by omega)
    have q0 : tz_g A 151 0 = tz_j (S 202 0) := (r.2.2.2.2.2.2.1 h2).1
    refine ⟨A, ?_, fr_rfl⟩
    rw [e_X11_night_106, ite_not]
    simp only [tz_lit, nj_m1, nj_m2, nj_m3, nj_m4, nj_m5, nj_m6, nj_m7, ↓reduceIte, tz_bI_some, tz_bV_some, tz_bL_some, cj10, cj01, cjm0, eq_self, not_true_eq_false, not_false_eq_true, or_false, false_or, or_true, true_or, or_self, and_true, true_and, and_false, false_and, n1, q0]
    exact fin (S 202 0) A (by omega)
  | succ k ih =>
    intro i N S A hi hN r H h2 h1
    have we := H.2.2.1.2.2.1 h2
    have n1 : (tz_j 500 ≤ tz_j i) = False := nj_lef (by omega) (by omega)
    obtain ⟨q0, q1, _, q3, _⟩ := r.2.2.2.2.2.2.1 h2
    rw [h1] at q1
    have es : sp_ng (k + 1) S = if S 202 3 = 0 ∧ S 202 0 < S 202 1 then sp_ng k (sp_tk S) else S := rfl
    rw [es, e_X11_night_106]
    have stop : ∀ v : Int32, f_X5_listens A = some (some (.int (tz_j 0)), A) → ∃ A', (if tz_j 500 ≤ tz_j i then (if ¬ tz_g A 151 0 = tz_j n then some (some (.int (tz_g A 151 0)), A) else some (some (.int (tz_j 4294967295)), A)) else tz_bI (f_X5_listens A) (fun y1 A1 => if y1 = tz_j 0 then (if ¬ tz_g A1 151 0 = tz_j n then some (some (.int (tz_g A1 151 0)), A1) else some (some (.int (tz_j 4294967295)), A1)) else tz_bV (f_X9_tick 76 A1) (fun A2 => q_X11_night_106 (tz_j n) (tz_j i + tz_j 1) A2)) : tz_X) = some (some (.int (if S 202 0 < n then tz_j (S 202 0) else tz_j 4294967295)), A') ∧ tz_fr (rx_p 76) A A' := by
      intro v el
      refine ⟨A, ?_, fr_rfl⟩
      rw [← fin (S 202 0) A (by omega)]
      by_cases z : tz_j (S 202 0) = tz_j n
      · simp only [tz_lit, nj_m1, nj_m2, nj_m3, nj_m4, nj_m5, nj_m6, nj_m7, ↓reduceIte, tz_bI_some, tz_bV_some, tz_bL_some, cj10, cj01, cjm0, eq_self, not_true_eq_false, not_false_eq_true, or_false, false_or, or_true, true_or, or_self, and_true, true_and, and_false, false_and, n1, el, q0, z]
      · simp only [tz_lit, nj_m1, nj_m2, nj_m3, nj_m4, nj_m5, nj_m6, nj_m7, ↓reduceIte, tz_bI_some, tz_bV_some, tz_bL_some, cj10, cj01, cjm0, eq_self, not_true_eq_false, not_false_eq_true, or_false, false_or, or_true, true_or, or_self, and_true, true_and, and_false, false_and, n1, el, q0, z]
    by_cases b : S 202 3 = 0
    · have n3 : (tz_j (S 202 3) = tz_j 0) = True := nj_eqt b
      by_cases a : S 202 0 < S 202 1
      · rw [if_pos (c := S 202 3 = 0 ∧ S 202 0 < S 202 1) ⟨b, a⟩]
        have n2 : (tz_j n ≤ tz_j (S 202 0)) = False := nj_lef (by omega) (by omega)
        have el : f_X5_listens A = some (some (.int (tz_j 1)), A) := by
          rw [e_X5_listens]
          simp only [tz_lit, nj_m1, nj_m2, nj_m3, nj_m4, nj_m5, nj_m6, nj_m7, ↓reduceIte, tz_bI_some, tz_bV_some, tz_bL_some, cj10, cj01, cjm0, eq_self, not_true_eq_false, not_false_eq_true, or_false, false_or, or_true, true_or, or_self, and_true, true_and, and_false, false_and, q3, q1, q0, n2, n3]
        obtain ⟨A1, e1, r1, f1⟩ := x_tk h76 (by omega) r H
        obtain ⟨g1, g2, g3⟩ := tk_G H
        obtain ⟨A', e, f'⟩ := ih (i + 1) (N + 1) _ A1 (by omega) (by omega) r1 g1 ((g3 200 0 (by unfold sp_kp; omega) (by omega)).trans h2) ((g3 202 1 (by unfold sp_kp; omega) (by omega)).trans h1)
        refine ⟨A', ?_, fr_tr f1 f'⟩
        simp only [tz_lit, nj_m1, nj_m2, nj_m3, nj_m4, nj_m5, nj_m6, nj_m7, ↓reduceIte, tz_bI_some, tz_bV_some, tz_bL_some, cj10, cj01, cjm0, eq_self, not_true_eq_false, not_false_eq_true, or_false, false_or, or_true, true_or, or_self, and_true, true_and, and_false, false_and, n1, el, e1, nj_add]
        exact e
      · rw [if_neg (c := S 202 3 = 0 ∧ S 202 0 < S 202 1) (fun z => a z.2)]
        have n2 : (tz_j n ≤ tz_j (S 202 0)) = True := nj_let (by omega) (by omega)
        exact stop 0 (by
          rw [e_X5_listens]
          simp only [tz_lit, nj_m1, nj_m2, nj_m3, nj_m4, nj_m5, nj_m6, nj_m7, ↓reduceIte, tz_bI_some, tz_bV_some, tz_bL_some, cj10, cj01, cjm0, eq_self, not_true_eq_false, not_false_eq_true, or_false, false_or, or_true, true_or, or_self, and_true, true_and, and_false, false_and, q3, q1, q0, n2, n3])
    · rw [if_neg (c := S 202 3 = 0 ∧ S 202 0 < S 202 1) (fun z => b z.1)]
      have n3 : (tz_j (S 202 3) = tz_j 0) = False := nj_eqf b (by omega) (by omega)
      exact stop 0 (by
        rw [e_X5_listens]
        simp only [tz_lit, nj_m1, nj_m2, nj_m3, nj_m4, nj_m5, nj_m6, nj_m7, ↓reduceIte, tz_bI_some, tz_bV_some, tz_bL_some, cj10, cj01, cjm0, eq_self, not_true_eq_false, not_false_eq_true, or_false, false_or, or_true, true_or, or_self, and_true, true_and, and_false, false_and, q3, n3])
theorem nj_nat (x : Int32) : tz_j x.toBitVec.toNat = x := by
  apply Int32.toBitVec_inj.mp
  show BitVec.ofNat 32 x.toBitVec.toNat = x.toBitVec
  rw [BitVec.ofNat_toNat, BitVec.setWidth_eq]
theorem p_night (x1 x2 x3 : Int32) : tz_twoI tz_J (f_X11_night x1 x2 x3) (f_X12_night x1 x2 x3) := by
  refine two_of (fun N S K U V A hN c ww => ?_)
  have W := ww.1.1
  have h8 := W.1
  have h4 := W.2.1
  have h12 := W.2.2.1
  have cc := c.1.1
  rcases nj_three x1 (S 1 0) (by omega) with ⟨u, hu, rfl⟩ | hx
  · have a7 := x_hash1 h30 cc hu (by omega)
    have b7 : ∀ A D, MX D S K U V A → f_X12_isHill (tz_j u) A = some (some (.int (tz_j 1)), A) := fun A D m => m_hash1 m.1.1 hu (by omega)
    rcases nj_three x2 8 (by omega) with ⟨s, hs, rfl⟩ | h
    · obtain ⟨hu2, l, hl, hl1⟩ := lg_rw ww.2.2.2.2 hs
      obtain ⟨q, q1, q2⟩ := c.2.2.1.1 s hs
      rw [hl1] at q1
      have a0 := x_ror c hs
      have n3 := nj_ix8 (s := s) (n := 8) hs (by omega)
      have hcl : (tz_j s).toNatClampNeg = s := nj_cl (by omega)
      rcases hu2 with z | ⟨h, hh, z⟩ | ⟨t, ht, z⟩
      · have a1 := a0.1 z
        refine out_ref (v := tz_j 4294967293 - tz_j 10) 3 (by omega) c ww ?_ (fun A D m => ?_)
        · rw [e_X11_night]
          simp (disch := omega) only [tz_lit, nj_m1, nj_m2, nj_m3, nj_m4, nj_m5, nj_m6, nj_m7, ↓reduceIte, tz_bI_some, tz_bV_some, tz_bL_some, cj10, cj01, cjm0, eq_self, not_true_eq_false, not_false_eq_true, or_false, false_or, or_true, true_or, or_self, and_true, true_and, and_false, false_and, nj_eqf, nj_ltt, nj_ltf, nj_let, nj_lef, nj_cl, nt_lef, ng_ltt, ng_let, ng_gtf, ng_gef, e_X8_refusalOfElements, a7, a1, x_ref1, x_ref2, x_ref3, x_ref4, x_ref5, x_ref6, x_ref7, e_X11_refuseLower]
        · skip
          have b1 := (m_ror m hs).1 z
          rw [e_X12_night]
          simp (disch := omega) only [tz_lit, nj_m1, nj_m2, nj_m3, nj_m4, nj_m5, nj_m6, nj_m7, ↓reduceIte, tz_bI_some, tz_bV_some, tz_bL_some, cj10, cj01, cjm0, eq_self, not_true_eq_false, not_false_eq_true, or_false, false_or, or_true, true_or, or_self, and_true, true_and, and_false, false_and, nj_eqf, nj_ltt, nj_ltf, nj_let, nj_lef, nj_cl, nt_lef, ng_ltt, ng_let, ng_gtf, ng_gef, b7 A D m, b1, m_no1, m_no2, m_no3, m_no4, m_no5, m_no6, m_no7, e_X12_no10]
      · have a1 := a0.2.1 h (by omega) z
        refine out_ref (v := tz_j 4294967294 - tz_j 10) 2 (by omega) c ww ?_ (fun A D m => ?_)
        · rw [e_X11_night]
          simp (disch := omega) only [tz_lit, nj_m1, nj_m2, nj_m3, nj_m4, nj_m5, nj_m6, nj_m7, ↓reduceIte, tz_bI_some, tz_bV_some, tz_bL_some, cj10, cj01, cjm0, eq_self, not_true_eq_false, not_false_eq_true, or_false, false_or, or_true, true_or, or_self, and_true, true_and, and_false, false_and, nj_eqf, nj_ltt, nj_ltf, nj_let, nj_lef, nj_cl, nt_lef, ng_ltt, ng_let, ng_gtf, ng_gef, e_X8_refusalOfElements, a7, a1, x_ref1, x_ref2, x_ref3, x_ref4, x_ref5, x_ref6, x_ref7, e_X11_refuseLower]
        · skip
          have b1 := (m_ror m hs).2.1 h (by omega) z
          rw [e_X12_night]
          simp (disch := omega) only [tz_lit, nj_m1, nj_m2, nj_m3, nj_m4, nj_m5, nj_m6, nj_m7, ↓reduceIte, tz_bI_some, tz_bV_some, tz_bL_some, cj10, cj01, cjm0, eq_self, not_true_eq_false, not_false_eq_true, or_false, false_or, or_true, true_or, or_self, and_true, true_and, and_false, false_and, nj_eqf, nj_ltt, nj_ltf, nj_let, nj_lef, nj_cl, nt_lef, ng_ltt, ng_let, ng_gtf, ng_gef, b7 A D m, b1, m_no1, m_no2, m_no3, m_no4, m_no5, m_no6, m_no7, e_X12_no10]
      · have a1 := a0.2.2 t ht z
        have b1 : ∀ A D, MX D S K U V A → f_X12_noRow (tz_j s) A = some (some (.int (tz_j 0)), A) := fun A D m => (m_ror m hs).2.2 t ht z
        have p1 : ∀ A D, MX D S K U V A → tz_g A 159 s = tz_j l := fun A D m => (m.2.2.1.1 s hs).2.1.trans hl1
        rcases nj_sg x3 with n5 | n5
        · refine out_ref (v := tz_j 4294967292 - tz_j 10) 4 (by omega) c ww ?_ (fun A D m => ?_)
          · rw [e_X11_night]
            simp (disch := omega) only [tz_lit, nj_m1, nj_m2, nj_m3, nj_m4, nj_m5, nj_m6, nj_m7, ↓reduceIte, tz_bI_some, tz_bV_some, tz_bL_some, cj10, cj01, cjm0, eq_self, not_true_eq_false, not_false_eq_true, or_false, false_or, or_true, true_or, or_self, and_true, true_and, and_false, false_and, nj_eqf, nj_ltt, nj_ltf, nj_let, nj_lef, nj_cl, nt_lef, ng_ltt, ng_let, ng_gtf, ng_gef, e_X8_refusalOfElements, a7, a1, n5.1, n5.2, x_ref1, x_ref2, x_ref3, x_ref4, x_ref5, x_ref6, x_ref7, e_X11_refuseLower]
          · skip
            rw [e_X12_night]
            simp (disch := omega) only [tz_lit, nj_m1, nj_m2, nj_m3, nj_m4, nj_m5, nj_m6, nj_m7, ↓reduceIte, tz_bI_some, tz_bV_some, tz_bL_some, cj10, cj01, cjm0, eq_self, not_true_eq_false, not_false_eq_true, or_false, false_or, or_true, true_or, or_self, and_true, true_and, and_false, false_and, nj_eqf, nj_ltt, nj_ltf, nj_let, nj_lef, nj_cl, nt_lef, ng_ltt, ng_let, ng_gtf, ng_gef, b7 A D m, b1 A D m, n5.1, n5.2, m_no1, m_no2, m_no3, m_no4, m_no5, m_no6, m_no7, e_X12_no10]
        · obtain ⟨n, hn, rfl⟩ := nj_of (x := x3) (of_eq_true n5.2)
          by_cases y : n ≤ l
          · have n6 : (tz_j n ≤ tz_j l) = True := nj_let y (by omega)
            by_cases y4 : n ≤ 40
            · have n7 : (tz_j n ≤ tz_j 40) = True := nj_let y4 (by omega)
              have hT2 : ∀ j, (Int64.toInt32 (V s j)).toBitVec.toNat < 4294967296 := fun j => (Int64.toInt32 (V s j)).toBitVec.isLt
              have hTj : ∀ j, tz_j (Int64.toInt32 (V s j)).toBitVec.toNat = Int64.toInt32 (V s j) := fun j => nj_nat _
              generalize hTT : (fun j => (Int64.toInt32 (V s j)).toBitVec.toNat) = T
              have hT2' : ∀ j, T j < 4294967296 := fun j => by rw [← hTT]; exact hT2 j
              have hTj' : ∀ j, tz_j (T j) = Int64.toInt32 (V s j) := fun j => by rw [← hTT]; exact hTj j
              obtain ⟨A1, f1, r1, g1⟩ := x_bec2 h76 h30 (by omega) W ww.2.1 c.1
              obtain ⟨A2, f2, k152, g2, _⟩ := x_cpn2 (s := s) (len := n) (f := fun j => tz_j (T j)) hs y4 n 0 A1 (by omega) (fun j hj => by
                have e : tz_gl A1 (22 + s) j = tz_gl A (22 + s) j := by
                  show A1.2.2.1 _ _ = A.2.2.1 _ _
                  rw [g1.2.1]
                rw [e, q2 j (by omega), hTj'])
              have f3 : f_X8_copyNumbers_s152 (tz_j s) (tz_j n) A1 = some (none, A2) := by
                rw [e_X8_copyNumbers_s152]
                exact f2
              have f4 : f_X5_judge (tz_j u) (tz_j n) A2 = some (none, tz_s (tz_s (tz_s (tz_s A2 151 3 (tz_j u)) 151 2 (tz_j n)) 151 0 (tz_j 0)) 151 4 (tz_j 0)) := by
                rw [e_X5_judge]
                rfl
              have r2 : rx 76 99 (sp_ns u n T S) (tz_sr (tz_s (tz_s (tz_s (tz_s A2 151 3 (tz_j u)) 151 2 (tz_j n)) 151 0 (tz_j 0)) 151 4 (tz_j 0)) 76 7 152) := by
                refine rx_ear h76 r1 (fun k i hk => ns_get hk) (fun k i hk => ?_) ?_ h8
                · rw [tz_gsr, tz_gsk (by omega), tz_gsk (by omega), tz_gsk (by omega), tz_gsk (by omega)]
                  exact g2.2.2.1 k i (by omega)
                · have e200 : sp_ns u n T S 200 0 = 2 := rfl
                  have eg : tz_gr (tz_sr (tz_s (tz_s (tz_s (tz_s A2 151 3 (tz_j u)) 151 2 (tz_j n)) 151 0 (tz_j 0)) 151 4 (tz_j 0)) 76 7 152) 76 7 = 152 := tz_grr
                  refine ⟨eg.trans ?_, fun q => ?_, fun _ => ⟨?_, ?_, ?_, ?_, fun j hj => ?_⟩, fun q => ?_⟩
                  · rw [e200, if_neg (by omega), if_pos rfl]
                  · rw [e200] at q
                    omega
                  · rw [tz_gsr, tz_gsi (by omega), tz_gs1]
                    rfl
                  · rw [tz_gsr, tz_gsi (by omega), tz_gsi (by omega), tz_gs1]
                    rfl
                  · rw [tz_gsr, tz_gsi (by omega), tz_gsi (by omega), tz_gsi (by omega), tz_gs1]
                    rfl
                  · rw [tz_gsr, tz_gs1]
                    rfl
                  · rw [tz_gsr, tz_gsk (by omega), tz_gsk (by omega), tz_gsk (by omega), tz_gsk (by omega)]
                    exact k152 j (Nat.zero_le _) hj
                  · rw [e200] at q
                    omega
              obtain ⟨A3, f5, g5⟩ := x_ngL (n := n) y4 500 0 N (sp_ns u n T S) _ (by omega) (by omega) r2 (ns_H ww.1 (by omega) y4 hT2') rfl rfl
              refine out_th (v := if sp_ng 500 (sp_ns u n T S) 202 0 < n then tz_j (sp_ng 500 (sp_ns u n T S) 202 0) else tz_j 4294967295) c ww ⟨A3, ?_, fx_tr (fx_sr (fx_s (fx_s (fx_s (fx_s (fx_tr (fx_mo g1 (fun k i => th_b)) (fx_mo g2 (fun k i h => by unfold th_p; omega))) (by unfold th_p; omega)) (by unfold th_p; omega)) (by unfold th_p; omega)) (by unfold th_p; omega)) (by unfold th_p; omega) h76) (fx_mo (fx_fr g5) (fun k i => th_r))⟩ (fun A D m => ?_)
              · rw [e_X11_night]
                simp (disch := omega) only [tz_lit, nj_m1, nj_m2, nj_m3, nj_m4, nj_m5, nj_m6, nj_m7, ↓reduceIte, tz_bI_some, tz_bV_some, tz_bL_some, cj10, cj01, cjm0, eq_self, not_true_eq_false, not_false_eq_true, or_false, false_or, or_true, true_or, or_self, and_true, true_and, and_false, false_and, nj_eqf, nj_ltt, nj_ltf, nj_let, nj_lef, nj_cl, nt_lef, ng_ltt, ng_let, ng_gtf, ng_gef, e_X8_refusalOfElements, a7, a1, n5.1, n5.2, n6, n7, n3, hcl, q1, f1, f3, f4, f5]
              · obtain ⟨M1, k3, rk, hk34, hback⟩ := m_think W ww.2.1 m
                have gl : M1.2.2 = A.2.2 := by
                  obtain ⟨M2, e2, _, _, b2, _⟩ := m_keep_181 A
                  rw [k3] at e2
                  have e3 : M1 = M2 := by injection e2 with e2; injection e2
                  rw [e3]
                  exact b2
                have hT : ∀ B : tz_Mem, B.2.2 = M1.2.2 → ∀ j, j < n → f_X12_told (tz_j s) (tz_j j) B = some (some (.int (tz_j (T j))), B) := fun B hB j hj => m_told hs (by omega) (by
                  have e : tz_gl B 160 (160 * s + j) = tz_gl A 160 (160 * s + j) := by
                    show B.2.2.1 _ _ = A.2.2.1 _ _
                    rw [hB, gl]
                  rw [e, (m.2.2.1.1 s hs).2.2 j (by omega), hTj'])
                obtain ⟨B, eB, fB⟩ := n_ngL (n := n) (s := s) (u := u) (T := T) (A0 := M1) y4 hT hT2' 500 0 N (sp_ns u n T S) M1 (by omega) (by omega) (fun _ => rn_A (rn_of rk.1) (fun k i hk _ _ => ns_get (by omega)) (fun _ _ _ _ _ => rfl)) rfl (ns_H ww.1 (by omega) y4 hT2') rfl rfl rfl (fun _ => rfl) ww.2.1.1
                have p36 : tz_g B 157 36 = tz_j 4294967295 := by
                  rw [fB.2.2 157 36 (by unfold nq_p; omega)]
                  exact rk.2.2.2.2.2 (by rw [ww.2.1.2]; omega)
                obtain ⟨C, D', eC, mC, fC, _⟩ := hback B (fr_mo fB (fun k i h => Or.inl (by unfold nq_p at h; unfold mo_p; omega))) (fun j => fB.2.2 181 j (by unfold nq_p; omega)) (by rw [fB.2.2 157 34 (by unfold nq_p; omega)]; exact hk34) p36
                refine ⟨C, D', ?_, mC, fC⟩
                have e0 : sp_ns u n T S 202 0 = 0 := rfl
                have e3 : sp_ns u n T S 202 3 = 0 := rfl
                rw [e0, e3] at eB
                rw [e_X12_night]
                simp only [tz_lit, nj_m1, nj_m2, nj_m3, nj_m4, nj_m5, nj_m6, nj_m7, ↓reduceIte, tz_bI_some, tz_bV_some, tz_bL_some, cj10, cj01, cjm0, eq_self, not_true_eq_false, not_false_eq_true, or_false, false_or, or_true, true_or, or_self, and_true, true_and, and_false, false_and, b7 A D m, b1 A D m, nj_let (show 0 ≤ 0 by omega) (show 0 < 2147483648 by omega), n5.1, n5.2, n6, n7, n3, hcl, p1 A D m, k3]
                rw [show tz_j 1 = tz_j (1 - 0) from rfl, eB, eC]
                rfl
            · have n7 : (tz_j n ≤ tz_j 40) = False := nj_lef (by omega) (by omega)
              refine out_ref (v := tz_j 4294967290 - tz_j 10) 6 (by omega) c ww ?_ (fun A D m => ?_)
              · rw [e_X11_night]
                simp (disch := omega) only [tz_lit, nj_m1, nj_m2, nj_m3, nj_m4, nj_m5, nj_m6, nj_m7, ↓reduceIte, tz_bI_some, tz_bV_some, tz_bL_some, cj10, cj01, cjm0, eq_self, not_true_eq_false, not_false_eq_true, or_false, false_or, or_true, true_or, or_self, and_true, true_and, and_false, false_and, nj_eqf, nj_ltt, nj_ltf, nj_let, nj_lef, nj_cl, nt_lef, ng_ltt, ng_let, ng_gtf, ng_gef, e_X8_refusalOfElements, a7, a1, n5.1, n5.2, n6, n7, n3, hcl, q1, x_ref1, x_ref2, x_ref3, x_ref4, x_ref5, x_ref6, x_ref7, e_X11_refuseLower]
              · skip
                rw [e_X12_night]
                simp (disch := omega) only [tz_lit, nj_m1, nj_m2, nj_m3, nj_m4, nj_m5, nj_m6, nj_m7, ↓reduceIte, tz_bI_some, tz_bV_some, tz_bL_some, cj10, cj01, cjm0, eq_self, not_true_eq_false, not_false_eq_true, or_false, false_or, or_true, true_or, or_self, and_true, true_and, and_false, false_and, nj_eqf, nj_ltt, nj_ltf, nj_let, nj_lef, nj_cl, nt_lef, ng_ltt, ng_let, ng_gtf, ng_gef, b7 A D m, b1 A D m, n5.1, n5.2, n6, n7, n3, hcl, p1 A D m, m_no1, m_no2, m_no3, m_no4, m_no5, m_no6, m_no7, e_X12_no10]
          · have n6 : (tz_j n ≤ tz_j l) = False := nj_lef (by omega) (by omega)
            refine out_ref (v := tz_j 4294967291 - tz_j 10) 5 (by omega) c ww ?_ (fun A D m => ?_)
            · rw [e_X11_night]
              simp (disch := omega) only [tz_lit, nj_m1, nj_m2, nj_m3, nj_m4, nj_m5, nj_m6, nj_m7, ↓reduceIte, tz_bI_some, tz_bV_some, tz_bL_some, cj10, cj01, cjm0, eq_self, not_true_eq_false, not_false_eq_true, or_false, false_or, or_true, true_or, or_self, and_true, true_and, and_false, false_and, nj_eqf, nj_ltt, nj_ltf, nj_let, nj_lef, nj_cl, nt_lef, ng_ltt, ng_let, ng_gtf, ng_gef, e_X8_refusalOfElements, a7, a1, n5.1, n5.2, n6, n3, hcl, q1, x_ref1, x_ref2, x_ref3, x_ref4, x_ref5, x_ref6, x_ref7, e_X11_refuseLower]
            · skip
              rw [e_X12_night]
              simp (disch := omega) only [tz_lit, nj_m1, nj_m2, nj_m3, nj_m4, nj_m5, nj_m6, nj_m7, ↓reduceIte, tz_bI_some, tz_bV_some, tz_bL_some, cj10, cj01, cjm0, eq_self, not_true_eq_false, not_false_eq_true, or_false, false_or, or_true, true_or, or_self, and_true, true_and, and_false, false_and, nj_eqf, nj_ltt, nj_ltf, nj_let, nj_lef, nj_cl, nt_lef, ng_ltt, ng_let, ng_gtf, ng_gef, b7 A D m, b1 A D m, n5.1, n5.2, n6, n3, hcl, p1 A D m, m_no1, m_no2, m_no3, m_no4, m_no5, m_no6, m_no7, e_X12_no10]
    · refine out_ref (v := tz_j 4294967295 - tz_j 10) 1 (by omega) c ww ?_ (fun A D m => ?_)
      · rw [e_X11_night]
        simp (disch := omega) only [tz_lit, nj_m1, nj_m2, nj_m3, nj_m4, nj_m5, nj_m6, nj_m7, ↓reduceIte, tz_bI_some, tz_bV_some, tz_bL_some, cj10, cj01, cjm0, eq_self, not_true_eq_false, not_false_eq_true, or_false, false_or, or_true, true_or, or_self, and_true, true_and, and_false, false_and, nj_eqf, nj_ltt, nj_ltf, nj_let, nj_lef, nj_cl, nt_lef, ng_ltt, ng_let, ng_gtf, ng_gef, e_X8_refusalOfElements, a7, x_roro h, x_ref1, x_ref2, x_ref3, x_ref4, x_ref5, x_ref6, x_ref7, e_X11_refuseLower]
      · skip
        rw [e_X12_night]
        simp (disch := omega) only [tz_lit, nj_m1, nj_m2, nj_m3, nj_m4, nj_m5, nj_m6, nj_m7, ↓reduceIte, tz_bI_some, tz_bV_some, tz_bL_some, cj10, cj01, cjm0, eq_self, not_true_eq_false, not_false_eq_true, or_false, false_or, or_true, true_or, or_self, and_true, true_and, and_false, false_and, nj_eqf, nj_ltt, nj_ltf, nj_let, nj_lef, nj_cl, nt_lef, ng_ltt, ng_let, ng_gtf, ng_gef, b7 A D m, m_roro h, m_no1, m_no2, m_no3, m_no4, m_no5, m_no6, m_no7, e_X12_no10]
  · refine out_ref (v := tz_j 4294967295 - tz_j 10) 1 (by omega) c ww ?_ (fun A D m => ?_)
    · rw [e_X11_night]
      simp (disch := omega) only [tz_lit, nj_m1, nj_m2, nj_m3, nj_m4, nj_m5, nj_m6, nj_m7, ↓reduceIte, tz_bI_some, tz_bV_some, tz_bL_some, cj10, cj01, cjm0, eq_self, not_true_eq_false, not_false_eq_true, or_false, false_or, or_true, true_or, or_self, and_true, true_and, and_false, false_and, nj_eqf, nj_ltt, nj_ltf, nj_let, nj_lef, nj_cl, nt_lef, ng_ltt, ng_let, ng_gtf, ng_gef, x_hash0 h30 cc hx (by omega), x_ref1, x_ref2, x_ref3, x_ref4, x_ref5, x_ref6, x_ref7, e_X11_refuseLower]
    · skip
      rw [e_X12_night]
      simp (disch := omega) only [tz_lit, nj_m1, nj_m2, nj_m3, nj_m4, nj_m5, nj_m6, nj_m7, ↓reduceIte, tz_bI_some, tz_bV_some, tz_bL_some, cj10, cj01, cjm0, eq_self, not_true_eq_false, not_false_eq_true, or_false, false_or, or_true, true_or, or_self, and_true, true_and, and_false, false_and, nj_eqf, nj_ltt, nj_ltf, nj_let, nj_lef, nj_cl, nt_lef, ng_ltt, ng_let, ng_gtf, ng_gef, m_hash0 m.1.1 hx (by omega), m_no1, m_no2, m_no3, m_no4, m_no5, m_no6, m_no7, e_X12_no10]
