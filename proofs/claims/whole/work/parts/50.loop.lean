/-! the law's loop out of what each pair of methods keeps (gen_loop.py) -/
def tz_sc (A A1 : tz_Mem) : Prop := tz_gr A1 0 0 = tz_gr A 0 0 ∧ ∀ i, tz_g A1 0 i = tz_g A 0 i
/-- both methods answer, alike, and J goes on -/
def tz_twoI (J : Nat → tz_Mem → Prop) (F G : tz_Mem → tz_X) : Prop := ∀ n A, n < 512 → J n A → ∃ v A1 A2, F A = some (some (.int v), A1) ∧ tz_con A1 ∧ tz_sc A A1 ∧ G A1 = some (some (.int v), A2) ∧ tz_sc A A2 ∧ J (n + 1) A2
def tz_twoL (J : Nat → tz_Mem → Prop) (F G : tz_Mem → tz_X) : Prop := ∀ n A, n < 512 → J n A → ∃ v A1 A2, F A = some (some (.long v), A1) ∧ tz_con A1 ∧ tz_sc A A1 ∧ G A1 = some (some (.long v), A2) ∧ tz_sc A A2 ∧ J (n + 1) A2
theorem tz_bI_some {x : Int32} {A : tz_Mem} {f : Int32 → tz_Mem → tz_X} : tz_bI (some (some (.int x), A)) f = f x A := rfl
theorem tz_bL_some {x : Int64} {A : tz_Mem} {f : Int64 → tz_Mem → tz_X} : tz_bL (some (some (.long x), A)) f = f x A := rfl
theorem tz_cmp_self (x : Int64) : lg_cmp x x = 0 := by
  unfold lg_cmp
  simp

theorem tz_turn {J : Nat → tz_Mem → Prop} (hcon : ∀ n A, J n A → tz_con A) (hnx : ∀ n A, n < 512 → J n A → J (n + 1) A) (H0 : ∀ x1 x2 x3 : Int32, tz_twoI J (f_X11_row x1 x2 x3) (f_X12_row x1 x2 x3)) (H1 : ∀ x1 x2 x3 x4 : Int32, tz_twoI J (f_X11_set x1 x2 (((Int32.toInt64 x3) <<< (Int32.toInt64 32 &&& 63)) ||| ((Int32.toInt64 x4) &&& 4294967295))) (f_X12_set x1 x2 (((Int32.toInt64 x3) <<< (Int32.toInt64 32 &&& 63)) ||| ((Int32.toInt64 x4) &&& 4294967295)))) (H2 : ∀ x1 x2 x3 x4 x5 : Int32, tz_twoI J (f_X11_copy x1 x2 x3 x4 x5) (f_X12_copy x1 x2 x3 x4 x5)) (H3 : ∀ x1 x2 : Int32, tz_twoL J (f_X11_element x1 x2) (f_X12_element x1 x2)) (H4 : ∀ x1 x2 : Int32, tz_twoI J (f_X11_show x1 x2) (f_X12_show x1 x2)) (H5 : ∀ x1 : Int32, tz_twoI J (f_X11_holds x1) (f_X12_holds x1)) (H6 : ∀ x1 x2 : Int32, tz_twoI J (f_X11_says x1 x2) (f_X12_says x1 x2)) (H7 : ∀ x1 x2 : Int32, tz_twoI J (f_X11_hill x1 x2) (f_X12_hill x1 x2)) (H8 : ∀ x1 x2 x3 x4 x5 : Int32, tz_twoI J (f_X11_storm x1 x2 x3 x4 x5) (f_X12_storm x1 x2 x3 x4 x5)) (H9 : ∀ x1 x2 x3 x4 : Int32, tz_twoI J (f_X11_letter x1 x2 x3 x4) (f_X12_letter x1 x2 x3 x4)) (H10 : ∀ x1 x2 : Int32, tz_twoI J (f_X11_hillOf x1 x2) (f_X12_hillOf x1 x2)) (H11 : ∀ x1 x2 : Int32, tz_twoI J (f_X11_stormOf x1 x2) (f_X12_stormOf x1 x2)) (H12 : ∀ x1 x2 : Int32, tz_twoI J (f_X11_letterOf x1 x2) (f_X12_letterOf x1 x2)) (H13 : ∀ x1 x2 : Int32, tz_twoI J (f_X11_heard x1 x2) (f_X12_heard x1 x2)) (H14 : ∀ x1 : Int32, tz_twoI J (f_X11_sky x1) (f_X12_sky x1)) (H15 : tz_twoI J (f_X11_fault ) (f_X12_fault )) (H16 : ∀ x1 x2 x3 : Int32, tz_twoI J (f_X11_behind x1 x2 x3) (f_X12_behind x1 x2 x3)) (H17 : ∀ x1 : Int32, tz_twoI J (f_X11_arrives x1) (f_X12_arrives x1)) (H18 : ∀ x1 x2 x3 x4 x5 : Int32, tz_twoI J (f_X11_handIn x1 x2 x3 x4 x5) (f_X12_handIn x1 x2 x3 x4 x5)) (H19 : ∀ x1 x2 x3 x4 : Int32, tz_twoI J (f_X11_latest x1 x2 x3 x4) (f_X12_latest x1 x2 x3 x4)) (H20 : ∀ x1 x2 x3 : Int32, tz_twoI J (f_X11_lightest x1 x2 x3) (f_X12_lightest x1 x2 x3)) (H21 : ∀ x1 x2 x3 x4 x5 : Int32, tz_twoI J (f_X11_was x1 x2 x3 x4 x5) (f_X12_was x1 x2 x3 x4 x5)) (H22 : ∀ x1 x2 : Int32, tz_twoI J (f_X11_needs x1 x2) (f_X12_needs x1 x2)) (H23 : ∀ x1 x2 : Int32, tz_twoI J (f_X11_reach x1 x2) (f_X12_reach x1 x2)) (H24 : ∀ x1 x2 : Int32, tz_twoI J (f_X11_loudest x1 x2) (f_X12_loudest x1 x2)) (H25 : ∀ x1 x2 : Int32, tz_twoI J (f_X11_firstHeard x1 x2) (f_X12_firstHeard x1 x2)) (H26 : ∀ x1 x2 x3 : Int32, tz_twoI J (f_X11_night x1 x2 x3) (f_X12_night x1 x2 x3)) (H27 : ∀ x1 x2 : Int32, tz_twoI J (f_X11_meet x1 x2) (f_X12_meet x1 x2)) (H28 : tz_twoI J (f_X11_postage ) (f_X12_postage )) (H29 : ∀ x1 : Int32, tz_twoI J (f_X11_hours x1) (f_X12_hours x1)) (H30 : ∀ x1 : Int32, tz_twoI J (f_X11_burn x1) (f_X12_burn x1)) (H31 : ∀ x1 : Int32, tz_twoI J (f_X11_dry x1) (f_X12_dry x1)) (H32 : ∀ x1 : Int32, tz_twoI J (f_X11_drought x1) (f_X12_drought x1)) (H33 : ∀ x1 : Int32, tz_twoI J (f_X11_seed x1) (f_X12_seed x1)) (H34 : ∀ x1 x2 x3 : Int32, tz_twoI J (f_X11_act x1 x2 x3) (f_X12_act x1 x2 x3)) (H35 : ∀ x1 : Int32, tz_twoI J (f_X11_trace x1) (f_X12_trace x1)) (H36 : tz_twoI J (f_X11_image ) (f_X12_image )) (H37 : tz_twoI J (f_X11_restore ) (f_X12_restore )) (H38 : ∀ x1 : Int32, tz_twoI J (f_X11_status x1) (f_X12_status x1)) {n : Nat} {A : tz_Mem} (hn : n < 512) (hJ : J n A) {z3 : Int32} (hx : ¬ (Int32.ofNat (tz_gr A 0 0)) - 6 < z3) (hb : ∀ i : Int32, 0 ≤ i → i < 6 → ¬ ((z3 + i) < 0 ∨ tz_gr A 0 0 ≤ Int32.toNatClampNeg (z3 + i))) (hb0 : ¬ (z3 < 0 ∨ tz_gr A 0 0 ≤ Int32.toNatClampNeg z3)) : ∃ A2, q_L_law_18 z3 A = q_L_law_18 (z3 + 6) A2 ∧ tz_sc A A2 ∧ J (n + 1) A2 := by
  rw [e_L_law_18]
  rw [if_neg hx, if_neg hb0]
  by_cases h0 : (tz_g A 0 (Int32.toNatClampNeg z3)) &&& 63 = 0
  · rw [if_pos h0]
    obtain ⟨v, A1, A2, hF, hc1, hs, hG, hs2, hJ2⟩ := H0 (tz_g A 0 (Int32.toNatClampNeg (z3 + 1))) (tz_g A 0 (Int32.toNatClampNeg (z3 + 2))) (tz_g A 0 (Int32.toNatClampNeg (z3 + 3))) n A hn hJ
    rw [if_neg (hb 1 (by decide) (by decide)), if_neg (hb 2 (by decide) (by decide)), if_neg (hb 3 (by decide) (by decide))]
    rw [tz_C_pos (hcon n A hJ), hF, tz_bI_some]
    simp only [hs.1, hs.2]
    rw [if_neg (hb 1 (by decide) (by decide)), if_neg (hb 2 (by decide) (by decide)), if_neg (hb 3 (by decide) (by decide))]
    rw [tz_C_pos hc1, hG, tz_bI_some, if_pos rfl]
    exact ⟨A2, rfl, hs2, hJ2⟩
  rw [if_neg h0]
  by_cases h1 : (tz_g A 0 (Int32.toNatClampNeg z3)) &&& 63 = 1
  · rw [if_pos h1]
    obtain ⟨v, A1, A2, hF, hc1, hs, hG, hs2, hJ2⟩ := H1 (tz_g A 0 (Int32.toNatClampNeg (z3 + 1))) (tz_g A 0 (Int32.toNatClampNeg (z3 + 2))) (tz_g A 0 (Int32.toNatClampNeg (z3 + 3))) (tz_g A 0 (Int32.toNatClampNeg (z3 + 4))) n A hn hJ
    rw [if_neg (hb 1 (by decide) (by decide)), if_neg (hb 2 (by decide) (by decide)), if_neg (hb 3 (by decide) (by decide)), if_neg (hb 4 (by decide) (by decide))]
    rw [tz_C_pos (hcon n A hJ), hF, tz_bI_some]
    simp only [hs.1, hs.2]
    rw [if_neg (hb 1 (by decide) (by decide)), if_neg (hb 2 (by decide) (by decide)), if_neg (hb 3 (by decide) (by decide)), if_neg (hb 4 (by decide) (by decide))]
    rw [tz_C_pos hc1, hG, tz_bI_some, if_pos rfl]
    exact ⟨A2, rfl, hs2, hJ2⟩
  rw [if_neg h1]
  by_cases h2 : (tz_g A 0 (Int32.toNatClampNeg z3)) &&& 63 = 2
  · rw [if_pos h2]
    obtain ⟨v, A1, A2, hF, hc1, hs, hG, hs2, hJ2⟩ := H2 (tz_g A 0 (Int32.toNatClampNeg (z3 + 1))) (tz_g A 0 (Int32.toNatClampNeg (z3 + 2))) (tz_g A 0 (Int32.toNatClampNeg (z3 + 3))) (tz_g A 0 (Int32.toNatClampNeg (z3 + 4))) (tz_g A 0 (Int32.toNatClampNeg (z3 + 5))) n A hn hJ
    rw [if_neg (hb 1 (by decide) (by decide)), if_neg (hb 2 (by decide) (by decide)), if_neg (hb 3 (by decide) (by decide)), if_neg (hb 4 (by decide) (by decide)), if_neg (hb 5 (by decide) (by decide))]
    rw [tz_C_pos (hcon n A hJ), hF, tz_bI_some]
    simp only [hs.1, hs.2]
    rw [if_neg (hb 1 (by decide) (by decide)), if_neg (hb 2 (by decide) (by decide)), if_neg (hb 3 (by decide) (by decide)), if_neg (hb 4 (by decide) (by decide)), if_neg (hb 5 (by decide) (by decide))]
    rw [tz_C_pos hc1, hG, tz_bI_some, if_pos rfl]
    exact ⟨A2, rfl, hs2, hJ2⟩
  rw [if_neg h2]
  by_cases h3 : (tz_g A 0 (Int32.toNatClampNeg z3)) &&& 63 = 3
  · rw [if_pos h3]
    obtain ⟨v, A1, A2, hF, hc1, hs, hG, hs2, hJ2⟩ := H3 (tz_g A 0 (Int32.toNatClampNeg (z3 + 1))) (tz_g A 0 (Int32.toNatClampNeg (z3 + 2))) n A hn hJ
    rw [if_neg (hb 1 (by decide) (by decide)), if_neg (hb 2 (by decide) (by decide))]
    rw [tz_C_pos (hcon n A hJ), hF, tz_bL_some]
    simp only [hs.1, hs.2]
    rw [if_neg (hb 1 (by decide) (by decide)), if_neg (hb 2 (by decide) (by decide))]
    rw [tz_C_pos hc1, hG, tz_bL_some, if_pos (tz_cmp_self v)]
    exact ⟨A2, rfl, hs2, hJ2⟩
  rw [if_neg h3]
  by_cases h4 : (tz_g A 0 (Int32.toNatClampNeg z3)) &&& 63 = 4
  · rw [if_pos h4]
    obtain ⟨v, A1, A2, hF, hc1, hs, hG, hs2, hJ2⟩ := H4 (tz_g A 0 (Int32.toNatClampNeg (z3 + 1))) (tz_g A 0 (Int32.toNatClampNeg (z3 + 2))) n A hn hJ
    rw [if_neg (hb 1 (by decide) (by decide)), if_neg (hb 2 (by decide) (by decide))]
    rw [tz_C_pos (hcon n A hJ), hF, tz_bI_some]
    simp only [hs.1, hs.2]
    rw [if_neg (hb 1 (by decide) (by decide)), if_neg (hb 2 (by decide) (by decide))]
    rw [tz_C_pos hc1, hG, tz_bI_some, if_pos rfl]
    exact ⟨A2, rfl, hs2, hJ2⟩
  rw [if_neg h4]
  by_cases h5 : (tz_g A 0 (Int32.toNatClampNeg z3)) &&& 63 = 5
  · rw [if_pos h5]
    obtain ⟨v, A1, A2, hF, hc1, hs, hG, hs2, hJ2⟩ := H5 (tz_g A 0 (Int32.toNatClampNeg (z3 + 1))) n A hn hJ
    rw [if_neg (hb 1 (by decide) (by decide))]
    rw [tz_C_pos (hcon n A hJ), hF, tz_bI_some]
    simp only [hs.1, hs.2]
    rw [if_neg (hb 1 (by decide) (by decide))]
    rw [tz_C_pos hc1, hG, tz_bI_some, if_pos rfl]
    exact ⟨A2, rfl, hs2, hJ2⟩
  rw [if_neg h5]
  by_cases h6 : (tz_g A 0 (Int32.toNatClampNeg z3)) &&& 63 = 6
  · rw [if_pos h6]
    obtain ⟨v, A1, A2, hF, hc1, hs, hG, hs2, hJ2⟩ := H6 (tz_g A 0 (Int32.toNatClampNeg (z3 + 1))) (tz_g A 0 (Int32.toNatClampNeg (z3 + 2))) n A hn hJ
    rw [if_neg (hb 1 (by decide) (by decide)), if_neg (hb 2 (by decide) (by decide))]
    rw [tz_C_pos (hcon n A hJ), hF, tz_bI_some]
    simp only [hs.1, hs.2]
    rw [if_neg (hb 1 (by decide) (by decide)), if_neg (hb 2 (by decide) (by decide))]
    rw [tz_C_pos hc1, hG, tz_bI_some, if_pos rfl]
    exact ⟨A2, rfl, hs2, hJ2⟩
  rw [if_neg h6]
  by_cases h7 : (tz_g A 0 (Int32.toNatClampNeg z3)) &&& 63 = 7
  · rw [if_pos h7]
    obtain ⟨v, A1, A2, hF, hc1, hs, hG, hs2, hJ2⟩ := H7 (tz_g A 0 (Int32.toNatClampNeg (z3 + 1))) (tz_g A 0 (Int32.toNatClampNeg (z3 + 2))) n A hn hJ
    rw [if_neg (hb 1 (by decide) (by decide)), if_neg (hb 2 (by decide) (by decide))]
    rw [tz_C_pos (hcon n A hJ), hF, tz_bI_some]
    simp only [hs.1, hs.2]
    rw [if_neg (hb 1 (by decide) (by decide)), if_neg (hb 2 (by decide) (by decide))]
    rw [tz_C_pos hc1, hG, tz_bI_some, if_pos rfl]
    exact ⟨A2, rfl, hs2, hJ2⟩
  rw [if_neg h7]
  by_cases h8 : (tz_g A 0 (Int32.toNatClampNeg z3)) &&& 63 = 8
  · rw [if_pos h8]
    obtain ⟨v, A1, A2, hF, hc1, hs, hG, hs2, hJ2⟩ := H8 (tz_g A 0 (Int32.toNatClampNeg (z3 + 1))) (tz_g A 0 (Int32.toNatClampNeg (z3 + 2))) (tz_g A 0 (Int32.toNatClampNeg (z3 + 3))) (tz_g A 0 (Int32.toNatClampNeg (z3 + 4))) (tz_g A 0 (Int32.toNatClampNeg (z3 + 5))) n A hn hJ
    rw [if_neg (hb 1 (by decide) (by decide)), if_neg (hb 2 (by decide) (by decide)), if_neg (hb 3 (by decide) (by decide)), if_neg (hb 4 (by decide) (by decide)), if_neg (hb 5 (by decide) (by decide))]
    rw [tz_C_pos (hcon n A hJ), hF, tz_bI_some]
    simp only [hs.1, hs.2]
    rw [if_neg (hb 1 (by decide) (by decide)), if_neg (hb 2 (by decide) (by decide)), if_neg (hb 3 (by decide) (by decide)), if_neg (hb 4 (by decide) (by decide)), if_neg (hb 5 (by decide) (by decide))]
    rw [tz_C_pos hc1, hG, tz_bI_some, if_pos rfl]
    exact ⟨A2, rfl, hs2, hJ2⟩
  rw [if_neg h8]
  by_cases h9 : (tz_g A 0 (Int32.toNatClampNeg z3)) &&& 63 = 9
  · rw [if_pos h9]
    obtain ⟨v, A1, A2, hF, hc1, hs, hG, hs2, hJ2⟩ := H9 (tz_g A 0 (Int32.toNatClampNeg (z3 + 1))) (tz_g A 0 (Int32.toNatClampNeg (z3 + 2))) (tz_g A 0 (Int32.toNatClampNeg (z3 + 3))) (tz_g A 0 (Int32.toNatClampNeg (z3 + 4))) n A hn hJ
    rw [if_neg (hb 1 (by decide) (by decide)), if_neg (hb 2 (by decide) (by decide)), if_neg (hb 3 (by decide) (by decide)), if_neg (hb 4 (by decide) (by decide))]
    rw [tz_C_pos (hcon n A hJ), hF, tz_bI_some]
    simp only [hs.1, hs.2]
    rw [if_neg (hb 1 (by decide) (by decide)), if_neg (hb 2 (by decide) (by decide)), if_neg (hb 3 (by decide) (by decide)), if_neg (hb 4 (by decide) (by decide))]
    rw [tz_C_pos hc1, hG, tz_bI_some, if_pos rfl]
    exact ⟨A2, rfl, hs2, hJ2⟩
  rw [if_neg h9]
  by_cases h10 : (tz_g A 0 (Int32.toNatClampNeg z3)) &&& 63 = 10
  · rw [if_pos h10]
    obtain ⟨v, A1, A2, hF, hc1, hs, hG, hs2, hJ2⟩ := H10 (tz_g A 0 (Int32.toNatClampNeg (z3 + 1))) (tz_g A 0 (Int32.toNatClampNeg (z3 + 2))) n A hn hJ
    rw [if_neg (hb 1 (by decide) (by decide)), if_neg (hb 2 (by decide) (by decide))]
    rw [tz_C_pos (hcon n A hJ), hF, tz_bI_some]
    simp only [hs.1, hs.2]
    rw [if_neg (hb 1 (by decide) (by decide)), if_neg (hb 2 (by decide) (by decide))]
    rw [tz_C_pos hc1, hG, tz_bI_some, if_pos rfl]
    exact ⟨A2, rfl, hs2, hJ2⟩
  rw [if_neg h10]
  by_cases h11 : (tz_g A 0 (Int32.toNatClampNeg z3)) &&& 63 = 11
  · rw [if_pos h11]
    obtain ⟨v, A1, A2, hF, hc1, hs, hG, hs2, hJ2⟩ := H11 (tz_g A 0 (Int32.toNatClampNeg (z3 + 1))) (tz_g A 0 (Int32.toNatClampNeg (z3 + 2))) n A hn hJ
    rw [if_neg (hb 1 (by decide) (by decide)), if_neg (hb 2 (by decide) (by decide))]
    rw [tz_C_pos (hcon n A hJ), hF, tz_bI_some]
    simp only [hs.1, hs.2]
    rw [if_neg (hb 1 (by decide) (by decide)), if_neg (hb 2 (by decide) (by decide))]
    rw [tz_C_pos hc1, hG, tz_bI_some, if_pos rfl]
    exact ⟨A2, rfl, hs2, hJ2⟩
  rw [if_neg h11]
  by_cases h12 : (tz_g A 0 (Int32.toNatClampNeg z3)) &&& 63 = 12
  · rw [if_pos h12]
    obtain ⟨v, A1, A2, hF, hc1, hs, hG, hs2, hJ2⟩ := H12 (tz_g A 0 (Int32.toNatClampNeg (z3 + 1))) (tz_g A 0 (Int32.toNatClampNeg (z3 + 2))) n A hn hJ
    rw [if_neg (hb 1 (by decide) (by decide)), if_neg (hb 2 (by decide) (by decide))]
    rw [tz_C_pos (hcon n A hJ), hF, tz_bI_some]
    simp only [hs.1, hs.2]
    rw [if_neg (hb 1 (by decide) (by decide)), if_neg (hb 2 (by decide) (by decide))]
    rw [tz_C_pos hc1, hG, tz_bI_some, if_pos rfl]
    exact ⟨A2, rfl, hs2, hJ2⟩
  rw [if_neg h12]
  by_cases h13 : (tz_g A 0 (Int32.toNatClampNeg z3)) &&& 63 = 13
  · rw [if_pos h13]
    obtain ⟨v, A1, A2, hF, hc1, hs, hG, hs2, hJ2⟩ := H13 (tz_g A 0 (Int32.toNatClampNeg (z3 + 1))) (tz_g A 0 (Int32.toNatClampNeg (z3 + 2))) n A hn hJ
    rw [if_neg (hb 1 (by decide) (by decide)), if_neg (hb 2 (by decide) (by decide))]
    rw [tz_C_pos (hcon n A hJ), hF, tz_bI_some]
    simp only [hs.1, hs.2]
    rw [if_neg (hb 1 (by decide) (by decide)), if_neg (hb 2 (by decide) (by decide))]
    rw [tz_C_pos hc1, hG, tz_bI_some, if_pos rfl]
    exact ⟨A2, rfl, hs2, hJ2⟩
  rw [if_neg h13]
  by_cases h14 : (tz_g A 0 (Int32.toNatClampNeg z3)) &&& 63 = 14
  · rw [if_pos h14]
    obtain ⟨v, A1, A2, hF, hc1, hs, hG, hs2, hJ2⟩ := H14 (tz_g A 0 (Int32.toNatClampNeg (z3 + 1))) n A hn hJ
    rw [if_neg (hb 1 (by decide) (by decide))]
    rw [tz_C_pos (hcon n A hJ), hF, tz_bI_some]
    simp only [hs.1, hs.2]
    rw [if_neg (hb 1 (by decide) (by decide))]
    rw [tz_C_pos hc1, hG, tz_bI_some, if_pos rfl]
    exact ⟨A2, rfl, hs2, hJ2⟩
  rw [if_neg h14]
  by_cases h15 : (tz_g A 0 (Int32.toNatClampNeg z3)) &&& 63 = 15
  · rw [if_pos h15]
    obtain ⟨v, A1, A2, hF, hc1, hs, hG, hs2, hJ2⟩ := H15  n A hn hJ
    rw [tz_C_pos (hcon n A hJ), hF, tz_bI_some]
    rw [tz_C_pos hc1, hG, tz_bI_some, if_pos rfl]
    exact ⟨A2, rfl, hs2, hJ2⟩
  rw [if_neg h15]
  by_cases h16 : (tz_g A 0 (Int32.toNatClampNeg z3)) &&& 63 = 16
  · rw [if_pos h16]
    obtain ⟨v, A1, A2, hF, hc1, hs, hG, hs2, hJ2⟩ := H16 (tz_g A 0 (Int32.toNatClampNeg (z3 + 1))) (tz_g A 0 (Int32.toNatClampNeg (z3 + 2))) (tz_g A 0 (Int32.toNatClampNeg (z3 + 3))) n A hn hJ
    rw [if_neg (hb 1 (by decide) (by decide)), if_neg (hb 2 (by decide) (by decide)), if_neg (hb 3 (by decide) (by decide))]
    rw [tz_C_pos (hcon n A hJ), hF, tz_bI_some]
    simp only [hs.1, hs.2]
    rw [if_neg (hb 1 (by decide) (by decide)), if_neg (hb 2 (by decide) (by decide)), if_neg (hb 3 (by decide) (by decide))]
    rw [tz_C_pos hc1, hG, tz_bI_some, if_pos rfl]
    exact ⟨A2, rfl, hs2, hJ2⟩
  rw [if_neg h16]
  by_cases h17 : (tz_g A 0 (Int32.toNatClampNeg z3)) &&& 63 = 17
  · rw [if_pos h17]
    obtain ⟨v, A1, A2, hF, hc1, hs, hG, hs2, hJ2⟩ := H17 (tz_g A 0 (Int32.toNatClampNeg (z3 + 1))) n A hn hJ
    rw [if_neg (hb 1 (by decide) (by decide))]
    rw [tz_C_pos (hcon n A hJ), hF, tz_bI_some]
    simp only [hs.1, hs.2]
    rw [if_neg (hb 1 (by decide) (by decide))]
    rw [tz_C_pos hc1, hG, tz_bI_some, if_pos rfl]
    exact ⟨A2, rfl, hs2, hJ2⟩
  rw [if_neg h17]
  by_cases h18 : (tz_g A 0 (Int32.toNatClampNeg z3)) &&& 63 = 18
  · rw [if_pos h18]
    obtain ⟨v, A1, A2, hF, hc1, hs, hG, hs2, hJ2⟩ := H18 (tz_g A 0 (Int32.toNatClampNeg (z3 + 1))) (tz_g A 0 (Int32.toNatClampNeg (z3 + 2))) (tz_g A 0 (Int32.toNatClampNeg (z3 + 3))) (tz_g A 0 (Int32.toNatClampNeg (z3 + 4))) (tz_g A 0 (Int32.toNatClampNeg (z3 + 5))) n A hn hJ
    rw [if_neg (hb 1 (by decide) (by decide)), if_neg (hb 2 (by decide) (by decide)), if_neg (hb 3 (by decide) (by decide)), if_neg (hb 4 (by decide) (by decide)), if_neg (hb 5 (by decide) (by decide))]
    rw [tz_C_pos (hcon n A hJ), hF, tz_bI_some]
    simp only [hs.1, hs.2]
    rw [if_neg (hb 1 (by decide) (by decide)), if_neg (hb 2 (by decide) (by decide)), if_neg (hb 3 (by decide) (by decide)), if_neg (hb 4 (by decide) (by decide)), if_neg (hb 5 (by decide) (by decide))]
    rw [tz_C_pos hc1, hG, tz_bI_some, if_pos rfl]
    exact ⟨A2, rfl, hs2, hJ2⟩
  rw [if_neg h18]
  by_cases h19 : (tz_g A 0 (Int32.toNatClampNeg z3)) &&& 63 = 19
  · rw [if_pos h19]
    obtain ⟨v, A1, A2, hF, hc1, hs, hG, hs2, hJ2⟩ := H19 (tz_g A 0 (Int32.toNatClampNeg (z3 + 1))) (tz_g A 0 (Int32.toNatClampNeg (z3 + 2))) (tz_g A 0 (Int32.toNatClampNeg (z3 + 3))) (tz_g A 0 (Int32.toNatClampNeg (z3 + 4))) n A hn hJ
    rw [if_neg (hb 1 (by decide) (by decide)), if_neg (hb 2 (by decide) (by decide)), if_neg (hb 3 (by decide) (by decide)), if_neg (hb 4 (by decide) (by decide))]
    rw [tz_C_pos (hcon n A hJ), hF, tz_bI_some]
    simp only [hs.1, hs.2]
    rw [if_neg (hb 1 (by decide) (by decide)), if_neg (hb 2 (by decide) (by decide)), if_neg (hb 3 (by decide) (by decide)), if_neg (hb 4 (by decide) (by decide))]
    rw [tz_C_pos hc1, hG, tz_bI_some, if_pos rfl]
    exact ⟨A2, rfl, hs2, hJ2⟩
  rw [if_neg h19]
  by_cases h20 : (tz_g A 0 (Int32.toNatClampNeg z3)) &&& 63 = 20
  · rw [if_pos h20]
    obtain ⟨v, A1, A2, hF, hc1, hs, hG, hs2, hJ2⟩ := H20 (tz_g A 0 (Int32.toNatClampNeg (z3 + 1))) (tz_g A 0 (Int32.toNatClampNeg (z3 + 2))) (tz_g A 0 (Int32.toNatClampNeg (z3 + 3))) n A hn hJ
    rw [if_neg (hb 1 (by decide) (by decide)), if_neg (hb 2 (by decide) (by decide)), if_neg (hb 3 (by decide) (by decide))]
    rw [tz_C_pos (hcon n A hJ), hF, tz_bI_some]
    simp only [hs.1, hs.2]
    rw [if_neg (hb 1 (by decide) (by decide)), if_neg (hb 2 (by decide) (by decide)), if_neg (hb 3 (by decide) (by decide))]
    rw [tz_C_pos hc1, hG, tz_bI_some, if_pos rfl]
    exact ⟨A2, rfl, hs2, hJ2⟩
  rw [if_neg h20]
  by_cases h21 : (tz_g A 0 (Int32.toNatClampNeg z3)) &&& 63 = 21
  · rw [if_pos h21]
    obtain ⟨v, A1, A2, hF, hc1, hs, hG, hs2, hJ2⟩ := H21 (tz_g A 0 (Int32.toNatClampNeg (z3 + 1))) (tz_g A 0 (Int32.toNatClampNeg (z3 + 2))) (tz_g A 0 (Int32.toNatClampNeg (z3 + 3))) (tz_g A 0 (Int32.toNatClampNeg (z3 + 4))) (tz_g A 0 (Int32.toNatClampNeg (z3 + 5))) n A hn hJ
    rw [if_neg (hb 1 (by decide) (by decide)), if_neg (hb 2 (by decide) (by decide)), if_neg (hb 3 (by decide) (by decide)), if_neg (hb 4 (by decide) (by decide)), if_neg (hb 5 (by decide) (by decide))]
    rw [tz_C_pos (hcon n A hJ), hF, tz_bI_some]
    simp only [hs.1, hs.2]
    rw [if_neg (hb 1 (by decide) (by decide)), if_neg (hb 2 (by decide) (by decide)), if_neg (hb 3 (by decide) (by decide)), if_neg (hb 4 (by decide) (by decide)), if_neg (hb 5 (by decide) (by decide))]
    rw [tz_C_pos hc1, hG, tz_bI_some, if_pos rfl]
    exact ⟨A2, rfl, hs2, hJ2⟩
  rw [if_neg h21]
  by_cases h22 : (tz_g A 0 (Int32.toNatClampNeg z3)) &&& 63 = 22
  · rw [if_pos h22]
    obtain ⟨v, A1, A2, hF, hc1, hs, hG, hs2, hJ2⟩ := H22 (tz_g A 0 (Int32.toNatClampNeg (z3 + 1))) (tz_g A 0 (Int32.toNatClampNeg (z3 + 2))) n A hn hJ
    rw [if_neg (hb 1 (by decide) (by decide)), if_neg (hb 2 (by decide) (by decide))]
    rw [tz_C_pos (hcon n A hJ), hF, tz_bI_some]
    simp only [hs.1, hs.2]
    rw [if_neg (hb 1 (by decide) (by decide)), if_neg (hb 2 (by decide) (by decide))]
    rw [tz_C_pos hc1, hG, tz_bI_some, if_pos rfl]
    exact ⟨A2, rfl, hs2, hJ2⟩
  rw [if_neg h22]
  by_cases h23 : (tz_g A 0 (Int32.toNatClampNeg z3)) &&& 63 = 23
  · rw [if_pos h23]
    obtain ⟨v, A1, A2, hF, hc1, hs, hG, hs2, hJ2⟩ := H23 (tz_g A 0 (Int32.toNatClampNeg (z3 + 1))) (tz_g A 0 (Int32.toNatClampNeg (z3 + 2))) n A hn hJ
    rw [if_neg (hb 1 (by decide) (by decide)), if_neg (hb 2 (by decide) (by decide))]
    rw [tz_C_pos (hcon n A hJ), hF, tz_bI_some]
    simp only [hs.1, hs.2]
    rw [if_neg (hb 1 (by decide) (by decide)), if_neg (hb 2 (by decide) (by decide))]
    rw [tz_C_pos hc1, hG, tz_bI_some, if_pos rfl]
    exact ⟨A2, rfl, hs2, hJ2⟩
  rw [if_neg h23]
  by_cases h24 : (tz_g A 0 (Int32.toNatClampNeg z3)) &&& 63 = 24
  · rw [if_pos h24]
    obtain ⟨v, A1, A2, hF, hc1, hs, hG, hs2, hJ2⟩ := H24 (tz_g A 0 (Int32.toNatClampNeg (z3 + 1))) (tz_g A 0 (Int32.toNatClampNeg (z3 + 2))) n A hn hJ
    rw [if_neg (hb 1 (by decide) (by decide)), if_neg (hb 2 (by decide) (by decide))]
    rw [tz_C_pos (hcon n A hJ), hF, tz_bI_some]
    simp only [hs.1, hs.2]
    rw [if_neg (hb 1 (by decide) (by decide)), if_neg (hb 2 (by decide) (by decide))]
    rw [tz_C_pos hc1, hG, tz_bI_some, if_pos rfl]
    exact ⟨A2, rfl, hs2, hJ2⟩
  rw [if_neg h24]
  by_cases h25 : (tz_g A 0 (Int32.toNatClampNeg z3)) &&& 63 = 25
  · rw [if_pos h25]
    obtain ⟨v, A1, A2, hF, hc1, hs, hG, hs2, hJ2⟩ := H25 (tz_g A 0 (Int32.toNatClampNeg (z3 + 1))) (tz_g A 0 (Int32.toNatClampNeg (z3 + 2))) n A hn hJ
    rw [if_neg (hb 1 (by decide) (by decide)), if_neg (hb 2 (by decide) (by decide))]
    rw [tz_C_pos (hcon n A hJ), hF, tz_bI_some]
    simp only [hs.1, hs.2]
    rw [if_neg (hb 1 (by decide) (by decide)), if_neg (hb 2 (by decide) (by decide))]
    rw [tz_C_pos hc1, hG, tz_bI_some, if_pos rfl]
    exact ⟨A2, rfl, hs2, hJ2⟩
  rw [if_neg h25]
  by_cases h26 : (tz_g A 0 (Int32.toNatClampNeg z3)) &&& 63 = 26
  · rw [if_pos h26]
    obtain ⟨v, A1, A2, hF, hc1, hs, hG, hs2, hJ2⟩ := H26 (tz_g A 0 (Int32.toNatClampNeg (z3 + 1))) (tz_g A 0 (Int32.toNatClampNeg (z3 + 2))) (tz_g A 0 (Int32.toNatClampNeg (z3 + 3))) n A hn hJ
    rw [if_neg (hb 1 (by decide) (by decide)), if_neg (hb 2 (by decide) (by decide)), if_neg (hb 3 (by decide) (by decide))]
    rw [tz_C_pos (hcon n A hJ), hF, tz_bI_some]
    simp only [hs.1, hs.2]
    rw [if_neg (hb 1 (by decide) (by decide)), if_neg (hb 2 (by decide) (by decide)), if_neg (hb 3 (by decide) (by decide))]
    rw [tz_C_pos hc1, hG, tz_bI_some, if_pos rfl]
    exact ⟨A2, rfl, hs2, hJ2⟩
  rw [if_neg h26]
  by_cases h27 : (tz_g A 0 (Int32.toNatClampNeg z3)) &&& 63 = 27
  · rw [if_pos h27]
    obtain ⟨v, A1, A2, hF, hc1, hs, hG, hs2, hJ2⟩ := H27 (tz_g A 0 (Int32.toNatClampNeg (z3 + 1))) (tz_g A 0 (Int32.toNatClampNeg (z3 + 2))) n A hn hJ
    rw [if_neg (hb 1 (by decide) (by decide)), if_neg (hb 2 (by decide) (by decide))]
    rw [tz_C_pos (hcon n A hJ), hF, tz_bI_some]
    simp only [hs.1, hs.2]
    rw [if_neg (hb 1 (by decide) (by decide)), if_neg (hb 2 (by decide) (by decide))]
    rw [tz_C_pos hc1, hG, tz_bI_some, if_pos rfl]
    exact ⟨A2, rfl, hs2, hJ2⟩
  rw [if_neg h27]
  by_cases h28 : (tz_g A 0 (Int32.toNatClampNeg z3)) &&& 63 = 28
  · rw [if_pos h28]
    obtain ⟨v, A1, A2, hF, hc1, hs, hG, hs2, hJ2⟩ := H28  n A hn hJ
    rw [tz_C_pos (hcon n A hJ), hF, tz_bI_some]
    rw [tz_C_pos hc1, hG, tz_bI_some, if_pos rfl]
    exact ⟨A2, rfl, hs2, hJ2⟩
  rw [if_neg h28]
  by_cases h29 : (tz_g A 0 (Int32.toNatClampNeg z3)) &&& 63 = 29
  · rw [if_pos h29]
    obtain ⟨v, A1, A2, hF, hc1, hs, hG, hs2, hJ2⟩ := H29 (tz_g A 0 (Int32.toNatClampNeg (z3 + 1))) n A hn hJ
    rw [if_neg (hb 1 (by decide) (by decide))]
    rw [tz_C_pos (hcon n A hJ), hF, tz_bI_some]
    simp only [hs.1, hs.2]
    rw [if_neg (hb 1 (by decide) (by decide))]
    rw [tz_C_pos hc1, hG, tz_bI_some, if_pos rfl]
    exact ⟨A2, rfl, hs2, hJ2⟩
  rw [if_neg h29]
  by_cases h30 : (tz_g A 0 (Int32.toNatClampNeg z3)) &&& 63 = 30
  · rw [if_pos h30]
    obtain ⟨v, A1, A2, hF, hc1, hs, hG, hs2, hJ2⟩ := H30 (tz_g A 0 (Int32.toNatClampNeg (z3 + 1))) n A hn hJ
    rw [if_neg (hb 1 (by decide) (by decide))]
    rw [tz_C_pos (hcon n A hJ), hF, tz_bI_some]
    simp only [hs.1, hs.2]
    rw [if_neg (hb 1 (by decide) (by decide))]
    rw [tz_C_pos hc1, hG, tz_bI_some, if_pos rfl]
    exact ⟨A2, rfl, hs2, hJ2⟩
  rw [if_neg h30]
  by_cases h31 : (tz_g A 0 (Int32.toNatClampNeg z3)) &&& 63 = 31
  · rw [if_pos h31]
    obtain ⟨v, A1, A2, hF, hc1, hs, hG, hs2, hJ2⟩ := H31 (tz_g A 0 (Int32.toNatClampNeg (z3 + 1))) n A hn hJ
    rw [if_neg (hb 1 (by decide) (by decide))]
    rw [tz_C_pos (hcon n A hJ), hF, tz_bI_some]
    simp only [hs.1, hs.2]
    rw [if_neg (hb 1 (by decide) (by decide))]
    rw [tz_C_pos hc1, hG, tz_bI_some, if_pos rfl]
    exact ⟨A2, rfl, hs2, hJ2⟩
  rw [if_neg h31]
  by_cases h32 : (tz_g A 0 (Int32.toNatClampNeg z3)) &&& 63 = 32
  · rw [if_pos h32]
    obtain ⟨v, A1, A2, hF, hc1, hs, hG, hs2, hJ2⟩ := H32 (tz_g A 0 (Int32.toNatClampNeg (z3 + 1))) n A hn hJ
    rw [if_neg (hb 1 (by decide) (by decide))]
    rw [tz_C_pos (hcon n A hJ), hF, tz_bI_some]
    simp only [hs.1, hs.2]
    rw [if_neg (hb 1 (by decide) (by decide))]
    rw [tz_C_pos hc1, hG, tz_bI_some, if_pos rfl]
    exact ⟨A2, rfl, hs2, hJ2⟩
  rw [if_neg h32]
  by_cases h33 : (tz_g A 0 (Int32.toNatClampNeg z3)) &&& 63 = 33
  · rw [if_pos h33]
    obtain ⟨v, A1, A2, hF, hc1, hs, hG, hs2, hJ2⟩ := H33 (tz_g A 0 (Int32.toNatClampNeg (z3 + 1))) n A hn hJ
    rw [if_neg (hb 1 (by decide) (by decide))]
    rw [tz_C_pos (hcon n A hJ), hF, tz_bI_some]
    simp only [hs.1, hs.2]
    rw [if_neg (hb 1 (by decide) (by decide))]
    rw [tz_C_pos hc1, hG, tz_bI_some, if_pos rfl]
    exact ⟨A2, rfl, hs2, hJ2⟩
  rw [if_neg h33]
  by_cases h34 : (tz_g A 0 (Int32.toNatClampNeg z3)) &&& 63 = 34
  · rw [if_pos h34]
    obtain ⟨v, A1, A2, hF, hc1, hs, hG, hs2, hJ2⟩ := H34 (tz_g A 0 (Int32.toNatClampNeg (z3 + 1))) (tz_g A 0 (Int32.toNatClampNeg (z3 + 2))) (tz_g A 0 (Int32.toNatClampNeg (z3 + 3))) n A hn hJ
    rw [if_neg (hb 1 (by decide) (by decide)), if_neg (hb 2 (by decide) (by decide)), if_neg (hb 3 (by decide) (by decide))]
    rw [tz_C_pos (hcon n A hJ), hF, tz_bI_some]
    simp only [hs.1, hs.2]
    rw [if_neg (hb 1 (by decide) (by decide)), if_neg (hb 2 (by decide) (by decide)), if_neg (hb 3 (by decide) (by decide))]
    rw [tz_C_pos hc1, hG, tz_bI_some, if_pos rfl]
    exact ⟨A2, rfl, hs2, hJ2⟩
  rw [if_neg h34]
  by_cases h35 : (tz_g A 0 (Int32.toNatClampNeg z3)) &&& 63 = 35
  · rw [if_pos h35]
    obtain ⟨v, A1, A2, hF, hc1, hs, hG, hs2, hJ2⟩ := H35 (tz_g A 0 (Int32.toNatClampNeg (z3 + 1))) n A hn hJ
    rw [if_neg (hb 1 (by decide) (by decide))]
    rw [tz_C_pos (hcon n A hJ), hF, tz_bI_some]
    simp only [hs.1, hs.2]
    rw [if_neg (hb 1 (by decide) (by decide))]
    rw [tz_C_pos hc1, hG, tz_bI_some, if_pos rfl]
    exact ⟨A2, rfl, hs2, hJ2⟩
  rw [if_neg h35]
  by_cases h36 : (tz_g A 0 (Int32.toNatClampNeg z3)) &&& 63 = 36
  · rw [if_pos h36]
    obtain ⟨v, A1, A2, hF, hc1, hs, hG, hs2, hJ2⟩ := H36  n A hn hJ
    rw [tz_C_pos (hcon n A hJ), hF, tz_bI_some]
    rw [tz_C_pos hc1, hG, tz_bI_some, if_pos rfl]
    exact ⟨A2, rfl, hs2, hJ2⟩
  rw [if_neg h36]
  by_cases h37 : (tz_g A 0 (Int32.toNatClampNeg z3)) &&& 63 = 37
  · rw [if_pos h37]
    obtain ⟨v, A1, A2, hF, hc1, hs, hG, hs2, hJ2⟩ := H37  n A hn hJ
    rw [tz_C_pos (hcon n A hJ), hF, tz_bI_some]
    rw [tz_C_pos hc1, hG, tz_bI_some, if_pos rfl]
    exact ⟨A2, rfl, hs2, hJ2⟩
  rw [if_neg h37]
  by_cases h38 : (tz_g A 0 (Int32.toNatClampNeg z3)) &&& 63 = 38
  · rw [if_pos h38]
    obtain ⟨v, A1, A2, hF, hc1, hs, hG, hs2, hJ2⟩ := H38 (tz_g A 0 (Int32.toNatClampNeg (z3 + 1))) n A hn hJ
    rw [if_neg (hb 1 (by decide) (by decide))]
    rw [tz_C_pos (hcon n A hJ), hF, tz_bI_some]
    simp only [hs.1, hs.2]
    rw [if_neg (hb 1 (by decide) (by decide))]
    rw [tz_C_pos hc1, hG, tz_bI_some, if_pos rfl]
    exact ⟨A2, rfl, hs2, hJ2⟩
  rw [if_neg h38]
  exact ⟨A, rfl, ⟨rfl, fun _ => rfl⟩, hnx n A hn hJ⟩
