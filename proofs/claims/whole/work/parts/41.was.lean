/-! the model's `was` makes an array: its rows, its equations by program (gen_w.py) -/
section TZW
variable {m pc np : Nat} {L : tz_Lo} {r : List Value} {A : tz_Mem}
theorem tz_g_newK (hN : tz_N0 ≤ A.1) (h : tz_In m pc (.newarray .int) np L) : tz_Go m pc L (.int 501 :: r) A = tz_Go m np L (.ref A.1 :: r) (tz_nw A 1) := by
  have e := tz_SH_hi hN
  refine tz_g_newi (by decide) ?_ ?_ h
  · rw [e, show Nat.ble tz_E0 A.1 = true from Nat.ble_eq_true_of_le (Nat.le_trans (by decide) hN)]
    rfl
  · unfold tz_kd
    rw [e]
    rfl
theorem tz_ok_hi {k c : Nat} (hN : tz_N0 ≤ k) (hc : Nat.ble c tz_N0 = true) : tz_ok c A k = decide (k < A.1) := by
  unfold tz_ok
  have h1 : Nat.blt k c = false := by
    cases hq : Nat.blt k c
    · rfl
    · have a := Nat.le_of_ble_eq_true hq
      have b := Nat.le_of_ble_eq_true hc
      omega
  rw [h1, Bool.false_or]
  by_cases hk : k < A.1
  · rw [decide_eq_true hk]
    exact Nat.ble_eq_true_of_le hk
  · rw [decide_eq_false hk]
    cases hq : Nat.blt k A.1
    · rfl
    · exact absurd (Nat.le_of_ble_eq_true hq) hk
theorem tz_ix_hi {k c : Nat} {i : Int32} {o : tz_X} (hN : tz_N0 ≤ k) (hc : Nat.ble c tz_N0 = true) : tz_ix A 100 k c i o = if A.1 ≤ k then none else if i < 0 ∨ 501 ≤ i.toNatClampNeg then none else o := by
  unfold tz_ix tz_kd tz_ln
  rw [tz_SH_hi hN, tz_ok_hi hN hc, show Nat.beq k 0 = false from by
    cases hq : Nat.beq k 0
    · rfl
    · have := Nat.eq_of_beq_eq_true hq
      have h2 : 184 ≤ k := hN
      omega]
  by_cases hk : k < A.1
  · rw [decide_eq_true hk, if_neg (show ¬ A.1 ≤ k from fun q => Nat.not_le_of_lt hk q)]
    rfl
  · rw [decide_eq_false hk, if_pos (show A.1 ≤ k from Nat.le_of_not_lt hk)]
    rfl
theorem tz_g_ialK {k : Nat} {i : Int32} (hN : tz_N0 ≤ k) (h : tz_In m pc .iaload np L) (hc : Nat.ble (tz_cm m) tz_N0 = true := by rfl) : tz_Go m pc L (.int i :: .ref k :: r) A = if A.1 ≤ k then none else if i < 0 ∨ 501 ≤ i.toNatClampNeg then none else tz_Go m np L (.int (tz_g A k i.toNatClampNeg) :: r) A := by
  refine (h _ _).trans ?_
  refine (tz_ix_hi hN hc).trans ?_
  have : tz_av A k i.toNatClampNeg = tz_g A k i.toNatClampNeg := by
    unfold tz_av
    rw [show Nat.blt k 5 = false from by
      cases hq : Nat.blt k 5
      · rfl
      · have := Nat.le_of_ble_eq_true hq
        have h2 : 184 ≤ k := hN
        omega, Bool.and_false]
    rfl
  rw [this]
theorem tz_g_iasK {k : Nat} {i x : Int32} (hN : tz_N0 ≤ k) (h : tz_In m pc .iastore np L) (hc : Nat.ble (tz_cm m) tz_N0 = true := by rfl) : tz_Go m pc L (.int x :: .int i :: .ref k :: r) A = if A.1 ≤ k then none else if i < 0 ∨ 501 ≤ i.toNatClampNeg then none else tz_Go m np L r (tz_s A k i.toNatClampNeg x) := by
  refine (h _ _).trans ?_
  refine Eq.trans (?_ : _ = tz_ix A 100 k (tz_cm m) i (tz_Go m np L r (tz_s A k i.toNatClampNeg x))) (tz_ix_hi hN hc)
  exact tz_bt (Nat.ble_eq_true_of_le (Nat.le_trans (by decide) hN))
end TZW

noncomputable def f_X12_was (x1 : Int32) (x2 : Int32) (x3 : Int32) (x4 : Int32) (x5 : Int32) (A : tz_Mem) : tz_X := tz_F 224 [.ref 157, .int x1, .int x2, .int x3, .int x4, .int x5] A
noncomputable def q_X12_was_108 (z1 : Int32) (z2 : Int32) (z3 : Int32) (z4 : Int32) (z5 : Int32) (z6 : Int32) (z7 : Int32) (z8 : Int32) (A : tz_Mem) : tz_X := tz_Go 224 108 [some (.ref 157), some (.int z1), some (.int z2), some (.int z3), some (.int z4), some (.int z5), some (.int z6), some (.int z7), some (.int z8), none, none, none, none, none, none, none] [] A
noncomputable def q_X12_was_118 (z1 : Int32) (z5 : Int32) (z7 : Int32) (z8 : Int32) (z9 : Nat) (z10 : Int32) (A : tz_Mem) : tz_X := tz_Go 224 118 [some (.ref 157), some (.int z1), none, none, none, some (.int z5), none, some (.int z7), some (.int z8), some (.ref z9), some (.int z10), none, none, none, none, none] [] A
noncomputable def q_X12_was_266 (z1 : Int32) (z5 : Int32) (z8 : Int32) (z9 : Nat) (z10 : Int32) (z11 : Int32) (z12 : Int32) (z13 : Int32) (A : tz_Mem) : tz_X := tz_Go 224 266 [some (.ref 157), some (.int z1), none, none, none, some (.int z5), none, none, some (.int z8), some (.ref z9), some (.int z10), some (.int z11), some (.int z12), some (.int z13), none, none] [] A
noncomputable def q_X12_was_283 (z1 : Int32) (z5 : Int32) (z8 : Int32) (z9 : Nat) (z10 : Int32) (z11 : Int32) (z12 : Int32) (z13 : Int32) (z14 : Int32) (z15 : Int32) (A : tz_Mem) : tz_X := tz_Go 224 283 [some (.ref 157), some (.int z1), none, none, none, some (.int z5), none, none, some (.int z8), some (.ref z9), some (.int z10), some (.int z11), some (.int z12), some (.int z13), some (.int z14), some (.int z15)] [] A
theorem e_X12_was (x1 : Int32) (x2 : Int32) (x3 : Int32) (x4 : Int32) (x5 : Int32) (A : tz_Mem) : f_X12_was x1 x2 x3 x4 x5 A =
  tz_bI (f_X12_isHill x2 A) (fun y1 A1 =>
if y1 = 0 then
  tz_bI (f_X12_no10 (-1) A1) (fun y2 A2 =>
  some (some (.int y2), A2))
else
  tz_bI (f_X12_isHill x3 A1) (fun y2 A2 =>
  if ¬ y2 = 0 then
    tz_bI (f_X12_within x5 0 1 A2) (fun y3 A3 =>
    if ¬ y3 = 0 then
      tz_bI (f_X12_within x1 0 9999 A3) (fun y4 A4 =>
      if y4 = 0 then
        tz_bI (f_X12_noHanding x2 x3 0 A4) (fun y5 A5 =>
        if 0 ≤ y5 then
          tz_bV (f_X12_keep_s181 A5) (fun A6 =>
          tz_bI (f_X12_newLetter 0 x2 x3 x4 A6) (fun y7 A7 =>
          q_X12_was_108 x1 x2 x3 x4 x5 y5 y7 0 A7))
        else
          tz_bI (f_X12_no10 y5 A5) (fun y6 A6 =>
          some (some (.int y6), A6)))
      else
        tz_bI (f_X12_within x4 1 99 A4) (fun y5 A5 =>
        if y5 = 0 then
          tz_bI (f_X12_noHanding x2 x3 0 A5) (fun y6 A6 =>
          if 0 ≤ y6 then
            tz_bV (f_X12_keep_s181 A6) (fun A7 =>
            tz_bI (f_X12_newLetter 0 x2 x3 x4 A7) (fun y8 A8 =>
            q_X12_was_108 x1 x2 x3 x4 x5 y6 y8 0 A8))
          else
            tz_bI (f_X12_no10 y6 A6) (fun y7 A7 =>
            some (some (.int y7), A7)))
        else
          tz_bI (f_X12_noHanding x2 x3 1 A5) (fun y6 A6 =>
          if 0 ≤ y6 then
            tz_bV (f_X12_keep_s181 A6) (fun A7 =>
            tz_bI (f_X12_newLetter 0 x2 x3 x4 A7) (fun y8 A8 =>
            q_X12_was_108 x1 x2 x3 x4 x5 y6 y8 0 A8))
          else
            tz_bI (f_X12_no10 y6 A6) (fun y7 A7 =>
            some (some (.int y7), A7)))))
    else
      tz_bI (f_X12_no10 (-5) A3) (fun y4 A4 =>
      some (some (.int y4), A4)))
  else
    tz_bI (f_X12_no10 (-1) A2) (fun y3 A3 =>
    some (some (.int y3), A3)))) := by
  refine (tz_Fe (L := [some (.ref 157), some (.int x1), some (.int x2), some (.int x3), some (.int x4), some (.int x5), none, none, none, none, none, none, none, none, none, none]) rfl).trans ?_
  refine (tz_g_aload_n rfl (tz_in0 rfl)).trans ?_
  refine (tz_g_iload_n rfl (tz_in0 rfl)).trans ?_
  refine (tz_g_cv1I (m2 := 173) (rc := 4) rfl rfl rfl rfl rfl rfl (by decide) (tz_in0 rfl)).trans ?_
  refine tz_jI (fun y1 A1 => ?_)
  refine (tz_g_if_eq (t := 16) (by decide) (tz_in0 rfl)).trans ?_
  refine tz_cg ?_ ?_
  · skip
    refine (tz_g_aload_n rfl (tz_in0 rfl)).trans ?_
    refine (tz_g_iconst (v := (-1)) rfl (tz_in0 rfl)).trans ?_
    refine (tz_g_cv1I (m2 := 218) (rc := 1) rfl rfl rfl rfl rfl rfl (by decide) (tz_in0 rfl)).trans ?_
    refine tz_jI (fun y2 A2 => ?_)
    exact tz_g_ret1 (tz_in0 rfl) rfl
  · skip
    refine (tz_g_aload_n rfl (tz_in0 rfl)).trans ?_
    refine (tz_g_iload_n rfl (tz_in0 rfl)).trans ?_
    refine (tz_g_cv1I (m2 := 173) (rc := 4) rfl rfl rfl rfl rfl rfl (by decide) (tz_in0 rfl)).trans ?_
    refine tz_jI (fun y2 A2 => ?_)
    refine (tz_g_if_ne (t := 22) (by decide) (tz_in0 rfl)).trans ?_
    refine tz_cg ?_ ?_
    · skip
      refine (tz_g_iload rfl (tz_in0 rfl)).trans ?_
      refine (tz_g_iconst (v := 0) rfl (tz_in0 rfl)).trans ?_
      refine (tz_g_iconst (v := 1) rfl (tz_in0 rfl)).trans ?_
      refine (tz_g_cs3I (m2 := 165) (rc := 4) rfl rfl rfl rfl rfl rfl (by decide) (tz_in0 rfl)).trans ?_
      refine tz_jI (fun y3 A3 => ?_)
      refine (tz_g_if_ne (t := 39) (by decide) (tz_in0 rfl)).trans ?_
      refine tz_cg ?_ ?_
      · skip
        refine (tz_g_aload_n rfl (tz_in0 rfl)).trans ?_
        refine (tz_g_iload_n rfl (tz_in0 rfl)).trans ?_
        refine (tz_g_iload_n rfl (tz_in0 rfl)).trans ?_
        refine (tz_g_iload_n rfl (tz_in0 rfl)).trans ?_
        refine (tz_g_iconst (v := 0) rfl (tz_in0 rfl)).trans ?_
        refine (tz_g_sipush (v := 9999) rfl (tz_in0 rfl)).trans ?_
        refine (tz_g_cs3I (m2 := 165) (rc := 4) rfl rfl rfl rfl rfl rfl (by decide) (tz_in0 rfl)).trans ?_
        refine tz_jI (fun y4 A4 => ?_)
        refine (tz_g_if_eq (t := 68) (by decide) (tz_in0 rfl)).trans ?_
        refine tz_cg ?_ ?_
        · skip
          refine (tz_g_iconst (v := 0) rfl (tz_in0 rfl)).trans ?_
          refine (tz_g_cv3I (m2 := 220) (rc := 1) rfl rfl rfl rfl rfl rfl (by decide) (tz_in0 rfl)).trans ?_
          refine tz_jI (fun y5 A5 => ?_)
          refine (tz_g_istore (L2 := [some (.ref 157), some (.int x1), some (.int x2), some (.int x3), some (.int x4), some (.int x5), some (.int y5), none, none, none, none, none, none, none, none, none]) rfl rfl (tz_in0 rfl)).trans ?_
          refine (tz_g_iload rfl (tz_in0 rfl)).trans ?_
          refine (tz_g_if_ge (t := 86) (by decide) (tz_in0 rfl)).trans ?_
          refine tz_cg ?_ ?_
          · skip
            refine (tz_g_aload_n rfl (tz_in0 rfl)).trans ?_
            refine (tz_g_aload_n rfl (tz_in0 rfl)).trans ?_
            refine (tz_g_getr (j := 181) rfl rfl rfl rfl rfl (tz_in0 rfl)).trans ?_
            refine (tz_g_cv1V (m2 := 196) (rc := 0) rfl rfl rfl rfl rfl rfl (by decide) (tz_in0 rfl)).trans ?_
            refine tz_jV (fun A6 => ?_)
            refine (tz_g_aload_n rfl (tz_in0 rfl)).trans ?_
            refine (tz_g_iconst (v := 0) rfl (tz_in0 rfl)).trans ?_
            refine (tz_g_iload_n rfl (tz_in0 rfl)).trans ?_
            refine (tz_g_iload_n rfl (tz_in0 rfl)).trans ?_
            refine (tz_g_iload rfl (tz_in0 rfl)).trans ?_
            refine (tz_g_cv4I (m2 := 187) (rc := 1) rfl rfl rfl rfl rfl rfl (by decide) (tz_in0 rfl)).trans ?_
            refine tz_jI (fun y7 A7 => ?_)
            refine (tz_g_istore (L2 := [some (.ref 157), some (.int x1), some (.int x2), some (.int x3), some (.int x4), some (.int x5), some (.int y5), some (.int y7), none, none, none, none, none, none, none, none]) rfl rfl (tz_in0 rfl)).trans ?_
            refine (tz_g_iconst (v := 0) rfl (tz_in0 rfl)).trans ?_
            refine (tz_g_istore (L2 := [some (.ref 157), some (.int x1), some (.int x2), some (.int x3), some (.int x4), some (.int x5), some (.int y5), some (.int y7), some (.int 0), none, none, none, none, none, none, none]) rfl rfl (tz_in0 rfl)).trans ?_
            exact rfl
          · skip
            refine (tz_g_aload_n rfl (tz_in0 rfl)).trans ?_
            refine (tz_g_iload rfl (tz_in0 rfl)).trans ?_
            refine (tz_g_cv1I (m2 := 218) (rc := 1) rfl rfl rfl rfl rfl rfl (by decide) (tz_in0 rfl)).trans ?_
            refine tz_jI (fun y6 A6 => ?_)
            exact tz_g_ret1 (tz_in0 rfl) rfl
        · skip
          refine (tz_g_iload rfl (tz_in0 rfl)).trans ?_
          refine (tz_g_iconst (v := 1) rfl (tz_in0 rfl)).trans ?_
          refine (tz_g_bipush (v := 99) rfl (tz_in0 rfl)).trans ?_
          refine (tz_g_cs3I (m2 := 165) (rc := 4) rfl rfl rfl rfl rfl rfl (by decide) (tz_in0 rfl)).trans ?_
          refine tz_jI (fun y5 A5 => ?_)
          refine (tz_g_if_eq (t := 68) (by decide) (tz_in0 rfl)).trans ?_
          refine tz_cg ?_ ?_
          · skip
            refine (tz_g_iconst (v := 0) rfl (tz_in0 rfl)).trans ?_
            refine (tz_g_cv3I (m2 := 220) (rc := 1) rfl rfl rfl rfl rfl rfl (by decide) (tz_in0 rfl)).trans ?_
            refine tz_jI (fun y6 A6 => ?_)
            refine (tz_g_istore (L2 := [some (.ref 157), some (.int x1), some (.int x2), some (.int x3), some (.int x4), some (.int x5), some (.int y6), none, none, none, none, none, none, none, none, none]) rfl rfl (tz_in0 rfl)).trans ?_
            refine (tz_g_iload rfl (tz_in0 rfl)).trans ?_
            refine (tz_g_if_ge (t := 86) (by decide) (tz_in0 rfl)).trans ?_
            refine tz_cg ?_ ?_
            · skip
              refine (tz_g_aload_n rfl (tz_in0 rfl)).trans ?_
              refine (tz_g_aload_n rfl (tz_in0 rfl)).trans ?_
              refine (tz_g_getr (j := 181) rfl rfl rfl rfl rfl (tz_in0 rfl)).trans ?_
              refine (tz_g_cv1V (m2 := 196) (rc := 0) rfl rfl rfl rfl rfl rfl (by decide) (tz_in0 rfl)).trans ?_
              refine tz_jV (fun A7 => ?_)
              refine (tz_g_aload_n rfl (tz_in0 rfl)).trans ?_
              refine (tz_g_iconst (v := 0) rfl (tz_in0 rfl)).trans ?_
              refine (tz_g_iload_n rfl (tz_in0 rfl)).trans ?_
              refine (tz_g_iload_n rfl (tz_in0 rfl)).trans ?_
              refine (tz_g_iload rfl (tz_in0 rfl)).trans ?_
              refine (tz_g_cv4I (m2 := 187) (rc := 1) rfl rfl rfl rfl rfl rfl (by decide) (tz_in0 rfl)).trans ?_
              refine tz_jI (fun y8 A8 => ?_)
              refine (tz_g_istore (L2 := [some (.ref 157), some (.int x1), some (.int x2), some (.int x3), some (.int x4), some (.int x5), some (.int y6), some (.int y8), none, none, none, none, none, none, none, none]) rfl rfl (tz_in0 rfl)).trans ?_
              refine (tz_g_iconst (v := 0) rfl (tz_in0 rfl)).trans ?_
              refine (tz_g_istore (L2 := [some (.ref 157), some (.int x1), some (.int x2), some (.int x3), some (.int x4), some (.int x5), some (.int y6), some (.int y8), some (.int 0), none, none, none, none, none, none, none]) rfl rfl (tz_in0 rfl)).trans ?_
              exact rfl
            · skip
              refine (tz_g_aload_n rfl (tz_in0 rfl)).trans ?_
              refine (tz_g_iload rfl (tz_in0 rfl)).trans ?_
              refine (tz_g_cv1I (m2 := 218) (rc := 1) rfl rfl rfl rfl rfl rfl (by decide) (tz_in0 rfl)).trans ?_
              refine tz_jI (fun y7 A7 => ?_)
              exact tz_g_ret1 (tz_in0 rfl) rfl
          · skip
            refine (tz_g_iconst (v := 1) rfl (tz_in0 rfl)).trans ?_
            refine (tz_g_goto (t := 69) (by decide) (tz_in0 rfl)).trans ?_
            refine (tz_g_cv3I (m2 := 220) (rc := 1) rfl rfl rfl rfl rfl rfl (by decide) (tz_in0 rfl)).trans ?_
            refine tz_jI (fun y6 A6 => ?_)
            refine (tz_g_istore (L2 := [some (.ref 157), some (.int x1), some (.int x2), some (.int x3), some (.int x4), some (.int x5), some (.int y6), none, none, none, none, none, none, none, none, none]) rfl rfl (tz_in0 rfl)).trans ?_
            refine (tz_g_iload rfl (tz_in0 rfl)).trans ?_
            refine (tz_g_if_ge (t := 86) (by decide) (tz_in0 rfl)).trans ?_
            refine tz_cg ?_ ?_
            · skip
              refine (tz_g_aload_n rfl (tz_in0 rfl)).trans ?_
              refine (tz_g_aload_n rfl (tz_in0 rfl)).trans ?_
              refine (tz_g_getr (j := 181) rfl rfl rfl rfl rfl (tz_in0 rfl)).trans ?_
              refine (tz_g_cv1V (m2 := 196) (rc := 0) rfl rfl rfl rfl rfl rfl (by decide) (tz_in0 rfl)).trans ?_
              refine tz_jV (fun A7 => ?_)
              refine (tz_g_aload_n rfl (tz_in0 rfl)).trans ?_
              refine (tz_g_iconst (v := 0) rfl (tz_in0 rfl)).trans ?_
              refine (tz_g_iload_n rfl (tz_in0 rfl)).trans ?_
              refine (tz_g_iload_n rfl (tz_in0 rfl)).trans ?_
              refine (tz_g_iload rfl (tz_in0 rfl)).trans ?_
              refine (tz_g_cv4I (m2 := 187) (rc := 1) rfl rfl rfl rfl rfl rfl (by decide) (tz_in0 rfl)).trans ?_
              refine tz_jI (fun y8 A8 => ?_)
              refine (tz_g_istore (L2 := [some (.ref 157), some (.int x1), some (.int x2), some (.int x3), some (.int x4), some (.int x5), some (.int y6), some (.int y8), none, none, none, none, none, none, none, none]) rfl rfl (tz_in0 rfl)).trans ?_
              refine (tz_g_iconst (v := 0) rfl (tz_in0 rfl)).trans ?_
              refine (tz_g_istore (L2 := [some (.ref 157), some (.int x1), some (.int x2), some (.int x3), some (.int x4), some (.int x5), some (.int y6), some (.int y8), some (.int 0), none, none, none, none, none, none, none]) rfl rfl (tz_in0 rfl)).trans ?_
              exact rfl
            · skip
              refine (tz_g_aload_n rfl (tz_in0 rfl)).trans ?_
              refine (tz_g_iload rfl (tz_in0 rfl)).trans ?_
              refine (tz_g_cv1I (m2 := 218) (rc := 1) rfl rfl rfl rfl rfl rfl (by decide) (tz_in0 rfl)).trans ?_
              refine tz_jI (fun y7 A7 => ?_)
              exact tz_g_ret1 (tz_in0 rfl) rfl
      · skip
        refine (tz_g_aload_n rfl (tz_in0 rfl)).trans ?_
        refine (tz_g_bipush (v := (-5)) rfl (tz_in0 rfl)).trans ?_
        refine (tz_g_cv1I (m2 := 218) (rc := 1) rfl rfl rfl rfl rfl rfl (by decide) (tz_in0 rfl)).trans ?_
        refine tz_jI (fun y4 A4 => ?_)
        exact tz_g_ret1 (tz_in0 rfl) rfl
    · skip
      refine (tz_g_aload_n rfl (tz_in0 rfl)).trans ?_
      refine (tz_g_iconst (v := (-1)) rfl (tz_in0 rfl)).trans ?_
      refine (tz_g_cv1I (m2 := 218) (rc := 1) rfl rfl rfl rfl rfl rfl (by decide) (tz_in0 rfl)).trans ?_
      refine tz_jI (fun y3 A3 => ?_)
      exact tz_g_ret1 (tz_in0 rfl) rfl
theorem e_X12_was_108 (z1 : Int32) (z2 : Int32) (z3 : Int32) (z4 : Int32) (z5 : Int32) (z6 : Int32) (z7 : Int32) (z8 : Int32) (A : tz_Mem) (hN : tz_N0 ≤ A.1) : q_X12_was_108 z1 z2 z3 z4 z5 z6 z7 z8 A =
  q_X12_was_118 z1 z5 z7 z8 ((A).1) 0 (tz_nw A 1) := by
  show tz_Go 224 108 [some (.ref 157), some (.int z1), some (.int z2), some (.int z3), some (.int z4), some (.int z5), some (.int z6), some (.int z7), some (.int z8), none, none, none, none, none, none, none] [] A = _
  refine (tz_g_sipush (v := 501) rfl (tz_in0 rfl)).trans ?_
  refine (tz_g_newK hN (tz_in0 rfl)).trans ?_
  refine (tz_g_astore (L2 := [some (.ref 157), some (.int z1), some (.int z2), some (.int z3), some (.int z4), some (.int z5), some (.int z6), some (.int z7), some (.int z8), some (.ref (A).1), none, none, none, none, none, none]) rfl rfl (tz_in0 rfl)).trans ?_
  refine (tz_g_iconst (v := 0) rfl (tz_in0 rfl)).trans ?_
  refine (tz_g_istore (L2 := [some (.ref 157), some (.int z1), some (.int z2), some (.int z3), some (.int z4), some (.int z5), some (.int z6), some (.int z7), some (.int z8), some (.ref (A).1), some (.int 0), none, none, none, none, none]) rfl rfl (tz_in0 rfl)).trans ?_
  exact tz_Gm (L2 := [some (.ref 157), some (.int z1), none, none, none, some (.int z5), none, some (.int z7), some (.int z8), some (.ref (A).1), some (.int 0), none, none, none, none, none]) rfl rfl rfl rfl
theorem e_X12_was_118 (z1 : Int32) (z5 : Int32) (z7 : Int32) (z8 : Int32) (z9 : Nat) (z10 : Int32) (A : tz_Mem) (hz : tz_N0 ≤ z9) : q_X12_was_118 z1 z5 z7 z8 z9 z10 A =
  if 500 ≤ z10 then
  if z7 < 0 ∨ 12 ≤ (Int32.toNatClampNeg z7) then none else
  if ¬ (tz_g A 175 (Int32.toNatClampNeg z7)) = 200 then
    tz_bV (f_X12_again_s181 A) (fun A1 =>
    q_X12_was_266 z1 z5 z8 z9 0 0 (-1) 9999 A1)
  else
    tz_bV (f_X12_again_s181 A) (fun A1 =>
    q_X12_was_266 z1 z5 z8 z9 1 0 (-1) 9999 A1)
else
  if z7 < 0 ∨ 12 ≤ (Int32.toNatClampNeg z7) then none else
  if 200 ≤ (tz_g A 175 (Int32.toNatClampNeg z7)) then
    if z7 < 0 ∨ 12 ≤ (Int32.toNatClampNeg z7) then none else
    if ¬ (tz_g A 175 (Int32.toNatClampNeg z7)) = 200 then
      tz_bV (f_X12_again_s181 A) (fun A1 =>
      q_X12_was_266 z1 z5 z8 z9 0 0 (-1) 9999 A1)
    else
      tz_bV (f_X12_again_s181 A) (fun A1 =>
      q_X12_was_266 z1 z5 z8 z9 1 0 (-1) 9999 A1)
  else
    if z7 < 0 ∨ 12 ≤ (Int32.toNatClampNeg z7) then none else
    if (tz_g A 175 (Int32.toNatClampNeg z7)) ≤ 99 then
      tz_bV (f_X12_goOn A) (fun A1 =>
      q_X12_was_118 z1 z5 z7 z8 z9 (z10 + 1) A1)
    else
      if ¬ ((tz_g A 175 (Int32.toNatClampNeg z7)) - 100) = (-1) then
        if ((tz_g A 175 (Int32.toNatClampNeg z7)) - 100) < 0 ∨ 4 ≤ (Int32.toNatClampNeg ((tz_g A 175 (Int32.toNatClampNeg z7)) - 100)) then none else
        tz_bV (f_X12_goOn A) (fun A1 =>
        if ((tz_g A 175 (Int32.toNatClampNeg z7)) - 100) = (-1) then
          q_X12_was_118 z1 z5 z7 z8 z9 (z10 + 1) A1
        else
          if ((tz_g A 175 (Int32.toNatClampNeg z7)) - 100) < 0 ∨ 4 ≤ (Int32.toNatClampNeg ((tz_g A 175 (Int32.toNatClampNeg z7)) - 100)) then none else
          if (tz_g A1 167 (Int32.toNatClampNeg ((tz_g A 175 (Int32.toNatClampNeg z7)) - 100))) = (tz_g A 167 (Int32.toNatClampNeg ((tz_g A 175 (Int32.toNatClampNeg z7)) - 100))) then
            q_X12_was_118 z1 z5 z7 z8 z9 (z10 + 1) A1
          else
            tz_bI (f_X12_storedAt ((tz_g A 175 (Int32.toNatClampNeg z7)) - 100) A1) (fun y2 A2 =>
            if (A2).1 ≤ z9 then none else
            if z8 < 0 ∨ 501 ≤ (Int32.toNatClampNeg z8) then none else
            q_X12_was_118 z1 z5 z7 (z8 + 1) z9 (z10 + 1) (tz_s A2 z9 (Int32.toNatClampNeg z8) y2)))
      else
        tz_bV (f_X12_goOn A) (fun A1 =>
        if ((tz_g A 175 (Int32.toNatClampNeg z7)) - 100) = (-1) then
          q_X12_was_118 z1 z5 z7 z8 z9 (z10 + 1) A1
        else
          if ((tz_g A 175 (Int32.toNatClampNeg z7)) - 100) < 0 ∨ 4 ≤ (Int32.toNatClampNeg ((tz_g A 175 (Int32.toNatClampNeg z7)) - 100)) then none else
          if (tz_g A1 167 (Int32.toNatClampNeg ((tz_g A 175 (Int32.toNatClampNeg z7)) - 100))) = 0 then
            q_X12_was_118 z1 z5 z7 z8 z9 (z10 + 1) A1
          else
            tz_bI (f_X12_storedAt ((tz_g A 175 (Int32.toNatClampNeg z7)) - 100) A1) (fun y2 A2 =>
            if (A2).1 ≤ z9 then none else
            if z8 < 0 ∨ 501 ≤ (Int32.toNatClampNeg z8) then none else
            q_X12_was_118 z1 z5 z7 (z8 + 1) z9 (z10 + 1) (tz_s A2 z9 (Int32.toNatClampNeg z8) y2))) := by
  show tz_Go 224 118 [some (.ref 157), some (.int z1), none, none, none, some (.int z5), none, some (.int z7), some (.int z8), some (.ref z9), some (.int z10), none, none, none, none, none] [] A = _
  refine (tz_g_iload rfl (tz_inM rfl rfl rfl)).trans ?_
  refine (tz_g_sipush (v := 500) rfl (tz_in0 rfl)).trans ?_
  refine (tz_g_ic_ge (t := 227) (by decide) (tz_in0 rfl)).trans ?_
  refine tz_cg ?_ ?_
  · skip
    refine (tz_g_aload_n rfl (tz_in0 rfl)).trans ?_
    refine (tz_g_getr (j := 175) rfl rfl rfl rfl rfl (tz_in0 rfl)).trans ?_
    refine (tz_g_iload rfl (tz_in0 rfl)).trans ?_
    refine (tz_g_iald (n := 12) rfl rfl rfl (tz_in0 rfl)).trans ?_
    refine tz_cn1 ?_
    refine (tz_g_sipush (v := 200) rfl (tz_in0 rfl)).trans ?_
    refine (tz_g_ic_ne (t := 244) (by decide) (tz_in0 rfl)).trans ?_
    refine tz_cg ?_ ?_
    · skip
      refine (tz_g_iconst (v := 0) rfl (tz_in0 rfl)).trans ?_
      refine (tz_g_istore (L2 := [some (.ref 157), some (.int z1), none, none, none, some (.int z5), none, some (.int z7), some (.int z8), some (.ref z9), some (.int 0), none, none, none, none, none]) rfl rfl (tz_in0 rfl)).trans ?_
      refine (tz_g_aload_n rfl (tz_in0 rfl)).trans ?_
      refine (tz_g_aload_n rfl (tz_in0 rfl)).trans ?_
      refine (tz_g_getr (j := 181) rfl rfl rfl rfl rfl (tz_in0 rfl)).trans ?_
      refine (tz_g_cv1V (m2 := 211) (rc := 0) rfl rfl rfl rfl rfl rfl (by decide) (tz_in0 rfl)).trans ?_
      refine tz_jV (fun A1 => ?_)
      refine (tz_g_iconst (v := 0) rfl (tz_in0 rfl)).trans ?_
      refine (tz_g_istore (L2 := [some (.ref 157), some (.int z1), none, none, none, some (.int z5), none, some (.int z7), some (.int z8), some (.ref z9), some (.int 0), some (.int 0), none, none, none, none]) rfl rfl (tz_in0 rfl)).trans ?_
      refine (tz_g_iconst (v := (-1)) rfl (tz_in0 rfl)).trans ?_
      refine (tz_g_istore (L2 := [some (.ref 157), some (.int z1), none, none, none, some (.int z5), none, some (.int z7), some (.int z8), some (.ref z9), some (.int 0), some (.int 0), some (.int (-1)), none, none, none]) rfl rfl (tz_in0 rfl)).trans ?_
      refine (tz_g_sipush (v := 9999) rfl (tz_in0 rfl)).trans ?_
      refine (tz_g_istore (L2 := [some (.ref 157), some (.int z1), none, none, none, some (.int z5), none, some (.int z7), some (.int z8), some (.ref z9), some (.int 0), some (.int 0), some (.int (-1)), some (.int 9999), none, none]) rfl rfl (tz_in0 rfl)).trans ?_
      exact tz_Gm (L2 := [some (.ref 157), some (.int z1), none, none, none, some (.int z5), none, none, some (.int z8), some (.ref z9), some (.int 0), some (.int 0), some (.int (-1)), some (.int 9999), none, none]) rfl rfl rfl rfl
    · skip
      refine (tz_g_iconst (v := 1) rfl (tz_in0 rfl)).trans ?_
      refine (tz_g_goto (t := 245) (by decide) (tz_in0 rfl)).trans ?_
      refine (tz_g_istore (L2 := [some (.ref 157), some (.int z1), none, none, none, some (.int z5), none, some (.int z7), some (.int z8), some (.ref z9), some (.int 1), none, none, none, none, none]) rfl rfl (tz_in0 rfl)).trans ?_
      refine (tz_g_aload_n rfl (tz_in0 rfl)).trans ?_
      refine (tz_g_aload_n rfl (tz_in0 rfl)).trans ?_
      refine (tz_g_getr (j := 181) rfl rfl rfl rfl rfl (tz_in0 rfl)).trans ?_
      refine (tz_g_cv1V (m2 := 211) (rc := 0) rfl rfl rfl rfl rfl rfl (by decide) (tz_in0 rfl)).trans ?_
      refine tz_jV (fun A1 => ?_)
      refine (tz_g_iconst (v := 0) rfl (tz_in0 rfl)).trans ?_
      refine (tz_g_istore (L2 := [some (.ref 157), some (.int z1), none, none, none, some (.int z5), none, some (.int z7), some (.int z8), some (.ref z9), some (.int 1), some (.int 0), none, none, none, none]) rfl rfl (tz_in0 rfl)).trans ?_
      refine (tz_g_iconst (v := (-1)) rfl (tz_in0 rfl)).trans ?_
      refine (tz_g_istore (L2 := [some (.ref 157), some (.int z1), none, none, none, some (.int z5), none, some (.int z7), some (.int z8), some (.ref z9), some (.int 1), some (.int 0), some (.int (-1)), none, none, none]) rfl rfl (tz_in0 rfl)).trans ?_
      refine (tz_g_sipush (v := 9999) rfl (tz_in0 rfl)).trans ?_
      refine (tz_g_istore (L2 := [some (.ref 157), some (.int z1), none, none, none, some (.int z5), none, some (.int z7), some (.int z8), some (.ref z9), some (.int 1), some (.int 0), some (.int (-1)), some (.int 9999), none, none]) rfl rfl (tz_in0 rfl)).trans ?_
      exact tz_Gm (L2 := [some (.ref 157), some (.int z1), none, none, none, some (.int z5), none, none, some (.int z8), some (.ref z9), some (.int 1), some (.int 0), some (.int (-1)), some (.int 9999), none, none]) rfl rfl rfl rfl
  · skip
    refine (tz_g_aload_n rfl (tz_in0 rfl)).trans ?_
    refine (tz_g_getr (j := 175) rfl rfl rfl rfl rfl (tz_in0 rfl)).trans ?_
    refine (tz_g_iload rfl (tz_in0 rfl)).trans ?_
    refine (tz_g_iald (n := 12) rfl rfl rfl (tz_in0 rfl)).trans ?_
    refine tz_cn1 ?_
    refine (tz_g_sipush (v := 200) rfl (tz_in0 rfl)).trans ?_
    refine (tz_g_ic_ge (t := 227) (by decide) (tz_in0 rfl)).trans ?_
    refine tz_cg ?_ ?_
    · skip
      refine (tz_g_aload_n rfl (tz_in0 rfl)).trans ?_
      refine (tz_g_getr (j := 175) rfl rfl rfl rfl rfl (tz_in0 rfl)).trans ?_
      refine (tz_g_iload rfl (tz_in0 rfl)).trans ?_
      refine (tz_g_iald (n := 12) rfl rfl rfl (tz_in0 rfl)).trans ?_
      refine tz_cn1 ?_
      refine (tz_g_sipush (v := 200) rfl (tz_in0 rfl)).trans ?_
      refine (tz_g_ic_ne (t := 244) (by decide) (tz_in0 rfl)).trans ?_
      refine tz_cg ?_ ?_
      · skip
        refine (tz_g_iconst (v := 0) rfl (tz_in0 rfl)).trans ?_
        refine (tz_g_istore (L2 := [some (.ref 157), some (.int z1), none, none, none, some (.int z5), none, some (.int z7), some (.int z8), some (.ref z9), some (.int 0), none, none, none, none, none]) rfl rfl (tz_in0 rfl)).trans ?_
        refine (tz_g_aload_n rfl (tz_in0 rfl)).trans ?_
        refine (tz_g_aload_n rfl (tz_in0 rfl)).trans ?_
        refine (tz_g_getr (j := 181) rfl rfl rfl rfl rfl (tz_in0 rfl)).trans ?_
        refine (tz_g_cv1V (m2 := 211) (rc := 0) rfl rfl rfl rfl rfl rfl (by decide) (tz_in0 rfl)).trans ?_
        refine tz_jV (fun A1 => ?_)
        refine (tz_g_iconst (v := 0) rfl (tz_in0 rfl)).trans ?_
        refine (tz_g_istore (L2 := [some (.ref 157), some (.int z1), none, none, none, some (.int z5), none, some (.int z7), some (.int z8), some (.ref z9), some (.int 0), some (.int 0), none, none, none, none]) rfl rfl (tz_in0 rfl)).trans ?_
        refine (tz_g_iconst (v := (-1)) rfl (tz_in0 rfl)).trans ?_
        refine (tz_g_istore (L2 := [some (.ref 157), some (.int z1), none, none, none, some (.int z5), none, some (.int z7), some (.int z8), some (.ref z9), some (.int 0), some (.int 0), some (.int (-1)), none, none, none]) rfl rfl (tz_in0 rfl)).trans ?_
        refine (tz_g_sipush (v := 9999) rfl (tz_in0 rfl)).trans ?_
        refine (tz_g_istore (L2 := [some (.ref 157), some (.int z1), none, none, none, some (.int z5), none, some (.int z7), some (.int z8), some (.ref z9), some (.int 0), some (.int 0), some (.int (-1)), some (.int 9999), none, none]) rfl rfl (tz_in0 rfl)).trans ?_
        exact tz_Gm (L2 := [some (.ref 157), some (.int z1), none, none, none, some (.int z5), none, none, some (.int z8), some (.ref z9), some (.int 0), some (.int 0), some (.int (-1)), some (.int 9999), none, none]) rfl rfl rfl rfl
      · skip
        refine (tz_g_iconst (v := 1) rfl (tz_in0 rfl)).trans ?_
        refine (tz_g_goto (t := 245) (by decide) (tz_in0 rfl)).trans ?_
        refine (tz_g_istore (L2 := [some (.ref 157), some (.int z1), none, none, none, some (.int z5), none, some (.int z7), some (.int z8), some (.ref z9), some (.int 1), none, none, none, none, none]) rfl rfl (tz_in0 rfl)).trans ?_
        refine (tz_g_aload_n rfl (tz_in0 rfl)).trans ?_
        refine (tz_g_aload_n rfl (tz_in0 rfl)).trans ?_
        refine (tz_g_getr (j := 181) rfl rfl rfl rfl rfl (tz_in0 rfl)).trans ?_
        refine (tz_g_cv1V (m2 := 211) (rc := 0) rfl rfl rfl rfl rfl rfl (by decide) (tz_in0 rfl)).trans ?_
        refine tz_jV (fun A1 => ?_)
        refine (tz_g_iconst (v := 0) rfl (tz_in0 rfl)).trans ?_
        refine (tz_g_istore (L2 := [some (.ref 157), some (.int z1), none, none, none, some (.int z5), none, some (.int z7), some (.int z8), some (.ref z9), some (.int 1), some (.int 0), none, none, none, none]) rfl rfl (tz_in0 rfl)).trans ?_
        refine (tz_g_iconst (v := (-1)) rfl (tz_in0 rfl)).trans ?_
        refine (tz_g_istore (L2 := [some (.ref 157), some (.int z1), none, none, none, some (.int z5), none, some (.int z7), some (.int z8), some (.ref z9), some (.int 1), some (.int 0), some (.int (-1)), none, none, none]) rfl rfl (tz_in0 rfl)).trans ?_
        refine (tz_g_sipush (v := 9999) rfl (tz_in0 rfl)).trans ?_
        refine (tz_g_istore (L2 := [some (.ref 157), some (.int z1), none, none, none, some (.int z5), none, some (.int z7), some (.int z8), some (.ref z9), some (.int 1), some (.int 0), some (.int (-1)), some (.int 9999), none, none]) rfl rfl (tz_in0 rfl)).trans ?_
        exact tz_Gm (L2 := [some (.ref 157), some (.int z1), none, none, none, some (.int z5), none, none, some (.int z8), some (.ref z9), some (.int 1), some (.int 0), some (.int (-1)), some (.int 9999), none, none]) rfl rfl rfl rfl
    · skip
      refine (tz_g_aload_n rfl (tz_in0 rfl)).trans ?_
      refine (tz_g_getr (j := 175) rfl rfl rfl rfl rfl (tz_in0 rfl)).trans ?_
      refine (tz_g_iload rfl (tz_in0 rfl)).trans ?_
      refine (tz_g_iald (n := 12) rfl rfl rfl (tz_in0 rfl)).trans ?_
      refine tz_cn1 ?_
      refine (tz_g_istore (L2 := [some (.ref 157), some (.int z1), none, none, none, some (.int z5), none, some (.int z7), some (.int z8), some (.ref z9), some (.int z10), some (.int (tz_g A 175 (Int32.toNatClampNeg z7))), none, none, none, none]) rfl rfl (tz_in0 rfl)).trans ?_
      refine (tz_g_iload rfl (tz_in0 rfl)).trans ?_
      refine (tz_g_bipush (v := 99) rfl (tz_in0 rfl)).trans ?_
      refine (tz_g_ic_le (t := 163) (by decide) (tz_in0 rfl)).trans ?_
      refine tz_cg ?_ ?_
      · skip
        refine (tz_g_iconst (v := (-1)) rfl (tz_in0 rfl)).trans ?_
        refine (tz_g_istore (L2 := [some (.ref 157), some (.int z1), none, none, none, some (.int z5), none, some (.int z7), some (.int z8), some (.ref z9), some (.int z10), some (.int (tz_g A 175 (Int32.toNatClampNeg z7))), some (.int (-1)), none, none, none]) rfl rfl (tz_in0 rfl)).trans ?_
        refine (tz_g_iload rfl (tz_in0 rfl)).trans ?_
        refine (tz_g_iconst (v := (-1)) rfl (tz_in0 rfl)).trans ?_
        refine (tz_g_ic_ne (t := 176) (by decide) (tz_in0 rfl)).trans ?_
        refine (if_neg (by decide)).trans ?_
        refine (tz_g_iconst (v := 0) rfl (tz_in0 rfl)).trans ?_
        refine (tz_g_goto (t := 183) (by decide) (tz_in0 rfl)).trans ?_
        refine (tz_g_istore (L2 := [some (.ref 157), some (.int z1), none, none, none, some (.int z5), none, some (.int z7), some (.int z8), some (.ref z9), some (.int z10), some (.int (tz_g A 175 (Int32.toNatClampNeg z7))), some (.int (-1)), some (.int 0), none, none]) rfl rfl (tz_in0 rfl)).trans ?_
        refine (tz_g_aload_n rfl (tz_in0 rfl)).trans ?_
        refine (tz_g_cv0V (m2 := 202) (rc := 0) rfl rfl rfl rfl rfl rfl (by decide) (tz_in0 rfl)).trans ?_
        refine tz_jV (fun A1 => ?_)
        refine (tz_g_iload rfl (tz_in0 rfl)).trans ?_
        refine (tz_g_iconst (v := (-1)) rfl (tz_in0 rfl)).trans ?_
        refine (tz_g_ic_eq (t := 221) (by decide) (tz_in0 rfl)).trans ?_
        refine (if_pos (by decide)).trans ?_
        refine (tz_g_iinc (v := 1) (L2 := [some (.ref 157), some (.int z1), none, none, none, some (.int z5), none, some (.int z7), some (.int z8), some (.ref z9), some (.int (z10 + 1)), some (.int (tz_g A 175 (Int32.toNatClampNeg z7))), some (.int (-1)), some (.int 0), none, none]) rfl rfl rfl rfl (tz_in0 rfl)).trans ?_
        refine (tz_g_goto (t := 118) (by decide) (tz_in0 rfl)).trans ?_
        exact tz_Gm (L2 := [some (.ref 157), some (.int z1), none, none, none, some (.int z5), none, some (.int z7), some (.int z8), some (.ref z9), some (.int (z10 + 1)), none, none, none, none, none]) rfl rfl rfl rfl
      · skip
        refine (tz_g_iload rfl (tz_in0 rfl)).trans ?_
        refine (tz_g_bipush (v := 100) rfl (tz_in0 rfl)).trans ?_
        refine (tz_g_isub (tz_in0 rfl)).trans ?_
        refine (tz_g_goto (t := 164) (by decide) (tz_in0 rfl)).trans ?_
        refine (tz_g_istore (L2 := [some (.ref 157), some (.int z1), none, none, none, some (.int z5), none, some (.int z7), some (.int z8), some (.ref z9), some (.int z10), some (.int (tz_g A 175 (Int32.toNatClampNeg z7))), some (.int ((tz_g A 175 (Int32.toNatClampNeg z7)) - 100)), none, none, none]) rfl rfl (tz_in0 rfl)).trans ?_
        refine (tz_g_iload rfl (tz_in0 rfl)).trans ?_
        refine (tz_g_iconst (v := (-1)) rfl (tz_in0 rfl)).trans ?_
        refine (tz_g_ic_ne (t := 176) (by decide) (tz_in0 rfl)).trans ?_
        refine tz_cg ?_ ?_
        · skip
          refine (tz_g_aload_n rfl (tz_in0 rfl)).trans ?_
          refine (tz_g_getr (j := 167) rfl rfl rfl rfl rfl (tz_in0 rfl)).trans ?_
          refine (tz_g_iload rfl (tz_in0 rfl)).trans ?_
          refine (tz_g_iald (n := 4) rfl rfl rfl (tz_in0 rfl)).trans ?_
          refine tz_cn1 ?_
          refine (tz_g_istore (L2 := [some (.ref 157), some (.int z1), none, none, none, some (.int z5), none, some (.int z7), some (.int z8), some (.ref z9), some (.int z10), some (.int (tz_g A 175 (Int32.toNatClampNeg z7))), some (.int ((tz_g A 175 (Int32.toNatClampNeg z7)) - 100)), some (.int (tz_g A 167 (Int32.toNatClampNeg ((tz_g A 175 (Int32.toNatClampNeg z7)) - 100)))), none, none]) rfl rfl (tz_in0 rfl)).trans ?_
          refine (tz_g_aload_n rfl (tz_in0 rfl)).trans ?_
          refine (tz_g_cv0V (m2 := 202) (rc := 0) rfl rfl rfl rfl rfl rfl (by decide) (tz_in0 rfl)).trans ?_
          refine tz_jV (fun A1 => ?_)
          refine (tz_g_iload rfl (tz_in0 rfl)).trans ?_
          refine (tz_g_iconst (v := (-1)) rfl (tz_in0 rfl)).trans ?_
          refine (tz_g_ic_eq (t := 221) (by decide) (tz_in0 rfl)).trans ?_
          refine tz_cg ?_ ?_
          · skip
            refine (tz_g_iinc (v := 1) (L2 := [some (.ref 157), some (.int z1), none, none, none, some (.int z5), none, some (.int z7), some (.int z8), some (.ref z9), some (.int (z10 + 1)), some (.int (tz_g A 175 (Int32.toNatClampNeg z7))), some (.int ((tz_g A 175 (Int32.toNatClampNeg z7)) - 100)), some (.int (tz_g A 167 (Int32.toNatClampNeg ((tz_g A 175 (Int32.toNatClampNeg z7)) - 100)))), none, none]) rfl rfl rfl rfl (tz_in0 rfl)).trans ?_
            refine (tz_g_goto (t := 118) (by decide) (tz_in0 rfl)).trans ?_
            exact tz_Gm (L2 := [some (.ref 157), some (.int z1), none, none, none, some (.int z5), none, some (.int z7), some (.int z8), some (.ref z9), some (.int (z10 + 1)), none, none, none, none, none]) rfl rfl rfl rfl
          · skip
            refine (tz_g_aload_n rfl (tz_in0 rfl)).trans ?_
            refine (tz_g_getr (j := 167) rfl rfl rfl rfl rfl (tz_in0 rfl)).trans ?_
            refine (tz_g_iload rfl (tz_in0 rfl)).trans ?_
            refine (tz_g_iald (n := 4) rfl rfl rfl (tz_in0 rfl)).trans ?_
            refine tz_cn1 ?_
            refine (tz_g_iload rfl (tz_in0 rfl)).trans ?_
            refine (tz_g_ic_eq (t := 221) (by decide) (tz_in0 rfl)).trans ?_
            refine tz_cg ?_ ?_
            · skip
              refine (tz_g_iinc (v := 1) (L2 := [some (.ref 157), some (.int z1), none, none, none, some (.int z5), none, some (.int z7), some (.int z8), some (.ref z9), some (.int (z10 + 1)), some (.int (tz_g A 175 (Int32.toNatClampNeg z7))), some (.int ((tz_g A 175 (Int32.toNatClampNeg z7)) - 100)), some (.int (tz_g A 167 (Int32.toNatClampNeg ((tz_g A 175 (Int32.toNatClampNeg z7)) - 100)))), none, none]) rfl rfl rfl rfl (tz_in0 rfl)).trans ?_
              refine (tz_g_goto (t := 118) (by decide) (tz_in0 rfl)).trans ?_
              exact tz_Gm (L2 := [some (.ref 157), some (.int z1), none, none, none, some (.int z5), none, some (.int z7), some (.int z8), some (.ref z9), some (.int (z10 + 1)), none, none, none, none, none]) rfl rfl rfl rfl
            · skip
              refine (tz_g_aload rfl (tz_in0 rfl)).trans ?_
              refine (tz_g_iload rfl (tz_in0 rfl)).trans ?_
              refine (tz_g_iinc (v := 1) (L2 := [some (.ref 157), some (.int z1), none, none, none, some (.int z5), none, some (.int z7), some (.int (z8 + 1)), some (.ref z9), some (.int z10), some (.int (tz_g A 175 (Int32.toNatClampNeg z7))), some (.int ((tz_g A 175 (Int32.toNatClampNeg z7)) - 100)), some (.int (tz_g A 167 (Int32.toNatClampNeg ((tz_g A 175 (Int32.toNatClampNeg z7)) - 100)))), none, none]) rfl rfl rfl rfl (tz_in0 rfl)).trans ?_
              refine (tz_g_aload_n rfl (tz_in0 rfl)).trans ?_
              refine (tz_g_iload rfl (tz_in0 rfl)).trans ?_
              refine (tz_g_cv1I (m2 := 189) (rc := 1) rfl rfl rfl rfl rfl rfl (by decide) (tz_in0 rfl)).trans ?_
              refine tz_jI (fun y2 A2 => ?_)
              refine (tz_g_iasK hz (tz_in0 rfl)).trans ?_
              refine tz_cn1 ?_
              refine tz_cn1 ?_
              refine (tz_g_iinc (v := 1) (L2 := [some (.ref 157), some (.int z1), none, none, none, some (.int z5), none, some (.int z7), some (.int (z8 + 1)), some (.ref z9), some (.int (z10 + 1)), some (.int (tz_g A 175 (Int32.toNatClampNeg z7))), some (.int ((tz_g A 175 (Int32.toNatClampNeg z7)) - 100)), some (.int (tz_g A 167 (Int32.toNatClampNeg ((tz_g A 175 (Int32.toNatClampNeg z7)) - 100)))), none, none]) rfl rfl rfl rfl (tz_in0 rfl)).trans ?_
              refine (tz_g_goto (t := 118) (by decide) (tz_in0 rfl)).trans ?_
              exact tz_Gm (L2 := [some (.ref 157), some (.int z1), none, none, none, some (.int z5), none, some (.int z7), some (.int (z8 + 1)), some (.ref z9), some (.int (z10 + 1)), none, none, none, none, none]) rfl rfl rfl rfl
        · skip
          refine (tz_g_iconst (v := 0) rfl (tz_in0 rfl)).trans ?_
          refine (tz_g_goto (t := 183) (by decide) (tz_in0 rfl)).trans ?_
          refine (tz_g_istore (L2 := [some (.ref 157), some (.int z1), none, none, none, some (.int z5), none, some (.int z7), some (.int z8), some (.ref z9), some (.int z10), some (.int (tz_g A 175 (Int32.toNatClampNeg z7))), some (.int ((tz_g A 175 (Int32.toNatClampNeg z7)) - 100)), some (.int 0), none, none]) rfl rfl (tz_in0 rfl)).trans ?_
          refine (tz_g_aload_n rfl (tz_in0 rfl)).trans ?_
          refine (tz_g_cv0V (m2 := 202) (rc := 0) rfl rfl rfl rfl rfl rfl (by decide) (tz_in0 rfl)).trans ?_
          refine tz_jV (fun A1 => ?_)
          refine (tz_g_iload rfl (tz_in0 rfl)).trans ?_
          refine (tz_g_iconst (v := (-1)) rfl (tz_in0 rfl)).trans ?_
          refine (tz_g_ic_eq (t := 221) (by decide) (tz_in0 rfl)).trans ?_
          refine tz_cg ?_ ?_
          · skip
            refine (tz_g_iinc (v := 1) (L2 := [some (.ref 157), some (.int z1), none, none, none, some (.int z5), none, some (.int z7), some (.int z8), some (.ref z9), some (.int (z10 + 1)), some (.int (tz_g A 175 (Int32.toNatClampNeg z7))), some (.int ((tz_g A 175 (Int32.toNatClampNeg z7)) - 100)), some (.int 0), none, none]) rfl rfl rfl rfl (tz_in0 rfl)).trans ?_
            refine (tz_g_goto (t := 118) (by decide) (tz_in0 rfl)).trans ?_
            exact tz_Gm (L2 := [some (.ref 157), some (.int z1), none, none, none, some (.int z5), none, some (.int z7), some (.int z8), some (.ref z9), some (.int (z10 + 1)), none, none, none, none, none]) rfl rfl rfl rfl
          · skip
            refine (tz_g_aload_n rfl (tz_in0 rfl)).trans ?_
            refine (tz_g_getr (j := 167) rfl rfl rfl rfl rfl (tz_in0 rfl)).trans ?_
            refine (tz_g_iload rfl (tz_in0 rfl)).trans ?_
            refine (tz_g_iald (n := 4) rfl rfl rfl (tz_in0 rfl)).trans ?_
            refine tz_cn1 ?_
            refine (tz_g_iload rfl (tz_in0 rfl)).trans ?_
            refine (tz_g_ic_eq (t := 221) (by decide) (tz_in0 rfl)).trans ?_
            refine tz_cg ?_ ?_
            · skip
              refine (tz_g_iinc (v := 1) (L2 := [some (.ref 157), some (.int z1), none, none, none, some (.int z5), none, some (.int z7), some (.int z8), some (.ref z9), some (.int (z10 + 1)), some (.int (tz_g A 175 (Int32.toNatClampNeg z7))), some (.int ((tz_g A 175 (Int32.toNatClampNeg z7)) - 100)), some (.int 0), none, none]) rfl rfl rfl rfl (tz_in0 rfl)).trans ?_
              refine (tz_g_goto (t := 118) (by decide) (tz_in0 rfl)).trans ?_
              exact tz_Gm (L2 := [some (.ref 157), some (.int z1), none, none, none, some (.int z5), none, some (.int z7), some (.int z8), some (.ref z9), some (.int (z10 + 1)), none, none, none, none, none]) rfl rfl rfl rfl
            · skip
              refine (tz_g_aload rfl (tz_in0 rfl)).trans ?_
              refine (tz_g_iload rfl (tz_in0 rfl)).trans ?_
              refine (tz_g_iinc (v := 1) (L2 := [some (.ref 157), some (.int z1), none, none, none, some (.int z5), none, some (.int z7), some (.int (z8 + 1)), some (.ref z9), some (.int z10), some (.int (tz_g A 175 (Int32.toNatClampNeg z7))), some (.int ((tz_g A 175 (Int32.toNatClampNeg z7)) - 100)), some (.int 0), none, none]) rfl rfl rfl rfl (tz_in0 rfl)).trans ?_
              refine (tz_g_aload_n rfl (tz_in0 rfl)).trans ?_
              refine (tz_g_iload rfl (tz_in0 rfl)).trans ?_
              refine (tz_g_cv1I (m2 := 189) (rc := 1) rfl rfl rfl rfl rfl rfl (by decide) (tz_in0 rfl)).trans ?_
              refine tz_jI (fun y2 A2 => ?_)
              refine (tz_g_iasK hz (tz_in0 rfl)).trans ?_
              refine tz_cn1 ?_
              refine tz_cn1 ?_
              refine (tz_g_iinc (v := 1) (L2 := [some (.ref 157), some (.int z1), none, none, none, some (.int z5), none, some (.int z7), some (.int (z8 + 1)), some (.ref z9), some (.int (z10 + 1)), some (.int (tz_g A 175 (Int32.toNatClampNeg z7))), some (.int ((tz_g A 175 (Int32.toNatClampNeg z7)) - 100)), some (.int 0), none, none]) rfl rfl rfl rfl (tz_in0 rfl)).trans ?_
              refine (tz_g_goto (t := 118) (by decide) (tz_in0 rfl)).trans ?_
              exact tz_Gm (L2 := [some (.ref 157), some (.int z1), none, none, none, some (.int z5), none, some (.int z7), some (.int (z8 + 1)), some (.ref z9), some (.int (z10 + 1)), none, none, none, none, none]) rfl rfl rfl rfl
theorem e_X12_was_266 (z1 : Int32) (z5 : Int32) (z8 : Int32) (z9 : Nat) (z10 : Int32) (z11 : Int32) (z12 : Int32) (z13 : Int32) (A : tz_Mem) (hz : tz_N0 ≤ z9) : q_X12_was_266 z1 z5 z8 z9 z10 z11 z12 z13 A =
  if z13 < 0 then
  if ¬ z5 = 0 then
    some (some (.int z12), A)
  else
    some (some (.int z11), A)
else
  if z10 = 0 then
    if ¬ z5 = 0 then
      some (some (.int z12), A)
    else
      some (some (.int z11), A)
  else
    q_X12_was_283 z1 z5 z8 z9 z10 z11 z12 z13 z13 0 A := by
  show tz_Go 224 266 [some (.ref 157), some (.int z1), none, none, none, some (.int z5), none, none, some (.int z8), some (.ref z9), some (.int z10), some (.int z11), some (.int z12), some (.int z13), none, none] [] A = _
  refine (tz_g_iload rfl (tz_inM rfl rfl rfl)).trans ?_
  refine (tz_g_if_lt (t := 331) (by decide) (tz_in0 rfl)).trans ?_
  refine tz_cg ?_ ?_
  · skip
    refine (tz_g_iload rfl (tz_in0 rfl)).trans ?_
    refine (tz_g_if_ne (t := 341) (by decide) (tz_in0 rfl)).trans ?_
    refine tz_cg ?_ ?_
    · skip
      refine (tz_g_iload rfl (tz_in0 rfl)).trans ?_
      exact tz_g_ret1 (tz_in0 rfl) rfl
    · skip
      refine (tz_g_iload rfl (tz_in0 rfl)).trans ?_
      refine (tz_g_goto (t := 343) (by decide) (tz_in0 rfl)).trans ?_
      exact tz_g_ret1 (tz_in0 rfl) rfl
  · skip
    refine (tz_g_iload rfl (tz_in0 rfl)).trans ?_
    refine (tz_g_if_eq (t := 331) (by decide) (tz_in0 rfl)).trans ?_
    refine tz_cg ?_ ?_
    · skip
      refine (tz_g_iload rfl (tz_in0 rfl)).trans ?_
      refine (tz_g_if_ne (t := 341) (by decide) (tz_in0 rfl)).trans ?_
      refine tz_cg ?_ ?_
      · skip
        refine (tz_g_iload rfl (tz_in0 rfl)).trans ?_
        exact tz_g_ret1 (tz_in0 rfl) rfl
      · skip
        refine (tz_g_iload rfl (tz_in0 rfl)).trans ?_
        refine (tz_g_goto (t := 343) (by decide) (tz_in0 rfl)).trans ?_
        exact tz_g_ret1 (tz_in0 rfl) rfl
    · skip
      refine (tz_g_iload rfl (tz_in0 rfl)).trans ?_
      refine (tz_g_istore (L2 := [some (.ref 157), some (.int z1), none, none, none, some (.int z5), none, none, some (.int z8), some (.ref z9), some (.int z10), some (.int z11), some (.int z12), some (.int z13), some (.int z13), none]) rfl rfl (tz_in0 rfl)).trans ?_
      refine (tz_g_iconst (v := 0) rfl (tz_in0 rfl)).trans ?_
      refine (tz_g_istore (L2 := [some (.ref 157), some (.int z1), none, none, none, some (.int z5), none, none, some (.int z8), some (.ref z9), some (.int z10), some (.int z11), some (.int z12), some (.int z13), some (.int z13), some (.int 0)]) rfl rfl (tz_in0 rfl)).trans ?_
      exact tz_Gm (L2 := [some (.ref 157), some (.int z1), none, none, none, some (.int z5), none, none, some (.int z8), some (.ref z9), some (.int z10), some (.int z11), some (.int z12), some (.int z13), some (.int z13), some (.int 0)]) rfl rfl rfl rfl
theorem e_X12_was_283 (z1 : Int32) (z5 : Int32) (z8 : Int32) (z9 : Nat) (z10 : Int32) (z11 : Int32) (z12 : Int32) (z13 : Int32) (z14 : Int32) (z15 : Int32) (A : tz_Mem) (hz : tz_N0 ≤ z9) : q_X12_was_283 z1 z5 z8 z9 z10 z11 z12 z13 z14 z15 A =
  if z8 ≤ z15 then
  if z14 = z1 then
    q_X12_was_266 z1 z5 z8 z9 z10 (z11 + 1) z13 (z13 + (-1)) A
  else
    q_X12_was_266 z1 z5 z8 z9 z10 z11 z12 (z13 + (-1)) A
else
  if (A).1 ≤ z9 then none else
  if z15 < 0 ∨ 501 ≤ (Int32.toNatClampNeg z15) then none else
  tz_bI (f_X12_becomes (tz_g A z9 (Int32.toNatClampNeg z15)) z14 A) (fun y1 A1 =>
  q_X12_was_283 z1 z5 z8 z9 z10 z11 z12 z13 y1 (z15 + 1) A1) := by
  show tz_Go 224 283 [some (.ref 157), some (.int z1), none, none, none, some (.int z5), none, none, some (.int z8), some (.ref z9), some (.int z10), some (.int z11), some (.int z12), some (.int z13), some (.int z14), some (.int z15)] [] A = _
  refine (tz_g_iload rfl (tz_inM rfl rfl rfl)).trans ?_
  refine (tz_g_iload rfl (tz_in0 rfl)).trans ?_
  refine (tz_g_ic_ge (t := 309) (by decide) (tz_in0 rfl)).trans ?_
  refine tz_cg ?_ ?_
  · skip
    refine (tz_g_iload rfl (tz_in0 rfl)).trans ?_
    refine (tz_g_iload_n rfl (tz_in0 rfl)).trans ?_
    refine (tz_g_ic_eq (t := 318) (by decide) (tz_in0 rfl)).trans ?_
    refine tz_cg ?_ ?_
    · skip
      refine (tz_g_iinc (v := 1) (L2 := [some (.ref 157), some (.int z1), none, none, none, some (.int z5), none, none, some (.int z8), some (.ref z9), some (.int z10), some (.int (z11 + 1)), some (.int z12), some (.int z13), some (.int z14), some (.int z15)]) rfl rfl rfl rfl (tz_in0 rfl)).trans ?_
      refine (tz_g_iload rfl (tz_in0 rfl)).trans ?_
      refine (tz_g_istore (L2 := [some (.ref 157), some (.int z1), none, none, none, some (.int z5), none, none, some (.int z8), some (.ref z9), some (.int z10), some (.int (z11 + 1)), some (.int z13), some (.int z13), some (.int z14), some (.int z15)]) rfl rfl (tz_in0 rfl)).trans ?_
      refine (tz_g_iinc (v := (-1)) (L2 := [some (.ref 157), some (.int z1), none, none, none, some (.int z5), none, none, some (.int z8), some (.ref z9), some (.int z10), some (.int (z11 + 1)), some (.int z13), some (.int (z13 + (-1))), some (.int z14), some (.int z15)]) rfl rfl rfl rfl (tz_in0 rfl)).trans ?_
      refine (tz_g_goto (t := 266) (by decide) (tz_in0 rfl)).trans ?_
      exact tz_Gm (L2 := [some (.ref 157), some (.int z1), none, none, none, some (.int z5), none, none, some (.int z8), some (.ref z9), some (.int z10), some (.int (z11 + 1)), some (.int z13), some (.int (z13 + (-1))), none, none]) rfl rfl rfl rfl
    · skip
      refine (tz_g_goto (t := 325) (by decide) (tz_in0 rfl)).trans ?_
      refine (tz_g_iinc (v := (-1)) (L2 := [some (.ref 157), some (.int z1), none, none, none, some (.int z5), none, none, some (.int z8), some (.ref z9), some (.int z10), some (.int z11), some (.int z12), some (.int (z13 + (-1))), some (.int z14), some (.int z15)]) rfl rfl rfl rfl (tz_in0 rfl)).trans ?_
      refine (tz_g_goto (t := 266) (by decide) (tz_in0 rfl)).trans ?_
      exact tz_Gm (L2 := [some (.ref 157), some (.int z1), none, none, none, some (.int z5), none, none, some (.int z8), some (.ref z9), some (.int z10), some (.int z11), some (.int z12), some (.int (z13 + (-1))), none, none]) rfl rfl rfl rfl
  · skip
    refine (tz_g_aload_n rfl (tz_in0 rfl)).trans ?_
    refine (tz_g_aload rfl (tz_in0 rfl)).trans ?_
    refine (tz_g_iload rfl (tz_in0 rfl)).trans ?_
    refine (tz_g_ialK hz (tz_in0 rfl)).trans ?_
    refine tz_cn1 ?_
    refine tz_cn1 ?_
    refine (tz_g_iload rfl (tz_in0 rfl)).trans ?_
    refine (tz_g_cv2I (m2 := 180) (rc := 1) rfl rfl rfl rfl rfl rfl (by decide) (tz_in0 rfl)).trans ?_
    refine tz_jI (fun y1 A1 => ?_)
    refine (tz_g_istore (L2 := [some (.ref 157), some (.int z1), none, none, none, some (.int z5), none, none, some (.int z8), some (.ref z9), some (.int z10), some (.int z11), some (.int z12), some (.int z13), some (.int y1), some (.int z15)]) rfl rfl (tz_in0 rfl)).trans ?_
    refine (tz_g_iinc (v := 1) (L2 := [some (.ref 157), some (.int z1), none, none, none, some (.int z5), none, none, some (.int z8), some (.ref z9), some (.int z10), some (.int z11), some (.int z12), some (.int z13), some (.int y1), some (.int (z15 + 1))]) rfl rfl rfl rfl (tz_in0 rfl)).trans ?_
    refine (tz_g_goto (t := 283) (by decide) (tz_in0 rfl)).trans ?_
    exact tz_Gm (L2 := [some (.ref 157), some (.int z1), none, none, none, some (.int z5), none, none, some (.int z8), some (.ref z9), some (.int z10), some (.int z11), some (.int z12), some (.int z13), some (.int y1), some (.int (z15 + 1))]) rfl rfl rfl rfl
