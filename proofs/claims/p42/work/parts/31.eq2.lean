theorem e_X7_countSame_s5 (A : tz_Mem) : f_X7_countSame_s5 A =
  q_X7_countSame_s5_2 0 A := by
  refine (tz_Fe (L := [some (.ref 122), some (.ref 5), none]) rfl).trans ?_
  refine (tz_g_iconst (v := 0) rfl (tz_in0 rfl)).trans ?_
  refine (tz_g_istore_n (L2 := [some (.ref 122), some (.ref 5), some (.int 0)]) rfl rfl (tz_in0 rfl)).trans ?_
  exact tz_Gm (L2 := [some (.ref 122), some (.ref 5), some (.int 0)]) rfl rfl rfl rfl

theorem e_X7_countSame_s5_2 (z2 : Int32) (A : tz_Mem) : q_X7_countSame_s5_2 z2 A =
  tz_bI (f_J0_length_s5 A) (fun y1 A1 =>
if y1 ≤ z2 then
  some (some (.int z2), A1)
else
  if (tz_g A1 122 4) ≤ ((tz_g A1 122 5) + z2) then
    some (some (.int z2), A1)
  else
    if ((tz_g A1 122 5) + z2) < 0 ∨ 160 ≤ (Int32.toNatClampNeg ((tz_g A1 122 5) + z2)) then none else
    tz_bI (f_J0_charAt_s5 z2 A1) (fun y2 A2 =>
    if ¬ (tz_g A1 123 (Int32.toNatClampNeg ((tz_g A1 122 5) + z2))) = y2 then
      some (some (.int z2), A2)
    else
      q_X7_countSame_s5_2 (z2 + 1) A2)) := by
  show tz_Go 62 2 [some (.ref 122), some (.ref 5), some (.int z2)] [] A = _
  refine (tz_g_iload_n rfl (tz_inM rfl rfl rfl)).trans ?_
  refine (tz_g_aload_n rfl (tz_in0 rfl)).trans ?_
  refine (tz_g_cv0I (m2 := 63) (rc := 1) rfl rfl rfl rfl rfl rfl (by decide) (tz_in0 rfl)).trans ?_
  refine tz_jI (fun y1 A1 => ?_)
  refine (tz_g_ic_ge (t := 48) (by decide) (tz_in0 rfl)).trans ?_
  refine tz_cg ?_ ?_
  · skip
    refine (tz_g_iload_n rfl (tz_in0 rfl)).trans ?_
    exact tz_g_ret1 (tz_in0 rfl) rfl
  · skip
    refine (tz_g_aload_n rfl (tz_in0 rfl)).trans ?_
    refine (tz_g_geti rfl rfl rfl (tz_in0 rfl)).trans ?_
    refine (tz_g_iload_n rfl (tz_in0 rfl)).trans ?_
    refine (tz_g_iadd (tz_in0 rfl)).trans ?_
    refine (tz_g_aload_n rfl (tz_in0 rfl)).trans ?_
    refine (tz_g_geti rfl rfl rfl (tz_in0 rfl)).trans ?_
    refine (tz_g_ic_ge (t := 48) (by decide) (tz_in0 rfl)).trans ?_
    refine tz_cg ?_ ?_
    · skip
      refine (tz_g_iload_n rfl (tz_in0 rfl)).trans ?_
      exact tz_g_ret1 (tz_in0 rfl) rfl
    · skip
      refine (tz_g_aload_n rfl (tz_in0 rfl)).trans ?_
      refine (tz_g_getr (j := 123) rfl rfl rfl rfl rfl (tz_in0 rfl)).trans ?_
      refine (tz_g_aload_n rfl (tz_in0 rfl)).trans ?_
      refine (tz_g_geti rfl rfl rfl (tz_in0 rfl)).trans ?_
      refine (tz_g_iload_n rfl (tz_in0 rfl)).trans ?_
      refine (tz_g_iadd (tz_in0 rfl)).trans ?_
      refine (tz_g_iald (n := 160) rfl rfl rfl (tz_in0 rfl)).trans ?_
      refine tz_cn1 ?_
      refine (tz_g_aload_n rfl (tz_in0 rfl)).trans ?_
      refine (tz_g_iload_n rfl (tz_in0 rfl)).trans ?_
      refine (tz_g_cv1I (m2 := 65) (rc := 5) rfl rfl rfl rfl rfl rfl (by decide) (tz_in0 rfl)).trans ?_
      refine tz_jI (fun y2 A2 => ?_)
      refine (tz_g_ic_ne (t := 48) (by decide) (tz_in0 rfl)).trans ?_
      refine tz_cg ?_ ?_
      · skip
        refine (tz_g_iload_n rfl (tz_in0 rfl)).trans ?_
        exact tz_g_ret1 (tz_in0 rfl) rfl
      · skip
        refine (tz_g_iinc (v := 1) (L2 := [some (.ref 122), some (.ref 5), some (.int (z2 + 1))]) rfl rfl rfl rfl (tz_in0 rfl)).trans ?_
        refine (tz_g_goto (t := 2) (by decide) (tz_in0 rfl)).trans ?_
        exact tz_Gm (L2 := [some (.ref 122), some (.ref 5), some (.int (z2 + 1))]) rfl rfl rfl rfl

theorem e_X7_countSame_s6 (A : tz_Mem) : f_X7_countSame_s6 A =
  q_X7_countSame_s6_2 0 A := by
  refine (tz_Fe (L := [some (.ref 122), some (.ref 6), none]) rfl).trans ?_
  refine (tz_g_iconst (v := 0) rfl (tz_in0 rfl)).trans ?_
  refine (tz_g_istore_n (L2 := [some (.ref 122), some (.ref 6), some (.int 0)]) rfl rfl (tz_in0 rfl)).trans ?_
  exact tz_Gm (L2 := [some (.ref 122), some (.ref 6), some (.int 0)]) rfl rfl rfl rfl

theorem e_X7_countSame_s6_2 (z2 : Int32) (A : tz_Mem) : q_X7_countSame_s6_2 z2 A =
  tz_bI (f_J0_length_s6 A) (fun y1 A1 =>
if y1 ≤ z2 then
  some (some (.int z2), A1)
else
  if (tz_g A1 122 4) ≤ ((tz_g A1 122 5) + z2) then
    some (some (.int z2), A1)
  else
    if ((tz_g A1 122 5) + z2) < 0 ∨ 160 ≤ (Int32.toNatClampNeg ((tz_g A1 122 5) + z2)) then none else
    tz_bI (f_J0_charAt_s6 z2 A1) (fun y2 A2 =>
    if ¬ (tz_g A1 123 (Int32.toNatClampNeg ((tz_g A1 122 5) + z2))) = y2 then
      some (some (.int z2), A2)
    else
      q_X7_countSame_s6_2 (z2 + 1) A2)) := by
  show tz_Go 62 2 [some (.ref 122), some (.ref 6), some (.int z2)] [] A = _
  refine (tz_g_iload_n rfl (tz_inM rfl rfl rfl)).trans ?_
  refine (tz_g_aload_n rfl (tz_in0 rfl)).trans ?_
  refine (tz_g_cv0I (m2 := 63) (rc := 1) rfl rfl rfl rfl rfl rfl (by decide) (tz_in0 rfl)).trans ?_
  refine tz_jI (fun y1 A1 => ?_)
  refine (tz_g_ic_ge (t := 48) (by decide) (tz_in0 rfl)).trans ?_
  refine tz_cg ?_ ?_
  · skip
    refine (tz_g_iload_n rfl (tz_in0 rfl)).trans ?_
    exact tz_g_ret1 (tz_in0 rfl) rfl
  · skip
    refine (tz_g_aload_n rfl (tz_in0 rfl)).trans ?_
    refine (tz_g_geti rfl rfl rfl (tz_in0 rfl)).trans ?_
    refine (tz_g_iload_n rfl (tz_in0 rfl)).trans ?_
    refine (tz_g_iadd (tz_in0 rfl)).trans ?_
    refine (tz_g_aload_n rfl (tz_in0 rfl)).trans ?_
    refine (tz_g_geti rfl rfl rfl (tz_in0 rfl)).trans ?_
    refine (tz_g_ic_ge (t := 48) (by decide) (tz_in0 rfl)).trans ?_
    refine tz_cg ?_ ?_
    · skip
      refine (tz_g_iload_n rfl (tz_in0 rfl)).trans ?_
      exact tz_g_ret1 (tz_in0 rfl) rfl
    · skip
      refine (tz_g_aload_n rfl (tz_in0 rfl)).trans ?_
      refine (tz_g_getr (j := 123) rfl rfl rfl rfl rfl (tz_in0 rfl)).trans ?_
      refine (tz_g_aload_n rfl (tz_in0 rfl)).trans ?_
      refine (tz_g_geti rfl rfl rfl (tz_in0 rfl)).trans ?_
      refine (tz_g_iload_n rfl (tz_in0 rfl)).trans ?_
      refine (tz_g_iadd (tz_in0 rfl)).trans ?_
      refine (tz_g_iald (n := 160) rfl rfl rfl (tz_in0 rfl)).trans ?_
      refine tz_cn1 ?_
      refine (tz_g_aload_n rfl (tz_in0 rfl)).trans ?_
      refine (tz_g_iload_n rfl (tz_in0 rfl)).trans ?_
      refine (tz_g_cv1I (m2 := 65) (rc := 5) rfl rfl rfl rfl rfl rfl (by decide) (tz_in0 rfl)).trans ?_
      refine tz_jI (fun y2 A2 => ?_)
      refine (tz_g_ic_ne (t := 48) (by decide) (tz_in0 rfl)).trans ?_
      refine tz_cg ?_ ?_
      · skip
        refine (tz_g_iload_n rfl (tz_in0 rfl)).trans ?_
        exact tz_g_ret1 (tz_in0 rfl) rfl
      · skip
        refine (tz_g_iinc (v := 1) (L2 := [some (.ref 122), some (.ref 6), some (.int (z2 + 1))]) rfl rfl rfl rfl (tz_in0 rfl)).trans ?_
        refine (tz_g_goto (t := 2) (by decide) (tz_in0 rfl)).trans ?_
        exact tz_Gm (L2 := [some (.ref 122), some (.ref 6), some (.int (z2 + 1))]) rfl rfl rfl rfl

theorem e_X7_countSame_s7 (A : tz_Mem) : f_X7_countSame_s7 A =
  q_X7_countSame_s7_2 0 A := by
  refine (tz_Fe (L := [some (.ref 122), some (.ref 7), none]) rfl).trans ?_
  refine (tz_g_iconst (v := 0) rfl (tz_in0 rfl)).trans ?_
  refine (tz_g_istore_n (L2 := [some (.ref 122), some (.ref 7), some (.int 0)]) rfl rfl (tz_in0 rfl)).trans ?_
  exact tz_Gm (L2 := [some (.ref 122), some (.ref 7), some (.int 0)]) rfl rfl rfl rfl

theorem e_X7_countSame_s7_2 (z2 : Int32) (A : tz_Mem) : q_X7_countSame_s7_2 z2 A =
  tz_bI (f_J0_length_s7 A) (fun y1 A1 =>
if y1 ≤ z2 then
  some (some (.int z2), A1)
else
  if (tz_g A1 122 4) ≤ ((tz_g A1 122 5) + z2) then
    some (some (.int z2), A1)
  else
    if ((tz_g A1 122 5) + z2) < 0 ∨ 160 ≤ (Int32.toNatClampNeg ((tz_g A1 122 5) + z2)) then none else
    tz_bI (f_J0_charAt_s7 z2 A1) (fun y2 A2 =>
    if ¬ (tz_g A1 123 (Int32.toNatClampNeg ((tz_g A1 122 5) + z2))) = y2 then
      some (some (.int z2), A2)
    else
      q_X7_countSame_s7_2 (z2 + 1) A2)) := by
  show tz_Go 62 2 [some (.ref 122), some (.ref 7), some (.int z2)] [] A = _
  refine (tz_g_iload_n rfl (tz_inM rfl rfl rfl)).trans ?_
  refine (tz_g_aload_n rfl (tz_in0 rfl)).trans ?_
  refine (tz_g_cv0I (m2 := 63) (rc := 1) rfl rfl rfl rfl rfl rfl (by decide) (tz_in0 rfl)).trans ?_
  refine tz_jI (fun y1 A1 => ?_)
  refine (tz_g_ic_ge (t := 48) (by decide) (tz_in0 rfl)).trans ?_
  refine tz_cg ?_ ?_
  · skip
    refine (tz_g_iload_n rfl (tz_in0 rfl)).trans ?_
    exact tz_g_ret1 (tz_in0 rfl) rfl
  · skip
    refine (tz_g_aload_n rfl (tz_in0 rfl)).trans ?_
    refine (tz_g_geti rfl rfl rfl (tz_in0 rfl)).trans ?_
    refine (tz_g_iload_n rfl (tz_in0 rfl)).trans ?_
    refine (tz_g_iadd (tz_in0 rfl)).trans ?_
    refine (tz_g_aload_n rfl (tz_in0 rfl)).trans ?_
    refine (tz_g_geti rfl rfl rfl (tz_in0 rfl)).trans ?_
    refine (tz_g_ic_ge (t := 48) (by decide) (tz_in0 rfl)).trans ?_
    refine tz_cg ?_ ?_
    · skip
      refine (tz_g_iload_n rfl (tz_in0 rfl)).trans ?_
      exact tz_g_ret1 (tz_in0 rfl) rfl
    · skip
      refine (tz_g_aload_n rfl (tz_in0 rfl)).trans ?_
      refine (tz_g_getr (j := 123) rfl rfl rfl rfl rfl (tz_in0 rfl)).trans ?_
      refine (tz_g_aload_n rfl (tz_in0 rfl)).trans ?_
      refine (tz_g_geti rfl rfl rfl (tz_in0 rfl)).trans ?_
      refine (tz_g_iload_n rfl (tz_in0 rfl)).trans ?_
      refine (tz_g_iadd (tz_in0 rfl)).trans ?_
      refine (tz_g_iald (n := 160) rfl rfl rfl (tz_in0 rfl)).trans ?_
      refine tz_cn1 ?_
      refine (tz_g_aload_n rfl (tz_in0 rfl)).trans ?_
      refine (tz_g_iload_n rfl (tz_in0 rfl)).trans ?_
      refine (tz_g_cv1I (m2 := 65) (rc := 5) rfl rfl rfl rfl rfl rfl (by decide) (tz_in0 rfl)).trans ?_
      refine tz_jI (fun y2 A2 => ?_)
      refine (tz_g_ic_ne (t := 48) (by decide) (tz_in0 rfl)).trans ?_
      refine tz_cg ?_ ?_
      · skip
        refine (tz_g_iload_n rfl (tz_in0 rfl)).trans ?_
        exact tz_g_ret1 (tz_in0 rfl) rfl
      · skip
        refine (tz_g_iinc (v := 1) (L2 := [some (.ref 122), some (.ref 7), some (.int (z2 + 1))]) rfl rfl rfl rfl (tz_in0 rfl)).trans ?_
        refine (tz_g_goto (t := 2) (by decide) (tz_in0 rfl)).trans ?_
        exact tz_Gm (L2 := [some (.ref 122), some (.ref 7), some (.int (z2 + 1))]) rfl rfl rfl rfl

theorem e_X7_countSame_s8 (A : tz_Mem) : f_X7_countSame_s8 A =
  q_X7_countSame_s8_2 0 A := by
  refine (tz_Fe (L := [some (.ref 122), some (.ref 8), none]) rfl).trans ?_
  refine (tz_g_iconst (v := 0) rfl (tz_in0 rfl)).trans ?_
  refine (tz_g_istore_n (L2 := [some (.ref 122), some (.ref 8), some (.int 0)]) rfl rfl (tz_in0 rfl)).trans ?_
  exact tz_Gm (L2 := [some (.ref 122), some (.ref 8), some (.int 0)]) rfl rfl rfl rfl

theorem e_X7_countSame_s8_2 (z2 : Int32) (A : tz_Mem) : q_X7_countSame_s8_2 z2 A =
  tz_bI (f_J0_length_s8 A) (fun y1 A1 =>
if y1 ≤ z2 then
  some (some (.int z2), A1)
else
  if (tz_g A1 122 4) ≤ ((tz_g A1 122 5) + z2) then
    some (some (.int z2), A1)
  else
    if ((tz_g A1 122 5) + z2) < 0 ∨ 160 ≤ (Int32.toNatClampNeg ((tz_g A1 122 5) + z2)) then none else
    tz_bI (f_J0_charAt_s8 z2 A1) (fun y2 A2 =>
    if ¬ (tz_g A1 123 (Int32.toNatClampNeg ((tz_g A1 122 5) + z2))) = y2 then
      some (some (.int z2), A2)
    else
      q_X7_countSame_s8_2 (z2 + 1) A2)) := by
  show tz_Go 62 2 [some (.ref 122), some (.ref 8), some (.int z2)] [] A = _
  refine (tz_g_iload_n rfl (tz_inM rfl rfl rfl)).trans ?_
  refine (tz_g_aload_n rfl (tz_in0 rfl)).trans ?_
  refine (tz_g_cv0I (m2 := 63) (rc := 1) rfl rfl rfl rfl rfl rfl (by decide) (tz_in0 rfl)).trans ?_
  refine tz_jI (fun y1 A1 => ?_)
  refine (tz_g_ic_ge (t := 48) (by decide) (tz_in0 rfl)).trans ?_
  refine tz_cg ?_ ?_
  · skip
    refine (tz_g_iload_n rfl (tz_in0 rfl)).trans ?_
    exact tz_g_ret1 (tz_in0 rfl) rfl
  · skip
    refine (tz_g_aload_n rfl (tz_in0 rfl)).trans ?_
    refine (tz_g_geti rfl rfl rfl (tz_in0 rfl)).trans ?_
    refine (tz_g_iload_n rfl (tz_in0 rfl)).trans ?_
    refine (tz_g_iadd (tz_in0 rfl)).trans ?_
    refine (tz_g_aload_n rfl (tz_in0 rfl)).trans ?_
    refine (tz_g_geti rfl rfl rfl (tz_in0 rfl)).trans ?_
    refine (tz_g_ic_ge (t := 48) (by decide) (tz_in0 rfl)).trans ?_
    refine tz_cg ?_ ?_
    · skip
      refine (tz_g_iload_n rfl (tz_in0 rfl)).trans ?_
      exact tz_g_ret1 (tz_in0 rfl) rfl
    · skip
      refine (tz_g_aload_n rfl (tz_in0 rfl)).trans ?_
      refine (tz_g_getr (j := 123) rfl rfl rfl rfl rfl (tz_in0 rfl)).trans ?_
      refine (tz_g_aload_n rfl (tz_in0 rfl)).trans ?_
      refine (tz_g_geti rfl rfl rfl (tz_in0 rfl)).trans ?_
      refine (tz_g_iload_n rfl (tz_in0 rfl)).trans ?_
      refine (tz_g_iadd (tz_in0 rfl)).trans ?_
      refine (tz_g_iald (n := 160) rfl rfl rfl (tz_in0 rfl)).trans ?_
      refine tz_cn1 ?_
      refine (tz_g_aload_n rfl (tz_in0 rfl)).trans ?_
      refine (tz_g_iload_n rfl (tz_in0 rfl)).trans ?_
      refine (tz_g_cv1I (m2 := 65) (rc := 5) rfl rfl rfl rfl rfl rfl (by decide) (tz_in0 rfl)).trans ?_
      refine tz_jI (fun y2 A2 => ?_)
      refine (tz_g_ic_ne (t := 48) (by decide) (tz_in0 rfl)).trans ?_
      refine tz_cg ?_ ?_
      · skip
        refine (tz_g_iload_n rfl (tz_in0 rfl)).trans ?_
        exact tz_g_ret1 (tz_in0 rfl) rfl
      · skip
        refine (tz_g_iinc (v := 1) (L2 := [some (.ref 122), some (.ref 8), some (.int (z2 + 1))]) rfl rfl rfl rfl (tz_in0 rfl)).trans ?_
        refine (tz_g_goto (t := 2) (by decide) (tz_in0 rfl)).trans ?_
        exact tz_Gm (L2 := [some (.ref 122), some (.ref 8), some (.int (z2 + 1))]) rfl rfl rfl rfl

theorem e_X7_countSame_s9 (A : tz_Mem) : f_X7_countSame_s9 A =
  q_X7_countSame_s9_2 0 A := by
  refine (tz_Fe (L := [some (.ref 122), some (.ref 9), none]) rfl).trans ?_
  refine (tz_g_iconst (v := 0) rfl (tz_in0 rfl)).trans ?_
  refine (tz_g_istore_n (L2 := [some (.ref 122), some (.ref 9), some (.int 0)]) rfl rfl (tz_in0 rfl)).trans ?_
  exact tz_Gm (L2 := [some (.ref 122), some (.ref 9), some (.int 0)]) rfl rfl rfl rfl

theorem e_X7_countSame_s9_2 (z2 : Int32) (A : tz_Mem) : q_X7_countSame_s9_2 z2 A =
  tz_bI (f_J0_length_s9 A) (fun y1 A1 =>
if y1 ≤ z2 then
  some (some (.int z2), A1)
else
  if (tz_g A1 122 4) ≤ ((tz_g A1 122 5) + z2) then
    some (some (.int z2), A1)
  else
    if ((tz_g A1 122 5) + z2) < 0 ∨ 160 ≤ (Int32.toNatClampNeg ((tz_g A1 122 5) + z2)) then none else
    tz_bI (f_J0_charAt_s9 z2 A1) (fun y2 A2 =>
    if ¬ (tz_g A1 123 (Int32.toNatClampNeg ((tz_g A1 122 5) + z2))) = y2 then
      some (some (.int z2), A2)
    else
      q_X7_countSame_s9_2 (z2 + 1) A2)) := by
  show tz_Go 62 2 [some (.ref 122), some (.ref 9), some (.int z2)] [] A = _
  refine (tz_g_iload_n rfl (tz_inM rfl rfl rfl)).trans ?_
  refine (tz_g_aload_n rfl (tz_in0 rfl)).trans ?_
  refine (tz_g_cv0I (m2 := 63) (rc := 1) rfl rfl rfl rfl rfl rfl (by decide) (tz_in0 rfl)).trans ?_
  refine tz_jI (fun y1 A1 => ?_)
  refine (tz_g_ic_ge (t := 48) (by decide) (tz_in0 rfl)).trans ?_
  refine tz_cg ?_ ?_
  · skip
    refine (tz_g_iload_n rfl (tz_in0 rfl)).trans ?_
    exact tz_g_ret1 (tz_in0 rfl) rfl
  · skip
    refine (tz_g_aload_n rfl (tz_in0 rfl)).trans ?_
    refine (tz_g_geti rfl rfl rfl (tz_in0 rfl)).trans ?_
    refine (tz_g_iload_n rfl (tz_in0 rfl)).trans ?_
    refine (tz_g_iadd (tz_in0 rfl)).trans ?_
    refine (tz_g_aload_n rfl (tz_in0 rfl)).trans ?_
    refine (tz_g_geti rfl rfl rfl (tz_in0 rfl)).trans ?_
    refine (tz_g_ic_ge (t := 48) (by decide) (tz_in0 rfl)).trans ?_
    refine tz_cg ?_ ?_
    · skip
      refine (tz_g_iload_n rfl (tz_in0 rfl)).trans ?_
      exact tz_g_ret1 (tz_in0 rfl) rfl
    · skip
      refine (tz_g_aload_n rfl (tz_in0 rfl)).trans ?_
      refine (tz_g_getr (j := 123) rfl rfl rfl rfl rfl (tz_in0 rfl)).trans ?_
      refine (tz_g_aload_n rfl (tz_in0 rfl)).trans ?_
      refine (tz_g_geti rfl rfl rfl (tz_in0 rfl)).trans ?_
      refine (tz_g_iload_n rfl (tz_in0 rfl)).trans ?_
      refine (tz_g_iadd (tz_in0 rfl)).trans ?_
      refine (tz_g_iald (n := 160) rfl rfl rfl (tz_in0 rfl)).trans ?_
      refine tz_cn1 ?_
      refine (tz_g_aload_n rfl (tz_in0 rfl)).trans ?_
      refine (tz_g_iload_n rfl (tz_in0 rfl)).trans ?_
      refine (tz_g_cv1I (m2 := 65) (rc := 5) rfl rfl rfl rfl rfl rfl (by decide) (tz_in0 rfl)).trans ?_
      refine tz_jI (fun y2 A2 => ?_)
      refine (tz_g_ic_ne (t := 48) (by decide) (tz_in0 rfl)).trans ?_
      refine tz_cg ?_ ?_
      · skip
        refine (tz_g_iload_n rfl (tz_in0 rfl)).trans ?_
        exact tz_g_ret1 (tz_in0 rfl) rfl
      · skip
        refine (tz_g_iinc (v := 1) (L2 := [some (.ref 122), some (.ref 9), some (.int (z2 + 1))]) rfl rfl rfl rfl (tz_in0 rfl)).trans ?_
        refine (tz_g_goto (t := 2) (by decide) (tz_in0 rfl)).trans ?_
        exact tz_Gm (L2 := [some (.ref 122), some (.ref 9), some (.int (z2 + 1))]) rfl rfl rfl rfl

theorem e_X7_readStorm (A : tz_Mem) : f_X7_readStorm A =
  tz_bI (f_X7_readNumber 1 9 A) (fun y1 A1 =>
tz_bI (f_X7_readNumber 1 99 A1) (fun y2 A2 =>
tz_bI (f_X7_readNumber 1 9 A2) (fun y3 A3 =>
tz_bI (f_X7_readWay A3) (fun y4 A4 =>
if ¬ (tz_g A4 122 0) = (-1) then
  some (none, A4)
else
  tz_bI (f_X10_add_s147 124 y4 y1 y2 y3 A4) (fun y5 A5 =>
  some (none, A5)))))) := by
  refine (tz_Fe (L := [some (.ref 122), none, none, none, none]) rfl).trans ?_
  refine (tz_g_aload_n rfl (tz_in0 rfl)).trans ?_
  refine (tz_g_iconst (v := 1) rfl (tz_in0 rfl)).trans ?_
  refine (tz_g_bipush (v := 9) rfl (tz_in0 rfl)).trans ?_
  refine (tz_g_cv2I (m2 := 72) (rc := 1) rfl rfl rfl rfl rfl rfl (by decide) (tz_in0 rfl)).trans ?_
  refine tz_jI (fun y1 A1 => ?_)
  refine (tz_g_istore_n (L2 := [some (.ref 122), some (.int y1), none, none, none]) rfl rfl (tz_in0 rfl)).trans ?_
  refine (tz_g_aload_n rfl (tz_in0 rfl)).trans ?_
  refine (tz_g_iconst (v := 1) rfl (tz_in0 rfl)).trans ?_
  refine (tz_g_bipush (v := 99) rfl (tz_in0 rfl)).trans ?_
  refine (tz_g_cv2I (m2 := 72) (rc := 1) rfl rfl rfl rfl rfl rfl (by decide) (tz_in0 rfl)).trans ?_
  refine tz_jI (fun y2 A2 => ?_)
  refine (tz_g_istore_n (L2 := [some (.ref 122), some (.int y1), some (.int y2), none, none]) rfl rfl (tz_in0 rfl)).trans ?_
  refine (tz_g_aload_n rfl (tz_in0 rfl)).trans ?_
  refine (tz_g_iconst (v := 1) rfl (tz_in0 rfl)).trans ?_
  refine (tz_g_bipush (v := 9) rfl (tz_in0 rfl)).trans ?_
  refine (tz_g_cv2I (m2 := 72) (rc := 1) rfl rfl rfl rfl rfl rfl (by decide) (tz_in0 rfl)).trans ?_
  refine tz_jI (fun y3 A3 => ?_)
  refine (tz_g_istore_n (L2 := [some (.ref 122), some (.int y1), some (.int y2), some (.int y3), none]) rfl rfl (tz_in0 rfl)).trans ?_
  refine (tz_g_aload_n rfl (tz_in0 rfl)).trans ?_
  refine (tz_g_cv0I (m2 := 76) (rc := 1) rfl rfl rfl rfl rfl rfl (by decide) (tz_in0 rfl)).trans ?_
  refine tz_jI (fun y4 A4 => ?_)
  refine (tz_g_istore (L2 := [some (.ref 122), some (.int y1), some (.int y2), some (.int y3), some (.int y4)]) rfl rfl (tz_in0 rfl)).trans ?_
  refine (tz_g_aload_n rfl (tz_in0 rfl)).trans ?_
  refine (tz_g_geti rfl rfl rfl (tz_in0 rfl)).trans ?_
  refine (tz_g_iconst (v := (-1)) rfl (tz_in0 rfl)).trans ?_
  refine (tz_g_ic_ne (t := 58) (by decide) (tz_in0 rfl)).trans ?_
  refine tz_cg ?_ ?_
  · skip
    exact tz_g_ret0 (tz_in0 rfl) rfl
  · skip
    refine (tz_g_aload_n rfl (tz_in0 rfl)).trans ?_
    refine (tz_g_getr (j := 124) rfl rfl rfl rfl rfl (tz_in0 rfl)).trans ?_
    refine (tz_g_getr (j := 131) rfl rfl rfl rfl rfl (tz_in0 rfl)).trans ?_
    refine (tz_g_aload_n rfl (tz_in0 rfl)).trans ?_
    refine (tz_g_getr (j := 147) rfl rfl rfl rfl rfl (tz_in0 rfl)).trans ?_
    refine (tz_g_iload rfl (tz_in0 rfl)).trans ?_
    refine (tz_g_iload_n rfl (tz_in0 rfl)).trans ?_
    refine (tz_g_iload_n rfl (tz_in0 rfl)).trans ?_
    refine (tz_g_iload_n rfl (tz_in0 rfl)).trans ?_
    refine (tz_g_cv5I (m2 := 37) (rc := 1) rfl rfl rfl rfl rfl rfl (by decide) (tz_in0 rfl)).trans ?_
    refine tz_jI (fun y5 A5 => ?_)
    refine (tz_g_pop rfl (tz_in0 rfl)).trans ?_
    exact tz_g_ret0 (tz_in0 rfl) rfl

theorem e_X9_tick (b : Nat) (hb : tz_sky b) (A : tz_Mem) : f_X9_tick b A =
  q_X9_tick_12 b 0 (tz_s A b 3 ((tz_g A b 3) + 1)) := by
  obtain rfl | rfl | rfl | rfl | rfl := hb
  all_goals
    refine (tz_Fe (L := [some (.ref _), none]) rfl).trans ?_
    refine (tz_g_aload_n rfl (tz_in0 rfl)).trans ?_
    refine (tz_g_dup rfl (tz_in0 rfl)).trans ?_
    refine (tz_g_geti rfl rfl rfl (tz_in0 rfl)).trans ?_
    refine (tz_g_iconst (v := 1) rfl (tz_in0 rfl)).trans ?_
    refine (tz_g_iadd (tz_in0 rfl)).trans ?_
    refine (tz_g_puti rfl rfl rfl (tz_in0 rfl)).trans ?_
    refine (tz_g_iconst (v := 0) rfl (tz_in0 rfl)).trans ?_
    refine (tz_g_istore_n (L2 := [some (.ref _), some (.int 0)]) rfl rfl (tz_in0 rfl)).trans ?_
    exact tz_Gm (L2 := [some (.ref _), some (.int 0)]) rfl rfl rfl rfl

theorem e_X9_tick_12 (b : Nat) (z1 : Int32) (hb : tz_sky b) (A : tz_Mem) : q_X9_tick_12 b z1 A =
  if (tz_g A (b + 7) 0) ≤ z1 then
  some (none, A)
else
  tz_bI (f_X10_hasTurn b z1 (tz_g A b 3) A) (fun y1 A1 =>
  if y1 = 0 then
    q_X9_tick_12 b (z1 + 1) A1
  else
    if z1 = (tz_g A1 b 6) then
      q_X9_tick_12 b (z1 + 1) A1
    else
      tz_bV (f_X9_goOn b z1 A1) (fun A2 =>
      q_X9_tick_12 b (z1 + 1) A2)) := by
  obtain rfl | rfl | rfl | rfl | rfl := hb
  all_goals
    show tz_Go 80 12 _ [] A = _
    refine (tz_g_iload_n rfl (tz_inM rfl rfl rfl)).trans ?_
    refine (tz_g_aload_n rfl (tz_in0 rfl)).trans ?_
    refine (tz_g_getr (j := _) rfl rfl rfl rfl rfl (tz_in0 rfl)).trans ?_
    refine (tz_g_geti rfl rfl rfl (tz_in0 rfl)).trans ?_
    refine (tz_g_ic_ge (t := 57) (by decide) (tz_in0 rfl)).trans ?_
    refine tz_cg ?_ ?_
    · skip
      exact tz_g_ret0 (tz_in0 rfl) rfl
    · skip
      refine (tz_g_aload_n rfl (tz_in0 rfl)).trans ?_
      refine (tz_g_getr (j := _) rfl rfl rfl rfl rfl (tz_in0 rfl)).trans ?_
      refine (tz_g_iload_n rfl (tz_in0 rfl)).trans ?_
      refine (tz_g_aload_n rfl (tz_in0 rfl)).trans ?_
      refine (tz_g_geti rfl rfl rfl (tz_in0 rfl)).trans ?_
      refine (tz_g_cv2I (m2 := 81) (rc := 4) rfl rfl rfl rfl rfl rfl (by decide) (tz_in0 rfl)).trans ?_
      refine tz_jI (fun y1 A1 => ?_)
      refine (tz_g_if_eq (t := 51) (by decide) (tz_in0 rfl)).trans ?_
      refine tz_cg ?_ ?_
      · skip
        refine (tz_g_iinc (v := 1) (L2 := [some (.ref _), some (.int (z1 + 1))]) rfl rfl rfl rfl (tz_in0 rfl)).trans ?_
        refine (tz_g_goto (t := 12) (by decide) (tz_in0 rfl)).trans ?_
        exact tz_Gm (L2 := [some (.ref _), some (.int (z1 + 1))]) rfl rfl rfl rfl
      · skip
        refine (tz_g_iload_n rfl (tz_in0 rfl)).trans ?_
        refine (tz_g_aload_n rfl (tz_in0 rfl)).trans ?_
        refine (tz_g_geti rfl rfl rfl (tz_in0 rfl)).trans ?_
        refine (tz_g_ic_eq (t := 51) (by decide) (tz_in0 rfl)).trans ?_
        refine tz_cg ?_ ?_
        · skip
          refine (tz_g_iinc (v := 1) (L2 := [some (.ref _), some (.int (z1 + 1))]) rfl rfl rfl rfl (tz_in0 rfl)).trans ?_
          refine (tz_g_goto (t := 12) (by decide) (tz_in0 rfl)).trans ?_
          exact tz_Gm (L2 := [some (.ref _), some (.int (z1 + 1))]) rfl rfl rfl rfl
        · skip
          refine (tz_g_aload_n rfl (tz_in0 rfl)).trans ?_
          refine (tz_g_iload_n rfl (tz_in0 rfl)).trans ?_
          refine (tz_g_cv1V (m2 := 82) (rc := 0) rfl rfl rfl rfl rfl rfl (by decide) (tz_in0 rfl)).trans ?_
          refine tz_jV (fun A2 => ?_)
          refine (tz_g_iinc (v := 1) (L2 := [some (.ref _), some (.int (z1 + 1))]) rfl rfl rfl rfl (tz_in0 rfl)).trans ?_
          refine (tz_g_goto (t := 12) (by decide) (tz_in0 rfl)).trans ?_
          exact tz_Gm (L2 := [some (.ref _), some (.int (z1 + 1))]) rfl rfl rfl rfl

theorem e_X9_tickDry (b : Nat) (hb : tz_sky b) (A : tz_Mem) : f_X9_tickDry b A =
  q_X9_tickDry_14 b 0 0 (tz_s A b 3 ((tz_g A b 3) + 1)) := by
  obtain rfl | rfl | rfl | rfl | rfl := hb
  all_goals
    refine (tz_Fe (L := [some (.ref _), none, none]) rfl).trans ?_
    refine (tz_g_iconst (v := 0) rfl (tz_in0 rfl)).trans ?_
    refine (tz_g_istore_n (L2 := [some (.ref _), some (.int 0), none]) rfl rfl (tz_in0 rfl)).trans ?_
    refine (tz_g_aload_n rfl (tz_in0 rfl)).trans ?_
    refine (tz_g_dup rfl (tz_in0 rfl)).trans ?_
    refine (tz_g_geti rfl rfl rfl (tz_in0 rfl)).trans ?_
    refine (tz_g_iconst (v := 1) rfl (tz_in0 rfl)).trans ?_
    refine (tz_g_iadd (tz_in0 rfl)).trans ?_
    refine (tz_g_puti rfl rfl rfl (tz_in0 rfl)).trans ?_
    refine (tz_g_iconst (v := 0) rfl (tz_in0 rfl)).trans ?_
    refine (tz_g_istore_n (L2 := [some (.ref _), some (.int 0), some (.int 0)]) rfl rfl (tz_in0 rfl)).trans ?_
    exact tz_Gm (L2 := [some (.ref _), some (.int 0), some (.int 0)]) rfl rfl rfl rfl

theorem e_X9_tickDry_14 (b : Nat) (z1 : Int32) (z2 : Int32) (hb : tz_sky b) (A : tz_Mem) : q_X9_tickDry_14 b z1 z2 A =
  if (tz_g A (b + 7) 0) ≤ z2 then
  some (some (.int z1), A)
else
  tz_bI (f_X10_hasTurn b z2 (tz_g A b 3) A) (fun y1 A1 =>
  if y1 = 0 then
    q_X9_tickDry_14 b z1 (z2 + 1) A1
  else
    tz_bI (f_X9_drawBelow100 b A1) (fun y2 A2 =>
    if y2 < (tz_g A2 b 4) then
      q_X9_tickDry_14 b (z1 + 1) (z2 + 1) A2
    else
      tz_bV (f_X9_goOn b z2 A2) (fun A3 =>
      q_X9_tickDry_14 b z1 (z2 + 1) A3))) := by
  obtain rfl | rfl | rfl | rfl | rfl := hb
  all_goals
    show tz_Go 111 14 _ [] A = _
    refine (tz_g_iload_n rfl (tz_inM rfl rfl rfl)).trans ?_
    refine (tz_g_aload_n rfl (tz_in0 rfl)).trans ?_
    refine (tz_g_getr (j := _) rfl rfl rfl rfl rfl (tz_in0 rfl)).trans ?_
    refine (tz_g_geti rfl rfl rfl (tz_in0 rfl)).trans ?_
    refine (tz_g_ic_ge (t := 68) (by decide) (tz_in0 rfl)).trans ?_
    refine tz_cg ?_ ?_
    · skip
      refine (tz_g_iload_n rfl (tz_in0 rfl)).trans ?_
      exact tz_g_ret1 (tz_in0 rfl) rfl
    · skip
      refine (tz_g_aload_n rfl (tz_in0 rfl)).trans ?_
      refine (tz_g_getr (j := _) rfl rfl rfl rfl rfl (tz_in0 rfl)).trans ?_
      refine (tz_g_iload_n rfl (tz_in0 rfl)).trans ?_
      refine (tz_g_aload_n rfl (tz_in0 rfl)).trans ?_
      refine (tz_g_geti rfl rfl rfl (tz_in0 rfl)).trans ?_
      refine (tz_g_cv2I (m2 := 81) (rc := 4) rfl rfl rfl rfl rfl rfl (by decide) (tz_in0 rfl)).trans ?_
      refine tz_jI (fun y1 A1 => ?_)
      refine (tz_g_if_eq (t := 62) (by decide) (tz_in0 rfl)).trans ?_
      refine tz_cg ?_ ?_
      · skip
        refine (tz_g_iinc (v := 1) (L2 := [some (.ref _), some (.int z1), some (.int (z2 + 1))]) rfl rfl rfl rfl (tz_in0 rfl)).trans ?_
        refine (tz_g_goto (t := 14) (by decide) (tz_in0 rfl)).trans ?_
        exact tz_Gm (L2 := [some (.ref _), some (.int z1), some (.int (z2 + 1))]) rfl rfl rfl rfl
      · skip
        refine (tz_g_aload_n rfl (tz_in0 rfl)).trans ?_
        refine (tz_g_cv0I (m2 := 112) (rc := 1) rfl rfl rfl rfl rfl rfl (by decide) (tz_in0 rfl)).trans ?_
        refine tz_jI (fun y2 A2 => ?_)
        refine (tz_g_aload_n rfl (tz_in0 rfl)).trans ?_
        refine (tz_g_geti rfl rfl rfl (tz_in0 rfl)).trans ?_
        refine (tz_g_ic_lt (t := 59) (by decide) (tz_in0 rfl)).trans ?_
        refine tz_cg ?_ ?_
        · skip
          refine (tz_g_iinc (v := 1) (L2 := [some (.ref _), some (.int (z1 + 1)), some (.int z2)]) rfl rfl rfl rfl (tz_in0 rfl)).trans ?_
          refine (tz_g_iinc (v := 1) (L2 := [some (.ref _), some (.int (z1 + 1)), some (.int (z2 + 1))]) rfl rfl rfl rfl (tz_in0 rfl)).trans ?_
          refine (tz_g_goto (t := 14) (by decide) (tz_in0 rfl)).trans ?_
          exact tz_Gm (L2 := [some (.ref _), some (.int (z1 + 1)), some (.int (z2 + 1))]) rfl rfl rfl rfl
        · skip
          refine (tz_g_aload_n rfl (tz_in0 rfl)).trans ?_
          refine (tz_g_iload_n rfl (tz_in0 rfl)).trans ?_
          refine (tz_g_cv1V (m2 := 82) (rc := 0) rfl rfl rfl rfl rfl rfl (by decide) (tz_in0 rfl)).trans ?_
          refine tz_jV (fun A3 => ?_)
          refine (tz_g_goto (t := 62) (by decide) (tz_in0 rfl)).trans ?_
          refine (tz_g_iinc (v := 1) (L2 := [some (.ref _), some (.int z1), some (.int (z2 + 1))]) rfl rfl rfl rfl (tz_in0 rfl)).trans ?_
          refine (tz_g_goto (t := 14) (by decide) (tz_in0 rfl)).trans ?_
          exact tz_Gm (L2 := [some (.ref _), some (.int z1), some (.int (z2 + 1))]) rfl rfl rfl rfl

theorem e_X7_readWord (A : tz_Mem) : f_X7_readWord A =
  q_X7_readWord_4 0 0 A := by
  refine (tz_Fe (L := [some (.ref 122), none, none, none, none]) rfl).trans ?_
  refine (tz_g_iconst (v := 0) rfl (tz_in0 rfl)).trans ?_
  refine (tz_g_istore_n (L2 := [some (.ref 122), some (.int 0), none, none, none]) rfl rfl (tz_in0 rfl)).trans ?_
  refine (tz_g_iconst (v := 0) rfl (tz_in0 rfl)).trans ?_
  refine (tz_g_istore_n (L2 := [some (.ref 122), some (.int 0), some (.int 0), none, none]) rfl rfl (tz_in0 rfl)).trans ?_
  exact tz_Gm (L2 := [some (.ref 122), some (.int 0), some (.int 0), none, none]) rfl rfl rfl rfl

theorem e_X7_readWord_4 (z1 : Int32) (z2 : Int32) (A : tz_Mem) : q_X7_readWord_4 z1 z2 A =
  if 5 ≤ z2 then
  some (some (.int (-1)), (tz_s A 122 0 ((tz_g A 122 5) + z1)))
else
  if z2 = 0 then
    tz_bI (f_X7_countSame_s5 A) (fun y2 A2 =>
    tz_bI (f_J0_length_s5 A2) (fun y3 A3 =>
    if ¬ y2 = y3 then
      q_X7_readWord_4 (if z1 < y2 then y2 else z1) (z2 + 1) A3
    else
      some (some (.int z2), (tz_s A3 122 5 ((tz_g A3 122 5) + y2)))))
  else if z2 = 1 then
    tz_bI (f_X7_countSame_s6 A) (fun y2 A2 =>
    tz_bI (f_J0_length_s6 A2) (fun y3 A3 =>
    if ¬ y2 = y3 then
      q_X7_readWord_4 (if z1 < y2 then y2 else z1) (z2 + 1) A3
    else
      some (some (.int z2), (tz_s A3 122 5 ((tz_g A3 122 5) + y2)))))
  else if z2 = 2 then
    tz_bI (f_X7_countSame_s7 A) (fun y2 A2 =>
    tz_bI (f_J0_length_s7 A2) (fun y3 A3 =>
    if ¬ y2 = y3 then
      q_X7_readWord_4 (if z1 < y2 then y2 else z1) (z2 + 1) A3
    else
      some (some (.int z2), (tz_s A3 122 5 ((tz_g A3 122 5) + y2)))))
  else if z2 = 3 then
    tz_bI (f_X7_countSame_s8 A) (fun y2 A2 =>
    tz_bI (f_J0_length_s8 A2) (fun y3 A3 =>
    if ¬ y2 = y3 then
      q_X7_readWord_4 (if z1 < y2 then y2 else z1) (z2 + 1) A3
    else
      some (some (.int z2), (tz_s A3 122 5 ((tz_g A3 122 5) + y2)))))
  else tz_bI (f_X7_countSame_s9 A) (fun y2 A2 =>
  tz_bI (f_J0_length_s9 A2) (fun y3 A3 =>
  if ¬ y2 = y3 then
    q_X7_readWord_4 (if z1 < y2 then y2 else z1) (z2 + 1) A3
  else
    some (some (.int z2), (tz_s A3 122 5 ((tz_g A3 122 5) + y2))))) := by
  show tz_Go 60 4 [some (.ref 122), some (.int z1), some (.int z2), none, none] [] A = _
  refine (tz_g_iload_n rfl (tz_inM rfl rfl rfl)).trans ?_
  refine (tz_g_iconst (v := 5) rfl (tz_in0 rfl)).trans ?_
  refine (tz_g_ic_ge (t := 56) (by decide) (tz_in0 rfl)).trans ?_
  refine tz_cg ?_ ?_
  · skip
    refine (tz_g_aload_n rfl (tz_in0 rfl)).trans ?_
    refine (tz_g_aload_n rfl (tz_in0 rfl)).trans ?_
    refine (tz_g_geti rfl rfl rfl (tz_in0 rfl)).trans ?_
    refine (tz_g_iload_n rfl (tz_in0 rfl)).trans ?_
    refine (tz_g_iadd (tz_in0 rfl)).trans ?_
    refine (tz_g_puti rfl rfl rfl (tz_in0 rfl)).trans ?_
    refine (tz_g_iconst (v := (-1)) rfl (tz_in0 rfl)).trans ?_
    exact tz_g_ret1 (tz_in0 rfl) rfl
  · skip
    refine (tz_g_iload_n rfl (tz_in0 rfl)).trans ?_
    refine (tz_g_cs1R (m2 := 61) (rc := 3) rfl rfl rfl rfl rfl rfl (by decide) (tz_in0 rfl)).trans ?_
    refine (congrArg (fun o => tz_bR o _) (e_X7_wordOf z2 A)).trans ?_
    refine tz_bR_ite.trans ?_
    refine tz_cg ?_ ?_
    · refine tz_bR_some.trans ?_
      refine (tz_g_astore_n (L2 := [some (.ref 122), some (.int z1), some (.int z2), some (.ref 5), none]) rfl rfl (tz_in0 rfl)).trans ?_
      refine (tz_g_aload_n rfl (tz_in0 rfl)).trans ?_
      refine (tz_g_aload_n rfl (tz_in0 rfl)).trans ?_
      refine (tz_g_cv1I (m2 := 62) (rc := 1) rfl rfl rfl rfl rfl rfl (by decide) (tz_in0 rfl)).trans ?_
      refine tz_jI (fun y2 A2 => ?_)
      refine (tz_g_istore (L2 := [some (.ref 122), some (.int z1), some (.int z2), some (.ref 5), some (.int y2)]) rfl rfl (tz_in0 rfl)).trans ?_
      refine (tz_g_iload rfl (tz_in0 rfl)).trans ?_
      refine (tz_g_aload_n rfl (tz_in0 rfl)).trans ?_
      refine (tz_g_cv0I (m2 := 63) (rc := 1) rfl rfl rfl rfl rfl rfl (by decide) (tz_in0 rfl)).trans ?_
      refine tz_jI (fun y3 A3 => ?_)
      refine (tz_g_ic_ne (t := 43) (by decide) (tz_in0 rfl)).trans ?_
      refine tz_cg ?_ ?_
      · skip
        refine (tz_g_iload_n rfl (tz_in0 rfl)).trans ?_
        refine (tz_g_iload rfl (tz_in0 rfl)).trans ?_
        refine (tz_g_max rfl rfl rfl (tz_in0 rfl)).trans ?_
        refine (tz_g_istore_n (L2 := [some (.ref 122), some (.int (if z1 < y2 then y2 else z1)), some (.int z2), some (.ref 5), some (.int y2)]) rfl rfl (tz_in0 rfl)).trans ?_
        refine (tz_g_iinc (v := 1) (L2 := [some (.ref 122), some (.int (if z1 < y2 then y2 else z1)), some (.int (z2 + 1)), some (.ref 5), some (.int y2)]) rfl rfl rfl rfl (tz_in0 rfl)).trans ?_
        refine (tz_g_goto (t := 4) (by decide) (tz_in0 rfl)).trans ?_
        exact tz_Gm (L2 := [some (.ref 122), some (.int (if z1 < y2 then y2 else z1)), some (.int (z2 + 1)), none, none]) rfl rfl rfl rfl
      · skip
        refine (tz_g_aload_n rfl (tz_in0 rfl)).trans ?_
        refine (tz_g_dup rfl (tz_in0 rfl)).trans ?_
        refine (tz_g_geti rfl rfl rfl (tz_in0 rfl)).trans ?_
        refine (tz_g_iload rfl (tz_in0 rfl)).trans ?_
        refine (tz_g_iadd (tz_in0 rfl)).trans ?_
        refine (tz_g_puti rfl rfl rfl (tz_in0 rfl)).trans ?_
        refine (tz_g_iload_n rfl (tz_in0 rfl)).trans ?_
        exact tz_g_ret1 (tz_in0 rfl) rfl
    refine tz_bR_ite.trans ?_
    refine tz_cg ?_ ?_
    · refine tz_bR_some.trans ?_
      refine (tz_g_astore_n (L2 := [some (.ref 122), some (.int z1), some (.int z2), some (.ref 6), none]) rfl rfl (tz_in0 rfl)).trans ?_
      refine (tz_g_aload_n rfl (tz_in0 rfl)).trans ?_
      refine (tz_g_aload_n rfl (tz_in0 rfl)).trans ?_
      refine (tz_g_cv1I (m2 := 62) (rc := 1) rfl rfl rfl rfl rfl rfl (by decide) (tz_in0 rfl)).trans ?_
      refine tz_jI (fun y2 A2 => ?_)
      refine (tz_g_istore (L2 := [some (.ref 122), some (.int z1), some (.int z2), some (.ref 6), some (.int y2)]) rfl rfl (tz_in0 rfl)).trans ?_
      refine (tz_g_iload rfl (tz_in0 rfl)).trans ?_
      refine (tz_g_aload_n rfl (tz_in0 rfl)).trans ?_
      refine (tz_g_cv0I (m2 := 63) (rc := 1) rfl rfl rfl rfl rfl rfl (by decide) (tz_in0 rfl)).trans ?_
      refine tz_jI (fun y3 A3 => ?_)
      refine (tz_g_ic_ne (t := 43) (by decide) (tz_in0 rfl)).trans ?_
      refine tz_cg ?_ ?_
      · skip
        refine (tz_g_iload_n rfl (tz_in0 rfl)).trans ?_
        refine (tz_g_iload rfl (tz_in0 rfl)).trans ?_
        refine (tz_g_max rfl rfl rfl (tz_in0 rfl)).trans ?_
        refine (tz_g_istore_n (L2 := [some (.ref 122), some (.int (if z1 < y2 then y2 else z1)), some (.int z2), some (.ref 6), some (.int y2)]) rfl rfl (tz_in0 rfl)).trans ?_
        refine (tz_g_iinc (v := 1) (L2 := [some (.ref 122), some (.int (if z1 < y2 then y2 else z1)), some (.int (z2 + 1)), some (.ref 6), some (.int y2)]) rfl rfl rfl rfl (tz_in0 rfl)).trans ?_
        refine (tz_g_goto (t := 4) (by decide) (tz_in0 rfl)).trans ?_
        exact tz_Gm (L2 := [some (.ref 122), some (.int (if z1 < y2 then y2 else z1)), some (.int (z2 + 1)), none, none]) rfl rfl rfl rfl
      · skip
        refine (tz_g_aload_n rfl (tz_in0 rfl)).trans ?_
        refine (tz_g_dup rfl (tz_in0 rfl)).trans ?_
        refine (tz_g_geti rfl rfl rfl (tz_in0 rfl)).trans ?_
        refine (tz_g_iload rfl (tz_in0 rfl)).trans ?_
        refine (tz_g_iadd (tz_in0 rfl)).trans ?_
        refine (tz_g_puti rfl rfl rfl (tz_in0 rfl)).trans ?_
        refine (tz_g_iload_n rfl (tz_in0 rfl)).trans ?_
        exact tz_g_ret1 (tz_in0 rfl) rfl
    refine tz_bR_ite.trans ?_
    refine tz_cg ?_ ?_
    · refine tz_bR_some.trans ?_
      refine (tz_g_astore_n (L2 := [some (.ref 122), some (.int z1), some (.int z2), some (.ref 7), none]) rfl rfl (tz_in0 rfl)).trans ?_
      refine (tz_g_aload_n rfl (tz_in0 rfl)).trans ?_
      refine (tz_g_aload_n rfl (tz_in0 rfl)).trans ?_
      refine (tz_g_cv1I (m2 := 62) (rc := 1) rfl rfl rfl rfl rfl rfl (by decide) (tz_in0 rfl)).trans ?_
      refine tz_jI (fun y2 A2 => ?_)
      refine (tz_g_istore (L2 := [some (.ref 122), some (.int z1), some (.int z2), some (.ref 7), some (.int y2)]) rfl rfl (tz_in0 rfl)).trans ?_
      refine (tz_g_iload rfl (tz_in0 rfl)).trans ?_
      refine (tz_g_aload_n rfl (tz_in0 rfl)).trans ?_
      refine (tz_g_cv0I (m2 := 63) (rc := 1) rfl rfl rfl rfl rfl rfl (by decide) (tz_in0 rfl)).trans ?_
      refine tz_jI (fun y3 A3 => ?_)
      refine (tz_g_ic_ne (t := 43) (by decide) (tz_in0 rfl)).trans ?_
      refine tz_cg ?_ ?_
      · skip
        refine (tz_g_iload_n rfl (tz_in0 rfl)).trans ?_
        refine (tz_g_iload rfl (tz_in0 rfl)).trans ?_
        refine (tz_g_max rfl rfl rfl (tz_in0 rfl)).trans ?_
        refine (tz_g_istore_n (L2 := [some (.ref 122), some (.int (if z1 < y2 then y2 else z1)), some (.int z2), some (.ref 7), some (.int y2)]) rfl rfl (tz_in0 rfl)).trans ?_
        refine (tz_g_iinc (v := 1) (L2 := [some (.ref 122), some (.int (if z1 < y2 then y2 else z1)), some (.int (z2 + 1)), some (.ref 7), some (.int y2)]) rfl rfl rfl rfl (tz_in0 rfl)).trans ?_
        refine (tz_g_goto (t := 4) (by decide) (tz_in0 rfl)).trans ?_
        exact tz_Gm (L2 := [some (.ref 122), some (.int (if z1 < y2 then y2 else z1)), some (.int (z2 + 1)), none, none]) rfl rfl rfl rfl
      · skip
        refine (tz_g_aload_n rfl (tz_in0 rfl)).trans ?_
        refine (tz_g_dup rfl (tz_in0 rfl)).trans ?_
        refine (tz_g_geti rfl rfl rfl (tz_in0 rfl)).trans ?_
        refine (tz_g_iload rfl (tz_in0 rfl)).trans ?_
        refine (tz_g_iadd (tz_in0 rfl)).trans ?_
        refine (tz_g_puti rfl rfl rfl (tz_in0 rfl)).trans ?_
        refine (tz_g_iload_n rfl (tz_in0 rfl)).trans ?_
        exact tz_g_ret1 (tz_in0 rfl) rfl
    refine tz_bR_ite.trans ?_
    refine tz_cg ?_ ?_
    · refine tz_bR_some.trans ?_
      refine (tz_g_astore_n (L2 := [some (.ref 122), some (.int z1), some (.int z2), some (.ref 8), none]) rfl rfl (tz_in0 rfl)).trans ?_
      refine (tz_g_aload_n rfl (tz_in0 rfl)).trans ?_
      refine (tz_g_aload_n rfl (tz_in0 rfl)).trans ?_
      refine (tz_g_cv1I (m2 := 62) (rc := 1) rfl rfl rfl rfl rfl rfl (by decide) (tz_in0 rfl)).trans ?_
      refine tz_jI (fun y2 A2 => ?_)
      refine (tz_g_istore (L2 := [some (.ref 122), some (.int z1), some (.int z2), some (.ref 8), some (.int y2)]) rfl rfl (tz_in0 rfl)).trans ?_
      refine (tz_g_iload rfl (tz_in0 rfl)).trans ?_
      refine (tz_g_aload_n rfl (tz_in0 rfl)).trans ?_
      refine (tz_g_cv0I (m2 := 63) (rc := 1) rfl rfl rfl rfl rfl rfl (by decide) (tz_in0 rfl)).trans ?_
      refine tz_jI (fun y3 A3 => ?_)
      refine (tz_g_ic_ne (t := 43) (by decide) (tz_in0 rfl)).trans ?_
      refine tz_cg ?_ ?_
      · skip
        refine (tz_g_iload_n rfl (tz_in0 rfl)).trans ?_
        refine (tz_g_iload rfl (tz_in0 rfl)).trans ?_
        refine (tz_g_max rfl rfl rfl (tz_in0 rfl)).trans ?_
        refine (tz_g_istore_n (L2 := [some (.ref 122), some (.int (if z1 < y2 then y2 else z1)), some (.int z2), some (.ref 8), some (.int y2)]) rfl rfl (tz_in0 rfl)).trans ?_
        refine (tz_g_iinc (v := 1) (L2 := [some (.ref 122), some (.int (if z1 < y2 then y2 else z1)), some (.int (z2 + 1)), some (.ref 8), some (.int y2)]) rfl rfl rfl rfl (tz_in0 rfl)).trans ?_
        refine (tz_g_goto (t := 4) (by decide) (tz_in0 rfl)).trans ?_
        exact tz_Gm (L2 := [some (.ref 122), some (.int (if z1 < y2 then y2 else z1)), some (.int (z2 + 1)), none, none]) rfl rfl rfl rfl
      · skip
        refine (tz_g_aload_n rfl (tz_in0 rfl)).trans ?_
        refine (tz_g_dup rfl (tz_in0 rfl)).trans ?_
        refine (tz_g_geti rfl rfl rfl (tz_in0 rfl)).trans ?_
        refine (tz_g_iload rfl (tz_in0 rfl)).trans ?_
        refine (tz_g_iadd (tz_in0 rfl)).trans ?_
        refine (tz_g_puti rfl rfl rfl (tz_in0 rfl)).trans ?_
        refine (tz_g_iload_n rfl (tz_in0 rfl)).trans ?_
        exact tz_g_ret1 (tz_in0 rfl) rfl
    refine tz_bR_some.trans ?_
    refine (tz_g_astore_n (L2 := [some (.ref 122), some (.int z1), some (.int z2), some (.ref 9), none]) rfl rfl (tz_in0 rfl)).trans ?_
    refine (tz_g_aload_n rfl (tz_in0 rfl)).trans ?_
    refine (tz_g_aload_n rfl (tz_in0 rfl)).trans ?_
    refine (tz_g_cv1I (m2 := 62) (rc := 1) rfl rfl rfl rfl rfl rfl (by decide) (tz_in0 rfl)).trans ?_
    refine tz_jI (fun y2 A2 => ?_)
    refine (tz_g_istore (L2 := [some (.ref 122), some (.int z1), some (.int z2), some (.ref 9), some (.int y2)]) rfl rfl (tz_in0 rfl)).trans ?_
    refine (tz_g_iload rfl (tz_in0 rfl)).trans ?_
    refine (tz_g_aload_n rfl (tz_in0 rfl)).trans ?_
    refine (tz_g_cv0I (m2 := 63) (rc := 1) rfl rfl rfl rfl rfl rfl (by decide) (tz_in0 rfl)).trans ?_
    refine tz_jI (fun y3 A3 => ?_)
    refine (tz_g_ic_ne (t := 43) (by decide) (tz_in0 rfl)).trans ?_
    refine tz_cg ?_ ?_
    · skip
      refine (tz_g_iload_n rfl (tz_in0 rfl)).trans ?_
      refine (tz_g_iload rfl (tz_in0 rfl)).trans ?_
      refine (tz_g_max rfl rfl rfl (tz_in0 rfl)).trans ?_
      refine (tz_g_istore_n (L2 := [some (.ref 122), some (.int (if z1 < y2 then y2 else z1)), some (.int z2), some (.ref 9), some (.int y2)]) rfl rfl (tz_in0 rfl)).trans ?_
      refine (tz_g_iinc (v := 1) (L2 := [some (.ref 122), some (.int (if z1 < y2 then y2 else z1)), some (.int (z2 + 1)), some (.ref 9), some (.int y2)]) rfl rfl rfl rfl (tz_in0 rfl)).trans ?_
      refine (tz_g_goto (t := 4) (by decide) (tz_in0 rfl)).trans ?_
      exact tz_Gm (L2 := [some (.ref 122), some (.int (if z1 < y2 then y2 else z1)), some (.int (z2 + 1)), none, none]) rfl rfl rfl rfl
    · skip
      refine (tz_g_aload_n rfl (tz_in0 rfl)).trans ?_
      refine (tz_g_dup rfl (tz_in0 rfl)).trans ?_
      refine (tz_g_geti rfl rfl rfl (tz_in0 rfl)).trans ?_
      refine (tz_g_iload rfl (tz_in0 rfl)).trans ?_
      refine (tz_g_iadd (tz_in0 rfl)).trans ?_
      refine (tz_g_puti rfl rfl rfl (tz_in0 rfl)).trans ?_
      refine (tz_g_iload_n rfl (tz_in0 rfl)).trans ?_
      exact tz_g_ret1 (tz_in0 rfl) rfl

theorem e_X7_readHour (A : tz_Mem) : f_X7_readHour A =
  tz_bI (f_X7_readNumber 1 99 A) (fun y1 A1 =>
q_X7_readHour_10 y1 0 A1) := by
  refine (tz_Fe (L := [some (.ref 122), none, none]) rfl).trans ?_
  refine (tz_g_aload_n rfl (tz_in0 rfl)).trans ?_
  refine (tz_g_iconst (v := 1) rfl (tz_in0 rfl)).trans ?_
  refine (tz_g_bipush (v := 99) rfl (tz_in0 rfl)).trans ?_
  refine (tz_g_cv2I (m2 := 72) (rc := 1) rfl rfl rfl rfl rfl rfl (by decide) (tz_in0 rfl)).trans ?_
  refine tz_jI (fun y1 A1 => ?_)
  refine (tz_g_istore_n (L2 := [some (.ref 122), some (.int y1), none]) rfl rfl (tz_in0 rfl)).trans ?_
  refine (tz_g_iconst (v := 0) rfl (tz_in0 rfl)).trans ?_
  refine (tz_g_istore_n (L2 := [some (.ref 122), some (.int y1), some (.int 0)]) rfl rfl (tz_in0 rfl)).trans ?_
  exact tz_Gm (L2 := [some (.ref 122), some (.int y1), some (.int 0)]) rfl rfl rfl rfl

theorem e_X7_readHour_10 (z1 : Int32) (z2 : Int32) (A : tz_Mem) : q_X7_readHour_10 z1 z2 A =
  if z1 ≤ z2 then
  some (none, A)
else
  tz_bV (f_X9_tick 124 A) (fun A1 =>
  q_X7_readHour_10 z1 (z2 + 1) A1) := by
  show tz_Go 79 10 [some (.ref 122), some (.int z1), some (.int z2)] [] A = _
  refine (tz_g_iload_n rfl (tz_inM rfl rfl rfl)).trans ?_
  refine (tz_g_iload_n rfl (tz_in0 rfl)).trans ?_
  refine (tz_g_ic_ge (t := 28) (by decide) (tz_in0 rfl)).trans ?_
  refine tz_cg ?_ ?_
  · skip
    exact tz_g_ret0 (tz_in0 rfl) rfl
  · skip
    refine (tz_g_aload_n rfl (tz_in0 rfl)).trans ?_
    refine (tz_g_getr (j := 124) rfl rfl rfl rfl rfl (tz_in0 rfl)).trans ?_
    refine (tz_g_cv0V (m2 := 80) (rc := 0) rfl rfl rfl rfl rfl rfl (by decide) (tz_in0 rfl)).trans ?_
    refine tz_jV (fun A1 => ?_)
    refine (tz_g_iinc (v := 1) (L2 := [some (.ref 122), some (.int z1), some (.int (z2 + 1))]) rfl rfl rfl rfl (tz_in0 rfl)).trans ?_
    refine (tz_g_goto (t := 10) (by decide) (tz_in0 rfl)).trans ?_
    exact tz_Gm (L2 := [some (.ref 122), some (.int z1), some (.int (z2 + 1))]) rfl rfl rfl rfl

theorem e_X9_pass (b : Nat) (x1 : Int32) (hb : tz_sky b) (A : tz_Mem) : f_X9_pass b x1 A =
  q_X9_pass_2 b x1 0 A := by
  obtain rfl | rfl | rfl | rfl | rfl := hb
  all_goals
    refine (tz_Fe (L := [some (.ref _), some (.int x1), none]) rfl).trans ?_
    refine (tz_g_iconst (v := 0) rfl (tz_in0 rfl)).trans ?_
    refine (tz_g_istore_n (L2 := [some (.ref _), some (.int x1), some (.int 0)]) rfl rfl (tz_in0 rfl)).trans ?_
    exact tz_Gm (L2 := [some (.ref _), some (.int x1), some (.int 0)]) rfl rfl rfl rfl

theorem e_X9_pass_2 (b : Nat) (z1 : Int32) (z2 : Int32) (hb : tz_sky b) (A : tz_Mem) : q_X9_pass_2 b z1 z2 A =
  if z1 ≤ z2 then
  some (none, A)
else
  tz_bV (f_X9_tick b A) (fun A1 =>
  q_X9_pass_2 b z1 (z2 + 1) A1) := by
  obtain rfl | rfl | rfl | rfl | rfl := hb
  all_goals
    show tz_Go 99 2 _ [] A = _
    refine (tz_g_iload_n rfl (tz_inM rfl rfl rfl)).trans ?_
    refine (tz_g_iload_n rfl (tz_in0 rfl)).trans ?_
    refine (tz_g_ic_ge (t := 17) (by decide) (tz_in0 rfl)).trans ?_
    refine tz_cg ?_ ?_
    · skip
      exact tz_g_ret0 (tz_in0 rfl) rfl
    · skip
      refine (tz_g_aload_n rfl (tz_in0 rfl)).trans ?_
      refine (tz_g_cv0V (m2 := 80) (rc := 0) rfl rfl rfl rfl rfl rfl (by decide) (tz_in0 rfl)).trans ?_
      refine tz_jV (fun A1 => ?_)
      refine (tz_g_iinc (v := 1) (L2 := [some (.ref _), some (.int z1), some (.int (z2 + 1))]) rfl rfl rfl rfl (tz_in0 rfl)).trans ?_
      refine (tz_g_goto (t := 2) (by decide) (tz_in0 rfl)).trans ?_
      exact tz_Gm (L2 := [some (.ref _), some (.int z1), some (.int (z2 + 1))]) rfl rfl rfl rfl

theorem e_X9_arrival (b : Nat) (x1 : Int32) (x2 : Int32) (hb : tz_sky b) (A : tz_Mem) : f_X9_arrival b x1 x2 A =
  q_X9_arrival_2 b x1 x2 0 A := by
  obtain rfl | rfl | rfl | rfl | rfl := hb
  all_goals
    refine (tz_Fe (L := [some (.ref _), some (.int x1), some (.int x2), none]) rfl).trans ?_
    refine (tz_g_iconst (v := 0) rfl (tz_in0 rfl)).trans ?_
    refine (tz_g_istore_n (L2 := [some (.ref _), some (.int x1), some (.int x2), some (.int 0)]) rfl rfl (tz_in0 rfl)).trans ?_
    exact tz_Gm (L2 := [some (.ref _), some (.int x1), some (.int x2), some (.int 0)]) rfl rfl rfl rfl

theorem e_X9_arrival_2 (b : Nat) (z1 : Int32) (z2 : Int32) (z3 : Int32) (hb : tz_sky b) (A : tz_Mem) : q_X9_arrival_2 b z1 z2 z3 A =
  if 500 ≤ z3 then
  if z1 < 0 ∨ 12 ≤ (Int32.toNatClampNeg z1) then none else
  some (some (.int (tz_g A (b + 21) (Int32.toNatClampNeg z1))), A)
else
  if z2 ≤ (tz_g A b 3) then
    if z1 < 0 ∨ 12 ≤ (Int32.toNatClampNeg z1) then none else
    some (some (.int (tz_g A (b + 21) (Int32.toNatClampNeg z1))), A)
  else
    tz_bI (f_X4_isUnderWay b z1 A) (fun y1 A1 =>
    if y1 = 0 then
      if z1 < 0 ∨ 12 ≤ (Int32.toNatClampNeg z1) then none else
      some (some (.int (tz_g A1 (b + 21) (Int32.toNatClampNeg z1))), A1)
    else
      tz_bV (f_X9_tick b A1) (fun A2 =>
      q_X9_arrival_2 b z1 z2 (z3 + 1) A2)) := by
  obtain rfl | rfl | rfl | rfl | rfl := hb
  all_goals
    show tz_Go 103 2 _ [] A = _
    refine (tz_g_iload_n rfl (tz_inM rfl rfl rfl)).trans ?_
    refine (tz_g_sipush (v := 500) rfl (tz_in0 rfl)).trans ?_
    refine (tz_g_ic_ge (t := 38) (by decide) (tz_in0 rfl)).trans ?_
    refine tz_cg ?_ ?_
    · skip
      refine (tz_g_aload_n rfl (tz_in0 rfl)).trans ?_
      refine (tz_g_getr (j := _) rfl rfl rfl rfl rfl (tz_in0 rfl)).trans ?_
      refine (tz_g_getr (j := _) rfl rfl rfl rfl rfl (tz_in0 rfl)).trans ?_
      refine (tz_g_iload_n rfl (tz_in0 rfl)).trans ?_
      refine (tz_g_iald (n := 12) rfl rfl rfl (tz_in0 rfl)).trans ?_
      refine tz_cn1 ?_
      exact tz_g_ret1 (tz_in0 rfl) rfl
    · skip
      refine (tz_g_aload_n rfl (tz_in0 rfl)).trans ?_
      refine (tz_g_geti rfl rfl rfl (tz_in0 rfl)).trans ?_
      refine (tz_g_iload_n rfl (tz_in0 rfl)).trans ?_
      refine (tz_g_ic_ge (t := 38) (by decide) (tz_in0 rfl)).trans ?_
      refine tz_cg ?_ ?_
      · skip
        refine (tz_g_aload_n rfl (tz_in0 rfl)).trans ?_
        refine (tz_g_getr (j := _) rfl rfl rfl rfl rfl (tz_in0 rfl)).trans ?_
        refine (tz_g_getr (j := _) rfl rfl rfl rfl rfl (tz_in0 rfl)).trans ?_
        refine (tz_g_iload_n rfl (tz_in0 rfl)).trans ?_
        refine (tz_g_iald (n := 12) rfl rfl rfl (tz_in0 rfl)).trans ?_
        refine tz_cn1 ?_
        exact tz_g_ret1 (tz_in0 rfl) rfl
      · skip
        refine (tz_g_aload_n rfl (tz_in0 rfl)).trans ?_
        refine (tz_g_getr (j := _) rfl rfl rfl rfl rfl (tz_in0 rfl)).trans ?_
        refine (tz_g_iload_n rfl (tz_in0 rfl)).trans ?_
        refine (tz_g_cv1I (m2 := 104) (rc := 4) rfl rfl rfl rfl rfl rfl (by decide) (tz_in0 rfl)).trans ?_
        refine tz_jI (fun y1 A1 => ?_)
        refine (tz_g_if_eq (t := 38) (by decide) (tz_in0 rfl)).trans ?_
        refine tz_cg ?_ ?_
        · skip
          refine (tz_g_aload_n rfl (tz_in0 rfl)).trans ?_
          refine (tz_g_getr (j := _) rfl rfl rfl rfl rfl (tz_in0 rfl)).trans ?_
          refine (tz_g_getr (j := _) rfl rfl rfl rfl rfl (tz_in0 rfl)).trans ?_
          refine (tz_g_iload_n rfl (tz_in0 rfl)).trans ?_
          refine (tz_g_iald (n := 12) rfl rfl rfl (tz_in0 rfl)).trans ?_
          refine tz_cn1 ?_
          exact tz_g_ret1 (tz_in0 rfl) rfl
        · skip
          refine (tz_g_aload_n rfl (tz_in0 rfl)).trans ?_
          refine (tz_g_cv0V (m2 := 80) (rc := 0) rfl rfl rfl rfl rfl rfl (by decide) (tz_in0 rfl)).trans ?_
          refine tz_jV (fun A2 => ?_)
          refine (tz_g_iinc (v := 1) (L2 := [some (.ref _), some (.int z1), some (.int z2), some (.int (z3 + 1))]) rfl rfl rfl rfl (tz_in0 rfl)).trans ?_
          refine (tz_g_goto (t := 2) (by decide) (tz_in0 rfl)).trans ?_
          exact tz_Gm (L2 := [some (.ref _), some (.int z1), some (.int z2), some (.int (z3 + 1))]) rfl rfl rfl rfl

theorem e_X11_drought (x1 : Int32) (A : tz_Mem) : f_X11_drought x1 A =
  if x1 < 1 then
  tz_bI (f_X11_refuse (-6) A) (fun y1 A1 =>
  some (some (.int y1), A1))
else
  if x1 ≤ 200 then
    q_X11_drought_23 x1 0 0 A
  else
    tz_bI (f_X11_refuse (-6) A) (fun y1 A1 =>
    some (some (.int y1), A1)) := by
  refine (tz_Fe (L := [some (.ref 17), some (.int x1), none, none]) rfl).trans ?_
  refine (tz_g_iload_n rfl (tz_in0 rfl)).trans ?_
  refine (tz_g_iconst (v := 1) rfl (tz_in0 rfl)).trans ?_
  refine (tz_g_ic_lt (t := 12) (by decide) (tz_in0 rfl)).trans ?_
  refine tz_cg ?_ ?_
  · skip
    refine (tz_g_aload_n rfl (tz_in0 rfl)).trans ?_
    refine (tz_g_bipush (v := (-6)) rfl (tz_in0 rfl)).trans ?_
    refine (tz_g_cv1I (m2 := 15) (rc := 1) rfl rfl rfl rfl rfl rfl (by decide) (tz_in0 rfl)).trans ?_
    refine tz_jI (fun y1 A1 => ?_)
    exact tz_g_ret1 (tz_in0 rfl) rfl
  · skip
    refine (tz_g_iload_n rfl (tz_in0 rfl)).trans ?_
    refine (tz_g_sipush (v := 200) rfl (tz_in0 rfl)).trans ?_
    refine (tz_g_ic_le (t := 19) (by decide) (tz_in0 rfl)).trans ?_
    refine tz_cg ?_ ?_
    · skip
      refine (tz_g_iconst (v := 0) rfl (tz_in0 rfl)).trans ?_
      refine (tz_g_istore_n (L2 := [some (.ref 17), some (.int x1), some (.int 0), none]) rfl rfl (tz_in0 rfl)).trans ?_
      refine (tz_g_iconst (v := 0) rfl (tz_in0 rfl)).trans ?_
      refine (tz_g_istore_n (L2 := [some (.ref 17), some (.int x1), some (.int 0), some (.int 0)]) rfl rfl (tz_in0 rfl)).trans ?_
      exact tz_Gm (L2 := [some (.ref 17), some (.int x1), some (.int 0), some (.int 0)]) rfl rfl rfl rfl
    · skip
      refine (tz_g_aload_n rfl (tz_in0 rfl)).trans ?_
      refine (tz_g_bipush (v := (-6)) rfl (tz_in0 rfl)).trans ?_
      refine (tz_g_cv1I (m2 := 15) (rc := 1) rfl rfl rfl rfl rfl rfl (by decide) (tz_in0 rfl)).trans ?_
      refine tz_jI (fun y1 A1 => ?_)
      exact tz_g_ret1 (tz_in0 rfl) rfl

theorem e_X11_drought_23 (z1 : Int32) (z2 : Int32) (z3 : Int32) (A : tz_Mem) : q_X11_drought_23 z1 z2 z3 A =
  if z1 ≤ z3 then
  some (some (.int z2), A)
else
  tz_bI (f_X9_tickDry 30 A) (fun y1 A1 =>
  q_X11_drought_23 z1 (z2 + y1) (z3 + 1) A1) := by
  show tz_Go 110 23 [some (.ref 17), some (.int z1), some (.int z2), some (.int z3)] [] A = _
  refine (tz_g_iload_n rfl (tz_inM rfl rfl rfl)).trans ?_
  refine (tz_g_iload_n rfl (tz_in0 rfl)).trans ?_
  refine (tz_g_ic_ge (t := 44) (by decide) (tz_in0 rfl)).trans ?_
  refine tz_cg ?_ ?_
  · skip
    refine (tz_g_iload_n rfl (tz_in0 rfl)).trans ?_
    exact tz_g_ret1 (tz_in0 rfl) rfl
  · skip
    refine (tz_g_iload_n rfl (tz_in0 rfl)).trans ?_
    refine (tz_g_aload_n rfl (tz_in0 rfl)).trans ?_
    refine (tz_g_getr (j := 30) rfl rfl rfl rfl rfl (tz_in0 rfl)).trans ?_
    refine (tz_g_cv0I (m2 := 111) (rc := 1) rfl rfl rfl rfl rfl rfl (by decide) (tz_in0 rfl)).trans ?_
    refine tz_jI (fun y1 A1 => ?_)
    refine (tz_g_iadd (tz_in0 rfl)).trans ?_
    refine (tz_g_istore_n (L2 := [some (.ref 17), some (.int z1), some (.int (z2 + y1)), some (.int z3)]) rfl rfl (tz_in0 rfl)).trans ?_
    refine (tz_g_iinc (v := 1) (L2 := [some (.ref 17), some (.int z1), some (.int (z2 + y1)), some (.int (z3 + 1))]) rfl rfl rfl rfl (tz_in0 rfl)).trans ?_
    refine (tz_g_goto (t := 23) (by decide) (tz_in0 rfl)).trans ?_
    exact tz_Gm (L2 := [some (.ref 17), some (.int z1), some (.int (z2 + y1)), some (.int (z3 + 1))]) rfl rfl rfl rfl

theorem e_X11_firstHeard (x1 : Int32) (x2 : Int32) (A : tz_Mem) : f_X11_firstHeard x1 x2 A =
  tz_bI (f_X11_isOneOfTwo x2 A) (fun y1 A1 =>
if ¬ y1 = 0 then
  tz_bI (f_X11_isWord x1 A1) (fun y2 A2 =>
  if ¬ y2 = 0 then
    tz_bV (f_X9_become 76 30 A2) (fun A3 =>
    tz_bV (f_X2_listenFor x1 A3) (fun A4 =>
    q_X11_firstHeard_60 x2 0 (tz_sr A4 76 7 151)))
  else
    tz_bI (f_X11_refuseLower (-6) A2) (fun y3 A3 =>
    some (some (.int y3), A3)))
else
  tz_bI (f_X11_refuseLower (-5) A1) (fun y2 A2 =>
  some (some (.int y2), A2))) := by
  refine (tz_Fe (L := [some (.ref 17), some (.int x1), some (.int x2), none]) rfl).trans ?_
  refine (tz_g_iload_n rfl (tz_in0 rfl)).trans ?_
  refine (tz_g_cs1I (m2 := 98) (rc := 4) rfl rfl rfl rfl rfl rfl (by decide) (tz_in0 rfl)).trans ?_
  refine tz_jI (fun y1 A1 => ?_)
  refine (tz_g_if_ne (t := 14) (by decide) (tz_in0 rfl)).trans ?_
  refine tz_cg ?_ ?_
  · skip
    refine (tz_g_iload_n rfl (tz_in0 rfl)).trans ?_
    refine (tz_g_cs1I (m2 := 40) (rc := 4) rfl rfl rfl rfl rfl rfl (by decide) (tz_in0 rfl)).trans ?_
    refine tz_jI (fun y2 A2 => ?_)
    refine (tz_g_if_ne (t := 28) (by decide) (tz_in0 rfl)).trans ?_
    refine tz_cg ?_ ?_
    · skip
      refine (tz_g_aload_n rfl (tz_in0 rfl)).trans ?_
      refine (tz_g_getr (j := 76) rfl rfl rfl rfl rfl (tz_in0 rfl)).trans ?_
      refine (tz_g_aload_n rfl (tz_in0 rfl)).trans ?_
      refine (tz_g_getr (j := 30) rfl rfl rfl rfl rfl (tz_in0 rfl)).trans ?_
      refine (tz_g_cv1V (m2 := 55) (rc := 0) rfl rfl rfl rfl rfl rfl (by decide) (tz_in0 rfl)).trans ?_
      refine tz_jV (fun A3 => ?_)
      refine (tz_g_aload_n rfl (tz_in0 rfl)).trans ?_
      refine (tz_g_getr (j := 150) rfl rfl rfl rfl rfl (tz_in0 rfl)).trans ?_
      refine (tz_g_iload_n rfl (tz_in0 rfl)).trans ?_
      refine (tz_g_cv1V (m2 := 141) (rc := 0) rfl rfl rfl rfl rfl rfl (by decide) (tz_in0 rfl)).trans ?_
      refine tz_jV (fun A4 => ?_)
      refine (tz_g_aload_n rfl (tz_in0 rfl)).trans ?_
      refine (tz_g_getr (j := 76) rfl rfl rfl rfl rfl (tz_in0 rfl)).trans ?_
      refine (tz_g_aload_n rfl (tz_in0 rfl)).trans ?_
      refine (tz_g_getr (j := 150) rfl rfl rfl rfl rfl (tz_in0 rfl)).trans ?_
      refine (tz_g_pute rfl rfl rfl (tz_in0 rfl)).trans ?_
      refine (tz_g_iconst (v := 0) rfl (tz_in0 rfl)).trans ?_
      refine (tz_g_istore_n (L2 := [some (.ref 17), some (.int x1), some (.int x2), some (.int 0)]) rfl rfl (tz_in0 rfl)).trans ?_
      exact tz_Gm (L2 := [some (.ref 17), none, some (.int x2), some (.int 0)]) rfl rfl rfl rfl
    · skip
      refine (tz_g_aload_n rfl (tz_in0 rfl)).trans ?_
      refine (tz_g_bipush (v := (-6)) rfl (tz_in0 rfl)).trans ?_
      refine (tz_g_cv1I (m2 := 101) (rc := 1) rfl rfl rfl rfl rfl rfl (by decide) (tz_in0 rfl)).trans ?_
      refine tz_jI (fun y3 A3 => ?_)
      exact tz_g_ret1 (tz_in0 rfl) rfl
  · skip
    refine (tz_g_aload_n rfl (tz_in0 rfl)).trans ?_
    refine (tz_g_bipush (v := (-5)) rfl (tz_in0 rfl)).trans ?_
    refine (tz_g_cv1I (m2 := 101) (rc := 1) rfl rfl rfl rfl rfl rfl (by decide) (tz_in0 rfl)).trans ?_
    refine tz_jI (fun y2 A2 => ?_)
    exact tz_g_ret1 (tz_in0 rfl) rfl

theorem e_X11_firstHeard_60 (z2 : Int32) (z3 : Int32) (A : tz_Mem) : q_X11_firstHeard_60 z2 z3 A =
  if 500 ≤ z3 then
  if z2 = 0 then
    some (some (.int (tz_g A 150 0)), A)
  else
    if ¬ (tz_g A 150 0) = (-1) then
      some (some (.int (tz_g A 76 3)), A)
    else
      some (some (.int (tz_g A 150 0)), A)
else
  if ¬ (tz_g A 150 0) = (-1) then
    if z2 = 0 then
      some (some (.int (tz_g A 150 0)), A)
    else
      if ¬ (tz_g A 150 0) = (-1) then
        some (some (.int (tz_g A 76 3)), A)
      else
        some (some (.int (tz_g A 150 0)), A)
  else
    tz_bV (f_X9_tick 76 A) (fun A1 =>
    q_X11_firstHeard_60 z2 (z3 + 1) A1) := by
  show tz_Go 140 60 [some (.ref 17), none, some (.int z2), some (.int z3)] [] A = _
  refine (tz_g_iload_n rfl (tz_inM rfl rfl rfl)).trans ?_
  refine (tz_g_sipush (v := 500) rfl (tz_in0 rfl)).trans ?_
  refine (tz_g_ic_ge (t := 91) (by decide) (tz_in0 rfl)).trans ?_
  refine tz_cg ?_ ?_
  · skip
    refine (tz_g_iload_n rfl (tz_in0 rfl)).trans ?_
    refine (tz_g_if_eq (t := 106) (by decide) (tz_in0 rfl)).trans ?_
    refine tz_cg ?_ ?_
    · skip
      refine (tz_g_aload_n rfl (tz_in0 rfl)).trans ?_
      refine (tz_g_getr (j := 150) rfl rfl rfl rfl rfl (tz_in0 rfl)).trans ?_
      refine (tz_g_geti rfl rfl rfl (tz_in0 rfl)).trans ?_
      refine (tz_g_goto (t := 123) (by decide) (tz_in0 rfl)).trans ?_
      exact tz_g_ret1 (tz_in0 rfl) rfl
    · skip
      refine (tz_g_aload_n rfl (tz_in0 rfl)).trans ?_
      refine (tz_g_getr (j := 150) rfl rfl rfl rfl rfl (tz_in0 rfl)).trans ?_
      refine (tz_g_geti rfl rfl rfl (tz_in0 rfl)).trans ?_
      refine (tz_g_iconst (v := (-1)) rfl (tz_in0 rfl)).trans ?_
      refine (tz_g_ic_ne (t := 116) (by decide) (tz_in0 rfl)).trans ?_
      refine tz_cg ?_ ?_
      · skip
        refine (tz_g_aload_n rfl (tz_in0 rfl)).trans ?_
        refine (tz_g_getr (j := 76) rfl rfl rfl rfl rfl (tz_in0 rfl)).trans ?_
        refine (tz_g_geti rfl rfl rfl (tz_in0 rfl)).trans ?_
        exact tz_g_ret1 (tz_in0 rfl) rfl
      · skip
        refine (tz_g_aload_n rfl (tz_in0 rfl)).trans ?_
        refine (tz_g_getr (j := 150) rfl rfl rfl rfl rfl (tz_in0 rfl)).trans ?_
        refine (tz_g_geti rfl rfl rfl (tz_in0 rfl)).trans ?_
        refine (tz_g_goto (t := 123) (by decide) (tz_in0 rfl)).trans ?_
        exact tz_g_ret1 (tz_in0 rfl) rfl
  · skip
    refine (tz_g_aload_n rfl (tz_in0 rfl)).trans ?_
    refine (tz_g_getr (j := 150) rfl rfl rfl rfl rfl (tz_in0 rfl)).trans ?_
    refine (tz_g_geti rfl rfl rfl (tz_in0 rfl)).trans ?_
    refine (tz_g_iconst (v := (-1)) rfl (tz_in0 rfl)).trans ?_
    refine (tz_g_ic_ne (t := 91) (by decide) (tz_in0 rfl)).trans ?_
    refine tz_cg ?_ ?_
    · skip
      refine (tz_g_iload_n rfl (tz_in0 rfl)).trans ?_
      refine (tz_g_if_eq (t := 106) (by decide) (tz_in0 rfl)).trans ?_
      refine tz_cg ?_ ?_
      · skip
        refine (tz_g_aload_n rfl (tz_in0 rfl)).trans ?_
        refine (tz_g_getr (j := 150) rfl rfl rfl rfl rfl (tz_in0 rfl)).trans ?_
        refine (tz_g_geti rfl rfl rfl (tz_in0 rfl)).trans ?_
        refine (tz_g_goto (t := 123) (by decide) (tz_in0 rfl)).trans ?_
        exact tz_g_ret1 (tz_in0 rfl) rfl
      · skip
        refine (tz_g_aload_n rfl (tz_in0 rfl)).trans ?_
        refine (tz_g_getr (j := 150) rfl rfl rfl rfl rfl (tz_in0 rfl)).trans ?_
        refine (tz_g_geti rfl rfl rfl (tz_in0 rfl)).trans ?_
        refine (tz_g_iconst (v := (-1)) rfl (tz_in0 rfl)).trans ?_
        refine (tz_g_ic_ne (t := 116) (by decide) (tz_in0 rfl)).trans ?_
        refine tz_cg ?_ ?_
        · skip
          refine (tz_g_aload_n rfl (tz_in0 rfl)).trans ?_
          refine (tz_g_getr (j := 76) rfl rfl rfl rfl rfl (tz_in0 rfl)).trans ?_
          refine (tz_g_geti rfl rfl rfl (tz_in0 rfl)).trans ?_
          exact tz_g_ret1 (tz_in0 rfl) rfl
        · skip
          refine (tz_g_aload_n rfl (tz_in0 rfl)).trans ?_
          refine (tz_g_getr (j := 150) rfl rfl rfl rfl rfl (tz_in0 rfl)).trans ?_
          refine (tz_g_geti rfl rfl rfl (tz_in0 rfl)).trans ?_
          refine (tz_g_goto (t := 123) (by decide) (tz_in0 rfl)).trans ?_
          exact tz_g_ret1 (tz_in0 rfl) rfl
    · skip
      refine (tz_g_aload_n rfl (tz_in0 rfl)).trans ?_
      refine (tz_g_getr (j := 76) rfl rfl rfl rfl rfl (tz_in0 rfl)).trans ?_
      refine (tz_g_cv0V (m2 := 80) (rc := 0) rfl rfl rfl rfl rfl rfl (by decide) (tz_in0 rfl)).trans ?_
      refine tz_jV (fun A1 => ?_)
      refine (tz_g_iinc (v := 1) (L2 := [some (.ref 17), none, some (.int z2), some (.int (z3 + 1))]) rfl rfl rfl rfl (tz_in0 rfl)).trans ?_
      refine (tz_g_goto (t := 60) (by decide) (tz_in0 rfl)).trans ?_
      exact tz_Gm (L2 := [some (.ref 17), none, some (.int z2), some (.int (z3 + 1))]) rfl rfl rfl rfl

theorem e_X7_readItem (A : tz_Mem) : f_X7_readItem A =
  tz_bI (f_X7_readWord A) (fun y1 A1 =>
if (tz_g A1 122 0) = (-1) then
  tz_bI (f_X7_hasRoomFor y1 A1) (fun y2 A2 =>
  if ¬ y2 = 0 then
    if y1 = 0 then
      tz_bV (f_X7_readHill A2) (fun A3 =>
      some (none, A3))
    else if y1 = 1 then
      tz_bV (f_X7_readStorm A2) (fun A3 =>
      some (none, A3))
    else if y1 = 2 then
      tz_bV (f_X7_readLetter A2) (fun A3 =>
      some (none, A3))
    else if y1 = 3 then
      tz_bV (f_X7_readHour A2) (fun A3 =>
      some (none, A3))
    else tz_bV (f_X7_readBurn A2) (fun A3 =>
    some (none, A3))
  else
    some (none, (tz_s A2 122 0 (tz_g A 122 5))))
else
  some (none, A1)) := by
  refine (tz_Fe (L := [some (.ref 122), none, none]) rfl).trans ?_
  refine (tz_g_aload_n rfl (tz_in0 rfl)).trans ?_
  refine (tz_g_geti rfl rfl rfl (tz_in0 rfl)).trans ?_
  refine (tz_g_istore_n (L2 := [some (.ref 122), some (.int (tz_g A 122 5)), none]) rfl rfl (tz_in0 rfl)).trans ?_
  refine (tz_g_aload_n rfl (tz_in0 rfl)).trans ?_
  refine (tz_g_cv0I (m2 := 60) (rc := 1) rfl rfl rfl rfl rfl rfl (by decide) (tz_in0 rfl)).trans ?_
  refine tz_jI (fun y1 A1 => ?_)
  refine (tz_g_istore_n (L2 := [some (.ref 122), some (.int (tz_g A 122 5)), some (.int y1)]) rfl rfl (tz_in0 rfl)).trans ?_
  refine (tz_g_aload_n rfl (tz_in0 rfl)).trans ?_
  refine (tz_g_geti rfl rfl rfl (tz_in0 rfl)).trans ?_
  refine (tz_g_iconst (v := (-1)) rfl (tz_in0 rfl)).trans ?_
  refine (tz_g_ic_eq (t := 19) (by decide) (tz_in0 rfl)).trans ?_
  refine tz_cg ?_ ?_
  · skip
    refine (tz_g_aload_n rfl (tz_in0 rfl)).trans ?_
    refine (tz_g_iload_n rfl (tz_in0 rfl)).trans ?_
    refine (tz_g_cv1I (m2 := 70) (rc := 4) rfl rfl rfl rfl rfl rfl (by decide) (tz_in0 rfl)).trans ?_
    refine tz_jI (fun y2 A2 => ?_)
    refine (tz_g_if_ne (t := 33) (by decide) (tz_in0 rfl)).trans ?_
    refine tz_cg ?_ ?_
    · skip
      refine (tz_g_iload_n rfl (tz_in0 rfl)).trans ?_
      refine (tz_g_tsw (by decide) (tz_in0 rfl)).trans ?_
      refine tz_swc (v := 0) (by decide) ?_ ?_
      · refine (tz_tg (t := 64) (by decide)).trans ?_
        refine (tz_g_aload_n rfl (tz_in0 rfl)).trans ?_
        refine (tz_g_cv0V (m2 := 71) (rc := 0) rfl rfl rfl rfl rfl rfl (by decide) (tz_in0 rfl)).trans ?_
        refine tz_jV (fun A3 => ?_)
        refine (tz_g_goto (t := 96) (by decide) (tz_in0 rfl)).trans ?_
        exact tz_g_ret0 (tz_in0 rfl) rfl
      refine tz_swc (v := 1) (by decide) ?_ ?_
      · refine (tz_tg (t := 71) (by decide)).trans ?_
        refine (tz_g_aload_n rfl (tz_in0 rfl)).trans ?_
        refine (tz_g_cv0V (m2 := 75) (rc := 0) rfl rfl rfl rfl rfl rfl (by decide) (tz_in0 rfl)).trans ?_
        refine tz_jV (fun A3 => ?_)
        refine (tz_g_goto (t := 96) (by decide) (tz_in0 rfl)).trans ?_
        exact tz_g_ret0 (tz_in0 rfl) rfl
      refine tz_swc (v := 2) (by decide) ?_ ?_
      · refine (tz_tg (t := 78) (by decide)).trans ?_
        refine (tz_g_aload_n rfl (tz_in0 rfl)).trans ?_
        refine (tz_g_cv0V (m2 := 78) (rc := 0) rfl rfl rfl rfl rfl rfl (by decide) (tz_in0 rfl)).trans ?_
        refine tz_jV (fun A3 => ?_)
        refine (tz_g_goto (t := 96) (by decide) (tz_in0 rfl)).trans ?_
        exact tz_g_ret0 (tz_in0 rfl) rfl
      refine tz_swc (v := 3) (by decide) ?_ ?_
      · refine (tz_tg (t := 85) (by decide)).trans ?_
        refine (tz_g_aload_n rfl (tz_in0 rfl)).trans ?_
        refine (tz_g_cv0V (m2 := 79) (rc := 0) rfl rfl rfl rfl rfl rfl (by decide) (tz_in0 rfl)).trans ?_
        refine tz_jV (fun A3 => ?_)
        refine (tz_g_goto (t := 96) (by decide) (tz_in0 rfl)).trans ?_
        exact tz_g_ret0 (tz_in0 rfl) rfl
      refine tz_swd ?_
      refine (tz_tg (t := 92) (by decide)).trans ?_
      refine (tz_g_aload_n rfl (tz_in0 rfl)).trans ?_
      refine (tz_g_cv0V (m2 := 93) (rc := 0) rfl rfl rfl rfl rfl rfl (by decide) (tz_in0 rfl)).trans ?_
      refine tz_jV (fun A3 => ?_)
      exact tz_g_ret0 (tz_in0 rfl) rfl
    · skip
      refine (tz_g_aload_n rfl (tz_in0 rfl)).trans ?_
      refine (tz_g_iload_n rfl (tz_in0 rfl)).trans ?_
      refine (tz_g_puti rfl rfl rfl (tz_in0 rfl)).trans ?_
      exact tz_g_ret0 (tz_in0 rfl) rfl
  · skip
    exact tz_g_ret0 (tz_in0 rfl) rfl

theorem e_X11_behind (x1 : Int32) (x2 : Int32) (x3 : Int32) (A : tz_Mem) : f_X11_behind x1 x2 x3 A =
  tz_bI (f_X4_has 30 x1 A) (fun y1 A1 =>
if y1 = 0 then
  tz_bI (f_X11_refuse (-5) A1) (fun y2 A2 =>
  some (some (.int y2), A2))
else
  tz_bI (f_X11_isOneOfTwo x3 A1) (fun y2 A2 =>
  if ¬ y2 = 0 then
    if x2 < 0 then
      tz_bI (f_X11_refuse (-6) A2) (fun y3 A3 =>
      some (some (.int y3), A3))
    else
      if x2 ≤ 500 then
        tz_bV (f_X9_become 76 30 A2) (fun A3 =>
        tz_bV (f_X9_pass 76 x2 A3) (fun A4 =>
        if ¬ x3 = 0 then
          if x1 < 0 ∨ 12 ≤ (Int32.toNatClampNeg x1) then none else
          some (some (.int (tz_g A4 92 (Int32.toNatClampNeg x1))), A4)
        else
          if x1 < 0 ∨ 12 ≤ (Int32.toNatClampNeg x1) then none else
          some (some (.int (tz_g A4 96 (Int32.toNatClampNeg x1))), A4)))
      else
        tz_bI (f_X11_refuse (-6) A2) (fun y3 A3 =>
        some (some (.int y3), A3))
  else
    tz_bI (f_X11_refuse (-5) A2) (fun y3 A3 =>
    some (some (.int y3), A3)))) := by
  refine (tz_Fe (L := [some (.ref 17), some (.int x1), some (.int x2), some (.int x3)]) rfl).trans ?_
  refine (tz_g_aload_n rfl (tz_in0 rfl)).trans ?_
  refine (tz_g_getr (j := 30) rfl rfl rfl rfl rfl (tz_in0 rfl)).trans ?_
  refine (tz_g_getr (j := 45) rfl rfl rfl rfl rfl (tz_in0 rfl)).trans ?_
  refine (tz_g_iload_n rfl (tz_in0 rfl)).trans ?_
  refine (tz_g_cv1I (m2 := 52) (rc := 4) rfl rfl rfl rfl rfl rfl (by decide) (tz_in0 rfl)).trans ?_
  refine tz_jI (fun y1 A1 => ?_)
  refine (tz_g_if_eq (t := 21) (by decide) (tz_in0 rfl)).trans ?_
  refine tz_cg ?_ ?_
  · skip
    refine (tz_g_aload_n rfl (tz_in0 rfl)).trans ?_
    refine (tz_g_bipush (v := (-5)) rfl (tz_in0 rfl)).trans ?_
    refine (tz_g_cv1I (m2 := 15) (rc := 1) rfl rfl rfl rfl rfl rfl (by decide) (tz_in0 rfl)).trans ?_
    refine tz_jI (fun y2 A2 => ?_)
    exact tz_g_ret1 (tz_in0 rfl) rfl
  · skip
    refine (tz_g_iload_n rfl (tz_in0 rfl)).trans ?_
    refine (tz_g_cs1I (m2 := 98) (rc := 4) rfl rfl rfl rfl rfl rfl (by decide) (tz_in0 rfl)).trans ?_
    refine tz_jI (fun y2 A2 => ?_)
    refine (tz_g_if_ne (t := 28) (by decide) (tz_in0 rfl)).trans ?_
    refine tz_cg ?_ ?_
    · skip
      refine (tz_g_iload_n rfl (tz_in0 rfl)).trans ?_
      refine (tz_g_if_lt (t := 39) (by decide) (tz_in0 rfl)).trans ?_
      refine tz_cg ?_ ?_
      · skip
        refine (tz_g_aload_n rfl (tz_in0 rfl)).trans ?_
        refine (tz_g_bipush (v := (-6)) rfl (tz_in0 rfl)).trans ?_
        refine (tz_g_cv1I (m2 := 15) (rc := 1) rfl rfl rfl rfl rfl rfl (by decide) (tz_in0 rfl)).trans ?_
        refine tz_jI (fun y3 A3 => ?_)
        exact tz_g_ret1 (tz_in0 rfl) rfl
      · skip
        refine (tz_g_iload_n rfl (tz_in0 rfl)).trans ?_
        refine (tz_g_sipush (v := 500) rfl (tz_in0 rfl)).trans ?_
        refine (tz_g_ic_le (t := 46) (by decide) (tz_in0 rfl)).trans ?_
        refine tz_cg ?_ ?_
        · skip
          refine (tz_g_aload_n rfl (tz_in0 rfl)).trans ?_
          refine (tz_g_getr (j := 76) rfl rfl rfl rfl rfl (tz_in0 rfl)).trans ?_
          refine (tz_g_aload_n rfl (tz_in0 rfl)).trans ?_
          refine (tz_g_getr (j := 30) rfl rfl rfl rfl rfl (tz_in0 rfl)).trans ?_
          refine (tz_g_cv1V (m2 := 55) (rc := 0) rfl rfl rfl rfl rfl rfl (by decide) (tz_in0 rfl)).trans ?_
          refine tz_jV (fun A3 => ?_)
          refine (tz_g_aload_n rfl (tz_in0 rfl)).trans ?_
          refine (tz_g_getr (j := 76) rfl rfl rfl rfl rfl (tz_in0 rfl)).trans ?_
          refine (tz_g_iload_n rfl (tz_in0 rfl)).trans ?_
          refine (tz_g_cv1V (m2 := 99) (rc := 0) rfl rfl rfl rfl rfl rfl (by decide) (tz_in0 rfl)).trans ?_
          refine tz_jV (fun A4 => ?_)
          refine (tz_g_iload_n rfl (tz_in0 rfl)).trans ?_
          refine (tz_g_if_ne (t := 84) (by decide) (tz_in0 rfl)).trans ?_
          refine tz_cg ?_ ?_
          · skip
            refine (tz_g_aload_n rfl (tz_in0 rfl)).trans ?_
            refine (tz_g_getr (j := 76) rfl rfl rfl rfl rfl (tz_in0 rfl)).trans ?_
            refine (tz_g_getr (j := 91) rfl rfl rfl rfl rfl (tz_in0 rfl)).trans ?_
            refine (tz_g_getr (j := 92) rfl rfl rfl rfl rfl (tz_in0 rfl)).trans ?_
            refine (tz_g_iload_n rfl (tz_in0 rfl)).trans ?_
            refine (tz_g_iald (n := 12) rfl rfl rfl (tz_in0 rfl)).trans ?_
            refine tz_cn1 ?_
            exact tz_g_ret1 (tz_in0 rfl) rfl
          · skip
            refine (tz_g_aload_n rfl (tz_in0 rfl)).trans ?_
            refine (tz_g_getr (j := 76) rfl rfl rfl rfl rfl (tz_in0 rfl)).trans ?_
            refine (tz_g_getr (j := 91) rfl rfl rfl rfl rfl (tz_in0 rfl)).trans ?_
            refine (tz_g_getr (j := 96) rfl rfl rfl rfl rfl (tz_in0 rfl)).trans ?_
            refine (tz_g_iload_n rfl (tz_in0 rfl)).trans ?_
            refine (tz_g_iald (n := 12) rfl rfl rfl (tz_in0 rfl)).trans ?_
            refine tz_cn1 ?_
            refine (tz_g_goto (t := 96) (by decide) (tz_in0 rfl)).trans ?_
            exact tz_g_ret1 (tz_in0 rfl) rfl
        · skip
          refine (tz_g_aload_n rfl (tz_in0 rfl)).trans ?_
          refine (tz_g_bipush (v := (-6)) rfl (tz_in0 rfl)).trans ?_
          refine (tz_g_cv1I (m2 := 15) (rc := 1) rfl rfl rfl rfl rfl rfl (by decide) (tz_in0 rfl)).trans ?_
          refine tz_jI (fun y3 A3 => ?_)
          exact tz_g_ret1 (tz_in0 rfl) rfl
    · skip
      refine (tz_g_aload_n rfl (tz_in0 rfl)).trans ?_
      refine (tz_g_bipush (v := (-5)) rfl (tz_in0 rfl)).trans ?_
      refine (tz_g_cv1I (m2 := 15) (rc := 1) rfl rfl rfl rfl rfl rfl (by decide) (tz_in0 rfl)).trans ?_
      refine tz_jI (fun y3 A3 => ?_)
      exact tz_g_ret1 (tz_in0 rfl) rfl

theorem e_X11_arrivalWithout (x1 : Int32) (x2 : Int32) (A : tz_Mem) : f_X11_arrivalWithout x1 x2 A =
  tz_bV (f_X9_become 76 30 A) (fun A1 =>
tz_bI (f_X9_arrival 76 x1 2147483647 (tz_s A1 76 6 x2)) (fun y2 A2 =>
some (some (.int y2), A2))) := by
  refine (tz_Fe (L := [some (.ref 17), some (.int x1), some (.int x2)]) rfl).trans ?_
  refine (tz_g_aload_n rfl (tz_in0 rfl)).trans ?_
  refine (tz_g_getr (j := 76) rfl rfl rfl rfl rfl (tz_in0 rfl)).trans ?_
  refine (tz_g_aload_n rfl (tz_in0 rfl)).trans ?_
  refine (tz_g_getr (j := 30) rfl rfl rfl rfl rfl (tz_in0 rfl)).trans ?_
  refine (tz_g_cv1V (m2 := 55) (rc := 0) rfl rfl rfl rfl rfl rfl (by decide) (tz_in0 rfl)).trans ?_
  refine tz_jV (fun A1 => ?_)
  refine (tz_g_aload_n rfl (tz_in0 rfl)).trans ?_
  refine (tz_g_getr (j := 76) rfl rfl rfl rfl rfl (tz_in0 rfl)).trans ?_
  refine (tz_g_iload_n rfl (tz_in0 rfl)).trans ?_
  refine (tz_g_puti rfl rfl rfl (tz_in0 rfl)).trans ?_
  refine (tz_g_aload_n rfl (tz_in0 rfl)).trans ?_
  refine (tz_g_getr (j := 76) rfl rfl rfl rfl rfl (tz_in0 rfl)).trans ?_
  refine (tz_g_iload_n rfl (tz_in0 rfl)).trans ?_
  refine (tz_g_ldc_w (v := 2147483647) rfl rfl (tz_in0 rfl)).trans ?_
  refine (tz_g_cv2I (m2 := 103) (rc := 1) rfl rfl rfl rfl rfl rfl (by decide) (tz_in0 rfl)).trans ?_
  refine tz_jI (fun y2 A2 => ?_)
  exact tz_g_ret1 (tz_in0 rfl) rfl

theorem e_X11_postage (A : tz_Mem) : f_X11_postage A =
  tz_bV (f_X9_become 76 30 A) (fun A1 =>
tz_bV (f_X9_pass 76 500 A1) (fun A2 =>
q_X11_postage_25 0 0 A2)) := by
  refine (tz_Fe (L := [some (.ref 17), none, none, none, none]) rfl).trans ?_
  refine (tz_g_aload_n rfl (tz_in0 rfl)).trans ?_
  refine (tz_g_getr (j := 76) rfl rfl rfl rfl rfl (tz_in0 rfl)).trans ?_
  refine (tz_g_aload_n rfl (tz_in0 rfl)).trans ?_
  refine (tz_g_getr (j := 30) rfl rfl rfl rfl rfl (tz_in0 rfl)).trans ?_
  refine (tz_g_cv1V (m2 := 55) (rc := 0) rfl rfl rfl rfl rfl rfl (by decide) (tz_in0 rfl)).trans ?_
  refine tz_jV (fun A1 => ?_)
  refine (tz_g_aload_n rfl (tz_in0 rfl)).trans ?_
  refine (tz_g_getr (j := 76) rfl rfl rfl rfl rfl (tz_in0 rfl)).trans ?_
  refine (tz_g_sipush (v := 500) rfl (tz_in0 rfl)).trans ?_
  refine (tz_g_cv1V (m2 := 99) (rc := 0) rfl rfl rfl rfl rfl rfl (by decide) (tz_in0 rfl)).trans ?_
  refine tz_jV (fun A2 => ?_)
  refine (tz_g_iconst (v := 0) rfl (tz_in0 rfl)).trans ?_
  refine (tz_g_istore_n (L2 := [some (.ref 17), some (.int 0), none, none, none]) rfl rfl (tz_in0 rfl)).trans ?_
  refine (tz_g_iconst (v := 0) rfl (tz_in0 rfl)).trans ?_
  refine (tz_g_istore_n (L2 := [some (.ref 17), some (.int 0), some (.int 0), none, none]) rfl rfl (tz_in0 rfl)).trans ?_
  exact tz_Gm (L2 := [some (.ref 17), some (.int 0), some (.int 0), none, none]) rfl rfl rfl rfl

theorem e_X11_postage_25 (z1 : Int32) (z2 : Int32) (A : tz_Mem) : q_X11_postage_25 z1 z2 A =
  if (tz_g A 45 0) ≤ z2 then
  some (some (.int z1), A)
else
  tz_bI (f_X4_isUnderWay 30 z2 A) (fun y1 A1 =>
  if y1 = 0 then
    q_X11_postage_25 z1 (z2 + 1) A1
  else
    if z2 < 0 ∨ 12 ≤ (Int32.toNatClampNeg z2) then none else
    if ¬ (tz_g A1 97 (Int32.toNatClampNeg z2)) = (-1) then
      if z2 < 0 ∨ 12 ≤ (Int32.toNatClampNeg z2) then none else
      q_X11_postage_25 (z1 + (((tz_g A1 97 (Int32.toNatClampNeg z2)) - (tz_g A1 30 3)) * (tz_g A1 49 (Int32.toNatClampNeg z2)))) (z2 + 1) A1
    else
      if z2 < 0 ∨ 12 ≤ (Int32.toNatClampNeg z2) then none else
      q_X11_postage_25 (z1 + (500 * (tz_g A1 49 (Int32.toNatClampNeg z2)))) (z2 + 1) A1) := by
  show tz_Go 105 25 [some (.ref 17), some (.int z1), some (.int z2), none, none] [] A = _
  refine (tz_g_iload_n rfl (tz_inM rfl rfl rfl)).trans ?_
  refine (tz_g_aload_n rfl (tz_in0 rfl)).trans ?_
  refine (tz_g_getr (j := 30) rfl rfl rfl rfl rfl (tz_in0 rfl)).trans ?_
  refine (tz_g_getr (j := 45) rfl rfl rfl rfl rfl (tz_in0 rfl)).trans ?_
  refine (tz_g_geti rfl rfl rfl (tz_in0 rfl)).trans ?_
  refine (tz_g_ic_ge (t := 112) (by decide) (tz_in0 rfl)).trans ?_
  refine tz_cg ?_ ?_
  · skip
    refine (tz_g_iload_n rfl (tz_in0 rfl)).trans ?_
    exact tz_g_ret1 (tz_in0 rfl) rfl
  · skip
    refine (tz_g_aload_n rfl (tz_in0 rfl)).trans ?_
    refine (tz_g_getr (j := 30) rfl rfl rfl rfl rfl (tz_in0 rfl)).trans ?_
    refine (tz_g_getr (j := 45) rfl rfl rfl rfl rfl (tz_in0 rfl)).trans ?_
    refine (tz_g_iload_n rfl (tz_in0 rfl)).trans ?_
    refine (tz_g_cv1I (m2 := 104) (rc := 4) rfl rfl rfl rfl rfl rfl (by decide) (tz_in0 rfl)).trans ?_
    refine tz_jI (fun y1 A1 => ?_)
    refine (tz_g_if_eq (t := 106) (by decide) (tz_in0 rfl)).trans ?_
    refine tz_cg ?_ ?_
    · skip
      refine (tz_g_iinc (v := 1) (L2 := [some (.ref 17), some (.int z1), some (.int (z2 + 1)), none, none]) rfl rfl rfl rfl (tz_in0 rfl)).trans ?_
      refine (tz_g_goto (t := 25) (by decide) (tz_in0 rfl)).trans ?_
      exact tz_Gm (L2 := [some (.ref 17), some (.int z1), some (.int (z2 + 1)), none, none]) rfl rfl rfl rfl
    · skip
      refine (tz_g_aload_n rfl (tz_in0 rfl)).trans ?_
      refine (tz_g_getr (j := 76) rfl rfl rfl rfl rfl (tz_in0 rfl)).trans ?_
      refine (tz_g_getr (j := 91) rfl rfl rfl rfl rfl (tz_in0 rfl)).trans ?_
      refine (tz_g_getr (j := 97) rfl rfl rfl rfl rfl (tz_in0 rfl)).trans ?_
      refine (tz_g_iload_n rfl (tz_in0 rfl)).trans ?_
      refine (tz_g_iald (n := 12) rfl rfl rfl (tz_in0 rfl)).trans ?_
      refine tz_cn1 ?_
      refine (tz_g_istore_n (L2 := [some (.ref 17), some (.int z1), some (.int z2), some (.int (tz_g A1 97 (Int32.toNatClampNeg z2))), none]) rfl rfl (tz_in0 rfl)).trans ?_
      refine (tz_g_iload_n rfl (tz_in0 rfl)).trans ?_
      refine (tz_g_iconst (v := (-1)) rfl (tz_in0 rfl)).trans ?_
      refine (tz_g_ic_ne (t := 77) (by decide) (tz_in0 rfl)).trans ?_
      refine tz_cg ?_ ?_
      · skip
        refine (tz_g_iload_n rfl (tz_in0 rfl)).trans ?_
        refine (tz_g_aload_n rfl (tz_in0 rfl)).trans ?_
        refine (tz_g_getr (j := 30) rfl rfl rfl rfl rfl (tz_in0 rfl)).trans ?_
        refine (tz_g_geti rfl rfl rfl (tz_in0 rfl)).trans ?_
        refine (tz_g_isub (tz_in0 rfl)).trans ?_
        refine (tz_g_istore (L2 := [some (.ref 17), some (.int z1), some (.int z2), some (.int (tz_g A1 97 (Int32.toNatClampNeg z2))), some (.int ((tz_g A1 97 (Int32.toNatClampNeg z2)) - (tz_g A1 30 3)))]) rfl rfl (tz_in0 rfl)).trans ?_
        refine (tz_g_iload_n rfl (tz_in0 rfl)).trans ?_
        refine (tz_g_iload rfl (tz_in0 rfl)).trans ?_
        refine (tz_g_aload_n rfl (tz_in0 rfl)).trans ?_
        refine (tz_g_getr (j := 30) rfl rfl rfl rfl rfl (tz_in0 rfl)).trans ?_
        refine (tz_g_getr (j := 45) rfl rfl rfl rfl rfl (tz_in0 rfl)).trans ?_
        refine (tz_g_getr (j := 49) rfl rfl rfl rfl rfl (tz_in0 rfl)).trans ?_
        refine (tz_g_iload_n rfl (tz_in0 rfl)).trans ?_
        refine (tz_g_iald (n := 12) rfl rfl rfl (tz_in0 rfl)).trans ?_
        refine tz_cn1 ?_
        refine (tz_g_imul (tz_in0 rfl)).trans ?_
        refine (tz_g_iadd (tz_in0 rfl)).trans ?_
        refine (tz_g_istore_n (L2 := [some (.ref 17), some (.int (z1 + (((tz_g A1 97 (Int32.toNatClampNeg z2)) - (tz_g A1 30 3)) * (tz_g A1 49 (Int32.toNatClampNeg z2))))), some (.int z2), some (.int (tz_g A1 97 (Int32.toNatClampNeg z2))), some (.int ((tz_g A1 97 (Int32.toNatClampNeg z2)) - (tz_g A1 30 3)))]) rfl rfl (tz_in0 rfl)).trans ?_
        refine (tz_g_iinc (v := 1) (L2 := [some (.ref 17), some (.int (z1 + (((tz_g A1 97 (Int32.toNatClampNeg z2)) - (tz_g A1 30 3)) * (tz_g A1 49 (Int32.toNatClampNeg z2))))), some (.int (z2 + 1)), some (.int (tz_g A1 97 (Int32.toNatClampNeg z2))), some (.int ((tz_g A1 97 (Int32.toNatClampNeg z2)) - (tz_g A1 30 3)))]) rfl rfl rfl rfl (tz_in0 rfl)).trans ?_
        refine (tz_g_goto (t := 25) (by decide) (tz_in0 rfl)).trans ?_
        exact tz_Gm (L2 := [some (.ref 17), some (.int (z1 + (((tz_g A1 97 (Int32.toNatClampNeg z2)) - (tz_g A1 30 3)) * (tz_g A1 49 (Int32.toNatClampNeg z2))))), some (.int (z2 + 1)), none, none]) rfl rfl rfl rfl
      · skip
        refine (tz_g_sipush (v := 500) rfl (tz_in0 rfl)).trans ?_
        refine (tz_g_goto (t := 86) (by decide) (tz_in0 rfl)).trans ?_
        refine (tz_g_istore (L2 := [some (.ref 17), some (.int z1), some (.int z2), some (.int (tz_g A1 97 (Int32.toNatClampNeg z2))), some (.int 500)]) rfl rfl (tz_in0 rfl)).trans ?_
        refine (tz_g_iload_n rfl (tz_in0 rfl)).trans ?_
        refine (tz_g_iload rfl (tz_in0 rfl)).trans ?_
        refine (tz_g_aload_n rfl (tz_in0 rfl)).trans ?_
        refine (tz_g_getr (j := 30) rfl rfl rfl rfl rfl (tz_in0 rfl)).trans ?_
        refine (tz_g_getr (j := 45) rfl rfl rfl rfl rfl (tz_in0 rfl)).trans ?_
        refine (tz_g_getr (j := 49) rfl rfl rfl rfl rfl (tz_in0 rfl)).trans ?_
        refine (tz_g_iload_n rfl (tz_in0 rfl)).trans ?_
        refine (tz_g_iald (n := 12) rfl rfl rfl (tz_in0 rfl)).trans ?_
        refine tz_cn1 ?_
        refine (tz_g_imul (tz_in0 rfl)).trans ?_
        refine (tz_g_iadd (tz_in0 rfl)).trans ?_
        refine (tz_g_istore_n (L2 := [some (.ref 17), some (.int (z1 + (500 * (tz_g A1 49 (Int32.toNatClampNeg z2))))), some (.int z2), some (.int (tz_g A1 97 (Int32.toNatClampNeg z2))), some (.int 500)]) rfl rfl (tz_in0 rfl)).trans ?_
        refine (tz_g_iinc (v := 1) (L2 := [some (.ref 17), some (.int (z1 + (500 * (tz_g A1 49 (Int32.toNatClampNeg z2))))), some (.int (z2 + 1)), some (.int (tz_g A1 97 (Int32.toNatClampNeg z2))), some (.int 500)]) rfl rfl rfl rfl (tz_in0 rfl)).trans ?_
        refine (tz_g_goto (t := 25) (by decide) (tz_in0 rfl)).trans ?_
        exact tz_Gm (L2 := [some (.ref 17), some (.int (z1 + (500 * (tz_g A1 49 (Int32.toNatClampNeg z2))))), some (.int (z2 + 1)), none, none]) rfl rfl rfl rfl

theorem e_X11_hours (x1 : Int32) (A : tz_Mem) : f_X11_hours x1 A =
  if x1 < 1 then
  tz_bI (f_X11_refuse (-6) A) (fun y1 A1 =>
  some (some (.int y1), A1))
else
  if x1 ≤ 500 then
    tz_bI (f_X4_countWhere 30 200 A) (fun y1 A1 =>
    tz_bV (f_X9_pass 30 x1 A1) (fun A2 =>
    tz_bI (f_X4_countWhere 30 200 A2) (fun y3 A3 =>
    some (some (.int (y3 - y1)), A3))))
  else
    tz_bI (f_X11_refuse (-6) A) (fun y1 A1 =>
    some (some (.int y1), A1)) := by
  refine (tz_Fe (L := [some (.ref 17), some (.int x1), none]) rfl).trans ?_
  refine (tz_g_iload_n rfl (tz_in0 rfl)).trans ?_
  refine (tz_g_iconst (v := 1) rfl (tz_in0 rfl)).trans ?_
  refine (tz_g_ic_lt (t := 12) (by decide) (tz_in0 rfl)).trans ?_
  refine tz_cg ?_ ?_
  · skip
    refine (tz_g_aload_n rfl (tz_in0 rfl)).trans ?_
    refine (tz_g_bipush (v := (-6)) rfl (tz_in0 rfl)).trans ?_
    refine (tz_g_cv1I (m2 := 15) (rc := 1) rfl rfl rfl rfl rfl rfl (by decide) (tz_in0 rfl)).trans ?_
    refine tz_jI (fun y1 A1 => ?_)
    exact tz_g_ret1 (tz_in0 rfl) rfl
  · skip
    refine (tz_g_iload_n rfl (tz_in0 rfl)).trans ?_
    refine (tz_g_sipush (v := 500) rfl (tz_in0 rfl)).trans ?_
    refine (tz_g_ic_le (t := 19) (by decide) (tz_in0 rfl)).trans ?_
    refine tz_cg ?_ ?_
    · skip
      refine (tz_g_aload_n rfl (tz_in0 rfl)).trans ?_
      refine (tz_g_getr (j := 30) rfl rfl rfl rfl rfl (tz_in0 rfl)).trans ?_
      refine (tz_g_getr (j := 45) rfl rfl rfl rfl rfl (tz_in0 rfl)).trans ?_
      refine (tz_g_sipush (v := 200) rfl (tz_in0 rfl)).trans ?_
      refine (tz_g_cv1I (m2 := 107) (rc := 1) rfl rfl rfl rfl rfl rfl (by decide) (tz_in0 rfl)).trans ?_
      refine tz_jI (fun y1 A1 => ?_)
      refine (tz_g_istore_n (L2 := [some (.ref 17), some (.int x1), some (.int y1)]) rfl rfl (tz_in0 rfl)).trans ?_
      refine (tz_g_aload_n rfl (tz_in0 rfl)).trans ?_
      refine (tz_g_getr (j := 30) rfl rfl rfl rfl rfl (tz_in0 rfl)).trans ?_
      refine (tz_g_iload_n rfl (tz_in0 rfl)).trans ?_
      refine (tz_g_cv1V (m2 := 99) (rc := 0) rfl rfl rfl rfl rfl rfl (by decide) (tz_in0 rfl)).trans ?_
      refine tz_jV (fun A2 => ?_)
      refine (tz_g_aload_n rfl (tz_in0 rfl)).trans ?_
      refine (tz_g_getr (j := 30) rfl rfl rfl rfl rfl (tz_in0 rfl)).trans ?_
      refine (tz_g_getr (j := 45) rfl rfl rfl rfl rfl (tz_in0 rfl)).trans ?_
      refine (tz_g_sipush (v := 200) rfl (tz_in0 rfl)).trans ?_
      refine (tz_g_cv1I (m2 := 107) (rc := 1) rfl rfl rfl rfl rfl rfl (by decide) (tz_in0 rfl)).trans ?_
      refine tz_jI (fun y3 A3 => ?_)
      refine (tz_g_iload_n rfl (tz_in0 rfl)).trans ?_
      refine (tz_g_isub (tz_in0 rfl)).trans ?_
      exact tz_g_ret1 (tz_in0 rfl) rfl
    · skip
      refine (tz_g_aload_n rfl (tz_in0 rfl)).trans ?_
      refine (tz_g_bipush (v := (-6)) rfl (tz_in0 rfl)).trans ?_
      refine (tz_g_cv1I (m2 := 15) (rc := 1) rfl rfl rfl rfl rfl rfl (by decide) (tz_in0 rfl)).trans ?_
      refine tz_jI (fun y1 A1 => ?_)
      exact tz_g_ret1 (tz_in0 rfl) rfl

theorem e_X11_loudest (x1 : Int32) (x2 : Int32) (A : tz_Mem) : f_X11_loudest x1 x2 A =
  if (tz_g A 31 0) = 0 then
  tz_bI (f_X11_refuse (-5) A) (fun y1 A1 =>
  some (some (.int y1), A1))
else
  tz_bI (f_X11_isOneOfTwo x2 A) (fun y1 A1 =>
  if ¬ y1 = 0 then
    if x1 < 0 then
      tz_bI (f_X11_refuse (-6) A1) (fun y2 A2 =>
      some (some (.int y2), A2))
    else
      if x1 ≤ 500 then
        tz_bV (f_X9_become 76 30 A1) (fun A2 =>
        tz_bV (f_X9_pass 76 x1 A2) (fun A3 =>
        q_X11_loudest_72 x2 0 (-1) 0 A3))
      else
        tz_bI (f_X11_refuse (-6) A1) (fun y2 A2 =>
        some (some (.int y2), A2))
  else
    tz_bI (f_X11_refuse (-5) A1) (fun y2 A2 =>
    some (some (.int y2), A2))) := by
  refine (tz_Fe (L := [some (.ref 17), some (.int x1), some (.int x2), none, none, none, none]) rfl).trans ?_
  refine (tz_g_aload_n rfl (tz_in0 rfl)).trans ?_
  refine (tz_g_getr (j := 30) rfl rfl rfl rfl rfl (tz_in0 rfl)).trans ?_
  refine (tz_g_getr (j := 31) rfl rfl rfl rfl rfl (tz_in0 rfl)).trans ?_
  refine (tz_g_geti rfl rfl rfl (tz_in0 rfl)).trans ?_
  refine (tz_g_if_eq (t := 20) (by decide) (tz_in0 rfl)).trans ?_
  refine tz_cg ?_ ?_
  · skip
    refine (tz_g_aload_n rfl (tz_in0 rfl)).trans ?_
    refine (tz_g_bipush (v := (-5)) rfl (tz_in0 rfl)).trans ?_
    refine (tz_g_cv1I (m2 := 15) (rc := 1) rfl rfl rfl rfl rfl rfl (by decide) (tz_in0 rfl)).trans ?_
    refine tz_jI (fun y1 A1 => ?_)
    exact tz_g_ret1 (tz_in0 rfl) rfl
  · skip
    refine (tz_g_iload_n rfl (tz_in0 rfl)).trans ?_
    refine (tz_g_cs1I (m2 := 98) (rc := 4) rfl rfl rfl rfl rfl rfl (by decide) (tz_in0 rfl)).trans ?_
    refine tz_jI (fun y1 A1 => ?_)
    refine (tz_g_if_ne (t := 27) (by decide) (tz_in0 rfl)).trans ?_
    refine tz_cg ?_ ?_
    · skip
      refine (tz_g_iload_n rfl (tz_in0 rfl)).trans ?_
      refine (tz_g_if_lt (t := 38) (by decide) (tz_in0 rfl)).trans ?_
      refine tz_cg ?_ ?_
      · skip
        refine (tz_g_aload_n rfl (tz_in0 rfl)).trans ?_
        refine (tz_g_bipush (v := (-6)) rfl (tz_in0 rfl)).trans ?_
        refine (tz_g_cv1I (m2 := 15) (rc := 1) rfl rfl rfl rfl rfl rfl (by decide) (tz_in0 rfl)).trans ?_
        refine tz_jI (fun y2 A2 => ?_)
        exact tz_g_ret1 (tz_in0 rfl) rfl
      · skip
        refine (tz_g_iload_n rfl (tz_in0 rfl)).trans ?_
        refine (tz_g_sipush (v := 500) rfl (tz_in0 rfl)).trans ?_
        refine (tz_g_ic_le (t := 45) (by decide) (tz_in0 rfl)).trans ?_
        refine tz_cg ?_ ?_
        · skip
          refine (tz_g_aload_n rfl (tz_in0 rfl)).trans ?_
          refine (tz_g_getr (j := 76) rfl rfl rfl rfl rfl (tz_in0 rfl)).trans ?_
          refine (tz_g_aload_n rfl (tz_in0 rfl)).trans ?_
          refine (tz_g_getr (j := 30) rfl rfl rfl rfl rfl (tz_in0 rfl)).trans ?_
          refine (tz_g_cv1V (m2 := 55) (rc := 0) rfl rfl rfl rfl rfl rfl (by decide) (tz_in0 rfl)).trans ?_
          refine tz_jV (fun A2 => ?_)
          refine (tz_g_aload_n rfl (tz_in0 rfl)).trans ?_
          refine (tz_g_getr (j := 76) rfl rfl rfl rfl rfl (tz_in0 rfl)).trans ?_
          refine (tz_g_iload_n rfl (tz_in0 rfl)).trans ?_
          refine (tz_g_cv1V (m2 := 99) (rc := 0) rfl rfl rfl rfl rfl rfl (by decide) (tz_in0 rfl)).trans ?_
          refine tz_jV (fun A3 => ?_)
          refine (tz_g_iconst (v := 0) rfl (tz_in0 rfl)).trans ?_
          refine (tz_g_istore_n (L2 := [some (.ref 17), some (.int x1), some (.int x2), some (.int 0), none, none, none]) rfl rfl (tz_in0 rfl)).trans ?_
          refine (tz_g_iconst (v := (-1)) rfl (tz_in0 rfl)).trans ?_
          refine (tz_g_istore (L2 := [some (.ref 17), some (.int x1), some (.int x2), some (.int 0), some (.int (-1)), none, none]) rfl rfl (tz_in0 rfl)).trans ?_
          refine (tz_g_iconst (v := 0) rfl (tz_in0 rfl)).trans ?_
          refine (tz_g_istore (L2 := [some (.ref 17), some (.int x1), some (.int x2), some (.int 0), some (.int (-1)), some (.int 0), none]) rfl rfl (tz_in0 rfl)).trans ?_
          exact tz_Gm (L2 := [some (.ref 17), none, some (.int x2), some (.int 0), some (.int (-1)), some (.int 0), none]) rfl rfl rfl rfl
        · skip
          refine (tz_g_aload_n rfl (tz_in0 rfl)).trans ?_
          refine (tz_g_bipush (v := (-6)) rfl (tz_in0 rfl)).trans ?_
          refine (tz_g_cv1I (m2 := 15) (rc := 1) rfl rfl rfl rfl rfl rfl (by decide) (tz_in0 rfl)).trans ?_
          refine tz_jI (fun y2 A2 => ?_)
          exact tz_g_ret1 (tz_in0 rfl) rfl
    · skip
      refine (tz_g_aload_n rfl (tz_in0 rfl)).trans ?_
      refine (tz_g_bipush (v := (-5)) rfl (tz_in0 rfl)).trans ?_
      refine (tz_g_cv1I (m2 := 15) (rc := 1) rfl rfl rfl rfl rfl rfl (by decide) (tz_in0 rfl)).trans ?_
      refine tz_jI (fun y2 A2 => ?_)
      exact tz_g_ret1 (tz_in0 rfl) rfl

theorem e_X11_loudest_72 (z2 : Int32) (z3 : Int32) (z4 : Int32) (z5 : Int32) (A : tz_Mem) : q_X11_loudest_72 z2 z3 z4 z5 A =
  if (tz_g A 31 0) ≤ z5 then
  some (some (.int z3), A)
else
  if ¬ z2 = 0 then
    if z5 < 0 ∨ 8 ≤ (Int32.toNatClampNeg z5) then none else
    tz_bI (f_J6_bitCount (tz_g A 80 (Int32.toNatClampNeg z5)) A) (fun y1 A1 =>
    if y1 ≤ z4 then
      q_X11_loudest_72 z2 z3 z4 (z5 + 1) A1
    else
      q_X11_loudest_72 z2 z5 y1 (z5 + 1) A1)
  else
    if z5 < 0 ∨ 8 ≤ (Int32.toNatClampNeg z5) then none else
    if z5 < 0 ∨ 8 ≤ (Int32.toNatClampNeg z5) then none else
    if ((tz_g A 81 (Int32.toNatClampNeg z5)) - (tz_g A 35 (Int32.toNatClampNeg z5))) ≤ z4 then
      q_X11_loudest_72 z2 z3 z4 (z5 + 1) A
    else
      q_X11_loudest_72 z2 z5 ((tz_g A 81 (Int32.toNatClampNeg z5)) - (tz_g A 35 (Int32.toNatClampNeg z5))) (z5 + 1) A := by
  show tz_Go 138 72 [some (.ref 17), none, some (.int z2), some (.int z3), some (.int z4), some (.int z5), none] [] A = _
  refine (tz_g_iload rfl (tz_inM rfl rfl rfl)).trans ?_
  refine (tz_g_aload_n rfl (tz_in0 rfl)).trans ?_
  refine (tz_g_getr (j := 30) rfl rfl rfl rfl rfl (tz_in0 rfl)).trans ?_
  refine (tz_g_getr (j := 31) rfl rfl rfl rfl rfl (tz_in0 rfl)).trans ?_
  refine (tz_g_geti rfl rfl rfl (tz_in0 rfl)).trans ?_
  refine (tz_g_ic_ge (t := 159) (by decide) (tz_in0 rfl)).trans ?_
  refine tz_cg ?_ ?_
  · skip
    refine (tz_g_iload_n rfl (tz_in0 rfl)).trans ?_
    exact tz_g_ret1 (tz_in0 rfl) rfl
  · skip
    refine (tz_g_iload_n rfl (tz_in0 rfl)).trans ?_
    refine (tz_g_if_ne (t := 121) (by decide) (tz_in0 rfl)).trans ?_
    refine tz_cg ?_ ?_
    · skip
      refine (tz_g_aload_n rfl (tz_in0 rfl)).trans ?_
      refine (tz_g_getr (j := 76) rfl rfl rfl rfl rfl (tz_in0 rfl)).trans ?_
      refine (tz_g_getr (j := 77) rfl rfl rfl rfl rfl (tz_in0 rfl)).trans ?_
      refine (tz_g_getr (j := 80) rfl rfl rfl rfl rfl (tz_in0 rfl)).trans ?_
      refine (tz_g_iload rfl (tz_in0 rfl)).trans ?_
      refine (tz_g_iald (n := 8) rfl rfl rfl (tz_in0 rfl)).trans ?_
      refine tz_cn1 ?_
      refine (tz_g_cs1I (m2 := 139) (rc := 1) rfl rfl rfl rfl rfl rfl (by decide) (tz_in0 rfl)).trans ?_
      refine tz_jI (fun y1 A1 => ?_)
      refine (tz_g_istore (L2 := [some (.ref 17), none, some (.int z2), some (.int z3), some (.int z4), some (.int z5), some (.int y1)]) rfl rfl (tz_in0 rfl)).trans ?_
      refine (tz_g_iload rfl (tz_in0 rfl)).trans ?_
      refine (tz_g_iload rfl (tz_in0 rfl)).trans ?_
      refine (tz_g_ic_le (t := 153) (by decide) (tz_in0 rfl)).trans ?_
      refine tz_cg ?_ ?_
      · skip
        refine (tz_g_iinc (v := 1) (L2 := [some (.ref 17), none, some (.int z2), some (.int z3), some (.int z4), some (.int (z5 + 1)), some (.int y1)]) rfl rfl rfl rfl (tz_in0 rfl)).trans ?_
        refine (tz_g_goto (t := 72) (by decide) (tz_in0 rfl)).trans ?_
        exact tz_Gm (L2 := [some (.ref 17), none, some (.int z2), some (.int z3), some (.int z4), some (.int (z5 + 1)), none]) rfl rfl rfl rfl
      · skip
        refine (tz_g_iload rfl (tz_in0 rfl)).trans ?_
        refine (tz_g_istore (L2 := [some (.ref 17), none, some (.int z2), some (.int z3), some (.int y1), some (.int z5), some (.int y1)]) rfl rfl (tz_in0 rfl)).trans ?_
        refine (tz_g_iload rfl (tz_in0 rfl)).trans ?_
        refine (tz_g_istore_n (L2 := [some (.ref 17), none, some (.int z2), some (.int z5), some (.int y1), some (.int z5), some (.int y1)]) rfl rfl (tz_in0 rfl)).trans ?_
        refine (tz_g_iinc (v := 1) (L2 := [some (.ref 17), none, some (.int z2), some (.int z5), some (.int y1), some (.int (z5 + 1)), some (.int y1)]) rfl rfl rfl rfl (tz_in0 rfl)).trans ?_
        refine (tz_g_goto (t := 72) (by decide) (tz_in0 rfl)).trans ?_
        exact tz_Gm (L2 := [some (.ref 17), none, some (.int z2), some (.int z5), some (.int y1), some (.int (z5 + 1)), none]) rfl rfl rfl rfl
    · skip
      refine (tz_g_aload_n rfl (tz_in0 rfl)).trans ?_
      refine (tz_g_getr (j := 76) rfl rfl rfl rfl rfl (tz_in0 rfl)).trans ?_
      refine (tz_g_getr (j := 77) rfl rfl rfl rfl rfl (tz_in0 rfl)).trans ?_
      refine (tz_g_getr (j := 81) rfl rfl rfl rfl rfl (tz_in0 rfl)).trans ?_
      refine (tz_g_iload rfl (tz_in0 rfl)).trans ?_
      refine (tz_g_iald (n := 8) rfl rfl rfl (tz_in0 rfl)).trans ?_
      refine tz_cn1 ?_
      refine (tz_g_aload_n rfl (tz_in0 rfl)).trans ?_
      refine (tz_g_getr (j := 30) rfl rfl rfl rfl rfl (tz_in0 rfl)).trans ?_
      refine (tz_g_getr (j := 31) rfl rfl rfl rfl rfl (tz_in0 rfl)).trans ?_
      refine (tz_g_getr (j := 35) rfl rfl rfl rfl rfl (tz_in0 rfl)).trans ?_
      refine (tz_g_iload rfl (tz_in0 rfl)).trans ?_
      refine (tz_g_iald (n := 8) rfl rfl rfl (tz_in0 rfl)).trans ?_
      refine tz_cn1 ?_
      refine (tz_g_isub (tz_in0 rfl)).trans ?_
      refine (tz_g_goto (t := 137) (by decide) (tz_in0 rfl)).trans ?_
      refine (tz_g_istore (L2 := [some (.ref 17), none, some (.int z2), some (.int z3), some (.int z4), some (.int z5), some (.int ((tz_g A 81 (Int32.toNatClampNeg z5)) - (tz_g A 35 (Int32.toNatClampNeg z5))))]) rfl rfl (tz_in0 rfl)).trans ?_
      refine (tz_g_iload rfl (tz_in0 rfl)).trans ?_
      refine (tz_g_iload rfl (tz_in0 rfl)).trans ?_
      refine (tz_g_ic_le (t := 153) (by decide) (tz_in0 rfl)).trans ?_
      refine tz_cg ?_ ?_
      · skip
        refine (tz_g_iinc (v := 1) (L2 := [some (.ref 17), none, some (.int z2), some (.int z3), some (.int z4), some (.int (z5 + 1)), some (.int ((tz_g A 81 (Int32.toNatClampNeg z5)) - (tz_g A 35 (Int32.toNatClampNeg z5))))]) rfl rfl rfl rfl (tz_in0 rfl)).trans ?_
        refine (tz_g_goto (t := 72) (by decide) (tz_in0 rfl)).trans ?_
        exact tz_Gm (L2 := [some (.ref 17), none, some (.int z2), some (.int z3), some (.int z4), some (.int (z5 + 1)), none]) rfl rfl rfl rfl
      · skip
        refine (tz_g_iload rfl (tz_in0 rfl)).trans ?_
        refine (tz_g_istore (L2 := [some (.ref 17), none, some (.int z2), some (.int z3), some (.int ((tz_g A 81 (Int32.toNatClampNeg z5)) - (tz_g A 35 (Int32.toNatClampNeg z5)))), some (.int z5), some (.int ((tz_g A 81 (Int32.toNatClampNeg z5)) - (tz_g A 35 (Int32.toNatClampNeg z5))))]) rfl rfl (tz_in0 rfl)).trans ?_
        refine (tz_g_iload rfl (tz_in0 rfl)).trans ?_
        refine (tz_g_istore_n (L2 := [some (.ref 17), none, some (.int z2), some (.int z5), some (.int ((tz_g A 81 (Int32.toNatClampNeg z5)) - (tz_g A 35 (Int32.toNatClampNeg z5)))), some (.int z5), some (.int ((tz_g A 81 (Int32.toNatClampNeg z5)) - (tz_g A 35 (Int32.toNatClampNeg z5))))]) rfl rfl (tz_in0 rfl)).trans ?_
        refine (tz_g_iinc (v := 1) (L2 := [some (.ref 17), none, some (.int z2), some (.int z5), some (.int ((tz_g A 81 (Int32.toNatClampNeg z5)) - (tz_g A 35 (Int32.toNatClampNeg z5)))), some (.int (z5 + 1)), some (.int ((tz_g A 81 (Int32.toNatClampNeg z5)) - (tz_g A 35 (Int32.toNatClampNeg z5))))]) rfl rfl rfl rfl (tz_in0 rfl)).trans ?_
        refine (tz_g_goto (t := 72) (by decide) (tz_in0 rfl)).trans ?_
        exact tz_Gm (L2 := [some (.ref 17), none, some (.int z2), some (.int z5), some (.int ((tz_g A 81 (Int32.toNatClampNeg z5)) - (tz_g A 35 (Int32.toNatClampNeg z5)))), some (.int (z5 + 1)), none]) rfl rfl rfl rfl

theorem e_X11_sky (x1 : Int32) (A : tz_Mem) : f_X11_sky x1 A =
  tz_bI (f_X8_refusalOfRow x1 A) (fun y1 A1 =>
if y1 = 0 then
  if x1 < 0 ∨ 8 ≤ (Int32.toNatClampNeg x1) then none else
  tz_bV (f_X8_copyNumbers_s123 x1 (tz_g A1 20 (Int32.toNatClampNeg x1)) A1) (fun A2 =>
  if x1 < 0 ∨ 8 ≤ (Int32.toNatClampNeg x1) then none else
  tz_bV (f_X7_open (tz_g A2 20 (Int32.toNatClampNeg x1)) 30 A2) (fun A3 =>
  q_X11_sky_65 0 A3))
else
  tz_bI (f_X11_refuse y1 A1) (fun y2 A2 =>
  some (some (.int y2), A2))) := by
  refine (tz_Fe (L := [some (.ref 17), some (.int x1), none, none]) rfl).trans ?_
  refine (tz_g_aload_n rfl (tz_in0 rfl)).trans ?_
  refine (tz_g_getr (j := 18) rfl rfl rfl rfl rfl (tz_in0 rfl)).trans ?_
  refine (tz_g_iload_n rfl (tz_in0 rfl)).trans ?_
  refine (tz_g_cv1I (m2 := 19) (rc := 1) rfl rfl rfl rfl rfl rfl (by decide) (tz_in0 rfl)).trans ?_
  refine tz_jI (fun y1 A1 => ?_)
  refine (tz_g_istore_n (L2 := [some (.ref 17), some (.int x1), some (.int y1), none]) rfl rfl (tz_in0 rfl)).trans ?_
  refine (tz_g_iload_n rfl (tz_in0 rfl)).trans ?_
  refine (tz_g_if_eq (t := 19) (by decide) (tz_in0 rfl)).trans ?_
  refine tz_cg ?_ ?_
  · skip
    refine (tz_g_aload_n rfl (tz_in0 rfl)).trans ?_
    refine (tz_g_getr (j := 18) rfl rfl rfl rfl rfl (tz_in0 rfl)).trans ?_
    refine (tz_g_iload_n rfl (tz_in0 rfl)).trans ?_
    refine (tz_g_aload_n rfl (tz_in0 rfl)).trans ?_
    refine (tz_g_getr (j := 18) rfl rfl rfl rfl rfl (tz_in0 rfl)).trans ?_
    refine (tz_g_getr (j := 20) rfl rfl rfl rfl rfl (tz_in0 rfl)).trans ?_
    refine (tz_g_iload_n rfl (tz_in0 rfl)).trans ?_
    refine (tz_g_iald (n := 8) rfl rfl rfl (tz_in0 rfl)).trans ?_
    refine tz_cn1 ?_
    refine (tz_g_aload_n rfl (tz_in0 rfl)).trans ?_
    refine (tz_g_getr (j := 122) rfl rfl rfl rfl rfl (tz_in0 rfl)).trans ?_
    refine (tz_g_getr (j := 123) rfl rfl rfl rfl rfl (tz_in0 rfl)).trans ?_
    refine (tz_g_cv3V (m2 := 36) (rc := 0) rfl rfl rfl rfl rfl rfl (by decide) (tz_in0 rfl)).trans ?_
    refine tz_jV (fun A2 => ?_)
    refine (tz_g_aload_n rfl (tz_in0 rfl)).trans ?_
    refine (tz_g_getr (j := 122) rfl rfl rfl rfl rfl (tz_in0 rfl)).trans ?_
    refine (tz_g_aload_n rfl (tz_in0 rfl)).trans ?_
    refine (tz_g_getr (j := 18) rfl rfl rfl rfl rfl (tz_in0 rfl)).trans ?_
    refine (tz_g_getr (j := 20) rfl rfl rfl rfl rfl (tz_in0 rfl)).trans ?_
    refine (tz_g_iload_n rfl (tz_in0 rfl)).trans ?_
    refine (tz_g_iald (n := 8) rfl rfl rfl (tz_in0 rfl)).trans ?_
    refine tz_cn1 ?_
    refine (tz_g_aload_n rfl (tz_in0 rfl)).trans ?_
    refine (tz_g_getr (j := 30) rfl rfl rfl rfl rfl (tz_in0 rfl)).trans ?_
    refine (tz_g_cv2V (m2 := 54) (rc := 0) rfl rfl rfl rfl rfl rfl (by decide) (tz_in0 rfl)).trans ?_
    refine tz_jV (fun A3 => ?_)
    refine (tz_g_iconst (v := 0) rfl (tz_in0 rfl)).trans ?_
    refine (tz_g_istore_n (L2 := [some (.ref 17), some (.int x1), some (.int y1), some (.int 0)]) rfl rfl (tz_in0 rfl)).trans ?_
    exact tz_Gm (L2 := [some (.ref 17), none, none, some (.int 0)]) rfl rfl rfl rfl
  · skip
    refine (tz_g_aload_n rfl (tz_in0 rfl)).trans ?_
    refine (tz_g_iload_n rfl (tz_in0 rfl)).trans ?_
    refine (tz_g_cv1I (m2 := 15) (rc := 1) rfl rfl rfl rfl rfl rfl (by decide) (tz_in0 rfl)).trans ?_
    refine tz_jI (fun y2 A2 => ?_)
    exact tz_g_ret1 (tz_in0 rfl) rfl

theorem e_X11_sky_65 (z3 : Int32) (A : tz_Mem) : q_X11_sky_65 z3 A =
  tz_bV (f_X7_readItem A) (fun A1 =>
if 160 < (z3 + 1) then
  if (tz_g (tz_s A1 17 13 (tz_g A1 122 0)) 17 13) = (-1) then
    tz_bV (f_X9_become 30 124 (tz_s A1 17 13 (tz_g A1 122 0))) (fun A2 =>
    some (some (.int (z3 + 1)), A2))
  else
    tz_bI (f_X11_refuse (-6) (tz_s A1 17 13 (tz_g A1 122 0))) (fun y2 A2 =>
    some (some (.int y2), A2))
else
  tz_bI (f_X7_goesOn A1) (fun y2 A2 =>
  if ¬ y2 = 0 then
    q_X11_sky_65 (z3 + 1) A2
  else
    if (tz_g (tz_s A2 17 13 (tz_g A2 122 0)) 17 13) = (-1) then
      tz_bV (f_X9_become 30 124 (tz_s A2 17 13 (tz_g A2 122 0))) (fun A3 =>
      some (some (.int (z3 + 1)), A3))
    else
      tz_bI (f_X11_refuse (-6) (tz_s A2 17 13 (tz_g A2 122 0))) (fun y3 A3 =>
      some (some (.int y3), A3)))) := by
  show tz_Go 53 65 [some (.ref 17), none, none, some (.int z3)] [] A = _
  refine (tz_g_aload_n rfl (tz_inM rfl rfl rfl)).trans ?_
  refine (tz_g_getr (j := 122) rfl rfl rfl rfl rfl (tz_in0 rfl)).trans ?_
  refine (tz_g_cv0V (m2 := 59) (rc := 0) rfl rfl rfl rfl rfl rfl (by decide) (tz_in0 rfl)).trans ?_
  refine tz_jV (fun A1 => ?_)
  refine (tz_g_iinc (v := 1) (L2 := [some (.ref 17), none, none, some (.int (z3 + 1))]) rfl rfl rfl rfl (tz_in0 rfl)).trans ?_
  refine (tz_g_iload_n rfl (tz_in0 rfl)).trans ?_
  refine (tz_g_sipush (v := 160) rfl (tz_in0 rfl)).trans ?_
  refine (tz_g_ic_gt (t := 92) (by decide) (tz_in0 rfl)).trans ?_
  refine tz_cg ?_ ?_
  · skip
    refine (tz_g_aload_n rfl (tz_in0 rfl)).trans ?_
    refine (tz_g_aload_n rfl (tz_in0 rfl)).trans ?_
    refine (tz_g_getr (j := 122) rfl rfl rfl rfl rfl (tz_in0 rfl)).trans ?_
    refine (tz_g_geti rfl rfl rfl (tz_in0 rfl)).trans ?_
    refine (tz_g_puti rfl rfl rfl (tz_in0 rfl)).trans ?_
    refine (tz_g_aload_n rfl (tz_in0 rfl)).trans ?_
    refine (tz_g_geti rfl rfl rfl (tz_in0 rfl)).trans ?_
    refine (tz_g_iconst (v := (-1)) rfl (tz_in0 rfl)).trans ?_
    refine (tz_g_ic_eq (t := 118) (by decide) (tz_in0 rfl)).trans ?_
    refine tz_cg ?_ ?_
    · skip
      refine (tz_g_aload_n rfl (tz_in0 rfl)).trans ?_
      refine (tz_g_getr (j := 30) rfl rfl rfl rfl rfl (tz_in0 rfl)).trans ?_
      refine (tz_g_aload_n rfl (tz_in0 rfl)).trans ?_
      refine (tz_g_getr (j := 122) rfl rfl rfl rfl rfl (tz_in0 rfl)).trans ?_
      refine (tz_g_getr (j := 124) rfl rfl rfl rfl rfl (tz_in0 rfl)).trans ?_
      refine (tz_g_cv1V (m2 := 55) (rc := 0) rfl rfl rfl rfl rfl rfl (by decide) (tz_in0 rfl)).trans ?_
      refine tz_jV (fun A2 => ?_)
      refine (tz_g_iload_n rfl (tz_in0 rfl)).trans ?_
      exact tz_g_ret1 (tz_in0 rfl) rfl
    · skip
      refine (tz_g_aload_n rfl (tz_in0 rfl)).trans ?_
      refine (tz_g_bipush (v := (-6)) rfl (tz_in0 rfl)).trans ?_
      refine (tz_g_cv1I (m2 := 15) (rc := 1) rfl rfl rfl rfl rfl rfl (by decide) (tz_in0 rfl)).trans ?_
      refine tz_jI (fun y2 A2 => ?_)
      exact tz_g_ret1 (tz_in0 rfl) rfl
  · skip
    refine (tz_g_aload_n rfl (tz_in0 rfl)).trans ?_
    refine (tz_g_getr (j := 122) rfl rfl rfl rfl rfl (tz_in0 rfl)).trans ?_
    refine (tz_g_cv0I (m2 := 95) (rc := 4) rfl rfl rfl rfl rfl rfl (by decide) (tz_in0 rfl)).trans ?_
    refine tz_jI (fun y2 A2 => ?_)
    refine (tz_g_if_ne (t := 65) (by decide) (tz_in0 rfl)).trans ?_
    refine tz_cg ?_ ?_
    · skip
      exact tz_Gm (L2 := [some (.ref 17), none, none, some (.int (z3 + 1))]) rfl rfl rfl rfl
    · skip
      refine (tz_g_aload_n rfl (tz_in0 rfl)).trans ?_
      refine (tz_g_aload_n rfl (tz_in0 rfl)).trans ?_
      refine (tz_g_getr (j := 122) rfl rfl rfl rfl rfl (tz_in0 rfl)).trans ?_
      refine (tz_g_geti rfl rfl rfl (tz_in0 rfl)).trans ?_
      refine (tz_g_puti rfl rfl rfl (tz_in0 rfl)).trans ?_
      refine (tz_g_aload_n rfl (tz_in0 rfl)).trans ?_
      refine (tz_g_geti rfl rfl rfl (tz_in0 rfl)).trans ?_
      refine (tz_g_iconst (v := (-1)) rfl (tz_in0 rfl)).trans ?_
      refine (tz_g_ic_eq (t := 118) (by decide) (tz_in0 rfl)).trans ?_
      refine tz_cg ?_ ?_
      · skip
        refine (tz_g_aload_n rfl (tz_in0 rfl)).trans ?_
        refine (tz_g_getr (j := 30) rfl rfl rfl rfl rfl (tz_in0 rfl)).trans ?_
        refine (tz_g_aload_n rfl (tz_in0 rfl)).trans ?_
        refine (tz_g_getr (j := 122) rfl rfl rfl rfl rfl (tz_in0 rfl)).trans ?_
        refine (tz_g_getr (j := 124) rfl rfl rfl rfl rfl (tz_in0 rfl)).trans ?_
        refine (tz_g_cv1V (m2 := 55) (rc := 0) rfl rfl rfl rfl rfl rfl (by decide) (tz_in0 rfl)).trans ?_
        refine tz_jV (fun A3 => ?_)
        refine (tz_g_iload_n rfl (tz_in0 rfl)).trans ?_
        exact tz_g_ret1 (tz_in0 rfl) rfl
      · skip
        refine (tz_g_aload_n rfl (tz_in0 rfl)).trans ?_
        refine (tz_g_bipush (v := (-6)) rfl (tz_in0 rfl)).trans ?_
        refine (tz_g_cv1I (m2 := 15) (rc := 1) rfl rfl rfl rfl rfl rfl (by decide) (tz_in0 rfl)).trans ?_
        refine tz_jI (fun y3 A3 => ?_)
        exact tz_g_ret1 (tz_in0 rfl) rfl

theorem e_X11_arrives (x1 : Int32) (A : tz_Mem) : f_X11_arrives x1 A =
  tz_bI (f_X4_has 30 x1 A) (fun y1 A1 =>
if ¬ y1 = 0 then
  tz_bI (f_X11_arrivalWithout x1 (-1) A1) (fun y2 A2 =>
  some (some (.int y2), A2))
else
  tz_bI (f_X11_refuseLower (-5) A1) (fun y2 A2 =>
  some (some (.int y2), A2))) := by
  refine (tz_Fe (L := [some (.ref 17), some (.int x1)]) rfl).trans ?_
  refine (tz_g_aload_n rfl (tz_in0 rfl)).trans ?_
  refine (tz_g_getr (j := 30) rfl rfl rfl rfl rfl (tz_in0 rfl)).trans ?_
  refine (tz_g_getr (j := 45) rfl rfl rfl rfl rfl (tz_in0 rfl)).trans ?_
  refine (tz_g_iload_n rfl (tz_in0 rfl)).trans ?_
  refine (tz_g_cv1I (m2 := 52) (rc := 4) rfl rfl rfl rfl rfl rfl (by decide) (tz_in0 rfl)).trans ?_
  refine tz_jI (fun y1 A1 => ?_)
  refine (tz_g_if_ne (t := 21) (by decide) (tz_in0 rfl)).trans ?_
  refine tz_cg ?_ ?_
  · skip
    refine (tz_g_aload_n rfl (tz_in0 rfl)).trans ?_
    refine (tz_g_iload_n rfl (tz_in0 rfl)).trans ?_
    refine (tz_g_iconst (v := (-1)) rfl (tz_in0 rfl)).trans ?_
    refine (tz_g_cv2I (m2 := 102) (rc := 1) rfl rfl rfl rfl rfl rfl (by decide) (tz_in0 rfl)).trans ?_
    refine tz_jI (fun y2 A2 => ?_)
    exact tz_g_ret1 (tz_in0 rfl) rfl
  · skip
    refine (tz_g_aload_n rfl (tz_in0 rfl)).trans ?_
    refine (tz_g_bipush (v := (-5)) rfl (tz_in0 rfl)).trans ?_
    refine (tz_g_cv1I (m2 := 101) (rc := 1) rfl rfl rfl rfl rfl rfl (by decide) (tz_in0 rfl)).trans ?_
    refine tz_jI (fun y2 A2 => ?_)
    exact tz_g_ret1 (tz_in0 rfl) rfl

theorem e_L_world (A : tz_Mem) : f_L_world A =
  tz_bI (f_L_at 0 A) (fun y1 A1 =>
tz_bI (f_L_some y1 9 A1) (fun y2 A2 =>
if A2.1 ≤ 157 then none else
tz_bI (f_L_at 1 (tz_s (tz_s A2 157 0 y2) 157 4 20)) (fun y3 A3 =>
if A3.1 ≤ 157 then none else
tz_bI (f_X11_seed (tz_g (tz_s (tz_s (tz_s A3 157 5 y3) 157 60 (-1)) 157 62 (-1)) 157 5) (tz_s (tz_s (tz_s A3 157 5 y3) 157 60 (-1)) 157 62 (-1))) (fun y4 A4 =>
q_L_world_51 y1 0 A4)))) := by
  refine (tz_Fe (L := [some (.ref 17), some (.ref 0), some (.ref 157), some (.ref 158), none, none, none, none, none, none, none, none, none]) rfl).trans ?_
  refine (tz_g_aload_n rfl (tz_in0 rfl)).trans ?_
  refine (tz_g_iconst (v := 0) rfl (tz_in0 rfl)).trans ?_
  refine (tz_g_cs2I (m2 := 119) (rc := 1) rfl rfl rfl rfl rfl rfl (by decide) (tz_in0 rfl)).trans ?_
  refine tz_jI (fun y1 A1 => ?_)
  refine (tz_g_istore (L2 := [some (.ref 17), some (.ref 0), some (.ref 157), some (.ref 158), some (.int y1), none, none, none, none, none, none, none, none]) rfl rfl (tz_in0 rfl)).trans ?_
  refine (tz_g_aload_n rfl (tz_in0 rfl)).trans ?_
  refine (tz_g_iconst (v := 0) rfl (tz_in0 rfl)).trans ?_
  refine (tz_g_iload rfl (tz_in0 rfl)).trans ?_
  refine (tz_g_bipush (v := 9) rfl (tz_in0 rfl)).trans ?_
  refine (tz_g_cs2I (m2 := 120) (rc := 1) rfl rfl rfl rfl rfl rfl (by decide) (tz_in0 rfl)).trans ?_
  refine tz_jI (fun y2 A2 => ?_)
  refine tz_gB (c := A2.1 ≤ 157) (fun q => tz_gx_iastore rfl (tz_in0 rfl) q) (fun hB0 => ?_)
  refine (tz_g_iast (n := 64) (by exact tz_okB hB0 rfl) rfl rfl (tz_in0 rfl)).trans ?_
  refine (if_neg (by decide)).trans ?_
  refine (tz_g_aload_n rfl (tz_in0 rfl)).trans ?_
  refine (tz_g_iconst (v := 4) rfl (tz_in0 rfl)).trans ?_
  refine (tz_g_bipush (v := 20) rfl (tz_in0 rfl)).trans ?_
  refine (tz_g_iast (n := 64) (by exact tz_okB hB0 rfl) rfl rfl (tz_in0 rfl)).trans ?_
  refine (if_neg (by decide)).trans ?_
  refine (tz_g_aload_n rfl (tz_in0 rfl)).trans ?_
  refine (tz_g_iconst (v := 5) rfl (tz_in0 rfl)).trans ?_
  refine (tz_g_aload_n rfl (tz_in0 rfl)).trans ?_
  refine (tz_g_iconst (v := 1) rfl (tz_in0 rfl)).trans ?_
  refine (tz_g_cs2I (m2 := 119) (rc := 1) rfl rfl rfl rfl rfl rfl (by decide) (tz_in0 rfl)).trans ?_
  refine tz_jI (fun y3 A3 => ?_)
  refine tz_gB (c := A3.1 ≤ 157) (fun q => tz_gx_iastore rfl (tz_in0 rfl) q) (fun hB1 => ?_)
  refine (tz_g_iast (n := 64) (by exact tz_okB hB1 rfl) rfl rfl (tz_in0 rfl)).trans ?_
  refine (if_neg (by decide)).trans ?_
  refine (tz_g_aload_n rfl (tz_in0 rfl)).trans ?_
  refine (tz_g_bipush (v := 60) rfl (tz_in0 rfl)).trans ?_
  refine (tz_g_iconst (v := (-1)) rfl (tz_in0 rfl)).trans ?_
  refine (tz_g_iast (n := 64) (by exact tz_okB hB1 rfl) rfl rfl (tz_in0 rfl)).trans ?_
  refine (if_neg (by decide)).trans ?_
  refine (tz_g_aload_n rfl (tz_in0 rfl)).trans ?_
  refine (tz_g_bipush (v := 62) rfl (tz_in0 rfl)).trans ?_
  refine (tz_g_iconst (v := (-1)) rfl (tz_in0 rfl)).trans ?_
  refine (tz_g_iast (n := 64) (by exact tz_okB hB1 rfl) rfl rfl (tz_in0 rfl)).trans ?_
  refine (if_neg (by decide)).trans ?_
  refine (tz_g_aload_n rfl (tz_in0 rfl)).trans ?_
  refine (tz_g_aload_n rfl (tz_in0 rfl)).trans ?_
  refine (tz_g_iconst (v := 5) rfl (tz_in0 rfl)).trans ?_
  refine (tz_g_iald (n := 64) (by exact tz_okB hB1 rfl) rfl rfl (tz_in0 rfl)).trans ?_
  refine (if_neg (by decide)).trans ?_
  refine (tz_g_cv1I (m2 := 113) (rc := 1) rfl rfl rfl rfl rfl rfl (by decide) (tz_in0 rfl)).trans ?_
  refine tz_jI (fun y4 A4 => ?_)
  refine (tz_g_pop rfl (tz_in0 rfl)).trans ?_
  refine (tz_g_iconst (v := 0) rfl (tz_in0 rfl)).trans ?_
  refine (tz_g_istore (L2 := [some (.ref 17), some (.ref 0), some (.ref 157), some (.ref 158), some (.int y1), some (.int 0), none, none, none, none, none, none, none]) rfl rfl (tz_in0 rfl)).trans ?_
  exact tz_Gm (L2 := [some (.ref 17), some (.ref 0), some (.ref 157), some (.ref 158), some (.int y1), some (.int 0), none, none, none, none, none, none, none]) rfl rfl rfl rfl

theorem e_L_world_51 (z4 : Int32) (z5 : Int32) (A : tz_Mem) : q_L_world_51 z4 z5 A =
  if A.1 ≤ 157 then none else
if (tz_g A 157 0) ≤ z5 then
  q_L_world_127 z4 A
else
  tz_bI (f_L_at (2 + z5) A) (fun y1 A1 =>
  tz_bI (f_L_some y1 7 A1) (fun y2 A2 =>
  tz_bI (f_L_some (y1 >>> (3 &&& 31)) 10 A2) (fun y3 A3 =>
  if A3.1 ≤ 157 then none else
  if (8 + z5) < 0 ∨ 64 ≤ (Int32.toNatClampNeg (8 + z5)) then none else
  if (8 + z5) < 0 ∨ 64 ≤ (Int32.toNatClampNeg (8 + z5)) then none else
  if (8 + z5) < 0 ∨ 64 ≤ (Int32.toNatClampNeg (8 + z5)) then none else
  tz_bI (f_X11_hill ((tz_g (tz_s A3 157 (Int32.toNatClampNeg (8 + z5)) (y2 + (10 * y3))) 157 (Int32.toNatClampNeg (8 + z5))) - (tz_g (tz_s A3 157 (Int32.toNatClampNeg (8 + z5)) (y2 + (10 * y3))) 157 (Int32.toNatClampNeg (8 + z5))) / 10 * 10) ((tz_g (tz_s A3 157 (Int32.toNatClampNeg (8 + z5)) (y2 + (10 * y3))) 157 (Int32.toNatClampNeg (8 + z5))) / 10) (tz_s A3 157 (Int32.toNatClampNeg (8 + z5)) (y2 + (10 * y3)))) (fun y4 A4 =>
  q_L_world_51 z4 (z5 + 1) A4)))) := by
  show tz_Go 121 51 [some (.ref 17), some (.ref 0), some (.ref 157), some (.ref 158), some (.int z4), some (.int z5), none, none, none, none, none, none, none] [] A = _
  refine (tz_g_iload rfl (tz_inM rfl rfl rfl)).trans ?_
  refine (tz_g_aload_n rfl (tz_in0 rfl)).trans ?_
  refine (tz_g_iconst (v := 0) rfl (tz_in0 rfl)).trans ?_
  refine tz_gB (c := A.1 ≤ 157) (fun q => tz_gx_iaload rfl (tz_in0 rfl) q) (fun hB2 => ?_)
  refine (tz_g_iald (n := 64) (by exact tz_okB hB2 rfl) rfl rfl (tz_in0 rfl)).trans ?_
  refine (if_neg (by decide)).trans ?_
  refine (tz_g_ic_ge (t := 127) (by decide) (tz_in0 rfl)).trans ?_
  refine tz_cg ?_ ?_
  · skip
    exact tz_Gm (L2 := [some (.ref 17), some (.ref 0), some (.ref 157), some (.ref 158), some (.int z4), none, none, none, none, none, none, none, none]) rfl rfl rfl rfl
  · skip
    refine (tz_g_aload_n rfl (tz_in0 rfl)).trans ?_
    refine (tz_g_iconst (v := 2) rfl (tz_in0 rfl)).trans ?_
    refine (tz_g_iload rfl (tz_in0 rfl)).trans ?_
    refine (tz_g_iadd (tz_in0 rfl)).trans ?_
    refine (tz_g_cs2I (m2 := 119) (rc := 1) rfl rfl rfl rfl rfl rfl (by decide) (tz_in0 rfl)).trans ?_
    refine tz_jI (fun y1 A1 => ?_)
    refine (tz_g_istore (L2 := [some (.ref 17), some (.ref 0), some (.ref 157), some (.ref 158), some (.int z4), some (.int z5), some (.int y1), none, none, none, none, none, none]) rfl rfl (tz_in0 rfl)).trans ?_
    refine (tz_g_aload_n rfl (tz_in0 rfl)).trans ?_
    refine (tz_g_bipush (v := 8) rfl (tz_in0 rfl)).trans ?_
    refine (tz_g_iload rfl (tz_in0 rfl)).trans ?_
    refine (tz_g_iadd (tz_in0 rfl)).trans ?_
    refine (tz_g_iload rfl (tz_in0 rfl)).trans ?_
    refine (tz_g_bipush (v := 7) rfl (tz_in0 rfl)).trans ?_
    refine (tz_g_cs2I (m2 := 120) (rc := 1) rfl rfl rfl rfl rfl rfl (by decide) (tz_in0 rfl)).trans ?_
    refine tz_jI (fun y2 A2 => ?_)
    refine (tz_g_bipush (v := 10) rfl (tz_in0 rfl)).trans ?_
    refine (tz_g_iload rfl (tz_in0 rfl)).trans ?_
    refine (tz_g_iconst (v := 3) rfl (tz_in0 rfl)).trans ?_
    refine (tz_g_ishr (tz_in0 rfl)).trans ?_
    refine (tz_g_bipush (v := 10) rfl (tz_in0 rfl)).trans ?_
    refine (tz_g_cs2I (m2 := 120) (rc := 1) rfl rfl rfl rfl rfl rfl (by decide) (tz_in0 rfl)).trans ?_
    refine tz_jI (fun y3 A3 => ?_)
    refine (tz_g_imul (tz_in0 rfl)).trans ?_
    refine (tz_g_iadd (tz_in0 rfl)).trans ?_
    refine tz_gB (c := A3.1 ≤ 157) (fun q => tz_gx_iastore rfl (tz_in0 rfl) q) (fun hB3 => ?_)
    refine (tz_g_iast (n := 64) (by exact tz_okB hB3 rfl) rfl rfl (tz_in0 rfl)).trans ?_
    refine tz_cn1 ?_
    refine (tz_g_aload_n rfl (tz_in0 rfl)).trans ?_
    refine (tz_g_aload_n rfl (tz_in0 rfl)).trans ?_
    refine (tz_g_bipush (v := 8) rfl (tz_in0 rfl)).trans ?_
    refine (tz_g_iload rfl (tz_in0 rfl)).trans ?_
    refine (tz_g_iadd (tz_in0 rfl)).trans ?_
    refine (tz_g_iald (n := 64) (by exact tz_okB hB3 rfl) rfl rfl (tz_in0 rfl)).trans ?_
    refine tz_cn1 ?_
    refine (tz_g_bipush (v := 10) rfl (tz_in0 rfl)).trans ?_
    refine (tz_g_iremK (by decide) (tz_in0 rfl)).trans ?_
    refine (tz_g_aload_n rfl (tz_in0 rfl)).trans ?_
    refine (tz_g_bipush (v := 8) rfl (tz_in0 rfl)).trans ?_
    refine (tz_g_iload rfl (tz_in0 rfl)).trans ?_
    refine (tz_g_iadd (tz_in0 rfl)).trans ?_
    refine (tz_g_iald (n := 64) (by exact tz_okB hB3 rfl) rfl rfl (tz_in0 rfl)).trans ?_
    refine tz_cn1 ?_
    refine (tz_g_bipush (v := 10) rfl (tz_in0 rfl)).trans ?_
    refine (tz_g_idivK (by decide) (tz_in0 rfl)).trans ?_
    refine (tz_g_cv2I (m2 := 26) (rc := 1) rfl rfl rfl rfl rfl rfl (by decide) (tz_in0 rfl)).trans ?_
    refine tz_jI (fun y4 A4 => ?_)
    refine (tz_g_pop rfl (tz_in0 rfl)).trans ?_
    refine (tz_g_iinc (v := 1) (L2 := [some (.ref 17), some (.ref 0), some (.ref 157), some (.ref 158), some (.int z4), some (.int (z5 + 1)), some (.int y1), none, none, none, none, none, none]) rfl rfl rfl rfl (tz_in0 rfl)).trans ?_
    refine (tz_g_goto (t := 51) (by decide) (tz_in0 rfl)).trans ?_
    exact tz_Gm (L2 := [some (.ref 17), some (.ref 0), some (.ref 157), some (.ref 158), some (.int z4), some (.int (z5 + 1)), none, none, none, none, none, none, none]) rfl rfl rfl rfl

theorem e_L_world_127 (z4 : Int32) (A : tz_Mem) : q_L_world_127 z4 A =
  tz_bI (f_L_some (z4 >>> (4 &&& 31)) 5 A) (fun y1 A1 =>
q_L_world_140 z4 y1 0 A1) := by
  show tz_Go 121 127 [some (.ref 17), some (.ref 0), some (.ref 157), some (.ref 158), some (.int z4), none, none, none, none, none, none, none, none] [] A = _
  refine (tz_g_iload rfl (tz_inM rfl rfl rfl)).trans ?_
  refine (tz_g_iconst (v := 4) rfl (tz_in0 rfl)).trans ?_
  refine (tz_g_ishr (tz_in0 rfl)).trans ?_
  refine (tz_g_iconst (v := 5) rfl (tz_in0 rfl)).trans ?_
  refine (tz_g_cs2I (m2 := 120) (rc := 1) rfl rfl rfl rfl rfl rfl (by decide) (tz_in0 rfl)).trans ?_
  refine tz_jI (fun y1 A1 => ?_)
  refine (tz_g_istore (L2 := [some (.ref 17), some (.ref 0), some (.ref 157), some (.ref 158), some (.int z4), some (.int y1), none, none, none, none, none, none, none]) rfl rfl (tz_in0 rfl)).trans ?_
  refine (tz_g_iconst (v := 0) rfl (tz_in0 rfl)).trans ?_
  refine (tz_g_istore (L2 := [some (.ref 17), some (.ref 0), some (.ref 157), some (.ref 158), some (.int z4), some (.int y1), some (.int 0), none, none, none, none, none, none]) rfl rfl (tz_in0 rfl)).trans ?_
  exact tz_Gm (L2 := [some (.ref 17), some (.ref 0), some (.ref 157), some (.ref 158), some (.int z4), some (.int y1), some (.int 0), none, none, none, none, none, none]) rfl rfl rfl rfl

theorem e_L_world_140 (z4 : Int32) (z5 : Int32) (z6 : Int32) (A : tz_Mem) : q_L_world_140 z4 z5 z6 A =
  if z5 ≤ z6 then
  q_L_world_474 z4 A
else
  if A.1 ≤ 157 then none else
  if (tz_g A 157 0) ≤ 1 then
    q_L_world_474 z4 A
  else
    tz_bI (f_L_at (10 + z6) A) (fun y1 A1 =>
    tz_bI (f_L_some y1 5 A1) (fun y2 A2 =>
    tz_bI (f_X11_row 7 2 6 A2) (fun y3 A3 =>
    if A3.1 ≤ 157 then none else
    if A3.1 ≤ 158 then none else
    if (tz_g A3 157 1) < 0 ∨ 40 ≤ (Int32.toNatClampNeg (tz_g A3 157 1)) then none else
    q_L_world_194 z4 z5 z6 y1 (2 + y2) 0 (tz_sl A3 158 (Int32.toNatClampNeg (tz_g A3 157 1)) 0)))) := by
  show tz_Go 121 140 [some (.ref 17), some (.ref 0), some (.ref 157), some (.ref 158), some (.int z4), some (.int z5), some (.int z6), none, none, none, none, none, none] [] A = _
  refine (tz_g_iload rfl (tz_inM rfl rfl rfl)).trans ?_
  refine (tz_g_iload rfl (tz_in0 rfl)).trans ?_
  refine (tz_g_ic_ge (t := 474) (by decide) (tz_in0 rfl)).trans ?_
  refine tz_cg ?_ ?_
  · skip
    exact tz_Gm (L2 := [some (.ref 17), some (.ref 0), some (.ref 157), some (.ref 158), some (.int z4), none, none, none, none, none, none, none, none]) rfl rfl rfl rfl
  · skip
    refine (tz_g_aload_n rfl (tz_in0 rfl)).trans ?_
    refine (tz_g_iconst (v := 0) rfl (tz_in0 rfl)).trans ?_
    refine tz_gB (c := A.1 ≤ 157) (fun q => tz_gx_iaload rfl (tz_in0 rfl) q) (fun hB4 => ?_)
    refine (tz_g_iald (n := 64) (by exact tz_okB hB4 rfl) rfl rfl (tz_in0 rfl)).trans ?_
    refine (if_neg (by decide)).trans ?_
    refine (tz_g_iconst (v := 1) rfl (tz_in0 rfl)).trans ?_
    refine (tz_g_ic_le (t := 474) (by decide) (tz_in0 rfl)).trans ?_
    refine tz_cg ?_ ?_
    · skip
      exact tz_Gm (L2 := [some (.ref 17), some (.ref 0), some (.ref 157), some (.ref 158), some (.int z4), none, none, none, none, none, none, none, none]) rfl rfl rfl rfl
    · skip
      refine (tz_g_aload_n rfl (tz_in0 rfl)).trans ?_
      refine (tz_g_bipush (v := 10) rfl (tz_in0 rfl)).trans ?_
      refine (tz_g_iload rfl (tz_in0 rfl)).trans ?_
      refine (tz_g_iadd (tz_in0 rfl)).trans ?_
      refine (tz_g_cs2I (m2 := 119) (rc := 1) rfl rfl rfl rfl rfl rfl (by decide) (tz_in0 rfl)).trans ?_
      refine tz_jI (fun y1 A1 => ?_)
      refine (tz_g_istore (L2 := [some (.ref 17), some (.ref 0), some (.ref 157), some (.ref 158), some (.int z4), some (.int z5), some (.int z6), some (.int y1), none, none, none, none, none]) rfl rfl (tz_in0 rfl)).trans ?_
      refine (tz_g_iconst (v := 2) rfl (tz_in0 rfl)).trans ?_
      refine (tz_g_iload rfl (tz_in0 rfl)).trans ?_
      refine (tz_g_iconst (v := 5) rfl (tz_in0 rfl)).trans ?_
      refine (tz_g_cs2I (m2 := 120) (rc := 1) rfl rfl rfl rfl rfl rfl (by decide) (tz_in0 rfl)).trans ?_
      refine tz_jI (fun y2 A2 => ?_)
      refine (tz_g_iadd (tz_in0 rfl)).trans ?_
      refine (tz_g_istore (L2 := [some (.ref 17), some (.ref 0), some (.ref 157), some (.ref 158), some (.int z4), some (.int z5), some (.int z6), some (.int y1), some (.int (2 + y2)), none, none, none, none]) rfl rfl (tz_in0 rfl)).trans ?_
      refine (tz_g_aload_n rfl (tz_in0 rfl)).trans ?_
      refine (tz_g_bipush (v := 7) rfl (tz_in0 rfl)).trans ?_
      refine (tz_g_iconst (v := 2) rfl (tz_in0 rfl)).trans ?_
      refine (tz_g_bipush (v := 6) rfl (tz_in0 rfl)).trans ?_
      refine (tz_g_cv3I (m2 := 13) (rc := 1) rfl rfl rfl rfl rfl rfl (by decide) (tz_in0 rfl)).trans ?_
      refine tz_jI (fun y3 A3 => ?_)
      refine (tz_g_pop rfl (tz_in0 rfl)).trans ?_
      refine (tz_g_aload_n rfl (tz_in0 rfl)).trans ?_
      refine (tz_g_aload_n rfl (tz_in0 rfl)).trans ?_
      refine (tz_g_iconst (v := 1) rfl (tz_in0 rfl)).trans ?_
      refine tz_gB (c := A3.1 ≤ 157) (fun q => tz_gx_iaload rfl (tz_in0 rfl) q) (fun hB5 => ?_)
      refine (tz_g_iald (n := 64) (by exact tz_okB hB5 rfl) rfl rfl (tz_in0 rfl)).trans ?_
      refine (if_neg (by decide)).trans ?_
      refine (tz_g_lconst (v := 0) rfl (tz_in0 rfl)).trans ?_
      refine tz_gB (c := A3.1 ≤ 158) (fun q => tz_gx_lastore rfl (tz_in0 rfl) q) (fun hB6 => ?_)
      refine (tz_g_last (n := 40) (by exact tz_okC hB6 rfl) rfl (tz_in0 rfl)).trans ?_
      refine tz_cn1 ?_
      refine (tz_g_iconst (v := 0) rfl (tz_in0 rfl)).trans ?_
      refine (tz_g_istore (L2 := [some (.ref 17), some (.ref 0), some (.ref 157), some (.ref 158), some (.int z4), some (.int z5), some (.int z6), some (.int y1), some (.int (2 + y2)), some (.int 0), none, none, none]) rfl rfl (tz_in0 rfl)).trans ?_
      exact tz_Gm (L2 := [some (.ref 17), some (.ref 0), some (.ref 157), some (.ref 158), some (.int z4), some (.int z5), some (.int z6), some (.int y1), some (.int (2 + y2)), some (.int 0), none, none, none]) rfl rfl rfl rfl

theorem e_L_world_474 (z4 : Int32) (A : tz_Mem) : q_L_world_474 z4 A =
  tz_bI (f_L_some (z4 >>> (8 &&& 31)) 13 A) (fun y1 A1 =>
q_L_world_489 z4 y1 0 A1) := by
  show tz_Go 121 474 [some (.ref 17), some (.ref 0), some (.ref 157), some (.ref 158), some (.int z4), none, none, none, none, none, none, none, none] [] A = _
  refine (tz_g_iload rfl (tz_inM rfl rfl rfl)).trans ?_
  refine (tz_g_bipush (v := 8) rfl (tz_in0 rfl)).trans ?_
  refine (tz_g_ishr (tz_in0 rfl)).trans ?_
  refine (tz_g_bipush (v := 13) rfl (tz_in0 rfl)).trans ?_
  refine (tz_g_cs2I (m2 := 120) (rc := 1) rfl rfl rfl rfl rfl rfl (by decide) (tz_in0 rfl)).trans ?_
  refine tz_jI (fun y1 A1 => ?_)
  refine (tz_g_istore (L2 := [some (.ref 17), some (.ref 0), some (.ref 157), some (.ref 158), some (.int z4), none, some (.int y1), none, none, none, none, none, none]) rfl rfl (tz_in0 rfl)).trans ?_
  refine (tz_g_iconst (v := 0) rfl (tz_in0 rfl)).trans ?_
  refine (tz_g_istore (L2 := [some (.ref 17), some (.ref 0), some (.ref 157), some (.ref 158), some (.int z4), none, some (.int y1), some (.int 0), none, none, none, none, none]) rfl rfl (tz_in0 rfl)).trans ?_
  exact tz_Gm (L2 := [some (.ref 17), some (.ref 0), some (.ref 157), some (.ref 158), some (.int z4), none, some (.int y1), some (.int 0), none, none, none, none, none]) rfl rfl rfl rfl

theorem e_L_world_194 (z4 : Int32) (z5 : Int32) (z6 : Int32) (z7 : Int32) (z8 : Int32) (z9 : Int32) (A : tz_Mem) : q_L_world_194 z4 z5 z6 z7 z8 z9 A =
  if z8 ≤ z9 then
  q_L_world_283 z4 z5 z6 z7 z8 A
else
  if A.1 ≤ 157 then none else
  tz_bI (f_L_some (z7 >>> ((3 + (3 * z9)) &&& 31)) (tz_g A 157 0) A) (fun y1 A1 =>
  if z9 ≤ 0 then
    q_L_world_249 z4 z5 z6 z7 z8 z9 y1 A1
  else
    if A1.1 ≤ 157 then none else
    tz_bI (f_L_way (tz_g A1 157 1) (z9 - 1) A1) (fun y2 A2 =>
    if ¬ y1 = y2 then
      q_L_world_249 z4 z5 z6 z7 z8 z9 y1 A2
    else
      if A2.1 ≤ 157 then none else
      if (tz_g A2 157 0) = 0 then none else
      q_L_world_249 z4 z5 z6 z7 z8 z9 ((y1 + 1) - (y1 + 1) / (tz_g A2 157 0) * (tz_g A2 157 0)) A2)) := by
  show tz_Go 121 194 [some (.ref 17), some (.ref 0), some (.ref 157), some (.ref 158), some (.int z4), some (.int z5), some (.int z6), some (.int z7), some (.int z8), some (.int z9), none, none, none] [] A = _
  refine (tz_g_iload rfl (tz_inM rfl rfl rfl)).trans ?_
  refine (tz_g_iload rfl (tz_in0 rfl)).trans ?_
  refine (tz_g_ic_ge (t := 283) (by decide) (tz_in0 rfl)).trans ?_
  refine tz_cg ?_ ?_
  · skip
    exact tz_Gm (L2 := [some (.ref 17), some (.ref 0), some (.ref 157), some (.ref 158), some (.int z4), some (.int z5), some (.int z6), some (.int z7), some (.int z8), none, none, none, none]) rfl rfl rfl rfl
  · skip
    refine (tz_g_iload rfl (tz_in0 rfl)).trans ?_
    refine (tz_g_iconst (v := 3) rfl (tz_in0 rfl)).trans ?_
    refine (tz_g_iconst (v := 3) rfl (tz_in0 rfl)).trans ?_
    refine (tz_g_iload rfl (tz_in0 rfl)).trans ?_
    refine (tz_g_imul (tz_in0 rfl)).trans ?_
    refine (tz_g_iadd (tz_in0 rfl)).trans ?_
    refine (tz_g_ishr (tz_in0 rfl)).trans ?_
    refine (tz_g_aload_n rfl (tz_in0 rfl)).trans ?_
    refine (tz_g_iconst (v := 0) rfl (tz_in0 rfl)).trans ?_
    refine tz_gB (c := A.1 ≤ 157) (fun q => tz_gx_iaload rfl (tz_in0 rfl) q) (fun hB7 => ?_)
    refine (tz_g_iald (n := 64) (by exact tz_okB hB7 rfl) rfl rfl (tz_in0 rfl)).trans ?_
    refine (if_neg (by decide)).trans ?_
    refine (tz_g_cs2I (m2 := 120) (rc := 1) rfl rfl rfl rfl rfl rfl (by decide) (tz_in0 rfl)).trans ?_
    refine tz_jI (fun y1 A1 => ?_)
    refine (tz_g_istore (L2 := [some (.ref 17), some (.ref 0), some (.ref 157), some (.ref 158), some (.int z4), some (.int z5), some (.int z6), some (.int z7), some (.int z8), some (.int z9), some (.int y1), none, none]) rfl rfl (tz_in0 rfl)).trans ?_
    refine (tz_g_iload rfl (tz_in0 rfl)).trans ?_
    refine (tz_g_if_le (t := 249) (by decide) (tz_in0 rfl)).trans ?_
    refine tz_cg ?_ ?_
    · skip
      exact tz_Gm (L2 := [some (.ref 17), some (.ref 0), some (.ref 157), some (.ref 158), some (.int z4), some (.int z5), some (.int z6), some (.int z7), some (.int z8), some (.int z9), some (.int y1), none, none]) rfl rfl rfl rfl
    · skip
      refine (tz_g_iload rfl (tz_in0 rfl)).trans ?_
      refine (tz_g_aload_n rfl (tz_in0 rfl)).trans ?_
      refine (tz_g_aload_n rfl (tz_in0 rfl)).trans ?_
      refine (tz_g_iconst (v := 1) rfl (tz_in0 rfl)).trans ?_
      refine tz_gB (c := A1.1 ≤ 157) (fun q => tz_gx_iaload rfl (tz_in0 rfl) q) (fun hB8 => ?_)
      refine (tz_g_iald (n := 64) (by exact tz_okB hB8 rfl) rfl rfl (tz_in0 rfl)).trans ?_
      refine (if_neg (by decide)).trans ?_
      refine (tz_g_iload rfl (tz_in0 rfl)).trans ?_
      refine (tz_g_iconst (v := 1) rfl (tz_in0 rfl)).trans ?_
      refine (tz_g_isub (tz_in0 rfl)).trans ?_
      refine (tz_g_cs3I (m2 := 122) (rc := 1) rfl rfl rfl rfl rfl rfl (by decide) (tz_in0 rfl)).trans ?_
      refine tz_jI (fun y2 A2 => ?_)
      refine (tz_g_ic_ne (t := 249) (by decide) (tz_in0 rfl)).trans ?_
      refine tz_cg ?_ ?_
      · skip
        exact tz_Gm (L2 := [some (.ref 17), some (.ref 0), some (.ref 157), some (.ref 158), some (.int z4), some (.int z5), some (.int z6), some (.int z7), some (.int z8), some (.int z9), some (.int y1), none, none]) rfl rfl rfl rfl
      · skip
        refine (tz_g_iload rfl (tz_in0 rfl)).trans ?_
        refine (tz_g_iconst (v := 1) rfl (tz_in0 rfl)).trans ?_
        refine (tz_g_iadd (tz_in0 rfl)).trans ?_
        refine (tz_g_aload_n rfl (tz_in0 rfl)).trans ?_
        refine (tz_g_iconst (v := 0) rfl (tz_in0 rfl)).trans ?_
        refine tz_gB (c := A2.1 ≤ 157) (fun q => tz_gx_iaload rfl (tz_in0 rfl) q) (fun hB9 => ?_)
        refine (tz_g_iald (n := 64) (by exact tz_okB hB9 rfl) rfl rfl (tz_in0 rfl)).trans ?_
        refine (if_neg (by decide)).trans ?_
        refine (tz_g_irem (tz_in0 rfl)).trans ?_
        refine tz_cn1 ?_
        refine (tz_g_istore (L2 := [some (.ref 17), some (.ref 0), some (.ref 157), some (.ref 158), some (.int z4), some (.int z5), some (.int z6), some (.int z7), some (.int z8), some (.int z9), some (.int ((y1 + 1) - (y1 + 1) / (tz_g A2 157 0) * (tz_g A2 157 0))), none, none]) rfl rfl (tz_in0 rfl)).trans ?_
        exact tz_Gm (L2 := [some (.ref 17), some (.ref 0), some (.ref 157), some (.ref 158), some (.int z4), some (.int z5), some (.int z6), some (.int z7), some (.int z8), some (.int z9), some (.int ((y1 + 1) - (y1 + 1) / (tz_g A2 157 0) * (tz_g A2 157 0))), none, none]) rfl rfl rfl rfl

theorem e_L_world_489 (z4 : Int32) (z6 : Int32) (z7 : Int32) (A : tz_Mem) : q_L_world_489 z4 z6 z7 A =
  if z6 ≤ z7 then
  q_L_world_624 z4 A
else
  if A.1 ≤ 157 then none else
  if (tz_g A 157 0) ≤ 1 then
    q_L_world_624 z4 A
  else
    tz_bI (f_L_at (14 + z7) A) (fun y1 A1 =>
    if A1.1 ≤ 157 then none else
    tz_bI (f_L_some y1 (tz_g A1 157 0) A1) (fun y2 A2 =>
    if A2.1 ≤ 157 then none else
    tz_bI (f_L_some (y1 >>> (4 &&& 31)) ((tz_g A2 157 0) - 1) A2) (fun y3 A3 =>
    if A3.1 ≤ 157 then none else
    tz_bI (f_L_some ((y2 + 1) + y3) (tz_g A3 157 0) A3) (fun y4 A4 =>
    tz_bI (f_L_some (y1 >>> (8 &&& 31)) 99 A4) (fun y5 A5 =>
    if ¬ ((z4 >>> (21 &&& 31)) &&& 1) = 0 then
      tz_bI (f_L_some (y1 >>> (15 &&& 31)) 10000 A5) (fun y6 A6 =>
      q_L_world_591 z4 z6 z7 y2 y4 (1 + y5) y6 A6)
    else
      tz_bI (f_L_some (y1 >>> (15 &&& 31)) 40 A5) (fun y6 A6 =>
      q_L_world_591 z4 z6 z7 y2 y4 (1 + y5) y6 A6)))))) := by
  show tz_Go 121 489 [some (.ref 17), some (.ref 0), some (.ref 157), some (.ref 158), some (.int z4), none, some (.int z6), some (.int z7), none, none, none, none, none] [] A = _
  refine (tz_g_iload rfl (tz_inM rfl rfl rfl)).trans ?_
  refine (tz_g_iload rfl (tz_in0 rfl)).trans ?_
  refine (tz_g_ic_ge (t := 624) (by decide) (tz_in0 rfl)).trans ?_
  refine tz_cg ?_ ?_
  · skip
    exact tz_Gm (L2 := [some (.ref 17), none, some (.ref 157), some (.ref 158), some (.int z4), none, none, none, none, none, none, none, none]) rfl rfl rfl rfl
  · skip
    refine (tz_g_aload_n rfl (tz_in0 rfl)).trans ?_
    refine (tz_g_iconst (v := 0) rfl (tz_in0 rfl)).trans ?_
    refine tz_gB (c := A.1 ≤ 157) (fun q => tz_gx_iaload rfl (tz_in0 rfl) q) (fun hB10 => ?_)
    refine (tz_g_iald (n := 64) (by exact tz_okB hB10 rfl) rfl rfl (tz_in0 rfl)).trans ?_
    refine (if_neg (by decide)).trans ?_
    refine (tz_g_iconst (v := 1) rfl (tz_in0 rfl)).trans ?_
    refine (tz_g_ic_le (t := 624) (by decide) (tz_in0 rfl)).trans ?_
    refine tz_cg ?_ ?_
    · skip
      exact tz_Gm (L2 := [some (.ref 17), none, some (.ref 157), some (.ref 158), some (.int z4), none, none, none, none, none, none, none, none]) rfl rfl rfl rfl
    · skip
      refine (tz_g_aload_n rfl (tz_in0 rfl)).trans ?_
      refine (tz_g_bipush (v := 14) rfl (tz_in0 rfl)).trans ?_
      refine (tz_g_iload rfl (tz_in0 rfl)).trans ?_
      refine (tz_g_iadd (tz_in0 rfl)).trans ?_
      refine (tz_g_cs2I (m2 := 119) (rc := 1) rfl rfl rfl rfl rfl rfl (by decide) (tz_in0 rfl)).trans ?_
      refine tz_jI (fun y1 A1 => ?_)
      refine (tz_g_istore (L2 := [some (.ref 17), some (.ref 0), some (.ref 157), some (.ref 158), some (.int z4), none, some (.int z6), some (.int z7), some (.int y1), none, none, none, none]) rfl rfl (tz_in0 rfl)).trans ?_
      refine (tz_g_iload rfl (tz_in0 rfl)).trans ?_
      refine (tz_g_aload_n rfl (tz_in0 rfl)).trans ?_
      refine (tz_g_iconst (v := 0) rfl (tz_in0 rfl)).trans ?_
      refine tz_gB (c := A1.1 ≤ 157) (fun q => tz_gx_iaload rfl (tz_in0 rfl) q) (fun hB11 => ?_)
      refine (tz_g_iald (n := 64) (by exact tz_okB hB11 rfl) rfl rfl (tz_in0 rfl)).trans ?_
      refine (if_neg (by decide)).trans ?_
      refine (tz_g_cs2I (m2 := 120) (rc := 1) rfl rfl rfl rfl rfl rfl (by decide) (tz_in0 rfl)).trans ?_
      refine tz_jI (fun y2 A2 => ?_)
      refine (tz_g_istore (L2 := [some (.ref 17), some (.ref 0), some (.ref 157), some (.ref 158), some (.int z4), none, some (.int z6), some (.int z7), some (.int y1), some (.int y2), none, none, none]) rfl rfl (tz_in0 rfl)).trans ?_
      refine (tz_g_iload rfl (tz_in0 rfl)).trans ?_
      refine (tz_g_iconst (v := 1) rfl (tz_in0 rfl)).trans ?_
      refine (tz_g_iadd (tz_in0 rfl)).trans ?_
      refine (tz_g_iload rfl (tz_in0 rfl)).trans ?_
      refine (tz_g_iconst (v := 4) rfl (tz_in0 rfl)).trans ?_
      refine (tz_g_ishr (tz_in0 rfl)).trans ?_
      refine (tz_g_aload_n rfl (tz_in0 rfl)).trans ?_
      refine (tz_g_iconst (v := 0) rfl (tz_in0 rfl)).trans ?_
      refine tz_gB (c := A2.1 ≤ 157) (fun q => tz_gx_iaload rfl (tz_in0 rfl) q) (fun hB12 => ?_)
      refine (tz_g_iald (n := 64) (by exact tz_okB hB12 rfl) rfl rfl (tz_in0 rfl)).trans ?_
      refine (if_neg (by decide)).trans ?_
      refine (tz_g_iconst (v := 1) rfl (tz_in0 rfl)).trans ?_
      refine (tz_g_isub (tz_in0 rfl)).trans ?_
      refine (tz_g_cs2I (m2 := 120) (rc := 1) rfl rfl rfl rfl rfl rfl (by decide) (tz_in0 rfl)).trans ?_
      refine tz_jI (fun y3 A3 => ?_)
      refine (tz_g_iadd (tz_in0 rfl)).trans ?_
      refine (tz_g_aload_n rfl (tz_in0 rfl)).trans ?_
      refine (tz_g_iconst (v := 0) rfl (tz_in0 rfl)).trans ?_
      refine tz_gB (c := A3.1 ≤ 157) (fun q => tz_gx_iaload rfl (tz_in0 rfl) q) (fun hB13 => ?_)
      refine (tz_g_iald (n := 64) (by exact tz_okB hB13 rfl) rfl rfl (tz_in0 rfl)).trans ?_
      refine (if_neg (by decide)).trans ?_
      refine (tz_g_cs2I (m2 := 120) (rc := 1) rfl rfl rfl rfl rfl rfl (by decide) (tz_in0 rfl)).trans ?_
      refine tz_jI (fun y4 A4 => ?_)
      refine (tz_g_istore (L2 := [some (.ref 17), some (.ref 0), some (.ref 157), some (.ref 158), some (.int z4), none, some (.int z6), some (.int z7), some (.int y1), some (.int y2), some (.int y4), none, none]) rfl rfl (tz_in0 rfl)).trans ?_
      refine (tz_g_iconst (v := 1) rfl (tz_in0 rfl)).trans ?_
      refine (tz_g_iload rfl (tz_in0 rfl)).trans ?_
      refine (tz_g_bipush (v := 8) rfl (tz_in0 rfl)).trans ?_
      refine (tz_g_ishr (tz_in0 rfl)).trans ?_
      refine (tz_g_bipush (v := 99) rfl (tz_in0 rfl)).trans ?_
      refine (tz_g_cs2I (m2 := 120) (rc := 1) rfl rfl rfl rfl rfl rfl (by decide) (tz_in0 rfl)).trans ?_
      refine tz_jI (fun y5 A5 => ?_)
      refine (tz_g_iadd (tz_in0 rfl)).trans ?_
      refine (tz_g_istore (L2 := [some (.ref 17), some (.ref 0), some (.ref 157), some (.ref 158), some (.int z4), none, some (.int z6), some (.int z7), some (.int y1), some (.int y2), some (.int y4), some (.int (1 + y5)), none]) rfl rfl (tz_in0 rfl)).trans ?_
      refine (tz_g_iload rfl (tz_in0 rfl)).trans ?_
      refine (tz_g_bipush (v := 15) rfl (tz_in0 rfl)).trans ?_
      refine (tz_g_ishr (tz_in0 rfl)).trans ?_
      refine (tz_g_iload rfl (tz_in0 rfl)).trans ?_
      refine (tz_g_bipush (v := 21) rfl (tz_in0 rfl)).trans ?_
      refine (tz_g_ishr (tz_in0 rfl)).trans ?_
      refine (tz_g_iconst (v := 1) rfl (tz_in0 rfl)).trans ?_
      refine (tz_g_iand (tz_in0 rfl)).trans ?_
      refine (tz_g_if_ne (t := 583) (by decide) (tz_in0 rfl)).trans ?_
      refine tz_cg ?_ ?_
      · skip
        refine (tz_g_sipush (v := 10000) rfl (tz_in0 rfl)).trans ?_
        refine (tz_g_cs2I (m2 := 120) (rc := 1) rfl rfl rfl rfl rfl rfl (by decide) (tz_in0 rfl)).trans ?_
        refine tz_jI (fun y6 A6 => ?_)
        refine (tz_g_istore (L2 := [some (.ref 17), some (.ref 0), some (.ref 157), some (.ref 158), some (.int z4), none, some (.int z6), some (.int z7), some (.int y1), some (.int y2), some (.int y4), some (.int (1 + y5)), some (.int y6)]) rfl rfl (tz_in0 rfl)).trans ?_
        exact tz_Gm (L2 := [some (.ref 17), some (.ref 0), some (.ref 157), some (.ref 158), some (.int z4), none, some (.int z6), some (.int z7), none, some (.int y2), some (.int y4), some (.int (1 + y5)), some (.int y6)]) rfl rfl rfl rfl
      · skip
        refine (tz_g_bipush (v := 40) rfl (tz_in0 rfl)).trans ?_
        refine (tz_g_goto (t := 586) (by decide) (tz_in0 rfl)).trans ?_
        refine (tz_g_cs2I (m2 := 120) (rc := 1) rfl rfl rfl rfl rfl rfl (by decide) (tz_in0 rfl)).trans ?_
        refine tz_jI (fun y6 A6 => ?_)
        refine (tz_g_istore (L2 := [some (.ref 17), some (.ref 0), some (.ref 157), some (.ref 158), some (.int z4), none, some (.int z6), some (.int z7), some (.int y1), some (.int y2), some (.int y4), some (.int (1 + y5)), some (.int y6)]) rfl rfl (tz_in0 rfl)).trans ?_
        exact tz_Gm (L2 := [some (.ref 17), some (.ref 0), some (.ref 157), some (.ref 158), some (.int z4), none, some (.int z6), some (.int z7), none, some (.int y2), some (.int y4), some (.int (1 + y5)), some (.int y6)]) rfl rfl rfl rfl

theorem e_L_world_283 (z4 : Int32) (z5 : Int32) (z6 : Int32) (z7 : Int32) (z8 : Int32) (A : tz_Mem) : q_L_world_283 z4 z5 z6 z7 z8 A =
  if ¬ ((z7 >>> (31 &&& 31)) &&& 1) = 0 then
  tz_bI (f_L_some (z7 >>> (21 &&& 31)) 9 A) (fun y1 A1 =>
  q_L_world_311 z4 z5 z6 z7 z8 (1 + y1) A1)
else
  tz_bI (f_L_some (z7 >>> (21 &&& 31)) 3 A) (fun y1 A1 =>
  q_L_world_311 z4 z5 z6 z7 z8 (1 + y1) A1) := by
  show tz_Go 121 283 [some (.ref 17), some (.ref 0), some (.ref 157), some (.ref 158), some (.int z4), some (.int z5), some (.int z6), some (.int z7), some (.int z8), none, none, none, none] [] A = _
  refine (tz_g_iconst (v := 1) rfl (tz_inM rfl rfl rfl)).trans ?_
  refine (tz_g_iload rfl (tz_in0 rfl)).trans ?_
  refine (tz_g_bipush (v := 21) rfl (tz_in0 rfl)).trans ?_
  refine (tz_g_ishr (tz_in0 rfl)).trans ?_
  refine (tz_g_iload rfl (tz_in0 rfl)).trans ?_
  refine (tz_g_bipush (v := 31) rfl (tz_in0 rfl)).trans ?_
  refine (tz_g_ishr (tz_in0 rfl)).trans ?_
  refine (tz_g_iconst (v := 1) rfl (tz_in0 rfl)).trans ?_
  refine (tz_g_iand (tz_in0 rfl)).trans ?_
  refine (tz_g_if_ne (t := 303) (by decide) (tz_in0 rfl)).trans ?_
  refine tz_cg ?_ ?_
  · skip
    refine (tz_g_bipush (v := 9) rfl (tz_in0 rfl)).trans ?_
    refine (tz_g_cs2I (m2 := 120) (rc := 1) rfl rfl rfl rfl rfl rfl (by decide) (tz_in0 rfl)).trans ?_
    refine tz_jI (fun y1 A1 => ?_)
    refine (tz_g_iadd (tz_in0 rfl)).trans ?_
    refine (tz_g_istore (L2 := [some (.ref 17), some (.ref 0), some (.ref 157), some (.ref 158), some (.int z4), some (.int z5), some (.int z6), some (.int z7), some (.int z8), some (.int (1 + y1)), none, none, none]) rfl rfl (tz_in0 rfl)).trans ?_
    exact tz_Gm (L2 := [some (.ref 17), some (.ref 0), some (.ref 157), some (.ref 158), some (.int z4), some (.int z5), some (.int z6), some (.int z7), some (.int z8), some (.int (1 + y1)), none, none, none]) rfl rfl rfl rfl
  · skip
    refine (tz_g_iconst (v := 3) rfl (tz_in0 rfl)).trans ?_
    refine (tz_g_goto (t := 305) (by decide) (tz_in0 rfl)).trans ?_
    refine (tz_g_cs2I (m2 := 120) (rc := 1) rfl rfl rfl rfl rfl rfl (by decide) (tz_in0 rfl)).trans ?_
    refine tz_jI (fun y1 A1 => ?_)
    refine (tz_g_iadd (tz_in0 rfl)).trans ?_
    refine (tz_g_istore (L2 := [some (.ref 17), some (.ref 0), some (.ref 157), some (.ref 158), some (.int z4), some (.int z5), some (.int z6), some (.int z7), some (.int z8), some (.int (1 + y1)), none, none, none]) rfl rfl (tz_in0 rfl)).trans ?_
    exact tz_Gm (L2 := [some (.ref 17), some (.ref 0), some (.ref 157), some (.ref 158), some (.int z4), some (.int z5), some (.int z6), some (.int z7), some (.int z8), some (.int (1 + y1)), none, none, none]) rfl rfl rfl rfl

theorem e_L_world_249 (z4 : Int32) (z5 : Int32) (z6 : Int32) (z7 : Int32) (z8 : Int32) (z9 : Int32) (z10 : Int32) (A : tz_Mem) : q_L_world_249 z4 z5 z6 z7 z8 z9 z10 A =
  if A.1 ≤ 157 then none else
if A.1 ≤ 158 then none else
if (tz_g A 157 1) < 0 ∨ 40 ≤ (Int32.toNatClampNeg (tz_g A 157 1)) then none else
if (tz_g A 157 1) < 0 ∨ 40 ≤ (Int32.toNatClampNeg (tz_g A 157 1)) then none else
tz_bI (f_X11_set 7 z9 (Int32.toInt64 z10) (tz_sl A 158 (Int32.toNatClampNeg (tz_g A 157 1)) ((tz_gl A 158 (Int32.toNatClampNeg (tz_g A 157 1))) ||| ((Int32.toInt64 z10) <<< (Int32.toInt64 (4 * z9) &&& 63))))) (fun y1 A1 =>
q_L_world_194 z4 z5 z6 z7 z8 (z9 + 1) A1) := by
  show tz_Go 121 249 [some (.ref 17), some (.ref 0), some (.ref 157), some (.ref 158), some (.int z4), some (.int z5), some (.int z6), some (.int z7), some (.int z8), some (.int z9), some (.int z10), none, none] [] A = _
  refine (tz_g_aload_n rfl (tz_inM rfl rfl rfl)).trans ?_
  refine (tz_g_aload_n rfl (tz_in0 rfl)).trans ?_
  refine (tz_g_iconst (v := 1) rfl (tz_in0 rfl)).trans ?_
  refine tz_gB (c := A.1 ≤ 157) (fun q => tz_gx_iaload rfl (tz_in0 rfl) q) (fun hB14 => ?_)
  refine (tz_g_iald (n := 64) (by exact tz_okB hB14 rfl) rfl rfl (tz_in0 rfl)).trans ?_
  refine (if_neg (by decide)).trans ?_
  refine (tz_g_dup2a rfl rfl (tz_in0 rfl)).trans ?_
  refine tz_gB (c := A.1 ≤ 158) (fun q => tz_gx_laload rfl (tz_in0 rfl) q) (fun hB15 => ?_)
  refine (tz_g_lald (n := 40) (by exact tz_okC hB15 rfl) rfl (tz_in0 rfl)).trans ?_
  refine tz_cn1 ?_
  refine (tz_g_iload rfl (tz_in0 rfl)).trans ?_
  refine (tz_g_i2l (tz_in0 rfl)).trans ?_
  refine (tz_g_iconst (v := 4) rfl (tz_in0 rfl)).trans ?_
  refine (tz_g_iload rfl (tz_in0 rfl)).trans ?_
  refine (tz_g_imul (tz_in0 rfl)).trans ?_
  refine (tz_g_lshl (tz_in0 rfl)).trans ?_
  refine (tz_g_lor (tz_in0 rfl)).trans ?_
  refine (tz_g_last (n := 40) (by exact tz_okC hB15 rfl) rfl (tz_in0 rfl)).trans ?_
  refine tz_cn1 ?_
  refine (tz_g_aload_n rfl (tz_in0 rfl)).trans ?_
  refine (tz_g_bipush (v := 7) rfl (tz_in0 rfl)).trans ?_
  refine (tz_g_iload rfl (tz_in0 rfl)).trans ?_
  refine (tz_g_iload rfl (tz_in0 rfl)).trans ?_
  refine (tz_g_i2l (tz_in0 rfl)).trans ?_
  refine (tz_g_cv3I (m2 := 18) (rc := 1) rfl rfl rfl rfl rfl rfl (by decide) (tz_in0 rfl)).trans ?_
  refine tz_jI (fun y1 A1 => ?_)
  refine (tz_g_pop rfl (tz_in0 rfl)).trans ?_
  refine (tz_g_iinc (v := 1) (L2 := [some (.ref 17), some (.ref 0), some (.ref 157), some (.ref 158), some (.int z4), some (.int z5), some (.int z6), some (.int z7), some (.int z8), some (.int (z9 + 1)), some (.int z10), none, none]) rfl rfl rfl rfl (tz_in0 rfl)).trans ?_
  refine (tz_g_goto (t := 194) (by decide) (tz_in0 rfl)).trans ?_
  exact tz_Gm (L2 := [some (.ref 17), some (.ref 0), some (.ref 157), some (.ref 158), some (.int z4), some (.int z5), some (.int z6), some (.int z7), some (.int z8), some (.int (z9 + 1)), none, none, none]) rfl rfl rfl rfl

theorem e_L_world_624 (z4 : Int32) (A : tz_Mem) : q_L_world_624 z4 A =
  tz_bI (f_L_some (z4 >>> (12 &&& 31)) 20 A) (fun y1 A1 =>
if y1 ≤ 0 then
  q_L_world_648 z4 y1 A1
else
  tz_bI (f_X11_hours y1 A1) (fun y2 A2 =>
  q_L_world_648 z4 y1 A2)) := by
  show tz_Go 121 624 [some (.ref 17), none, some (.ref 157), some (.ref 158), some (.int z4), none, none, none, none, none, none, none, none] [] A = _
  refine (tz_g_iload rfl (tz_inM rfl rfl rfl)).trans ?_
  refine (tz_g_bipush (v := 12) rfl (tz_in0 rfl)).trans ?_
  refine (tz_g_ishr (tz_in0 rfl)).trans ?_
  refine (tz_g_bipush (v := 20) rfl (tz_in0 rfl)).trans ?_
  refine (tz_g_cs2I (m2 := 120) (rc := 1) rfl rfl rfl rfl rfl rfl (by decide) (tz_in0 rfl)).trans ?_
  refine tz_jI (fun y1 A1 => ?_)
  refine (tz_g_istore (L2 := [some (.ref 17), none, some (.ref 157), some (.ref 158), some (.int z4), none, none, some (.int y1), none, none, none, none, none]) rfl rfl (tz_in0 rfl)).trans ?_
  refine (tz_g_iload rfl (tz_in0 rfl)).trans ?_
  refine (tz_g_if_le (t := 648) (by decide) (tz_in0 rfl)).trans ?_
  refine tz_cg ?_ ?_
  · skip
    exact tz_Gm (L2 := [some (.ref 17), none, some (.ref 157), some (.ref 158), some (.int z4), none, none, some (.int y1), none, none, none, none, none]) rfl rfl rfl rfl
  · skip
    refine (tz_g_aload_n rfl (tz_in0 rfl)).trans ?_
    refine (tz_g_iload rfl (tz_in0 rfl)).trans ?_
    refine (tz_g_cv1I (m2 := 106) (rc := 1) rfl rfl rfl rfl rfl rfl (by decide) (tz_in0 rfl)).trans ?_
    refine tz_jI (fun y2 A2 => ?_)
    refine (tz_g_pop rfl (tz_in0 rfl)).trans ?_
    exact tz_Gm (L2 := [some (.ref 17), none, some (.ref 157), some (.ref 158), some (.int z4), none, none, some (.int y1), none, none, none, none, none]) rfl rfl rfl rfl

theorem e_L_world_591 (z4 : Int32) (z6 : Int32) (z7 : Int32) (z9 : Int32) (z10 : Int32) (z11 : Int32) (z12 : Int32) (A : tz_Mem) : q_L_world_591 z4 z6 z7 z9 z10 z11 z12 A =
  tz_bI (f_L_letter z12 z9 z10 z11 A) (fun y1 A1 =>
tz_bI (f_X11_letter z12 z9 z10 z11 A1) (fun y2 A2 =>
q_L_world_489 z4 z6 (z7 + 1) A2)) := by
  show tz_Go 121 591 [some (.ref 17), some (.ref 0), some (.ref 157), some (.ref 158), some (.int z4), none, some (.int z6), some (.int z7), none, some (.int z9), some (.int z10), some (.int z11), some (.int z12)] [] A = _
  refine (tz_g_aload_n rfl (tz_inM rfl rfl rfl)).trans ?_
  refine (tz_g_aload_n rfl (tz_in0 rfl)).trans ?_
  refine (tz_g_iload rfl (tz_in0 rfl)).trans ?_
  refine (tz_g_iload rfl (tz_in0 rfl)).trans ?_
  refine (tz_g_iload rfl (tz_in0 rfl)).trans ?_
  refine (tz_g_iload rfl (tz_in0 rfl)).trans ?_
  refine (tz_g_cs6I (m2 := 123) (rc := 1) rfl rfl rfl rfl rfl rfl (by decide) (tz_in0 rfl)).trans ?_
  refine tz_jI (fun y1 A1 => ?_)
  refine (tz_g_pop rfl (tz_in0 rfl)).trans ?_
  refine (tz_g_aload_n rfl (tz_in0 rfl)).trans ?_
  refine (tz_g_iload rfl (tz_in0 rfl)).trans ?_
  refine (tz_g_iload rfl (tz_in0 rfl)).trans ?_
  refine (tz_g_iload rfl (tz_in0 rfl)).trans ?_
  refine (tz_g_iload rfl (tz_in0 rfl)).trans ?_
  refine (tz_g_cv4I (m2 := 38) (rc := 1) rfl rfl rfl rfl rfl rfl (by decide) (tz_in0 rfl)).trans ?_
  refine tz_jI (fun y2 A2 => ?_)
  refine (tz_g_pop rfl (tz_in0 rfl)).trans ?_
  refine (tz_g_iinc (v := 1) (L2 := [some (.ref 17), some (.ref 0), some (.ref 157), some (.ref 158), some (.int z4), none, some (.int z6), some (.int (z7 + 1)), none, some (.int z9), some (.int z10), some (.int z11), some (.int z12)]) rfl rfl rfl rfl (tz_in0 rfl)).trans ?_
  refine (tz_g_goto (t := 489) (by decide) (tz_in0 rfl)).trans ?_
  exact tz_Gm (L2 := [some (.ref 17), some (.ref 0), some (.ref 157), some (.ref 158), some (.int z4), none, some (.int z6), some (.int (z7 + 1)), none, none, none, none, none]) rfl rfl rfl rfl

theorem e_L_world_311 (z4 : Int32) (z5 : Int32) (z6 : Int32) (z7 : Int32) (z8 : Int32) (z9 : Int32) (A : tz_Mem) : q_L_world_311 z4 z5 z6 z7 z8 z9 A =
  if ¬ ((z7 >>> (24 &&& 31)) &&& 1) = 0 then
  tz_bI (f_L_some (z7 >>> (25 &&& 31)) 99 A) (fun y1 A1 =>
  q_L_world_340 z4 z5 z6 z7 z8 z9 (1 + y1) A1)
else
  q_L_world_340 z4 z5 z6 z7 z8 z9 99 A := by
  show tz_Go 121 311 [some (.ref 17), some (.ref 0), some (.ref 157), some (.ref 158), some (.int z4), some (.int z5), some (.int z6), some (.int z7), some (.int z8), some (.int z9), none, none, none] [] A = _
  refine (tz_g_iload rfl (tz_inM rfl rfl rfl)).trans ?_
  refine (tz_g_bipush (v := 24) rfl (tz_in0 rfl)).trans ?_
  refine (tz_g_ishr (tz_in0 rfl)).trans ?_
  refine (tz_g_iconst (v := 1) rfl (tz_in0 rfl)).trans ?_
  refine (tz_g_iand (tz_in0 rfl)).trans ?_
  refine (tz_g_if_ne (t := 326) (by decide) (tz_in0 rfl)).trans ?_
  refine tz_cg ?_ ?_
  · skip
    refine (tz_g_iconst (v := 1) rfl (tz_in0 rfl)).trans ?_
    refine (tz_g_iload rfl (tz_in0 rfl)).trans ?_
    refine (tz_g_bipush (v := 25) rfl (tz_in0 rfl)).trans ?_
    refine (tz_g_ishr (tz_in0 rfl)).trans ?_
    refine (tz_g_bipush (v := 99) rfl (tz_in0 rfl)).trans ?_
    refine (tz_g_cs2I (m2 := 120) (rc := 1) rfl rfl rfl rfl rfl rfl (by decide) (tz_in0 rfl)).trans ?_
    refine tz_jI (fun y1 A1 => ?_)
    refine (tz_g_iadd (tz_in0 rfl)).trans ?_
    refine (tz_g_istore (L2 := [some (.ref 17), some (.ref 0), some (.ref 157), some (.ref 158), some (.int z4), some (.int z5), some (.int z6), some (.int z7), some (.int z8), some (.int z9), some (.int (1 + y1)), none, none]) rfl rfl (tz_in0 rfl)).trans ?_
    exact tz_Gm (L2 := [some (.ref 17), some (.ref 0), some (.ref 157), some (.ref 158), some (.int z4), some (.int z5), some (.int z6), some (.int z7), some (.int z8), some (.int z9), some (.int (1 + y1)), none, none]) rfl rfl rfl rfl
  · skip
    refine (tz_g_bipush (v := 99) rfl (tz_in0 rfl)).trans ?_
    refine (tz_g_goto (t := 338) (by decide) (tz_in0 rfl)).trans ?_
    refine (tz_g_istore (L2 := [some (.ref 17), some (.ref 0), some (.ref 157), some (.ref 158), some (.int z4), some (.int z5), some (.int z6), some (.int z7), some (.int z8), some (.int z9), some (.int 99), none, none]) rfl rfl (tz_in0 rfl)).trans ?_
    exact tz_Gm (L2 := [some (.ref 17), some (.ref 0), some (.ref 157), some (.ref 158), some (.int z4), some (.int z5), some (.int z6), some (.int z7), some (.int z8), some (.int z9), some (.int 99), none, none]) rfl rfl rfl rfl

theorem e_L_world_648 (z4 : Int32) (z7 : Int32) (A : tz_Mem) : q_L_world_648 z4 z7 A =
  q_L_world_651 z4 z7 0 A := by
  show tz_Go 121 648 [some (.ref 17), none, some (.ref 157), some (.ref 158), some (.int z4), none, none, some (.int z7), none, none, none, none, none] [] A = _
  refine (tz_g_iconst (v := 0) rfl (tz_inM rfl rfl rfl)).trans ?_
  refine (tz_g_istore (L2 := [some (.ref 17), none, some (.ref 157), some (.ref 158), some (.int z4), none, none, some (.int z7), some (.int 0), none, none, none, none]) rfl rfl (tz_in0 rfl)).trans ?_
  exact tz_Gm (L2 := [some (.ref 17), none, some (.ref 157), some (.ref 158), some (.int z4), none, none, some (.int z7), some (.int 0), none, none, none, none]) rfl rfl rfl rfl

theorem e_L_world_340 (z4 : Int32) (z5 : Int32) (z6 : Int32) (z7 : Int32) (z8 : Int32) (z9 : Int32) (z10 : Int32) (A : tz_Mem) : q_L_world_340 z4 z5 z6 z7 z8 z9 z10 A =
  if ¬ ((z4 >>> (20 &&& 31)) &&& 1) = 0 then
  tz_bI (f_L_some (z7 >>> (27 &&& 31)) 9 A) (fun y1 A1 =>
  q_L_world_368 z4 z5 z6 z8 z9 z10 (1 + y1) A1)
else
  tz_bI (f_L_some (z7 >>> (27 &&& 31)) 3 A) (fun y1 A1 =>
  q_L_world_368 z4 z5 z6 z8 z9 z10 (1 + y1) A1) := by
  show tz_Go 121 340 [some (.ref 17), some (.ref 0), some (.ref 157), some (.ref 158), some (.int z4), some (.int z5), some (.int z6), some (.int z7), some (.int z8), some (.int z9), some (.int z10), none, none] [] A = _
  refine (tz_g_iconst (v := 1) rfl (tz_inM rfl rfl rfl)).trans ?_
  refine (tz_g_iload rfl (tz_in0 rfl)).trans ?_
  refine (tz_g_bipush (v := 27) rfl (tz_in0 rfl)).trans ?_
  refine (tz_g_ishr (tz_in0 rfl)).trans ?_
  refine (tz_g_iload rfl (tz_in0 rfl)).trans ?_
  refine (tz_g_bipush (v := 20) rfl (tz_in0 rfl)).trans ?_
  refine (tz_g_ishr (tz_in0 rfl)).trans ?_
  refine (tz_g_iconst (v := 1) rfl (tz_in0 rfl)).trans ?_
  refine (tz_g_iand (tz_in0 rfl)).trans ?_
  refine (tz_g_if_ne (t := 360) (by decide) (tz_in0 rfl)).trans ?_
  refine tz_cg ?_ ?_
  · skip
    refine (tz_g_bipush (v := 9) rfl (tz_in0 rfl)).trans ?_
    refine (tz_g_cs2I (m2 := 120) (rc := 1) rfl rfl rfl rfl rfl rfl (by decide) (tz_in0 rfl)).trans ?_
    refine tz_jI (fun y1 A1 => ?_)
    refine (tz_g_iadd (tz_in0 rfl)).trans ?_
    refine (tz_g_istore (L2 := [some (.ref 17), some (.ref 0), some (.ref 157), some (.ref 158), some (.int z4), some (.int z5), some (.int z6), some (.int z7), some (.int z8), some (.int z9), some (.int z10), some (.int (1 + y1)), none]) rfl rfl (tz_in0 rfl)).trans ?_
    exact tz_Gm (L2 := [some (.ref 17), some (.ref 0), some (.ref 157), some (.ref 158), some (.int z4), some (.int z5), some (.int z6), none, some (.int z8), some (.int z9), some (.int z10), some (.int (1 + y1)), none]) rfl rfl rfl rfl
  · skip
    refine (tz_g_iconst (v := 3) rfl (tz_in0 rfl)).trans ?_
    refine (tz_g_goto (t := 362) (by decide) (tz_in0 rfl)).trans ?_
    refine (tz_g_cs2I (m2 := 120) (rc := 1) rfl rfl rfl rfl rfl rfl (by decide) (tz_in0 rfl)).trans ?_
    refine tz_jI (fun y1 A1 => ?_)
    refine (tz_g_iadd (tz_in0 rfl)).trans ?_
    refine (tz_g_istore (L2 := [some (.ref 17), some (.ref 0), some (.ref 157), some (.ref 158), some (.int z4), some (.int z5), some (.int z6), some (.int z7), some (.int z8), some (.int z9), some (.int z10), some (.int (1 + y1)), none]) rfl rfl (tz_in0 rfl)).trans ?_
    exact tz_Gm (L2 := [some (.ref 17), some (.ref 0), some (.ref 157), some (.ref 158), some (.int z4), some (.int z5), some (.int z6), none, some (.int z8), some (.int z9), some (.int z10), some (.int (1 + y1)), none]) rfl rfl rfl rfl

theorem e_L_world_651 (z4 : Int32) (z7 : Int32) (z8 : Int32) (A : tz_Mem) : q_L_world_651 z4 z7 z8 A =
  if z7 ≤ z8 then
  if ¬ ((z4 >>> (18 &&& 31)) &&& 3) = 0 then
    some (none, A)
  else
    if A.1 ≤ 157 then none else
    if (tz_g A 157 2) ≤ 0 then
      some (none, A)
    else
      tz_bI (f_L_some (z4 >>> (22 &&& 31)) (tz_g A 157 2) A) (fun y1 A1 =>
      tz_bI (f_X11_burn y1 A1) (fun y2 A2 =>
      if ¬ y2 = 1 then
        some (none, A2)
      else
        if A2.1 ≤ 157 then none else
        if (36 + y1) < 0 ∨ 64 ≤ (Int32.toNatClampNeg (36 + y1)) then none else
        some (none, (tz_s A2 157 (Int32.toNatClampNeg (36 + y1)) 300))))
else
  tz_bV (f_L_hour A) (fun A1 =>
  q_L_world_651 z4 z7 (z8 + 1) A1) := by
  show tz_Go 121 651 [some (.ref 17), none, some (.ref 157), some (.ref 158), some (.int z4), none, none, some (.int z7), some (.int z8), none, none, none, none] [] A = _
  refine (tz_g_iload rfl (tz_inM rfl rfl rfl)).trans ?_
  refine (tz_g_iload rfl (tz_in0 rfl)).trans ?_
  refine (tz_g_ic_ge (t := 669) (by decide) (tz_in0 rfl)).trans ?_
  refine tz_cg ?_ ?_
  · skip
    refine (tz_g_iload rfl (tz_in0 rfl)).trans ?_
    refine (tz_g_bipush (v := 18) rfl (tz_in0 rfl)).trans ?_
    refine (tz_g_ishr (tz_in0 rfl)).trans ?_
    refine (tz_g_iconst (v := 3) rfl (tz_in0 rfl)).trans ?_
    refine (tz_g_iand (tz_in0 rfl)).trans ?_
    refine (tz_g_if_ne (t := 718) (by decide) (tz_in0 rfl)).trans ?_
    refine tz_cg ?_ ?_
    · skip
      exact tz_g_ret0 (tz_in0 rfl) rfl
    · skip
      refine (tz_g_aload_n rfl (tz_in0 rfl)).trans ?_
      refine (tz_g_iconst (v := 2) rfl (tz_in0 rfl)).trans ?_
      refine tz_gB (c := A.1 ≤ 157) (fun q => tz_gx_iaload rfl (tz_in0 rfl) q) (fun hB16 => ?_)
      refine (tz_g_iald (n := 64) (by exact tz_okB hB16 rfl) rfl rfl (tz_in0 rfl)).trans ?_
      refine (if_neg (by decide)).trans ?_
      refine (tz_g_if_le (t := 718) (by decide) (tz_in0 rfl)).trans ?_
      refine tz_cg ?_ ?_
      · skip
        exact tz_g_ret0 (tz_in0 rfl) rfl
      · skip
        refine (tz_g_iload rfl (tz_in0 rfl)).trans ?_
        refine (tz_g_bipush (v := 22) rfl (tz_in0 rfl)).trans ?_
        refine (tz_g_ishr (tz_in0 rfl)).trans ?_
        refine (tz_g_aload_n rfl (tz_in0 rfl)).trans ?_
        refine (tz_g_iconst (v := 2) rfl (tz_in0 rfl)).trans ?_
        refine (tz_g_iald (n := 64) (by exact tz_okB hB16 rfl) rfl rfl (tz_in0 rfl)).trans ?_
        refine (if_neg (by decide)).trans ?_
        refine (tz_g_cs2I (m2 := 120) (rc := 1) rfl rfl rfl rfl rfl rfl (by decide) (tz_in0 rfl)).trans ?_
        refine tz_jI (fun y1 A1 => ?_)
        refine (tz_g_istore (L2 := [some (.ref 17), none, some (.ref 157), some (.ref 158), some (.int z4), none, none, some (.int z7), some (.int y1), none, none, none, none]) rfl rfl (tz_in0 rfl)).trans ?_
        refine (tz_g_aload_n rfl (tz_in0 rfl)).trans ?_
        refine (tz_g_iload rfl (tz_in0 rfl)).trans ?_
        refine (tz_g_cv1I (m2 := 108) (rc := 1) rfl rfl rfl rfl rfl rfl (by decide) (tz_in0 rfl)).trans ?_
        refine tz_jI (fun y2 A2 => ?_)
        refine (tz_g_iconst (v := 1) rfl (tz_in0 rfl)).trans ?_
        refine (tz_g_ic_ne (t := 718) (by decide) (tz_in0 rfl)).trans ?_
        refine tz_cg ?_ ?_
        · skip
          exact tz_g_ret0 (tz_in0 rfl) rfl
        · skip
          refine (tz_g_aload_n rfl (tz_in0 rfl)).trans ?_
          refine (tz_g_bipush (v := 36) rfl (tz_in0 rfl)).trans ?_
          refine (tz_g_iload rfl (tz_in0 rfl)).trans ?_
          refine (tz_g_iadd (tz_in0 rfl)).trans ?_
          refine (tz_g_sipush (v := 300) rfl (tz_in0 rfl)).trans ?_
          refine tz_gB (c := A2.1 ≤ 157) (fun q => tz_gx_iastore rfl (tz_in0 rfl) q) (fun hB17 => ?_)
          refine (tz_g_iast (n := 64) (by exact tz_okB hB17 rfl) rfl rfl (tz_in0 rfl)).trans ?_
          refine tz_cn1 ?_
          exact tz_g_ret0 (tz_in0 rfl) rfl
  · skip
    refine (tz_g_aload_n rfl (tz_in0 rfl)).trans ?_
    refine (tz_g_aload_n rfl (tz_in0 rfl)).trans ?_
    refine (tz_g_cs2V (m2 := 124) (rc := 0) rfl rfl rfl rfl rfl rfl (by decide) (tz_in0 rfl)).trans ?_
    refine tz_jV (fun A1 => ?_)
    refine (tz_g_iinc (v := 1) (L2 := [some (.ref 17), none, some (.ref 157), some (.ref 158), some (.int z4), none, none, some (.int z7), some (.int (z8 + 1)), none, none, none, none]) rfl rfl rfl rfl (tz_in0 rfl)).trans ?_
    refine (tz_g_goto (t := 651) (by decide) (tz_in0 rfl)).trans ?_
    exact tz_Gm (L2 := [some (.ref 17), none, some (.ref 157), some (.ref 158), some (.int z4), none, none, some (.int z7), some (.int (z8 + 1)), none, none, none, none]) rfl rfl rfl rfl

theorem e_L_world_368 (z4 : Int32) (z5 : Int32) (z6 : Int32) (z8 : Int32) (z9 : Int32) (z10 : Int32) (z11 : Int32) (A : tz_Mem) : q_L_world_368 z4 z5 z6 z8 z9 z10 z11 A =
  if A.1 ≤ 157 then none else
tz_bI (f_L_way (tz_g A 157 1) (z8 - 1) A) (fun y1 A1 =>
if A1.1 ≤ 157 then none else
tz_bI (f_L_way (tz_g A1 157 1) 0 A1) (fun y2 A2 =>
if ¬ y1 = y2 then
  q_L_world_393 z4 z5 z6 z8 z9 z10 z11 A2
else
  q_L_world_393 z4 z5 z6 (z8 + (-1)) z9 z10 z11 A2)) := by
  show tz_Go 121 368 [some (.ref 17), some (.ref 0), some (.ref 157), some (.ref 158), some (.int z4), some (.int z5), some (.int z6), none, some (.int z8), some (.int z9), some (.int z10), some (.int z11), none] [] A = _
  refine (tz_g_aload_n rfl (tz_inM rfl rfl rfl)).trans ?_
  refine (tz_g_aload_n rfl (tz_in0 rfl)).trans ?_
  refine (tz_g_iconst (v := 1) rfl (tz_in0 rfl)).trans ?_
  refine tz_gB (c := A.1 ≤ 157) (fun q => tz_gx_iaload rfl (tz_in0 rfl) q) (fun hB18 => ?_)
  refine (tz_g_iald (n := 64) (by exact tz_okB hB18 rfl) rfl rfl (tz_in0 rfl)).trans ?_
  refine (if_neg (by decide)).trans ?_
  refine (tz_g_iload rfl (tz_in0 rfl)).trans ?_
  refine (tz_g_iconst (v := 1) rfl (tz_in0 rfl)).trans ?_
  refine (tz_g_isub (tz_in0 rfl)).trans ?_
  refine (tz_g_cs3I (m2 := 122) (rc := 1) rfl rfl rfl rfl rfl rfl (by decide) (tz_in0 rfl)).trans ?_
  refine tz_jI (fun y1 A1 => ?_)
  refine (tz_g_aload_n rfl (tz_in0 rfl)).trans ?_
  refine (tz_g_aload_n rfl (tz_in0 rfl)).trans ?_
  refine (tz_g_iconst (v := 1) rfl (tz_in0 rfl)).trans ?_
  refine tz_gB (c := A1.1 ≤ 157) (fun q => tz_gx_iaload rfl (tz_in0 rfl) q) (fun hB19 => ?_)
  refine (tz_g_iald (n := 64) (by exact tz_okB hB19 rfl) rfl rfl (tz_in0 rfl)).trans ?_
  refine (if_neg (by decide)).trans ?_
  refine (tz_g_iconst (v := 0) rfl (tz_in0 rfl)).trans ?_
  refine (tz_g_cs3I (m2 := 122) (rc := 1) rfl rfl rfl rfl rfl rfl (by decide) (tz_in0 rfl)).trans ?_
  refine tz_jI (fun y2 A2 => ?_)
  refine (tz_g_ic_ne (t := 393) (by decide) (tz_in0 rfl)).trans ?_
  refine tz_cg ?_ ?_
  · skip
    exact tz_Gm (L2 := [some (.ref 17), some (.ref 0), some (.ref 157), some (.ref 158), some (.int z4), some (.int z5), some (.int z6), none, some (.int z8), some (.int z9), some (.int z10), some (.int z11), none]) rfl rfl rfl rfl
  · skip
    refine (tz_g_iinc (v := (-1)) (L2 := [some (.ref 17), some (.ref 0), some (.ref 157), some (.ref 158), some (.int z4), some (.int z5), some (.int z6), none, some (.int (z8 + (-1))), some (.int z9), some (.int z10), some (.int z11), none]) rfl rfl rfl rfl (tz_in0 rfl)).trans ?_
    exact tz_Gm (L2 := [some (.ref 17), some (.ref 0), some (.ref 157), some (.ref 158), some (.int z4), some (.int z5), some (.int z6), none, some (.int (z8 + (-1))), some (.int z9), some (.int z10), some (.int z11), none]) rfl rfl rfl rfl

theorem e_L_world_393 (z4 : Int32) (z5 : Int32) (z6 : Int32) (z8 : Int32) (z9 : Int32) (z10 : Int32) (z11 : Int32) (A : tz_Mem) : q_L_world_393 z4 z5 z6 z8 z9 z10 z11 A =
  if 2 ≤ z8 then
  q_L_world_402 z4 z5 z6 z8 z9 z10 z11 A
else
  q_L_world_468 z4 z5 z6 A := by
  show tz_Go 121 393 [some (.ref 17), some (.ref 0), some (.ref 157), some (.ref 158), some (.int z4), some (.int z5), some (.int z6), none, some (.int z8), some (.int z9), some (.int z10), some (.int z11), none] [] A = _
  refine (tz_g_iload rfl (tz_inM rfl rfl rfl)).trans ?_
  refine (tz_g_iconst (v := 2) rfl (tz_in0 rfl)).trans ?_
  refine (tz_g_ic_ge (t := 402) (by decide) (tz_in0 rfl)).trans ?_
  refine tz_cg ?_ ?_
  · skip
    exact tz_Gm (L2 := [some (.ref 17), some (.ref 0), some (.ref 157), some (.ref 158), some (.int z4), some (.int z5), some (.int z6), none, some (.int z8), some (.int z9), some (.int z10), some (.int z11), none]) rfl rfl rfl rfl
  · skip
    refine (tz_g_goto (t := 468) (by decide) (tz_in0 rfl)).trans ?_
    exact tz_Gm (L2 := [some (.ref 17), some (.ref 0), some (.ref 157), some (.ref 158), some (.int z4), some (.int z5), some (.int z6), none, none, none, none, none, none]) rfl rfl rfl rfl

theorem e_L_world_402 (z4 : Int32) (z5 : Int32) (z6 : Int32) (z8 : Int32) (z9 : Int32) (z10 : Int32) (z11 : Int32) (A : tz_Mem) : q_L_world_402 z4 z5 z6 z8 z9 z10 z11 A =
  tz_bI (f_X11_storm 7 z8 z9 z10 z11 A) (fun y1 A1 =>
if A1.1 ≤ 157 then none else
if A1.1 ≤ 158 then none else
if (tz_g A1 157 1) < 0 ∨ 40 ≤ (Int32.toNatClampNeg (tz_g A1 157 1)) then none else
if (tz_g A1 157 1) < 0 ∨ 40 ≤ (Int32.toNatClampNeg (tz_g A1 157 1)) then none else
if (16 + (tz_g (tz_sl A1 158 (Int32.toNatClampNeg (tz_g A1 157 1)) ((tz_gl A1 158 (Int32.toNatClampNeg (tz_g A1 157 1))) &&& (((1 : Int64) <<< (Int32.toInt64 (4 * z8) &&& 63)) - 1))) 157 1)) < 0 ∨ 64 ≤ (Int32.toNatClampNeg (16 + (tz_g (tz_sl A1 158 (Int32.toNatClampNeg (tz_g A1 157 1)) ((tz_gl A1 158 (Int32.toNatClampNeg (tz_g A1 157 1))) &&& (((1 : Int64) <<< (Int32.toInt64 (4 * z8) &&& 63)) - 1))) 157 1))) then none else
q_L_world_468 z4 z5 z6 (tz_s (tz_s (tz_sl A1 158 (Int32.toNatClampNeg (tz_g A1 157 1)) ((tz_gl A1 158 (Int32.toNatClampNeg (tz_g A1 157 1))) &&& (((1 : Int64) <<< (Int32.toInt64 (4 * z8) &&& 63)) - 1))) 157 1 ((tz_g (tz_sl A1 158 (Int32.toNatClampNeg (tz_g A1 157 1)) ((tz_gl A1 158 (Int32.toNatClampNeg (tz_g A1 157 1))) &&& (((1 : Int64) <<< (Int32.toInt64 (4 * z8) &&& 63)) - 1))) 157 1) + 1)) 157 (Int32.toNatClampNeg (16 + (tz_g (tz_sl A1 158 (Int32.toNatClampNeg (tz_g A1 157 1)) ((tz_gl A1 158 (Int32.toNatClampNeg (tz_g A1 157 1))) &&& (((1 : Int64) <<< (Int32.toInt64 (4 * z8) &&& 63)) - 1))) 157 1))) (((z9 + (10 * z10)) + (1000 * z11)) + (10000 * z8)))) := by
  show tz_Go 121 402 [some (.ref 17), some (.ref 0), some (.ref 157), some (.ref 158), some (.int z4), some (.int z5), some (.int z6), none, some (.int z8), some (.int z9), some (.int z10), some (.int z11), none] [] A = _
  refine (tz_g_aload_n rfl (tz_inM rfl rfl rfl)).trans ?_
  refine (tz_g_bipush (v := 7) rfl (tz_in0 rfl)).trans ?_
  refine (tz_g_iload rfl (tz_in0 rfl)).trans ?_
  refine (tz_g_iload rfl (tz_in0 rfl)).trans ?_
  refine (tz_g_iload rfl (tz_in0 rfl)).trans ?_
  refine (tz_g_iload rfl (tz_in0 rfl)).trans ?_
  refine (tz_g_cv5I (m2 := 30) (rc := 1) rfl rfl rfl rfl rfl rfl (by decide) (tz_in0 rfl)).trans ?_
  refine tz_jI (fun y1 A1 => ?_)
  refine (tz_g_pop rfl (tz_in0 rfl)).trans ?_
  refine (tz_g_aload_n rfl (tz_in0 rfl)).trans ?_
  refine (tz_g_aload_n rfl (tz_in0 rfl)).trans ?_
  refine (tz_g_iconst (v := 1) rfl (tz_in0 rfl)).trans ?_
  refine tz_gB (c := A1.1 ≤ 157) (fun q => tz_gx_iaload rfl (tz_in0 rfl) q) (fun hB20 => ?_)
  refine (tz_g_iald (n := 64) (by exact tz_okB hB20 rfl) rfl rfl (tz_in0 rfl)).trans ?_
  refine (if_neg (by decide)).trans ?_
  refine (tz_g_dup2a rfl rfl (tz_in0 rfl)).trans ?_
  refine tz_gB (c := A1.1 ≤ 158) (fun q => tz_gx_laload rfl (tz_in0 rfl) q) (fun hB21 => ?_)
  refine (tz_g_lald (n := 40) (by exact tz_okC hB21 rfl) rfl (tz_in0 rfl)).trans ?_
  refine tz_cn1 ?_
  refine (tz_g_lconst (v := 1) rfl (tz_in0 rfl)).trans ?_
  refine (tz_g_iconst (v := 4) rfl (tz_in0 rfl)).trans ?_
  refine (tz_g_iload rfl (tz_in0 rfl)).trans ?_
  refine (tz_g_imul (tz_in0 rfl)).trans ?_
  refine (tz_g_lshl (tz_in0 rfl)).trans ?_
  refine (tz_g_lconst (v := 1) rfl (tz_in0 rfl)).trans ?_
  refine (tz_g_lsub (tz_in0 rfl)).trans ?_
  refine (tz_g_land (tz_in0 rfl)).trans ?_
  refine (tz_g_last (n := 40) (by exact tz_okC hB21 rfl) rfl (tz_in0 rfl)).trans ?_
  refine tz_cn1 ?_
  refine (tz_g_aload_n rfl (tz_in0 rfl)).trans ?_
  refine (tz_g_bipush (v := 16) rfl (tz_in0 rfl)).trans ?_
  refine (tz_g_aload_n rfl (tz_in0 rfl)).trans ?_
  refine (tz_g_iconst (v := 1) rfl (tz_in0 rfl)).trans ?_
  refine (tz_g_dup2a rfl rfl (tz_in0 rfl)).trans ?_
  refine (tz_g_iald (n := 64) (by exact tz_okB hB20 rfl) rfl rfl (tz_in0 rfl)).trans ?_
  refine (if_neg (by decide)).trans ?_
  refine (tz_g_dup_x2 rfl (tz_in0 rfl)).trans ?_
  refine (tz_g_iconst (v := 1) rfl (tz_in0 rfl)).trans ?_
  refine (tz_g_iadd (tz_in0 rfl)).trans ?_
  refine (tz_g_iast (n := 64) (by exact tz_okB hB20 rfl) rfl rfl (tz_in0 rfl)).trans ?_
  refine (if_neg (by decide)).trans ?_
  refine (tz_g_iadd (tz_in0 rfl)).trans ?_
  refine (tz_g_iload rfl (tz_in0 rfl)).trans ?_
  refine (tz_g_bipush (v := 10) rfl (tz_in0 rfl)).trans ?_
  refine (tz_g_iload rfl (tz_in0 rfl)).trans ?_
  refine (tz_g_imul (tz_in0 rfl)).trans ?_
  refine (tz_g_iadd (tz_in0 rfl)).trans ?_
  refine (tz_g_sipush (v := 1000) rfl (tz_in0 rfl)).trans ?_
  refine (tz_g_iload rfl (tz_in0 rfl)).trans ?_
  refine (tz_g_imul (tz_in0 rfl)).trans ?_
  refine (tz_g_iadd (tz_in0 rfl)).trans ?_
  refine (tz_g_sipush (v := 10000) rfl (tz_in0 rfl)).trans ?_
  refine (tz_g_iload rfl (tz_in0 rfl)).trans ?_
  refine (tz_g_imul (tz_in0 rfl)).trans ?_
  refine (tz_g_iadd (tz_in0 rfl)).trans ?_
  refine (tz_g_iast (n := 64) (by exact tz_okB hB20 rfl) rfl rfl (tz_in0 rfl)).trans ?_
  refine tz_cn1 ?_
  exact tz_Gm (L2 := [some (.ref 17), some (.ref 0), some (.ref 157), some (.ref 158), some (.int z4), some (.int z5), some (.int z6), none, none, none, none, none, none]) rfl rfl rfl rfl

theorem e_L_world_468 (z4 : Int32) (z5 : Int32) (z6 : Int32) (A : tz_Mem) : q_L_world_468 z4 z5 z6 A =
  q_L_world_140 z4 z5 (z6 + 1) A := by
  show tz_Go 121 468 [some (.ref 17), some (.ref 0), some (.ref 157), some (.ref 158), some (.int z4), some (.int z5), some (.int z6), none, none, none, none, none, none] [] A = _
  refine (tz_g_iinc (v := 1) (L2 := [some (.ref 17), some (.ref 0), some (.ref 157), some (.ref 158), some (.int z4), some (.int z5), some (.int (z6 + 1)), none, none, none, none, none, none]) rfl rfl rfl rfl (tz_inM rfl rfl rfl)).trans ?_
  refine (tz_g_goto (t := 140) (by decide) (tz_in0 rfl)).trans ?_
  exact tz_Gm (L2 := [some (.ref 17), some (.ref 0), some (.ref 157), some (.ref 158), some (.int z4), some (.int z5), some (.int (z6 + 1)), none, none, none, none, none, none]) rfl rfl rfl rfl

theorem e_X11_needs (x1 : Int32) (x2 : Int32) (A : tz_Mem) : f_X11_needs x1 x2 A =
  tz_bI (f_X4_has 30 x1 A) (fun y1 A1 =>
if y1 = 0 then
  tz_bI (f_X11_refuseLower (-5) A1) (fun y2 A2 =>
  some (some (.int y2), A2))
else
  tz_bI (f_X11_isOneOfTwo x2 A1) (fun y2 A2 =>
  if ¬ y2 = 0 then
    tz_bI (f_X11_arrivalWithout x1 (-1) A2) (fun y3 A3 =>
    if ¬ y3 = (-1) then
      q_X11_needs_58 x1 x2 y3 0 (-1) 0 A3
    else
      q_X11_needs_58 x1 x2 2147483647 0 (-1) 0 A3)
  else
    tz_bI (f_X11_refuseLower (-5) A2) (fun y3 A3 =>
    some (some (.int y3), A3)))) := by
  refine (tz_Fe (L := [some (.ref 17), some (.int x1), some (.int x2), none, none, none, none, none]) rfl).trans ?_
  refine (tz_g_aload_n rfl (tz_in0 rfl)).trans ?_
  refine (tz_g_getr (j := 30) rfl rfl rfl rfl rfl (tz_in0 rfl)).trans ?_
  refine (tz_g_getr (j := 45) rfl rfl rfl rfl rfl (tz_in0 rfl)).trans ?_
  refine (tz_g_iload_n rfl (tz_in0 rfl)).trans ?_
  refine (tz_g_cv1I (m2 := 52) (rc := 4) rfl rfl rfl rfl rfl rfl (by decide) (tz_in0 rfl)).trans ?_
  refine tz_jI (fun y1 A1 => ?_)
  refine (tz_g_if_eq (t := 21) (by decide) (tz_in0 rfl)).trans ?_
  refine tz_cg ?_ ?_
  · skip
    refine (tz_g_aload_n rfl (tz_in0 rfl)).trans ?_
    refine (tz_g_bipush (v := (-5)) rfl (tz_in0 rfl)).trans ?_
    refine (tz_g_cv1I (m2 := 101) (rc := 1) rfl rfl rfl rfl rfl rfl (by decide) (tz_in0 rfl)).trans ?_
    refine tz_jI (fun y2 A2 => ?_)
    exact tz_g_ret1 (tz_in0 rfl) rfl
  · skip
    refine (tz_g_iload_n rfl (tz_in0 rfl)).trans ?_
    refine (tz_g_cs1I (m2 := 98) (rc := 4) rfl rfl rfl rfl rfl rfl (by decide) (tz_in0 rfl)).trans ?_
    refine tz_jI (fun y2 A2 => ?_)
    refine (tz_g_if_ne (t := 28) (by decide) (tz_in0 rfl)).trans ?_
    refine tz_cg ?_ ?_
    · skip
      refine (tz_g_aload_n rfl (tz_in0 rfl)).trans ?_
      refine (tz_g_iload_n rfl (tz_in0 rfl)).trans ?_
      refine (tz_g_iconst (v := (-1)) rfl (tz_in0 rfl)).trans ?_
      refine (tz_g_cv2I (m2 := 102) (rc := 1) rfl rfl rfl rfl rfl rfl (by decide) (tz_in0 rfl)).trans ?_
      refine tz_jI (fun y3 A3 => ?_)
      refine (tz_g_istore_n (L2 := [some (.ref 17), some (.int x1), some (.int x2), some (.int y3), none, none, none, none]) rfl rfl (tz_in0 rfl)).trans ?_
      refine (tz_g_iload_n rfl (tz_in0 rfl)).trans ?_
      refine (tz_g_iconst (v := (-1)) rfl (tz_in0 rfl)).trans ?_
      refine (tz_g_ic_ne (t := 46) (by decide) (tz_in0 rfl)).trans ?_
      refine tz_cg ?_ ?_
      · skip
        refine (tz_g_iload_n rfl (tz_in0 rfl)).trans ?_
        refine (tz_g_istore (L2 := [some (.ref 17), some (.int x1), some (.int x2), some (.int y3), some (.int y3), none, none, none]) rfl rfl (tz_in0 rfl)).trans ?_
        refine (tz_g_iconst (v := 0) rfl (tz_in0 rfl)).trans ?_
        refine (tz_g_istore (L2 := [some (.ref 17), some (.int x1), some (.int x2), some (.int y3), some (.int y3), some (.int 0), none, none]) rfl rfl (tz_in0 rfl)).trans ?_
        refine (tz_g_iconst (v := (-1)) rfl (tz_in0 rfl)).trans ?_
        refine (tz_g_istore (L2 := [some (.ref 17), some (.int x1), some (.int x2), some (.int y3), some (.int y3), some (.int 0), some (.int (-1)), none]) rfl rfl (tz_in0 rfl)).trans ?_
        refine (tz_g_iconst (v := 0) rfl (tz_in0 rfl)).trans ?_
        refine (tz_g_istore (L2 := [some (.ref 17), some (.int x1), some (.int x2), some (.int y3), some (.int y3), some (.int 0), some (.int (-1)), some (.int 0)]) rfl rfl (tz_in0 rfl)).trans ?_
        exact tz_Gm (L2 := [some (.ref 17), some (.int x1), some (.int x2), none, some (.int y3), some (.int 0), some (.int (-1)), some (.int 0)]) rfl rfl rfl rfl
      · skip
        refine (tz_g_ldc_w (v := 2147483647) rfl rfl (tz_in0 rfl)).trans ?_
        refine (tz_g_goto (t := 47) (by decide) (tz_in0 rfl)).trans ?_
        refine (tz_g_istore (L2 := [some (.ref 17), some (.int x1), some (.int x2), some (.int y3), some (.int 2147483647), none, none, none]) rfl rfl (tz_in0 rfl)).trans ?_
        refine (tz_g_iconst (v := 0) rfl (tz_in0 rfl)).trans ?_
        refine (tz_g_istore (L2 := [some (.ref 17), some (.int x1), some (.int x2), some (.int y3), some (.int 2147483647), some (.int 0), none, none]) rfl rfl (tz_in0 rfl)).trans ?_
        refine (tz_g_iconst (v := (-1)) rfl (tz_in0 rfl)).trans ?_
        refine (tz_g_istore (L2 := [some (.ref 17), some (.int x1), some (.int x2), some (.int y3), some (.int 2147483647), some (.int 0), some (.int (-1)), none]) rfl rfl (tz_in0 rfl)).trans ?_
        refine (tz_g_iconst (v := 0) rfl (tz_in0 rfl)).trans ?_
        refine (tz_g_istore (L2 := [some (.ref 17), some (.int x1), some (.int x2), some (.int y3), some (.int 2147483647), some (.int 0), some (.int (-1)), some (.int 0)]) rfl rfl (tz_in0 rfl)).trans ?_
        exact tz_Gm (L2 := [some (.ref 17), some (.int x1), some (.int x2), none, some (.int 2147483647), some (.int 0), some (.int (-1)), some (.int 0)]) rfl rfl rfl rfl
    · skip
      refine (tz_g_aload_n rfl (tz_in0 rfl)).trans ?_
      refine (tz_g_bipush (v := (-5)) rfl (tz_in0 rfl)).trans ?_
      refine (tz_g_cv1I (m2 := 101) (rc := 1) rfl rfl rfl rfl rfl rfl (by decide) (tz_in0 rfl)).trans ?_
      refine tz_jI (fun y3 A3 => ?_)
      exact tz_g_ret1 (tz_in0 rfl) rfl

theorem e_X11_needs_58 (z1 : Int32) (z2 : Int32) (z4 : Int32) (z5 : Int32) (z6 : Int32) (z7 : Int32) (A : tz_Mem) : q_X11_needs_58 z1 z2 z4 z5 z6 z7 A =
  if (tz_g A 37 0) ≤ z7 then
  if ¬ z2 = 0 then
    some (some (.int z6), A)
  else
    some (some (.int z5), A)
else
  tz_bI (f_X11_arrivalWithout z1 z7 A) (fun y1 A1 =>
  if ¬ y1 = (-1) then
    if z4 ≤ y1 then
      q_X11_needs_58 z1 z2 z4 z5 z6 (z7 + 1) A1
    else
      q_X11_needs_58 z1 z2 y1 z5 z7 (z7 + 1) A1
  else
    q_X11_needs_58 z1 z2 z4 (z5 ||| (1 <<< (z7 &&& 31))) z6 (z7 + 1) A1) := by
  show tz_Go 137 58 [some (.ref 17), some (.int z1), some (.int z2), none, some (.int z4), some (.int z5), some (.int z6), some (.int z7)] [] A = _
  refine (tz_g_iload rfl (tz_inM rfl rfl rfl)).trans ?_
  refine (tz_g_aload_n rfl (tz_in0 rfl)).trans ?_
  refine (tz_g_getr (j := 30) rfl rfl rfl rfl rfl (tz_in0 rfl)).trans ?_
  refine (tz_g_getr (j := 37) rfl rfl rfl rfl rfl (tz_in0 rfl)).trans ?_
  refine (tz_g_geti rfl rfl rfl (tz_in0 rfl)).trans ?_
  refine (tz_g_ic_ge (t := 117) (by decide) (tz_in0 rfl)).trans ?_
  refine tz_cg ?_ ?_
  · skip
    refine (tz_g_iload_n rfl (tz_in0 rfl)).trans ?_
    refine (tz_g_if_ne (t := 126) (by decide) (tz_in0 rfl)).trans ?_
    refine tz_cg ?_ ?_
    · skip
      refine (tz_g_iload rfl (tz_in0 rfl)).trans ?_
      exact tz_g_ret1 (tz_in0 rfl) rfl
    · skip
      refine (tz_g_iload rfl (tz_in0 rfl)).trans ?_
      refine (tz_g_goto (t := 128) (by decide) (tz_in0 rfl)).trans ?_
      exact tz_g_ret1 (tz_in0 rfl) rfl
  · skip
    refine (tz_g_aload_n rfl (tz_in0 rfl)).trans ?_
    refine (tz_g_iload_n rfl (tz_in0 rfl)).trans ?_
    refine (tz_g_iload rfl (tz_in0 rfl)).trans ?_
    refine (tz_g_cv2I (m2 := 102) (rc := 1) rfl rfl rfl rfl rfl rfl (by decide) (tz_in0 rfl)).trans ?_
    refine tz_jI (fun y1 A1 => ?_)
    refine (tz_g_istore_n (L2 := [some (.ref 17), some (.int z1), some (.int z2), some (.int y1), some (.int z4), some (.int z5), some (.int z6), some (.int z7)]) rfl rfl (tz_in0 rfl)).trans ?_
    refine (tz_g_iload_n rfl (tz_in0 rfl)).trans ?_
    refine (tz_g_iconst (v := (-1)) rfl (tz_in0 rfl)).trans ?_
    refine (tz_g_ic_ne (t := 98) (by decide) (tz_in0 rfl)).trans ?_
    refine tz_cg ?_ ?_
    · skip
      refine (tz_g_iload_n rfl (tz_in0 rfl)).trans ?_
      refine (tz_g_iload rfl (tz_in0 rfl)).trans ?_
      refine (tz_g_ic_ge (t := 111) (by decide) (tz_in0 rfl)).trans ?_
      refine tz_cg ?_ ?_
      · skip
        refine (tz_g_iinc (v := 1) (L2 := [some (.ref 17), some (.int z1), some (.int z2), some (.int y1), some (.int z4), some (.int z5), some (.int z6), some (.int (z7 + 1))]) rfl rfl rfl rfl (tz_in0 rfl)).trans ?_
        refine (tz_g_goto (t := 58) (by decide) (tz_in0 rfl)).trans ?_
        exact tz_Gm (L2 := [some (.ref 17), some (.int z1), some (.int z2), none, some (.int z4), some (.int z5), some (.int z6), some (.int (z7 + 1))]) rfl rfl rfl rfl
      · skip
        refine (tz_g_iload_n rfl (tz_in0 rfl)).trans ?_
        refine (tz_g_istore (L2 := [some (.ref 17), some (.int z1), some (.int z2), some (.int y1), some (.int y1), some (.int z5), some (.int z6), some (.int z7)]) rfl rfl (tz_in0 rfl)).trans ?_
        refine (tz_g_iload rfl (tz_in0 rfl)).trans ?_
        refine (tz_g_istore (L2 := [some (.ref 17), some (.int z1), some (.int z2), some (.int y1), some (.int y1), some (.int z5), some (.int z7), some (.int z7)]) rfl rfl (tz_in0 rfl)).trans ?_
        refine (tz_g_iinc (v := 1) (L2 := [some (.ref 17), some (.int z1), some (.int z2), some (.int y1), some (.int y1), some (.int z5), some (.int z7), some (.int (z7 + 1))]) rfl rfl rfl rfl (tz_in0 rfl)).trans ?_
        refine (tz_g_goto (t := 58) (by decide) (tz_in0 rfl)).trans ?_
        exact tz_Gm (L2 := [some (.ref 17), some (.int z1), some (.int z2), none, some (.int y1), some (.int z5), some (.int z7), some (.int (z7 + 1))]) rfl rfl rfl rfl
    · skip
      refine (tz_g_iload rfl (tz_in0 rfl)).trans ?_
      refine (tz_g_iconst (v := 1) rfl (tz_in0 rfl)).trans ?_
      refine (tz_g_iload rfl (tz_in0 rfl)).trans ?_
      refine (tz_g_ishl (tz_in0 rfl)).trans ?_
      refine (tz_g_ior (tz_in0 rfl)).trans ?_
      refine (tz_g_istore (L2 := [some (.ref 17), some (.int z1), some (.int z2), some (.int y1), some (.int z4), some (.int (z5 ||| (1 <<< (z7 &&& 31)))), some (.int z6), some (.int z7)]) rfl rfl (tz_in0 rfl)).trans ?_
      refine (tz_g_goto (t := 111) (by decide) (tz_in0 rfl)).trans ?_
      refine (tz_g_iinc (v := 1) (L2 := [some (.ref 17), some (.int z1), some (.int z2), some (.int y1), some (.int z4), some (.int (z5 ||| (1 <<< (z7 &&& 31)))), some (.int z6), some (.int (z7 + 1))]) rfl rfl rfl rfl (tz_in0 rfl)).trans ?_
      refine (tz_g_goto (t := 58) (by decide) (tz_in0 rfl)).trans ?_
      exact tz_Gm (L2 := [some (.ref 17), some (.int z1), some (.int z2), none, some (.int z4), some (.int (z5 ||| (1 <<< (z7 &&& 31)))), some (.int z6), some (.int (z7 + 1))]) rfl rfl rfl rfl

theorem e_L_told (A : tz_Mem) : f_L_told A =
  tz_bI (f_X11_status 0 A) (fun y1 A1 =>
tz_bI (f_X11_status 1 A1) (fun y2 A2 =>
tz_bI (f_X11_status 2 A2) (fun y3 A3 =>
q_L_told_27 7 y1 y2 y3 0 A3))) := by
  refine (tz_Fe (L := [some (.ref 17), none, none, none, none, none, none, none, none]) rfl).trans ?_
  refine (tz_g_ldc2_w (v := 7) rfl rfl (tz_in0 rfl)).trans ?_
  refine (tz_g_lstore_n (L2 := [some (.ref 17), some (.long 7), none, none, none, none, none, none, none]) rfl rfl (tz_in0 rfl)).trans ?_
  refine (tz_g_aload_n rfl (tz_in0 rfl)).trans ?_
  refine (tz_g_iconst (v := 0) rfl (tz_in0 rfl)).trans ?_
  refine (tz_g_cv1I (m2 := 117) (rc := 1) rfl rfl rfl rfl rfl rfl (by decide) (tz_in0 rfl)).trans ?_
  refine tz_jI (fun y1 A1 => ?_)
  refine (tz_g_istore_n (L2 := [some (.ref 17), some (.long 7), none, some (.int y1), none, none, none, none, none]) rfl rfl (tz_in0 rfl)).trans ?_
  refine (tz_g_aload_n rfl (tz_in0 rfl)).trans ?_
  refine (tz_g_iconst (v := 1) rfl (tz_in0 rfl)).trans ?_
  refine (tz_g_cv1I (m2 := 117) (rc := 1) rfl rfl rfl rfl rfl rfl (by decide) (tz_in0 rfl)).trans ?_
  refine tz_jI (fun y2 A2 => ?_)
  refine (tz_g_istore (L2 := [some (.ref 17), some (.long 7), none, some (.int y1), some (.int y2), none, none, none, none]) rfl rfl (tz_in0 rfl)).trans ?_
  refine (tz_g_aload_n rfl (tz_in0 rfl)).trans ?_
  refine (tz_g_iconst (v := 2) rfl (tz_in0 rfl)).trans ?_
  refine (tz_g_cv1I (m2 := 117) (rc := 1) rfl rfl rfl rfl rfl rfl (by decide) (tz_in0 rfl)).trans ?_
  refine tz_jI (fun y3 A3 => ?_)
  refine (tz_g_istore (L2 := [some (.ref 17), some (.long 7), none, some (.int y1), some (.int y2), some (.int y3), none, none, none]) rfl rfl (tz_in0 rfl)).trans ?_
  refine (tz_g_iconst (v := 0) rfl (tz_in0 rfl)).trans ?_
  refine (tz_g_istore (L2 := [some (.ref 17), some (.long 7), none, some (.int y1), some (.int y2), some (.int y3), some (.int 0), none, none]) rfl rfl (tz_in0 rfl)).trans ?_
  exact tz_Gm (L2 := [some (.ref 17), some (.long 7), none, some (.int y1), some (.int y2), some (.int y3), some (.int 0), none, none]) rfl rfl rfl rfl

theorem e_L_told_27 (z1 : Int64) (z3 : Int32) (z4 : Int32) (z5 : Int32) (z6 : Int32) (A : tz_Mem) : q_L_told_27 z1 z3 z4 z5 z6 A =
  if 9 ≤ z6 then
  q_L_told_57 z1 z3 z4 z5 0 A
else
  tz_bI (f_X11_status z6 A) (fun y1 A1 =>
  q_L_told_27 ((31 * z1) + (Int32.toInt64 y1)) z3 z4 z5 (z6 + 1) A1) := by
  show tz_Go 131 27 [some (.ref 17), some (.long z1), none, some (.int z3), some (.int z4), some (.int z5), some (.int z6), none, none] [] A = _
  refine (tz_g_iload rfl (tz_inM rfl rfl rfl)).trans ?_
  refine (tz_g_bipush (v := 9) rfl (tz_in0 rfl)).trans ?_
  refine (tz_g_ic_ge (t := 54) (by decide) (tz_in0 rfl)).trans ?_
  refine tz_cg ?_ ?_
  · skip
    refine (tz_g_iconst (v := 0) rfl (tz_in0 rfl)).trans ?_
    refine (tz_g_istore (L2 := [some (.ref 17), some (.long z1), none, some (.int z3), some (.int z4), some (.int z5), some (.int 0), none, none]) rfl rfl (tz_in0 rfl)).trans ?_
    exact tz_Gm (L2 := [some (.ref 17), some (.long z1), none, some (.int z3), some (.int z4), some (.int z5), some (.int 0), none, none]) rfl rfl rfl rfl
  · skip
    refine (tz_g_ldc2_w (v := 31) rfl rfl (tz_in0 rfl)).trans ?_
    refine (tz_g_lload_n rfl (tz_in0 rfl)).trans ?_
    refine (tz_g_lmul (tz_in0 rfl)).trans ?_
    refine (tz_g_aload_n rfl (tz_in0 rfl)).trans ?_
    refine (tz_g_iload rfl (tz_in0 rfl)).trans ?_
    refine (tz_g_cv1I (m2 := 117) (rc := 1) rfl rfl rfl rfl rfl rfl (by decide) (tz_in0 rfl)).trans ?_
    refine tz_jI (fun y1 A1 => ?_)
    refine (tz_g_i2l (tz_in0 rfl)).trans ?_
    refine (tz_g_ladd (tz_in0 rfl)).trans ?_
    refine (tz_g_lstore_n (L2 := [some (.ref 17), some (.long ((31 * z1) + (Int32.toInt64 y1))), none, some (.int z3), some (.int z4), some (.int z5), some (.int z6), none, none]) rfl rfl (tz_in0 rfl)).trans ?_
    refine (tz_g_iinc (v := 1) (L2 := [some (.ref 17), some (.long ((31 * z1) + (Int32.toInt64 y1))), none, some (.int z3), some (.int z4), some (.int z5), some (.int (z6 + 1)), none, none]) rfl rfl rfl rfl (tz_in0 rfl)).trans ?_
    refine (tz_g_goto (t := 27) (by decide) (tz_in0 rfl)).trans ?_
    exact tz_Gm (L2 := [some (.ref 17), some (.long ((31 * z1) + (Int32.toInt64 y1))), none, some (.int z3), some (.int z4), some (.int z5), some (.int (z6 + 1)), none, none]) rfl rfl rfl rfl

theorem e_L_told_57 (z1 : Int64) (z3 : Int32) (z4 : Int32) (z5 : Int32) (z6 : Int32) (A : tz_Mem) : q_L_told_57 z1 z3 z4 z5 z6 A =
  if z3 ≤ z6 then
  q_L_told_160 z1 z3 z4 z5 0 A
else
  q_L_told_66 z1 z3 z4 z5 z6 0 A := by
  show tz_Go 131 57 [some (.ref 17), some (.long z1), none, some (.int z3), some (.int z4), some (.int z5), some (.int z6), none, none] [] A = _
  refine (tz_g_iload rfl (tz_inM rfl rfl rfl)).trans ?_
  refine (tz_g_iload_n rfl (tz_in0 rfl)).trans ?_
  refine (tz_g_ic_ge (t := 157) (by decide) (tz_in0 rfl)).trans ?_
  refine tz_cg ?_ ?_
  · skip
    refine (tz_g_iconst (v := 0) rfl (tz_in0 rfl)).trans ?_
    refine (tz_g_istore (L2 := [some (.ref 17), some (.long z1), none, some (.int z3), some (.int z4), some (.int z5), some (.int 0), none, none]) rfl rfl (tz_in0 rfl)).trans ?_
    exact tz_Gm (L2 := [some (.ref 17), some (.long z1), none, some (.int z3), some (.int z4), some (.int z5), some (.int 0), none, none]) rfl rfl rfl rfl
  · skip
    refine (tz_g_iconst (v := 0) rfl (tz_in0 rfl)).trans ?_
    refine (tz_g_istore (L2 := [some (.ref 17), some (.long z1), none, some (.int z3), some (.int z4), some (.int z5), some (.int z6), some (.int 0), none]) rfl rfl (tz_in0 rfl)).trans ?_
    exact tz_Gm (L2 := [some (.ref 17), some (.long z1), none, some (.int z3), some (.int z4), some (.int z5), some (.int z6), some (.int 0), none]) rfl rfl rfl rfl

theorem e_L_told_160 (z1 : Int64) (z3 : Int32) (z4 : Int32) (z5 : Int32) (z6 : Int32) (A : tz_Mem) : q_L_told_160 z1 z3 z4 z5 z6 A =
  if z4 ≤ z6 then
  q_L_told_207 z1 z3 z5 0 A
else
  q_L_told_170 z1 z3 z4 z5 z6 0 A := by
  show tz_Go 131 160 [some (.ref 17), some (.long z1), none, some (.int z3), some (.int z4), some (.int z5), some (.int z6), none, none] [] A = _
  refine (tz_g_iload rfl (tz_inM rfl rfl rfl)).trans ?_
  refine (tz_g_iload rfl (tz_in0 rfl)).trans ?_
  refine (tz_g_ic_ge (t := 204) (by decide) (tz_in0 rfl)).trans ?_
  refine tz_cg ?_ ?_
  · skip
    refine (tz_g_iconst (v := 0) rfl (tz_in0 rfl)).trans ?_
    refine (tz_g_istore (L2 := [some (.ref 17), some (.long z1), none, some (.int z3), some (.int z4), some (.int z5), some (.int 0), none, none]) rfl rfl (tz_in0 rfl)).trans ?_
    exact tz_Gm (L2 := [some (.ref 17), some (.long z1), none, some (.int z3), none, some (.int z5), some (.int 0), none, none]) rfl rfl rfl rfl
  · skip
    refine (tz_g_iconst (v := 0) rfl (tz_in0 rfl)).trans ?_
    refine (tz_g_istore (L2 := [some (.ref 17), some (.long z1), none, some (.int z3), some (.int z4), some (.int z5), some (.int z6), some (.int 0), none]) rfl rfl (tz_in0 rfl)).trans ?_
    exact tz_Gm (L2 := [some (.ref 17), some (.long z1), none, some (.int z3), some (.int z4), some (.int z5), some (.int z6), some (.int 0), none]) rfl rfl rfl rfl

theorem e_L_told_66 (z1 : Int64) (z3 : Int32) (z4 : Int32) (z5 : Int32) (z6 : Int32) (z7 : Int32) (A : tz_Mem) : q_L_told_66 z1 z3 z4 z5 z6 z7 A =
  if 4 ≤ z7 then
  tz_bI (f_X11_heard z6 (-1) A) (fun y1 A1 =>
  q_L_told_106 z1 z3 z4 z5 z6 y1 0 A1)
else
  tz_bI (f_X11_hillOf z6 z7 A) (fun y1 A1 =>
  q_L_told_66 ((31 * z1) + (Int32.toInt64 y1)) z3 z4 z5 z6 (z7 + 1) A1) := by
  show tz_Go 131 66 [some (.ref 17), some (.long z1), none, some (.int z3), some (.int z4), some (.int z5), some (.int z6), some (.int z7), none] [] A = _
  refine (tz_g_iload rfl (tz_inM rfl rfl rfl)).trans ?_
  refine (tz_g_iconst (v := 4) rfl (tz_in0 rfl)).trans ?_
  refine (tz_g_ic_ge (t := 94) (by decide) (tz_in0 rfl)).trans ?_
  refine tz_cg ?_ ?_
  · skip
    refine (tz_g_aload_n rfl (tz_in0 rfl)).trans ?_
    refine (tz_g_iload rfl (tz_in0 rfl)).trans ?_
    refine (tz_g_iconst (v := (-1)) rfl (tz_in0 rfl)).trans ?_
    refine (tz_g_cv2I (m2 := 132) (rc := 1) rfl rfl rfl rfl rfl rfl (by decide) (tz_in0 rfl)).trans ?_
    refine tz_jI (fun y1 A1 => ?_)
    refine (tz_g_istore (L2 := [some (.ref 17), some (.long z1), none, some (.int z3), some (.int z4), some (.int z5), some (.int z6), some (.int y1), none]) rfl rfl (tz_in0 rfl)).trans ?_
    refine (tz_g_iconst (v := 0) rfl (tz_in0 rfl)).trans ?_
    refine (tz_g_istore (L2 := [some (.ref 17), some (.long z1), none, some (.int z3), some (.int z4), some (.int z5), some (.int z6), some (.int y1), some (.int 0)]) rfl rfl (tz_in0 rfl)).trans ?_
    exact tz_Gm (L2 := [some (.ref 17), some (.long z1), none, some (.int z3), some (.int z4), some (.int z5), some (.int z6), some (.int y1), some (.int 0)]) rfl rfl rfl rfl
  · skip
    refine (tz_g_ldc2_w (v := 31) rfl rfl (tz_in0 rfl)).trans ?_
    refine (tz_g_lload_n rfl (tz_in0 rfl)).trans ?_
    refine (tz_g_lmul (tz_in0 rfl)).trans ?_
    refine (tz_g_aload_n rfl (tz_in0 rfl)).trans ?_
    refine (tz_g_iload rfl (tz_in0 rfl)).trans ?_
    refine (tz_g_iload rfl (tz_in0 rfl)).trans ?_
    refine (tz_g_cv2I (m2 := 44) (rc := 1) rfl rfl rfl rfl rfl rfl (by decide) (tz_in0 rfl)).trans ?_
    refine tz_jI (fun y1 A1 => ?_)
    refine (tz_g_i2l (tz_in0 rfl)).trans ?_
    refine (tz_g_ladd (tz_in0 rfl)).trans ?_
    refine (tz_g_lstore_n (L2 := [some (.ref 17), some (.long ((31 * z1) + (Int32.toInt64 y1))), none, some (.int z3), some (.int z4), some (.int z5), some (.int z6), some (.int z7), none]) rfl rfl (tz_in0 rfl)).trans ?_
    refine (tz_g_iinc (v := 1) (L2 := [some (.ref 17), some (.long ((31 * z1) + (Int32.toInt64 y1))), none, some (.int z3), some (.int z4), some (.int z5), some (.int z6), some (.int (z7 + 1)), none]) rfl rfl rfl rfl (tz_in0 rfl)).trans ?_
    refine (tz_g_goto (t := 66) (by decide) (tz_in0 rfl)).trans ?_
    exact tz_Gm (L2 := [some (.ref 17), some (.long ((31 * z1) + (Int32.toInt64 y1))), none, some (.int z3), some (.int z4), some (.int z5), some (.int z6), some (.int (z7 + 1)), none]) rfl rfl rfl rfl

theorem e_L_told_207 (z1 : Int64) (z3 : Int32) (z5 : Int32) (z6 : Int32) (A : tz_Mem) : q_L_told_207 z1 z3 z5 z6 A =
  if z5 ≤ z6 then
  tz_bI (f_X11_postage A) (fun y1 A1 =>
  if z3 ≤ 0 then
    tz_bI (f_X11_firstHeard 7 1 A1) (fun y2 A2 =>
    some (some (.long ((((31 * z1) + (Int32.toInt64 y1)) + (Int32.toInt64 (3 * 0))) + (Int32.toInt64 (5 * y2)))), A2))
  else
    tz_bI (f_X11_loudest 40 0 A1) (fun y2 A2 =>
    tz_bI (f_X11_firstHeard 7 1 A2) (fun y3 A3 =>
    some (some (.long ((((31 * z1) + (Int32.toInt64 y1)) + (Int32.toInt64 (3 * y2))) + (Int32.toInt64 (5 * y3)))), A3))))
else
  q_L_told_217 z1 z3 z5 z6 0 A := by
  show tz_Go 131 207 [some (.ref 17), some (.long z1), none, some (.int z3), none, some (.int z5), some (.int z6), none, none] [] A = _
  refine (tz_g_iload rfl (tz_inM rfl rfl rfl)).trans ?_
  refine (tz_g_iload rfl (tz_in0 rfl)).trans ?_
  refine (tz_g_ic_ge (t := 290) (by decide) (tz_in0 rfl)).trans ?_
  refine tz_cg ?_ ?_
  · skip
    refine (tz_g_ldc2_w (v := 31) rfl rfl (tz_in0 rfl)).trans ?_
    refine (tz_g_lload_n rfl (tz_in0 rfl)).trans ?_
    refine (tz_g_lmul (tz_in0 rfl)).trans ?_
    refine (tz_g_aload_n rfl (tz_in0 rfl)).trans ?_
    refine (tz_g_cv0I (m2 := 105) (rc := 1) rfl rfl rfl rfl rfl rfl (by decide) (tz_in0 rfl)).trans ?_
    refine tz_jI (fun y1 A1 => ?_)
    refine (tz_g_i2l (tz_in0 rfl)).trans ?_
    refine (tz_g_ladd (tz_in0 rfl)).trans ?_
    refine (tz_g_iconst (v := 3) rfl (tz_in0 rfl)).trans ?_
    refine (tz_g_iload_n rfl (tz_in0 rfl)).trans ?_
    refine (tz_g_if_le (t := 316) (by decide) (tz_in0 rfl)).trans ?_
    refine tz_cg ?_ ?_
    · skip
      refine (tz_g_iconst (v := 0) rfl (tz_in0 rfl)).trans ?_
      refine (tz_g_imul (tz_in0 rfl)).trans ?_
      refine (tz_g_i2l (tz_in0 rfl)).trans ?_
      refine (tz_g_ladd (tz_in0 rfl)).trans ?_
      refine (tz_g_iconst (v := 5) rfl (tz_in0 rfl)).trans ?_
      refine (tz_g_aload_n rfl (tz_in0 rfl)).trans ?_
      refine (tz_g_bipush (v := 7) rfl (tz_in0 rfl)).trans ?_
      refine (tz_g_iconst (v := 1) rfl (tz_in0 rfl)).trans ?_
      refine (tz_g_cv2I (m2 := 140) (rc := 1) rfl rfl rfl rfl rfl rfl (by decide) (tz_in0 rfl)).trans ?_
      refine tz_jI (fun y2 A2 => ?_)
      refine (tz_g_imul (tz_in0 rfl)).trans ?_
      refine (tz_g_i2l (tz_in0 rfl)).trans ?_
      refine (tz_g_ladd (tz_in0 rfl)).trans ?_
      exact tz_g_ret2 (tz_in0 rfl) rfl
    · skip
      refine (tz_g_aload_n rfl (tz_in0 rfl)).trans ?_
      refine (tz_g_bipush (v := 40) rfl (tz_in0 rfl)).trans ?_
      refine (tz_g_iconst (v := 0) rfl (tz_in0 rfl)).trans ?_
      refine (tz_g_cv2I (m2 := 138) (rc := 1) rfl rfl rfl rfl rfl rfl (by decide) (tz_in0 rfl)).trans ?_
      refine tz_jI (fun y2 A2 => ?_)
      refine (tz_g_goto (t := 317) (by decide) (tz_in0 rfl)).trans ?_
      refine (tz_g_imul (tz_in0 rfl)).trans ?_
      refine (tz_g_i2l (tz_in0 rfl)).trans ?_
      refine (tz_g_ladd (tz_in0 rfl)).trans ?_
      refine (tz_g_iconst (v := 5) rfl (tz_in0 rfl)).trans ?_
      refine (tz_g_aload_n rfl (tz_in0 rfl)).trans ?_
      refine (tz_g_bipush (v := 7) rfl (tz_in0 rfl)).trans ?_
      refine (tz_g_iconst (v := 1) rfl (tz_in0 rfl)).trans ?_
      refine (tz_g_cv2I (m2 := 140) (rc := 1) rfl rfl rfl rfl rfl rfl (by decide) (tz_in0 rfl)).trans ?_
      refine tz_jI (fun y3 A3 => ?_)
      refine (tz_g_imul (tz_in0 rfl)).trans ?_
      refine (tz_g_i2l (tz_in0 rfl)).trans ?_
      refine (tz_g_ladd (tz_in0 rfl)).trans ?_
      exact tz_g_ret2 (tz_in0 rfl) rfl
  · skip
    refine (tz_g_iconst (v := 0) rfl (tz_in0 rfl)).trans ?_
    refine (tz_g_istore (L2 := [some (.ref 17), some (.long z1), none, some (.int z3), none, some (.int z5), some (.int z6), some (.int 0), none]) rfl rfl (tz_in0 rfl)).trans ?_
    exact tz_Gm (L2 := [some (.ref 17), some (.long z1), none, some (.int z3), none, some (.int z5), some (.int z6), some (.int 0), none]) rfl rfl rfl rfl

theorem e_L_told_170 (z1 : Int64) (z3 : Int32) (z4 : Int32) (z5 : Int32) (z6 : Int32) (z7 : Int32) (A : tz_Mem) : q_L_told_170 z1 z3 z4 z5 z6 z7 A =
  if 5 ≤ z7 then
  q_L_told_160 z1 z3 z4 z5 (z6 + 1) A
else
  tz_bI (f_X11_stormOf z6 z7 A) (fun y1 A1 =>
  q_L_told_170 ((31 * z1) + (Int32.toInt64 y1)) z3 z4 z5 z6 (z7 + 1) A1) := by
  show tz_Go 131 170 [some (.ref 17), some (.long z1), none, some (.int z3), some (.int z4), some (.int z5), some (.int z6), some (.int z7), none] [] A = _
  refine (tz_g_iload rfl (tz_inM rfl rfl rfl)).trans ?_
  refine (tz_g_iconst (v := 5) rfl (tz_in0 rfl)).trans ?_
  refine (tz_g_ic_ge (t := 198) (by decide) (tz_in0 rfl)).trans ?_
  refine tz_cg ?_ ?_
  · skip
    refine (tz_g_iinc (v := 1) (L2 := [some (.ref 17), some (.long z1), none, some (.int z3), some (.int z4), some (.int z5), some (.int (z6 + 1)), some (.int z7), none]) rfl rfl rfl rfl (tz_in0 rfl)).trans ?_
    refine (tz_g_goto (t := 160) (by decide) (tz_in0 rfl)).trans ?_
    exact tz_Gm (L2 := [some (.ref 17), some (.long z1), none, some (.int z3), some (.int z4), some (.int z5), some (.int (z6 + 1)), none, none]) rfl rfl rfl rfl
  · skip
    refine (tz_g_ldc2_w (v := 31) rfl rfl (tz_in0 rfl)).trans ?_
    refine (tz_g_lload_n rfl (tz_in0 rfl)).trans ?_
    refine (tz_g_lmul (tz_in0 rfl)).trans ?_
    refine (tz_g_aload_n rfl (tz_in0 rfl)).trans ?_
    refine (tz_g_iload rfl (tz_in0 rfl)).trans ?_
    refine (tz_g_iload rfl (tz_in0 rfl)).trans ?_
    refine (tz_g_cv2I (m2 := 48) (rc := 1) rfl rfl rfl rfl rfl rfl (by decide) (tz_in0 rfl)).trans ?_
    refine tz_jI (fun y1 A1 => ?_)
    refine (tz_g_i2l (tz_in0 rfl)).trans ?_
    refine (tz_g_ladd (tz_in0 rfl)).trans ?_
    refine (tz_g_lstore_n (L2 := [some (.ref 17), some (.long ((31 * z1) + (Int32.toInt64 y1))), none, some (.int z3), some (.int z4), some (.int z5), some (.int z6), some (.int z7), none]) rfl rfl (tz_in0 rfl)).trans ?_
    refine (tz_g_iinc (v := 1) (L2 := [some (.ref 17), some (.long ((31 * z1) + (Int32.toInt64 y1))), none, some (.int z3), some (.int z4), some (.int z5), some (.int z6), some (.int (z7 + 1)), none]) rfl rfl rfl rfl (tz_in0 rfl)).trans ?_
    refine (tz_g_goto (t := 170) (by decide) (tz_in0 rfl)).trans ?_
    exact tz_Gm (L2 := [some (.ref 17), some (.long ((31 * z1) + (Int32.toInt64 y1))), none, some (.int z3), some (.int z4), some (.int z5), some (.int z6), some (.int (z7 + 1)), none]) rfl rfl rfl rfl

theorem e_L_told_106 (z1 : Int64) (z3 : Int32) (z4 : Int32) (z5 : Int32) (z6 : Int32) (z7 : Int32) (z8 : Int32) (A : tz_Mem) : q_L_told_106 z1 z3 z4 z5 z6 z7 z8 A =
  if z7 ≤ z8 then
  tz_bI (f_X11_reach z6 30 A) (fun y1 A1 =>
  q_L_told_57 ((31 * z1) + (Int32.toInt64 y1)) z3 z4 z5 (z6 + 1) A1)
else
  tz_bI (f_X11_heard z6 z8 A) (fun y1 A1 =>
  q_L_told_106 ((31 * z1) + (Int32.toInt64 y1)) z3 z4 z5 z6 z7 (z8 + 1) A1) := by
  show tz_Go 131 106 [some (.ref 17), some (.long z1), none, some (.int z3), some (.int z4), some (.int z5), some (.int z6), some (.int z7), some (.int z8)] [] A = _
  refine (tz_g_iload rfl (tz_inM rfl rfl rfl)).trans ?_
  refine (tz_g_iload rfl (tz_in0 rfl)).trans ?_
  refine (tz_g_ic_ge (t := 135) (by decide) (tz_in0 rfl)).trans ?_
  refine tz_cg ?_ ?_
  · skip
    refine (tz_g_ldc2_w (v := 31) rfl rfl (tz_in0 rfl)).trans ?_
    refine (tz_g_lload_n rfl (tz_in0 rfl)).trans ?_
    refine (tz_g_lmul (tz_in0 rfl)).trans ?_
    refine (tz_g_aload_n rfl (tz_in0 rfl)).trans ?_
    refine (tz_g_iload rfl (tz_in0 rfl)).trans ?_
    refine (tz_g_bipush (v := 30) rfl (tz_in0 rfl)).trans ?_
    refine (tz_g_cv2I (m2 := 135) (rc := 1) rfl rfl rfl rfl rfl rfl (by decide) (tz_in0 rfl)).trans ?_
    refine tz_jI (fun y1 A1 => ?_)
    refine (tz_g_i2l (tz_in0 rfl)).trans ?_
    refine (tz_g_ladd (tz_in0 rfl)).trans ?_
    refine (tz_g_lstore_n (L2 := [some (.ref 17), some (.long ((31 * z1) + (Int32.toInt64 y1))), none, some (.int z3), some (.int z4), some (.int z5), some (.int z6), some (.int z7), some (.int z8)]) rfl rfl (tz_in0 rfl)).trans ?_
    refine (tz_g_iinc (v := 1) (L2 := [some (.ref 17), some (.long ((31 * z1) + (Int32.toInt64 y1))), none, some (.int z3), some (.int z4), some (.int z5), some (.int (z6 + 1)), some (.int z7), some (.int z8)]) rfl rfl rfl rfl (tz_in0 rfl)).trans ?_
    refine (tz_g_goto (t := 57) (by decide) (tz_in0 rfl)).trans ?_
    exact tz_Gm (L2 := [some (.ref 17), some (.long ((31 * z1) + (Int32.toInt64 y1))), none, some (.int z3), some (.int z4), some (.int z5), some (.int (z6 + 1)), none, none]) rfl rfl rfl rfl
  · skip
    refine (tz_g_ldc2_w (v := 31) rfl rfl (tz_in0 rfl)).trans ?_
    refine (tz_g_lload_n rfl (tz_in0 rfl)).trans ?_
    refine (tz_g_lmul (tz_in0 rfl)).trans ?_
    refine (tz_g_aload_n rfl (tz_in0 rfl)).trans ?_
    refine (tz_g_iload rfl (tz_in0 rfl)).trans ?_
    refine (tz_g_iload rfl (tz_in0 rfl)).trans ?_
    refine (tz_g_cv2I (m2 := 132) (rc := 1) rfl rfl rfl rfl rfl rfl (by decide) (tz_in0 rfl)).trans ?_
    refine tz_jI (fun y1 A1 => ?_)
    refine (tz_g_i2l (tz_in0 rfl)).trans ?_
    refine (tz_g_ladd (tz_in0 rfl)).trans ?_
    refine (tz_g_lstore_n (L2 := [some (.ref 17), some (.long ((31 * z1) + (Int32.toInt64 y1))), none, some (.int z3), some (.int z4), some (.int z5), some (.int z6), some (.int z7), some (.int z8)]) rfl rfl (tz_in0 rfl)).trans ?_
    refine (tz_g_iinc (v := 1) (L2 := [some (.ref 17), some (.long ((31 * z1) + (Int32.toInt64 y1))), none, some (.int z3), some (.int z4), some (.int z5), some (.int z6), some (.int z7), some (.int (z8 + 1))]) rfl rfl rfl rfl (tz_in0 rfl)).trans ?_
    refine (tz_g_goto (t := 106) (by decide) (tz_in0 rfl)).trans ?_
    exact tz_Gm (L2 := [some (.ref 17), some (.long ((31 * z1) + (Int32.toInt64 y1))), none, some (.int z3), some (.int z4), some (.int z5), some (.int z6), some (.int z7), some (.int (z8 + 1))]) rfl rfl rfl rfl

theorem e_L_told_217 (z1 : Int64) (z3 : Int32) (z5 : Int32) (z6 : Int32) (z7 : Int32) (A : tz_Mem) : q_L_told_217 z1 z3 z5 z6 z7 A =
  if 6 ≤ z7 then
  tz_bI (f_X11_arrives z6 A) (fun y1 A1 =>
  tz_bI (f_X11_needs z6 0 A1) (fun y2 A2 =>
  tz_bI (f_X11_behind z6 17 0 A2) (fun y3 A3 =>
  q_L_told_207 ((((31 * z1) + (Int32.toInt64 y1)) + (Int32.toInt64 (3 * y2))) + (Int32.toInt64 (5 * y3))) z3 z5 (z6 + 1) A3)))
else
  tz_bI (f_X11_letterOf z6 z7 A) (fun y1 A1 =>
  q_L_told_217 ((31 * z1) + (Int32.toInt64 y1)) z3 z5 z6 (z7 + 1) A1) := by
  show tz_Go 131 217 [some (.ref 17), some (.long z1), none, some (.int z3), none, some (.int z5), some (.int z6), some (.int z7), none] [] A = _
  refine (tz_g_iload rfl (tz_inM rfl rfl rfl)).trans ?_
  refine (tz_g_bipush (v := 6) rfl (tz_in0 rfl)).trans ?_
  refine (tz_g_ic_ge (t := 246) (by decide) (tz_in0 rfl)).trans ?_
  refine tz_cg ?_ ?_
  · skip
    refine (tz_g_ldc2_w (v := 31) rfl rfl (tz_in0 rfl)).trans ?_
    refine (tz_g_lload_n rfl (tz_in0 rfl)).trans ?_
    refine (tz_g_lmul (tz_in0 rfl)).trans ?_
    refine (tz_g_aload_n rfl (tz_in0 rfl)).trans ?_
    refine (tz_g_iload rfl (tz_in0 rfl)).trans ?_
    refine (tz_g_cv1I (m2 := 100) (rc := 1) rfl rfl rfl rfl rfl rfl (by decide) (tz_in0 rfl)).trans ?_
    refine tz_jI (fun y1 A1 => ?_)
    refine (tz_g_i2l (tz_in0 rfl)).trans ?_
    refine (tz_g_ladd (tz_in0 rfl)).trans ?_
    refine (tz_g_iconst (v := 3) rfl (tz_in0 rfl)).trans ?_
    refine (tz_g_aload_n rfl (tz_in0 rfl)).trans ?_
    refine (tz_g_iload rfl (tz_in0 rfl)).trans ?_
    refine (tz_g_iconst (v := 0) rfl (tz_in0 rfl)).trans ?_
    refine (tz_g_cv2I (m2 := 137) (rc := 1) rfl rfl rfl rfl rfl rfl (by decide) (tz_in0 rfl)).trans ?_
    refine tz_jI (fun y2 A2 => ?_)
    refine (tz_g_imul (tz_in0 rfl)).trans ?_
    refine (tz_g_i2l (tz_in0 rfl)).trans ?_
    refine (tz_g_ladd (tz_in0 rfl)).trans ?_
    refine (tz_g_iconst (v := 5) rfl (tz_in0 rfl)).trans ?_
    refine (tz_g_aload_n rfl (tz_in0 rfl)).trans ?_
    refine (tz_g_iload rfl (tz_in0 rfl)).trans ?_
    refine (tz_g_bipush (v := 17) rfl (tz_in0 rfl)).trans ?_
    refine (tz_g_iconst (v := 0) rfl (tz_in0 rfl)).trans ?_
    refine (tz_g_cv3I (m2 := 97) (rc := 1) rfl rfl rfl rfl rfl rfl (by decide) (tz_in0 rfl)).trans ?_
    refine tz_jI (fun y3 A3 => ?_)
    refine (tz_g_imul (tz_in0 rfl)).trans ?_
    refine (tz_g_i2l (tz_in0 rfl)).trans ?_
    refine (tz_g_ladd (tz_in0 rfl)).trans ?_
    refine (tz_g_lstore_n (L2 := [some (.ref 17), some (.long ((((31 * z1) + (Int32.toInt64 y1)) + (Int32.toInt64 (3 * y2))) + (Int32.toInt64 (5 * y3)))), none, some (.int z3), none, some (.int z5), some (.int z6), some (.int z7), none]) rfl rfl (tz_in0 rfl)).trans ?_
    refine (tz_g_iinc (v := 1) (L2 := [some (.ref 17), some (.long ((((31 * z1) + (Int32.toInt64 y1)) + (Int32.toInt64 (3 * y2))) + (Int32.toInt64 (5 * y3)))), none, some (.int z3), none, some (.int z5), some (.int (z6 + 1)), some (.int z7), none]) rfl rfl rfl rfl (tz_in0 rfl)).trans ?_
    refine (tz_g_goto (t := 207) (by decide) (tz_in0 rfl)).trans ?_
    exact tz_Gm (L2 := [some (.ref 17), some (.long ((((31 * z1) + (Int32.toInt64 y1)) + (Int32.toInt64 (3 * y2))) + (Int32.toInt64 (5 * y3)))), none, some (.int z3), none, some (.int z5), some (.int (z6 + 1)), none, none]) rfl rfl rfl rfl
  · skip
    refine (tz_g_ldc2_w (v := 31) rfl rfl (tz_in0 rfl)).trans ?_
    refine (tz_g_lload_n rfl (tz_in0 rfl)).trans ?_
    refine (tz_g_lmul (tz_in0 rfl)).trans ?_
    refine (tz_g_aload_n rfl (tz_in0 rfl)).trans ?_
    refine (tz_g_iload rfl (tz_in0 rfl)).trans ?_
    refine (tz_g_iload rfl (tz_in0 rfl)).trans ?_
    refine (tz_g_cv2I (m2 := 51) (rc := 1) rfl rfl rfl rfl rfl rfl (by decide) (tz_in0 rfl)).trans ?_
    refine tz_jI (fun y1 A1 => ?_)
    refine (tz_g_i2l (tz_in0 rfl)).trans ?_
    refine (tz_g_ladd (tz_in0 rfl)).trans ?_
    refine (tz_g_lstore_n (L2 := [some (.ref 17), some (.long ((31 * z1) + (Int32.toInt64 y1))), none, some (.int z3), none, some (.int z5), some (.int z6), some (.int z7), none]) rfl rfl (tz_in0 rfl)).trans ?_
    refine (tz_g_iinc (v := 1) (L2 := [some (.ref 17), some (.long ((31 * z1) + (Int32.toInt64 y1))), none, some (.int z3), none, some (.int z5), some (.int z6), some (.int (z7 + 1)), none]) rfl rfl rfl rfl (tz_in0 rfl)).trans ?_
    refine (tz_g_goto (t := 217) (by decide) (tz_in0 rfl)).trans ?_
    exact tz_Gm (L2 := [some (.ref 17), some (.long ((31 * z1) + (Int32.toInt64 y1))), none, some (.int z3), none, some (.int z5), some (.int z6), some (.int (z7 + 1)), none]) rfl rfl rfl rfl

