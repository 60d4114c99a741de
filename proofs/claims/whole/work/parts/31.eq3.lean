theorem e_X12_element (x1 : Int32) (x2 : Int32) (A : tz_Mem) : f_X12_element x1 x2 A =
  tz_bI (f_X12_within x1 0 7 A) (fun y1 A1 =>
if y1 = 0 then
  some (some (.long 0), A1)
else
  tz_bI (f_X12_isRow x1 A1) (fun y2 A2 =>
  if y2 = 0 then
    some (some (.long 0), A2)
  else
    if x1 < 0 ∨ 8 ≤ (Int32.toNatClampNeg x1) then none else
    tz_bI (f_X12_within x2 0 ((tz_g A2 159 (Int32.toNatClampNeg x1)) - 1) A2) (fun y3 A3 =>
    if y3 = 0 then
      some (some (.long 0), A3)
    else
      if ((160 * x1) + x2) < 0 ∨ 1280 ≤ (Int32.toNatClampNeg ((160 * x1) + x2)) then none else
      some (some (.long (tz_gl A3 160 (Int32.toNatClampNeg ((160 * x1) + x2)))), A3)))) := by
  refine (tz_Fe (L := [some (.ref 157), some (.int x1), some (.int x2)]) rfl).trans ?_
  refine (tz_g_iload_n rfl (tz_in0 rfl)).trans ?_
  refine (tz_g_iconst (v := 0) rfl (tz_in0 rfl)).trans ?_
  refine (tz_g_bipush (v := 7) rfl (tz_in0 rfl)).trans ?_
  refine (tz_g_cs3I (m2 := 165) (rc := 4) rfl rfl rfl rfl rfl rfl (by decide) (tz_in0 rfl)).trans ?_
  refine tz_jI (fun y1 A1 => ?_)
  refine (tz_g_if_eq (t := 49) (by decide) (tz_in0 rfl)).trans ?_
  refine tz_cg ?_ ?_
  · skip
    refine (tz_g_lconst (v := 0) rfl (tz_in0 rfl)).trans ?_
    exact tz_g_ret2 (tz_in0 rfl) rfl
  · skip
    refine (tz_g_aload_n rfl (tz_in0 rfl)).trans ?_
    refine (tz_g_iload_n rfl (tz_in0 rfl)).trans ?_
    refine (tz_g_cv1I (m2 := 169) (rc := 4) rfl rfl rfl rfl rfl rfl (by decide) (tz_in0 rfl)).trans ?_
    refine tz_jI (fun y2 A2 => ?_)
    refine (tz_g_if_eq (t := 49) (by decide) (tz_in0 rfl)).trans ?_
    refine tz_cg ?_ ?_
    · skip
      refine (tz_g_lconst (v := 0) rfl (tz_in0 rfl)).trans ?_
      exact tz_g_ret2 (tz_in0 rfl) rfl
    · skip
      refine (tz_g_iload_n rfl (tz_in0 rfl)).trans ?_
      refine (tz_g_iconst (v := 0) rfl (tz_in0 rfl)).trans ?_
      refine (tz_g_aload_n rfl (tz_in0 rfl)).trans ?_
      refine (tz_g_getr (j := 159) rfl rfl rfl rfl rfl (tz_in0 rfl)).trans ?_
      refine (tz_g_iload_n rfl (tz_in0 rfl)).trans ?_
      refine (tz_g_iald (n := 8) rfl rfl rfl (tz_in0 rfl)).trans ?_
      refine tz_cn1 ?_
      refine (tz_g_iconst (v := 1) rfl (tz_in0 rfl)).trans ?_
      refine (tz_g_isub (tz_in0 rfl)).trans ?_
      refine (tz_g_cs3I (m2 := 165) (rc := 4) rfl rfl rfl rfl rfl rfl (by decide) (tz_in0 rfl)).trans ?_
      refine tz_jI (fun y3 A3 => ?_)
      refine (tz_g_if_eq (t := 49) (by decide) (tz_in0 rfl)).trans ?_
      refine tz_cg ?_ ?_
      · skip
        refine (tz_g_lconst (v := 0) rfl (tz_in0 rfl)).trans ?_
        exact tz_g_ret2 (tz_in0 rfl) rfl
      · skip
        refine (tz_g_aload_n rfl (tz_in0 rfl)).trans ?_
        refine (tz_g_getr (j := 160) rfl rfl rfl rfl rfl (tz_in0 rfl)).trans ?_
        refine (tz_g_sipush (v := 160) rfl (tz_in0 rfl)).trans ?_
        refine (tz_g_iload_n rfl (tz_in0 rfl)).trans ?_
        refine (tz_g_imul (tz_in0 rfl)).trans ?_
        refine (tz_g_iload_n rfl (tz_in0 rfl)).trans ?_
        refine (tz_g_iadd (tz_in0 rfl)).trans ?_
        refine (tz_g_lald (n := 1280) rfl rfl (tz_in0 rfl)).trans ?_
        refine tz_cn1 ?_
        refine (tz_g_goto (t := 50) (by decide) (tz_in0 rfl)).trans ?_
        exact tz_g_ret2 (tz_in0 rfl) rfl

theorem e_X12_isHill (x1 : Int32) (A : tz_Mem) : f_X12_isHill x1 A =
  tz_bI (f_X12_within x1 0 ((tz_g A 157 3) - 1) A) (fun y1 A1 =>
if y1 = 0 ∨ y1 = 1 then some (some (.int y1), A1) else none) := by
  refine (tz_Fe (L := [some (.ref 157), some (.int x1)]) rfl).trans ?_
  refine (tz_g_iload_n rfl (tz_in0 rfl)).trans ?_
  refine (tz_g_iconst (v := 0) rfl (tz_in0 rfl)).trans ?_
  refine (tz_g_aload_n rfl (tz_in0 rfl)).trans ?_
  refine (tz_g_geti rfl rfl rfl (tz_in0 rfl)).trans ?_
  refine (tz_g_iconst (v := 1) rfl (tz_in0 rfl)).trans ?_
  refine (tz_g_isub (tz_in0 rfl)).trans ?_
  refine (tz_g_cs3I (m2 := 165) (rc := 4) rfl rfl rfl rfl rfl rfl (by decide) (tz_in0 rfl)).trans ?_
  refine tz_jI (fun y1 A1 => ?_)
  exact tz_g_ret4 (tz_in0 rfl) rfl

theorem e_X12_holds (x1 : Int32) (A : tz_Mem) : f_X12_holds x1 A =
  tz_bI (f_X12_within x1 0 7 A) (fun y1 A1 =>
if y1 = 0 then
  some (some (.int (-1)), A1)
else
  if x1 < 0 ∨ 8 ≤ (Int32.toNatClampNeg x1) then none else
  some (some (.int (tz_g A1 158 (Int32.toNatClampNeg x1))), A1)) := by
  refine (tz_Fe (L := [some (.ref 157), some (.int x1)]) rfl).trans ?_
  refine (tz_g_iload_n rfl (tz_in0 rfl)).trans ?_
  refine (tz_g_iconst (v := 0) rfl (tz_in0 rfl)).trans ?_
  refine (tz_g_bipush (v := 7) rfl (tz_in0 rfl)).trans ?_
  refine (tz_g_cs3I (m2 := 165) (rc := 4) rfl rfl rfl rfl rfl rfl (by decide) (tz_in0 rfl)).trans ?_
  refine tz_jI (fun y1 A1 => ?_)
  refine (tz_g_if_eq (t := 19) (by decide) (tz_in0 rfl)).trans ?_
  refine tz_cg ?_ ?_
  · skip
    refine (tz_g_iconst (v := (-1)) rfl (tz_in0 rfl)).trans ?_
    exact tz_g_ret1 (tz_in0 rfl) rfl
  · skip
    refine (tz_g_aload_n rfl (tz_in0 rfl)).trans ?_
    refine (tz_g_getr (j := 158) rfl rfl rfl rfl rfl (tz_in0 rfl)).trans ?_
    refine (tz_g_iload_n rfl (tz_in0 rfl)).trans ?_
    refine (tz_g_iald (n := 8) rfl rfl rfl (tz_in0 rfl)).trans ?_
    refine tz_cn1 ?_
    refine (tz_g_goto (t := 20) (by decide) (tz_in0 rfl)).trans ?_
    exact tz_g_ret1 (tz_in0 rfl) rfl

theorem e_X12_isUnder (x1 : Int32) (x2 : Int32) (A : tz_Mem) : f_X12_isUnder x1 x2 A =
  q_X12_isUnder_2 x2 x1 A := by
  refine (tz_Fe (L := [some (.int x1), some (.int x2), none]) rfl).trans ?_
  refine (tz_g_iload_n rfl (tz_in0 rfl)).trans ?_
  refine (tz_g_istore_n (L2 := [some (.int x1), some (.int x2), some (.int x1)]) rfl rfl (tz_in0 rfl)).trans ?_
  exact tz_Gm (L2 := [none, some (.int x2), some (.int x1)]) rfl rfl rfl rfl

theorem e_X12_isUnder_2 (z1 : Int32) (z2 : Int32) (A : tz_Mem) : q_X12_isUnder_2 z1 z2 A =
  if z2 = z1 then
  if ¬ z2 = z1 then
    some (some (.int 0), A)
  else
    some (some (.int 1), A)
else
  if z2 ≤ 0 then
    if ¬ z2 = z1 then
      some (some (.int 0), A)
    else
      some (some (.int 1), A)
  else
    tz_bI (f_X12_above z2 A) (fun y1 A1 =>
    q_X12_isUnder_2 z1 y1 A1) := by
  show tz_Go 176 2 [none, some (.int z1), some (.int z2)] [] A = _
  refine (tz_g_iload_n rfl (tz_inM rfl rfl rfl)).trans ?_
  refine (tz_g_iload_n rfl (tz_in0 rfl)).trans ?_
  refine (tz_g_ic_eq (t := 19) (by decide) (tz_in0 rfl)).trans ?_
  refine tz_cg ?_ ?_
  · skip
    refine (tz_g_iload_n rfl (tz_in0 rfl)).trans ?_
    refine (tz_g_iload_n rfl (tz_in0 rfl)).trans ?_
    refine (tz_g_ic_ne (t := 28) (by decide) (tz_in0 rfl)).trans ?_
    refine tz_cg ?_ ?_
    · skip
      refine (tz_g_iconst (v := 0) rfl (tz_in0 rfl)).trans ?_
      exact tz_g_ret4K (by decide) (tz_in0 rfl) rfl
    · skip
      refine (tz_g_iconst (v := 1) rfl (tz_in0 rfl)).trans ?_
      refine (tz_g_goto (t := 29) (by decide) (tz_in0 rfl)).trans ?_
      exact tz_g_ret4K (by decide) (tz_in0 rfl) rfl
  · skip
    refine (tz_g_iload_n rfl (tz_in0 rfl)).trans ?_
    refine (tz_g_if_le (t := 19) (by decide) (tz_in0 rfl)).trans ?_
    refine tz_cg ?_ ?_
    · skip
      refine (tz_g_iload_n rfl (tz_in0 rfl)).trans ?_
      refine (tz_g_iload_n rfl (tz_in0 rfl)).trans ?_
      refine (tz_g_ic_ne (t := 28) (by decide) (tz_in0 rfl)).trans ?_
      refine tz_cg ?_ ?_
      · skip
        refine (tz_g_iconst (v := 0) rfl (tz_in0 rfl)).trans ?_
        exact tz_g_ret4K (by decide) (tz_in0 rfl) rfl
      · skip
        refine (tz_g_iconst (v := 1) rfl (tz_in0 rfl)).trans ?_
        refine (tz_g_goto (t := 29) (by decide) (tz_in0 rfl)).trans ?_
        exact tz_g_ret4K (by decide) (tz_in0 rfl) rfl
    · skip
      refine (tz_g_iload_n rfl (tz_in0 rfl)).trans ?_
      refine (tz_g_cs1I (m2 := 177) (rc := 1) rfl rfl rfl rfl rfl rfl (by decide) (tz_in0 rfl)).trans ?_
      refine tz_jI (fun y1 A1 => ?_)
      refine (tz_g_istore_n (L2 := [none, some (.int z1), some (.int y1)]) rfl rfl (tz_in0 rfl)).trans ?_
      refine (tz_g_goto (t := 2) (by decide) (tz_in0 rfl)).trans ?_
      exact tz_Gm (L2 := [none, some (.int z1), some (.int y1)]) rfl rfl rfl rfl

theorem e_X12_hill (x1 : Int32) (x2 : Int32) (A : tz_Mem) : f_X12_hill x1 x2 A =
  tz_bI (f_X12_within x1 0 6 A) (fun y1 A1 =>
if ¬ y1 = 0 then
  tz_bI (f_X12_within x2 0 9 A1) (fun y2 A2 =>
  if ¬ y2 = 0 then
    if ¬ (tz_g A2 157 3) = 8 then
      tz_bI (f_X12_newHill x1 x2 A2) (fun y3 A3 =>
      some (some (.int y3), A3))
    else
      tz_bI (f_X12_no (-7) A2) (fun y3 A3 =>
      some (some (.int y3), A3))
  else
    tz_bI (f_X12_no (-6) A2) (fun y3 A3 =>
    some (some (.int y3), A3)))
else
  tz_bI (f_X12_no (-1) A1) (fun y2 A2 =>
  some (some (.int y2), A2))) := by
  refine (tz_Fe (L := [some (.ref 157), some (.int x1), some (.int x2)]) rfl).trans ?_
  refine (tz_g_iload_n rfl (tz_in0 rfl)).trans ?_
  refine (tz_g_iconst (v := 0) rfl (tz_in0 rfl)).trans ?_
  refine (tz_g_bipush (v := 6) rfl (tz_in0 rfl)).trans ?_
  refine (tz_g_cs3I (m2 := 165) (rc := 4) rfl rfl rfl rfl rfl rfl (by decide) (tz_in0 rfl)).trans ?_
  refine tz_jI (fun y1 A1 => ?_)
  refine (tz_g_if_ne (t := 16) (by decide) (tz_in0 rfl)).trans ?_
  refine tz_cg ?_ ?_
  · skip
    refine (tz_g_iload_n rfl (tz_in0 rfl)).trans ?_
    refine (tz_g_iconst (v := 0) rfl (tz_in0 rfl)).trans ?_
    refine (tz_g_bipush (v := 9) rfl (tz_in0 rfl)).trans ?_
    refine (tz_g_cs3I (m2 := 165) (rc := 4) rfl rfl rfl rfl rfl rfl (by decide) (tz_in0 rfl)).trans ?_
    refine tz_jI (fun y2 A2 => ?_)
    refine (tz_g_if_ne (t := 33) (by decide) (tz_in0 rfl)).trans ?_
    refine tz_cg ?_ ?_
    · skip
      refine (tz_g_aload_n rfl (tz_in0 rfl)).trans ?_
      refine (tz_g_geti rfl rfl rfl (tz_in0 rfl)).trans ?_
      refine (tz_g_bipush (v := 8) rfl (tz_in0 rfl)).trans ?_
      refine (tz_g_ic_ne (t := 51) (by decide) (tz_in0 rfl)).trans ?_
      refine tz_cg ?_ ?_
      · skip
        refine (tz_g_aload_n rfl (tz_in0 rfl)).trans ?_
        refine (tz_g_iload_n rfl (tz_in0 rfl)).trans ?_
        refine (tz_g_iload_n rfl (tz_in0 rfl)).trans ?_
        refine (tz_g_cv2I (m2 := 182) (rc := 1) rfl rfl rfl rfl rfl rfl (by decide) (tz_in0 rfl)).trans ?_
        refine tz_jI (fun y3 A3 => ?_)
        exact tz_g_ret1 (tz_in0 rfl) rfl
      · skip
        refine (tz_g_aload_n rfl (tz_in0 rfl)).trans ?_
        refine (tz_g_bipush (v := (-7)) rfl (tz_in0 rfl)).trans ?_
        refine (tz_g_cv1I (m2 := 166) (rc := 1) rfl rfl rfl rfl rfl rfl (by decide) (tz_in0 rfl)).trans ?_
        refine tz_jI (fun y3 A3 => ?_)
        refine (tz_g_goto (t := 57) (by decide) (tz_in0 rfl)).trans ?_
        exact tz_g_ret1 (tz_in0 rfl) rfl
    · skip
      refine (tz_g_aload_n rfl (tz_in0 rfl)).trans ?_
      refine (tz_g_bipush (v := (-6)) rfl (tz_in0 rfl)).trans ?_
      refine (tz_g_cv1I (m2 := 166) (rc := 1) rfl rfl rfl rfl rfl rfl (by decide) (tz_in0 rfl)).trans ?_
      refine tz_jI (fun y3 A3 => ?_)
      exact tz_g_ret1 (tz_in0 rfl) rfl
  · skip
    refine (tz_g_aload_n rfl (tz_in0 rfl)).trans ?_
    refine (tz_g_iconst (v := (-1)) rfl (tz_in0 rfl)).trans ?_
    refine (tz_g_cv1I (m2 := 166) (rc := 1) rfl rfl rfl rfl rfl rfl (by decide) (tz_in0 rfl)).trans ?_
    refine tz_jI (fun y2 A2 => ?_)
    exact tz_g_ret1 (tz_in0 rfl) rfl

theorem e_X12_isStorm (x1 : Int32) (A : tz_Mem) : f_X12_isStorm x1 A =
  tz_bI (f_X12_within x1 0 ((tz_g A 157 8) - 1) A) (fun y1 A1 =>
if y1 = 0 ∨ y1 = 1 then some (some (.int y1), A1) else none) := by
  refine (tz_Fe (L := [some (.ref 157), some (.int x1)]) rfl).trans ?_
  refine (tz_g_iload_n rfl (tz_in0 rfl)).trans ?_
  refine (tz_g_iconst (v := 0) rfl (tz_in0 rfl)).trans ?_
  refine (tz_g_aload_n rfl (tz_in0 rfl)).trans ?_
  refine (tz_g_geti rfl rfl rfl (tz_in0 rfl)).trans ?_
  refine (tz_g_iconst (v := 1) rfl (tz_in0 rfl)).trans ?_
  refine (tz_g_isub (tz_in0 rfl)).trans ?_
  refine (tz_g_cs3I (m2 := 165) (rc := 4) rfl rfl rfl rfl rfl rfl (by decide) (tz_in0 rfl)).trans ?_
  refine tz_jI (fun y1 A1 => ?_)
  exact tz_g_ret4 (tz_in0 rfl) rfl

theorem e_X12_isLetter (x1 : Int32) (A : tz_Mem) : f_X12_isLetter x1 A =
  tz_bI (f_X12_within x1 0 ((tz_g A 157 15) - 1) A) (fun y1 A1 =>
if y1 = 0 ∨ y1 = 1 then some (some (.int y1), A1) else none) := by
  refine (tz_Fe (L := [some (.ref 157), some (.int x1)]) rfl).trans ?_
  refine (tz_g_iload_n rfl (tz_in0 rfl)).trans ?_
  refine (tz_g_iconst (v := 0) rfl (tz_in0 rfl)).trans ?_
  refine (tz_g_aload_n rfl (tz_in0 rfl)).trans ?_
  refine (tz_g_geti rfl rfl rfl (tz_in0 rfl)).trans ?_
  refine (tz_g_iconst (v := 1) rfl (tz_in0 rfl)).trans ?_
  refine (tz_g_isub (tz_in0 rfl)).trans ?_
  refine (tz_g_cs3I (m2 := 165) (rc := 4) rfl rfl rfl rfl rfl rfl (by decide) (tz_in0 rfl)).trans ?_
  refine tz_jI (fun y1 A1 => ?_)
  exact tz_g_ret4 (tz_in0 rfl) rfl

theorem e_X12_is (x1 : Int32) (A : tz_Mem) : f_X12_is x1 A =
  tz_bI (f_X12_sign A) (fun y1 A1 =>
if y1 = x1 then
  some (some (.int 1), (tz_s A1 157 40 ((tz_g A1 157 40) + 1)))
else
  some (some (.int 0), A1)) := by
  refine (tz_Fe (L := [some (.ref 157), some (.int x1)]) rfl).trans ?_
  refine (tz_g_aload_n rfl (tz_in0 rfl)).trans ?_
  refine (tz_g_cv0I (m2 := 198) (rc := 1) rfl rfl rfl rfl rfl rfl (by decide) (tz_in0 rfl)).trans ?_
  refine tz_jI (fun y1 A1 => ?_)
  refine (tz_g_iload_n rfl (tz_in0 rfl)).trans ?_
  refine (tz_g_ic_eq (t := 10) (by decide) (tz_in0 rfl)).trans ?_
  refine tz_cg ?_ ?_
  · skip
    refine (tz_g_aload_n rfl (tz_in0 rfl)).trans ?_
    refine (tz_g_dup rfl (tz_in0 rfl)).trans ?_
    refine (tz_g_geti rfl rfl rfl (tz_in0 rfl)).trans ?_
    refine (tz_g_iconst (v := 1) rfl (tz_in0 rfl)).trans ?_
    refine (tz_g_iadd (tz_in0 rfl)).trans ?_
    refine (tz_g_puti rfl rfl rfl (tz_in0 rfl)).trans ?_
    refine (tz_g_iconst (v := 1) rfl (tz_in0 rfl)).trans ?_
    exact tz_g_ret4K (by decide) (tz_in0 rfl) rfl
  · skip
    refine (tz_g_iconst (v := 0) rfl (tz_in0 rfl)).trans ?_
    exact tz_g_ret4K (by decide) (tz_in0 rfl) rfl

theorem e_X12_isHours (x1 : Int32) (A : tz_Mem) : f_X12_isHours x1 A =
  tz_bI (f_X12_within x1 0 500 A) (fun y1 A1 =>
if y1 = 0 ∨ y1 = 1 then some (some (.int y1), A1) else none) := by
  refine (tz_Fe (L := [some (.int x1)]) rfl).trans ?_
  refine (tz_g_iload_n rfl (tz_in0 rfl)).trans ?_
  refine (tz_g_iconst (v := 0) rfl (tz_in0 rfl)).trans ?_
  refine (tz_g_sipush (v := 500) rfl (tz_in0 rfl)).trans ?_
  refine (tz_g_cs3I (m2 := 165) (rc := 4) rfl rfl rfl rfl rfl rfl (by decide) (tz_in0 rfl)).trans ?_
  refine tz_jI (fun y1 A1 => ?_)
  exact tz_g_ret4 (tz_in0 rfl) rfl

theorem e_X12_no10 (x1 : Int32) (A : tz_Mem) : f_X12_no10 x1 A =
  tz_bI (f_X12_no x1 A) (fun y1 A1 =>
some (some (.int (y1 - 10)), A1)) := by
  refine (tz_Fe (L := [some (.ref 157), some (.int x1)]) rfl).trans ?_
  refine (tz_g_aload_n rfl (tz_in0 rfl)).trans ?_
  refine (tz_g_iload_n rfl (tz_in0 rfl)).trans ?_
  refine (tz_g_cv1I (m2 := 166) (rc := 1) rfl rfl rfl rfl rfl rfl (by decide) (tz_in0 rfl)).trans ?_
  refine tz_jI (fun y1 A1 => ?_)
  refine (tz_g_bipush (v := 10) rfl (tz_in0 rfl)).trans ?_
  refine (tz_g_isub (tz_in0 rfl)).trans ?_
  exact tz_g_ret1 (tz_in0 rfl) rfl

theorem e_X12_dry (x1 : Int32) (A : tz_Mem) : f_X12_dry x1 A =
  tz_bI (f_X12_within x1 0 100 A) (fun y1 A1 =>
if ¬ y1 = 0 then
  some (some (.int (tz_g A1 157 23)), (tz_s A1 157 23 x1))
else
  tz_bI (f_X12_no (-6) A1) (fun y2 A2 =>
  some (some (.int y2), A2))) := by
  refine (tz_Fe (L := [some (.ref 157), some (.int x1), none]) rfl).trans ?_
  refine (tz_g_iload_n rfl (tz_in0 rfl)).trans ?_
  refine (tz_g_iconst (v := 0) rfl (tz_in0 rfl)).trans ?_
  refine (tz_g_bipush (v := 100) rfl (tz_in0 rfl)).trans ?_
  refine (tz_g_cs3I (m2 := 165) (rc := 4) rfl rfl rfl rfl rfl rfl (by decide) (tz_in0 rfl)).trans ?_
  refine tz_jI (fun y1 A1 => ?_)
  refine (tz_g_if_ne (t := 17) (by decide) (tz_in0 rfl)).trans ?_
  refine tz_cg ?_ ?_
  · skip
    refine (tz_g_aload_n rfl (tz_in0 rfl)).trans ?_
    refine (tz_g_geti rfl rfl rfl (tz_in0 rfl)).trans ?_
    refine (tz_g_istore_n (L2 := [some (.ref 157), some (.int x1), some (.int (tz_g A1 157 23))]) rfl rfl (tz_in0 rfl)).trans ?_
    refine (tz_g_aload_n rfl (tz_in0 rfl)).trans ?_
    refine (tz_g_iload_n rfl (tz_in0 rfl)).trans ?_
    refine (tz_g_puti rfl rfl rfl (tz_in0 rfl)).trans ?_
    refine (tz_g_iload_n rfl (tz_in0 rfl)).trans ?_
    exact tz_g_ret1 (tz_in0 rfl) rfl
  · skip
    refine (tz_g_aload_n rfl (tz_in0 rfl)).trans ?_
    refine (tz_g_bipush (v := (-6)) rfl (tz_in0 rfl)).trans ?_
    refine (tz_g_cv1I (m2 := 166) (rc := 1) rfl rfl rfl rfl rfl rfl (by decide) (tz_in0 rfl)).trans ?_
    refine tz_jI (fun y2 A2 => ?_)
    exact tz_g_ret1 (tz_in0 rfl) rfl

theorem e_X12_saysBy (x1 : Int32) (x2 : Int32) (A : tz_Mem) : f_X12_saysBy x1 x2 A =
  if x1 < 0 ∨ 8 ≤ (Int32.toNatClampNeg x1) then none else
if ¬ (tz_g A 161 (Int32.toNatClampNeg x1)) = 6 then
  if (tz_g A 161 (Int32.toNatClampNeg x1)) = 4 then
    tz_bV (f_X12_ran 51 A) (fun A1 =>
    if (tz_g A 161 (Int32.toNatClampNeg x1)) = 1 then
      tz_bV (f_X12_ran 20 A1) (fun A2 =>
      tz_bV (f_X12_ran 10 A2) (fun A3 =>
      if (tz_g A 161 (Int32.toNatClampNeg x1)) = 1 then
        if x1 < 0 ∨ 8 ≤ (Int32.toNatClampNeg x1) then none else
        some (some (.int ((x2 + x1) + (tz_g A3 162 (Int32.toNatClampNeg x1)))), A3)
      else
        if ¬ (tz_g A 161 (Int32.toNatClampNeg x1)) = 3 then
          if ¬ (tz_g A 161 (Int32.toNatClampNeg x1)) = 4 then
            if ¬ (tz_g A 161 (Int32.toNatClampNeg x1)) = 6 then
              some (some (.int (x2 + x1)), A3)
            else
              some (some (.int (((x2 + x1) - x1) * 2)), A3)
          else
            some (some (.int ((x2 + x1) - x1)), A3)
        else
          if x1 < 0 ∨ 8 ≤ (Int32.toNatClampNeg x1) then none else
          some (some (.int ((x2 + x1) + (tz_g A3 162 (Int32.toNatClampNeg x1)))), A3)))
    else
      if ¬ (tz_g A 161 (Int32.toNatClampNeg x1)) = 3 then
        tz_bV (f_X12_ran 10 A1) (fun A2 =>
        if (tz_g A 161 (Int32.toNatClampNeg x1)) = 1 then
          if x1 < 0 ∨ 8 ≤ (Int32.toNatClampNeg x1) then none else
          some (some (.int ((x2 + x1) + (tz_g A2 162 (Int32.toNatClampNeg x1)))), A2)
        else
          if ¬ (tz_g A 161 (Int32.toNatClampNeg x1)) = 3 then
            if ¬ (tz_g A 161 (Int32.toNatClampNeg x1)) = 4 then
              if ¬ (tz_g A 161 (Int32.toNatClampNeg x1)) = 6 then
                some (some (.int (x2 + x1)), A2)
              else
                some (some (.int (((x2 + x1) - x1) * 2)), A2)
            else
              some (some (.int ((x2 + x1) - x1)), A2)
          else
            if x1 < 0 ∨ 8 ≤ (Int32.toNatClampNeg x1) then none else
            some (some (.int ((x2 + x1) + (tz_g A2 162 (Int32.toNatClampNeg x1)))), A2))
      else
        tz_bV (f_X12_ran 20 A1) (fun A2 =>
        tz_bV (f_X12_ran 10 A2) (fun A3 =>
        if (tz_g A 161 (Int32.toNatClampNeg x1)) = 1 then
          if x1 < 0 ∨ 8 ≤ (Int32.toNatClampNeg x1) then none else
          some (some (.int ((x2 + x1) + (tz_g A3 162 (Int32.toNatClampNeg x1)))), A3)
        else
          if ¬ (tz_g A 161 (Int32.toNatClampNeg x1)) = 3 then
            if ¬ (tz_g A 161 (Int32.toNatClampNeg x1)) = 4 then
              if ¬ (tz_g A 161 (Int32.toNatClampNeg x1)) = 6 then
                some (some (.int (x2 + x1)), A3)
              else
                some (some (.int (((x2 + x1) - x1) * 2)), A3)
            else
              some (some (.int ((x2 + x1) - x1)), A3)
          else
            if x1 < 0 ∨ 8 ≤ (Int32.toNatClampNeg x1) then none else
            some (some (.int ((x2 + x1) + (tz_g A3 162 (Int32.toNatClampNeg x1)))), A3))))
  else
    if ¬ (tz_g A 161 (Int32.toNatClampNeg x1)) = 6 then
      if (tz_g A 161 (Int32.toNatClampNeg x1)) = 1 then
        tz_bV (f_X12_ran 20 A) (fun A1 =>
        tz_bV (f_X12_ran 10 A1) (fun A2 =>
        if (tz_g A 161 (Int32.toNatClampNeg x1)) = 1 then
          if x1 < 0 ∨ 8 ≤ (Int32.toNatClampNeg x1) then none else
          some (some (.int ((x2 + x1) + (tz_g A2 162 (Int32.toNatClampNeg x1)))), A2)
        else
          if ¬ (tz_g A 161 (Int32.toNatClampNeg x1)) = 3 then
            if ¬ (tz_g A 161 (Int32.toNatClampNeg x1)) = 4 then
              if ¬ (tz_g A 161 (Int32.toNatClampNeg x1)) = 6 then
                some (some (.int (x2 + x1)), A2)
              else
                some (some (.int (((x2 + x1) - x1) * 2)), A2)
            else
              some (some (.int ((x2 + x1) - x1)), A2)
          else
            if x1 < 0 ∨ 8 ≤ (Int32.toNatClampNeg x1) then none else
            some (some (.int ((x2 + x1) + (tz_g A2 162 (Int32.toNatClampNeg x1)))), A2)))
      else
        if ¬ (tz_g A 161 (Int32.toNatClampNeg x1)) = 3 then
          tz_bV (f_X12_ran 10 A) (fun A1 =>
          if (tz_g A 161 (Int32.toNatClampNeg x1)) = 1 then
            if x1 < 0 ∨ 8 ≤ (Int32.toNatClampNeg x1) then none else
            some (some (.int ((x2 + x1) + (tz_g A1 162 (Int32.toNatClampNeg x1)))), A1)
          else
            if ¬ (tz_g A 161 (Int32.toNatClampNeg x1)) = 3 then
              if ¬ (tz_g A 161 (Int32.toNatClampNeg x1)) = 4 then
                if ¬ (tz_g A 161 (Int32.toNatClampNeg x1)) = 6 then
                  some (some (.int (x2 + x1)), A1)
                else
                  some (some (.int (((x2 + x1) - x1) * 2)), A1)
              else
                some (some (.int ((x2 + x1) - x1)), A1)
            else
              if x1 < 0 ∨ 8 ≤ (Int32.toNatClampNeg x1) then none else
              some (some (.int ((x2 + x1) + (tz_g A1 162 (Int32.toNatClampNeg x1)))), A1))
        else
          tz_bV (f_X12_ran 20 A) (fun A1 =>
          tz_bV (f_X12_ran 10 A1) (fun A2 =>
          if (tz_g A 161 (Int32.toNatClampNeg x1)) = 1 then
            if x1 < 0 ∨ 8 ≤ (Int32.toNatClampNeg x1) then none else
            some (some (.int ((x2 + x1) + (tz_g A2 162 (Int32.toNatClampNeg x1)))), A2)
          else
            if ¬ (tz_g A 161 (Int32.toNatClampNeg x1)) = 3 then
              if ¬ (tz_g A 161 (Int32.toNatClampNeg x1)) = 4 then
                if ¬ (tz_g A 161 (Int32.toNatClampNeg x1)) = 6 then
                  some (some (.int (x2 + x1)), A2)
                else
                  some (some (.int (((x2 + x1) - x1) * 2)), A2)
              else
                some (some (.int ((x2 + x1) - x1)), A2)
            else
              if x1 < 0 ∨ 8 ≤ (Int32.toNatClampNeg x1) then none else
              some (some (.int ((x2 + x1) + (tz_g A2 162 (Int32.toNatClampNeg x1)))), A2)))
    else
      tz_bV (f_X12_ran 51 A) (fun A1 =>
      if (tz_g A 161 (Int32.toNatClampNeg x1)) = 1 then
        tz_bV (f_X12_ran 20 A1) (fun A2 =>
        tz_bV (f_X12_ran 10 A2) (fun A3 =>
        if (tz_g A 161 (Int32.toNatClampNeg x1)) = 1 then
          if x1 < 0 ∨ 8 ≤ (Int32.toNatClampNeg x1) then none else
          some (some (.int ((x2 + x1) + (tz_g A3 162 (Int32.toNatClampNeg x1)))), A3)
        else
          if ¬ (tz_g A 161 (Int32.toNatClampNeg x1)) = 3 then
            if ¬ (tz_g A 161 (Int32.toNatClampNeg x1)) = 4 then
              if ¬ (tz_g A 161 (Int32.toNatClampNeg x1)) = 6 then
                some (some (.int (x2 + x1)), A3)
              else
                some (some (.int (((x2 + x1) - x1) * 2)), A3)
            else
              some (some (.int ((x2 + x1) - x1)), A3)
          else
            if x1 < 0 ∨ 8 ≤ (Int32.toNatClampNeg x1) then none else
            some (some (.int ((x2 + x1) + (tz_g A3 162 (Int32.toNatClampNeg x1)))), A3)))
      else
        if ¬ (tz_g A 161 (Int32.toNatClampNeg x1)) = 3 then
          tz_bV (f_X12_ran 10 A1) (fun A2 =>
          if (tz_g A 161 (Int32.toNatClampNeg x1)) = 1 then
            if x1 < 0 ∨ 8 ≤ (Int32.toNatClampNeg x1) then none else
            some (some (.int ((x2 + x1) + (tz_g A2 162 (Int32.toNatClampNeg x1)))), A2)
          else
            if ¬ (tz_g A 161 (Int32.toNatClampNeg x1)) = 3 then
              if ¬ (tz_g A 161 (Int32.toNatClampNeg x1)) = 4 then
                if ¬ (tz_g A 161 (Int32.toNatClampNeg x1)) = 6 then
                  some (some (.int (x2 + x1)), A2)
                else
                  some (some (.int (((x2 + x1) - x1) * 2)), A2)
              else
                some (some (.int ((x2 + x1) - x1)), A2)
            else
              if x1 < 0 ∨ 8 ≤ (Int32.toNatClampNeg x1) then none else
              some (some (.int ((x2 + x1) + (tz_g A2 162 (Int32.toNatClampNeg x1)))), A2))
        else
          tz_bV (f_X12_ran 20 A1) (fun A2 =>
          tz_bV (f_X12_ran 10 A2) (fun A3 =>
          if (tz_g A 161 (Int32.toNatClampNeg x1)) = 1 then
            if x1 < 0 ∨ 8 ≤ (Int32.toNatClampNeg x1) then none else
            some (some (.int ((x2 + x1) + (tz_g A3 162 (Int32.toNatClampNeg x1)))), A3)
          else
            if ¬ (tz_g A 161 (Int32.toNatClampNeg x1)) = 3 then
              if ¬ (tz_g A 161 (Int32.toNatClampNeg x1)) = 4 then
                if ¬ (tz_g A 161 (Int32.toNatClampNeg x1)) = 6 then
                  some (some (.int (x2 + x1)), A3)
                else
                  some (some (.int (((x2 + x1) - x1) * 2)), A3)
              else
                some (some (.int ((x2 + x1) - x1)), A3)
            else
              if x1 < 0 ∨ 8 ≤ (Int32.toNatClampNeg x1) then none else
              some (some (.int ((x2 + x1) + (tz_g A3 162 (Int32.toNatClampNeg x1)))), A3))))
else
  tz_bV (f_X12_ran 70 A) (fun A1 =>
  if (tz_g A 161 (Int32.toNatClampNeg x1)) = 4 then
    tz_bV (f_X12_ran 51 A1) (fun A2 =>
    if (tz_g A 161 (Int32.toNatClampNeg x1)) = 1 then
      tz_bV (f_X12_ran 20 A2) (fun A3 =>
      tz_bV (f_X12_ran 10 A3) (fun A4 =>
      if (tz_g A 161 (Int32.toNatClampNeg x1)) = 1 then
        if x1 < 0 ∨ 8 ≤ (Int32.toNatClampNeg x1) then none else
        some (some (.int ((x2 + x1) + (tz_g A4 162 (Int32.toNatClampNeg x1)))), A4)
      else
        if ¬ (tz_g A 161 (Int32.toNatClampNeg x1)) = 3 then
          if ¬ (tz_g A 161 (Int32.toNatClampNeg x1)) = 4 then
            if ¬ (tz_g A 161 (Int32.toNatClampNeg x1)) = 6 then
              some (some (.int (x2 + x1)), A4)
            else
              some (some (.int (((x2 + x1) - x1) * 2)), A4)
          else
            some (some (.int ((x2 + x1) - x1)), A4)
        else
          if x1 < 0 ∨ 8 ≤ (Int32.toNatClampNeg x1) then none else
          some (some (.int ((x2 + x1) + (tz_g A4 162 (Int32.toNatClampNeg x1)))), A4)))
    else
      if ¬ (tz_g A 161 (Int32.toNatClampNeg x1)) = 3 then
        tz_bV (f_X12_ran 10 A2) (fun A3 =>
        if (tz_g A 161 (Int32.toNatClampNeg x1)) = 1 then
          if x1 < 0 ∨ 8 ≤ (Int32.toNatClampNeg x1) then none else
          some (some (.int ((x2 + x1) + (tz_g A3 162 (Int32.toNatClampNeg x1)))), A3)
        else
          if ¬ (tz_g A 161 (Int32.toNatClampNeg x1)) = 3 then
            if ¬ (tz_g A 161 (Int32.toNatClampNeg x1)) = 4 then
              if ¬ (tz_g A 161 (Int32.toNatClampNeg x1)) = 6 then
                some (some (.int (x2 + x1)), A3)
              else
                some (some (.int (((x2 + x1) - x1) * 2)), A3)
            else
              some (some (.int ((x2 + x1) - x1)), A3)
          else
            if x1 < 0 ∨ 8 ≤ (Int32.toNatClampNeg x1) then none else
            some (some (.int ((x2 + x1) + (tz_g A3 162 (Int32.toNatClampNeg x1)))), A3))
      else
        tz_bV (f_X12_ran 20 A2) (fun A3 =>
        tz_bV (f_X12_ran 10 A3) (fun A4 =>
        if (tz_g A 161 (Int32.toNatClampNeg x1)) = 1 then
          if x1 < 0 ∨ 8 ≤ (Int32.toNatClampNeg x1) then none else
          some (some (.int ((x2 + x1) + (tz_g A4 162 (Int32.toNatClampNeg x1)))), A4)
        else
          if ¬ (tz_g A 161 (Int32.toNatClampNeg x1)) = 3 then
            if ¬ (tz_g A 161 (Int32.toNatClampNeg x1)) = 4 then
              if ¬ (tz_g A 161 (Int32.toNatClampNeg x1)) = 6 then
                some (some (.int (x2 + x1)), A4)
              else
                some (some (.int (((x2 + x1) - x1) * 2)), A4)
            else
              some (some (.int ((x2 + x1) - x1)), A4)
          else
            if x1 < 0 ∨ 8 ≤ (Int32.toNatClampNeg x1) then none else
            some (some (.int ((x2 + x1) + (tz_g A4 162 (Int32.toNatClampNeg x1)))), A4))))
  else
    if ¬ (tz_g A 161 (Int32.toNatClampNeg x1)) = 6 then
      if (tz_g A 161 (Int32.toNatClampNeg x1)) = 1 then
        tz_bV (f_X12_ran 20 A1) (fun A2 =>
        tz_bV (f_X12_ran 10 A2) (fun A3 =>
        if (tz_g A 161 (Int32.toNatClampNeg x1)) = 1 then
          if x1 < 0 ∨ 8 ≤ (Int32.toNatClampNeg x1) then none else
          some (some (.int ((x2 + x1) + (tz_g A3 162 (Int32.toNatClampNeg x1)))), A3)
        else
          if ¬ (tz_g A 161 (Int32.toNatClampNeg x1)) = 3 then
            if ¬ (tz_g A 161 (Int32.toNatClampNeg x1)) = 4 then
              if ¬ (tz_g A 161 (Int32.toNatClampNeg x1)) = 6 then
                some (some (.int (x2 + x1)), A3)
              else
                some (some (.int (((x2 + x1) - x1) * 2)), A3)
            else
              some (some (.int ((x2 + x1) - x1)), A3)
          else
            if x1 < 0 ∨ 8 ≤ (Int32.toNatClampNeg x1) then none else
            some (some (.int ((x2 + x1) + (tz_g A3 162 (Int32.toNatClampNeg x1)))), A3)))
      else
        if ¬ (tz_g A 161 (Int32.toNatClampNeg x1)) = 3 then
          tz_bV (f_X12_ran 10 A1) (fun A2 =>
          if (tz_g A 161 (Int32.toNatClampNeg x1)) = 1 then
            if x1 < 0 ∨ 8 ≤ (Int32.toNatClampNeg x1) then none else
            some (some (.int ((x2 + x1) + (tz_g A2 162 (Int32.toNatClampNeg x1)))), A2)
          else
            if ¬ (tz_g A 161 (Int32.toNatClampNeg x1)) = 3 then
              if ¬ (tz_g A 161 (Int32.toNatClampNeg x1)) = 4 then
                if ¬ (tz_g A 161 (Int32.toNatClampNeg x1)) = 6 then
                  some (some (.int (x2 + x1)), A2)
                else
                  some (some (.int (((x2 + x1) - x1) * 2)), A2)
              else
                some (some (.int ((x2 + x1) - x1)), A2)
            else
              if x1 < 0 ∨ 8 ≤ (Int32.toNatClampNeg x1) then none else
              some (some (.int ((x2 + x1) + (tz_g A2 162 (Int32.toNatClampNeg x1)))), A2))
        else
          tz_bV (f_X12_ran 20 A1) (fun A2 =>
          tz_bV (f_X12_ran 10 A2) (fun A3 =>
          if (tz_g A 161 (Int32.toNatClampNeg x1)) = 1 then
            if x1 < 0 ∨ 8 ≤ (Int32.toNatClampNeg x1) then none else
            some (some (.int ((x2 + x1) + (tz_g A3 162 (Int32.toNatClampNeg x1)))), A3)
          else
            if ¬ (tz_g A 161 (Int32.toNatClampNeg x1)) = 3 then
              if ¬ (tz_g A 161 (Int32.toNatClampNeg x1)) = 4 then
                if ¬ (tz_g A 161 (Int32.toNatClampNeg x1)) = 6 then
                  some (some (.int (x2 + x1)), A3)
                else
                  some (some (.int (((x2 + x1) - x1) * 2)), A3)
              else
                some (some (.int ((x2 + x1) - x1)), A3)
            else
              if x1 < 0 ∨ 8 ≤ (Int32.toNatClampNeg x1) then none else
              some (some (.int ((x2 + x1) + (tz_g A3 162 (Int32.toNatClampNeg x1)))), A3)))
    else
      tz_bV (f_X12_ran 51 A1) (fun A2 =>
      if (tz_g A 161 (Int32.toNatClampNeg x1)) = 1 then
        tz_bV (f_X12_ran 20 A2) (fun A3 =>
        tz_bV (f_X12_ran 10 A3) (fun A4 =>
        if (tz_g A 161 (Int32.toNatClampNeg x1)) = 1 then
          if x1 < 0 ∨ 8 ≤ (Int32.toNatClampNeg x1) then none else
          some (some (.int ((x2 + x1) + (tz_g A4 162 (Int32.toNatClampNeg x1)))), A4)
        else
          if ¬ (tz_g A 161 (Int32.toNatClampNeg x1)) = 3 then
            if ¬ (tz_g A 161 (Int32.toNatClampNeg x1)) = 4 then
              if ¬ (tz_g A 161 (Int32.toNatClampNeg x1)) = 6 then
                some (some (.int (x2 + x1)), A4)
              else
                some (some (.int (((x2 + x1) - x1) * 2)), A4)
            else
              some (some (.int ((x2 + x1) - x1)), A4)
          else
            if x1 < 0 ∨ 8 ≤ (Int32.toNatClampNeg x1) then none else
            some (some (.int ((x2 + x1) + (tz_g A4 162 (Int32.toNatClampNeg x1)))), A4)))
      else
        if ¬ (tz_g A 161 (Int32.toNatClampNeg x1)) = 3 then
          tz_bV (f_X12_ran 10 A2) (fun A3 =>
          if (tz_g A 161 (Int32.toNatClampNeg x1)) = 1 then
            if x1 < 0 ∨ 8 ≤ (Int32.toNatClampNeg x1) then none else
            some (some (.int ((x2 + x1) + (tz_g A3 162 (Int32.toNatClampNeg x1)))), A3)
          else
            if ¬ (tz_g A 161 (Int32.toNatClampNeg x1)) = 3 then
              if ¬ (tz_g A 161 (Int32.toNatClampNeg x1)) = 4 then
                if ¬ (tz_g A 161 (Int32.toNatClampNeg x1)) = 6 then
                  some (some (.int (x2 + x1)), A3)
                else
                  some (some (.int (((x2 + x1) - x1) * 2)), A3)
              else
                some (some (.int ((x2 + x1) - x1)), A3)
            else
              if x1 < 0 ∨ 8 ≤ (Int32.toNatClampNeg x1) then none else
              some (some (.int ((x2 + x1) + (tz_g A3 162 (Int32.toNatClampNeg x1)))), A3))
        else
          tz_bV (f_X12_ran 20 A2) (fun A3 =>
          tz_bV (f_X12_ran 10 A3) (fun A4 =>
          if (tz_g A 161 (Int32.toNatClampNeg x1)) = 1 then
            if x1 < 0 ∨ 8 ≤ (Int32.toNatClampNeg x1) then none else
            some (some (.int ((x2 + x1) + (tz_g A4 162 (Int32.toNatClampNeg x1)))), A4)
          else
            if ¬ (tz_g A 161 (Int32.toNatClampNeg x1)) = 3 then
              if ¬ (tz_g A 161 (Int32.toNatClampNeg x1)) = 4 then
                if ¬ (tz_g A 161 (Int32.toNatClampNeg x1)) = 6 then
                  some (some (.int (x2 + x1)), A4)
                else
                  some (some (.int (((x2 + x1) - x1) * 2)), A4)
              else
                some (some (.int ((x2 + x1) - x1)), A4)
            else
              if x1 < 0 ∨ 8 ≤ (Int32.toNatClampNeg x1) then none else
              some (some (.int ((x2 + x1) + (tz_g A4 162 (Int32.toNatClampNeg x1)))), A4))))) := by
  refine (tz_Fe (L := [some (.ref 157), some (.int x1), some (.int x2), none, none]) rfl).trans ?_
  refine (tz_g_aload_n rfl (tz_in0 rfl)).trans ?_
  refine (tz_g_getr (j := 161) rfl rfl rfl rfl rfl (tz_in0 rfl)).trans ?_
  refine (tz_g_iload_n rfl (tz_in0 rfl)).trans ?_
  refine (tz_g_iald (n := 8) rfl rfl rfl (tz_in0 rfl)).trans ?_
  refine tz_cn1 ?_
  refine (tz_g_istore_n (L2 := [some (.ref 157), some (.int x1), some (.int x2), some (.int (tz_g A 161 (Int32.toNatClampNeg x1))), none]) rfl rfl (tz_in0 rfl)).trans ?_
  refine (tz_g_iload_n rfl (tz_in0 rfl)).trans ?_
  refine (tz_g_bipush (v := 6) rfl (tz_in0 rfl)).trans ?_
  refine (tz_g_ic_ne (t := 19) (by decide) (tz_in0 rfl)).trans ?_
  refine tz_cg ?_ ?_
  · skip
    refine (tz_g_iload_n rfl (tz_in0 rfl)).trans ?_
    refine (tz_g_iconst (v := 4) rfl (tz_in0 rfl)).trans ?_
    refine (tz_g_ic_eq (t := 30) (by decide) (tz_in0 rfl)).trans ?_
    refine tz_cg ?_ ?_
    · skip
      refine (tz_g_aload_n rfl (tz_in0 rfl)).trans ?_
      refine (tz_g_bipush (v := 51) rfl (tz_in0 rfl)).trans ?_
      refine (tz_g_cv1V (m2 := 242) (rc := 0) rfl rfl rfl rfl rfl rfl (by decide) (tz_in0 rfl)).trans ?_
      refine tz_jV (fun A1 => ?_)
      refine (tz_g_iload_n rfl (tz_in0 rfl)).trans ?_
      refine (tz_g_iconst (v := 1) rfl (tz_in0 rfl)).trans ?_
      refine (tz_g_ic_eq (t := 46) (by decide) (tz_in0 rfl)).trans ?_
      refine tz_cg ?_ ?_
      · skip
        refine (tz_g_aload_n rfl (tz_in0 rfl)).trans ?_
        refine (tz_g_bipush (v := 20) rfl (tz_in0 rfl)).trans ?_
        refine (tz_g_cv1V (m2 := 242) (rc := 0) rfl rfl rfl rfl rfl rfl (by decide) (tz_in0 rfl)).trans ?_
        refine tz_jV (fun A2 => ?_)
        refine (tz_g_aload_n rfl (tz_in0 rfl)).trans ?_
        refine (tz_g_bipush (v := 10) rfl (tz_in0 rfl)).trans ?_
        refine (tz_g_cv1V (m2 := 242) (rc := 0) rfl rfl rfl rfl rfl rfl (by decide) (tz_in0 rfl)).trans ?_
        refine tz_jV (fun A3 => ?_)
        refine (tz_g_iload_n rfl (tz_in0 rfl)).trans ?_
        refine (tz_g_iload_n rfl (tz_in0 rfl)).trans ?_
        refine (tz_g_iadd (tz_in0 rfl)).trans ?_
        refine (tz_g_istore (L2 := [some (.ref 157), some (.int x1), some (.int x2), some (.int (tz_g A 161 (Int32.toNatClampNeg x1))), some (.int (x2 + x1))]) rfl rfl (tz_in0 rfl)).trans ?_
        refine (tz_g_iload_n rfl (tz_in0 rfl)).trans ?_
        refine (tz_g_iconst (v := 1) rfl (tz_in0 rfl)).trans ?_
        refine (tz_g_ic_eq (t := 73) (by decide) (tz_in0 rfl)).trans ?_
        refine tz_cg ?_ ?_
        · skip
          refine (tz_g_iload rfl (tz_in0 rfl)).trans ?_
          refine (tz_g_aload_n rfl (tz_in0 rfl)).trans ?_
          refine (tz_g_getr (j := 162) rfl rfl rfl rfl rfl (tz_in0 rfl)).trans ?_
          refine (tz_g_iload_n rfl (tz_in0 rfl)).trans ?_
          refine (tz_g_iald (n := 8) rfl rfl rfl (tz_in0 rfl)).trans ?_
          refine tz_cn1 ?_
          refine (tz_g_iadd (tz_in0 rfl)).trans ?_
          exact tz_g_ret1 (tz_in0 rfl) rfl
        · skip
          refine (tz_g_iload_n rfl (tz_in0 rfl)).trans ?_
          refine (tz_g_iconst (v := 3) rfl (tz_in0 rfl)).trans ?_
          refine (tz_g_ic_ne (t := 83) (by decide) (tz_in0 rfl)).trans ?_
          refine tz_cg ?_ ?_
          · skip
            refine (tz_g_iload_n rfl (tz_in0 rfl)).trans ?_
            refine (tz_g_iconst (v := 4) rfl (tz_in0 rfl)).trans ?_
            refine (tz_g_ic_ne (t := 95) (by decide) (tz_in0 rfl)).trans ?_
            refine tz_cg ?_ ?_
            · skip
              refine (tz_g_iload_n rfl (tz_in0 rfl)).trans ?_
              refine (tz_g_bipush (v := 6) rfl (tz_in0 rfl)).trans ?_
              refine (tz_g_ic_ne (t := 110) (by decide) (tz_in0 rfl)).trans ?_
              refine tz_cg ?_ ?_
              · skip
                refine (tz_g_iload rfl (tz_in0 rfl)).trans ?_
                exact tz_g_ret1 (tz_in0 rfl) rfl
              · skip
                refine (tz_g_iload rfl (tz_in0 rfl)).trans ?_
                refine (tz_g_iload_n rfl (tz_in0 rfl)).trans ?_
                refine (tz_g_isub (tz_in0 rfl)).trans ?_
                refine (tz_g_iconst (v := 2) rfl (tz_in0 rfl)).trans ?_
                refine (tz_g_imul (tz_in0 rfl)).trans ?_
                refine (tz_g_goto (t := 112) (by decide) (tz_in0 rfl)).trans ?_
                exact tz_g_ret1 (tz_in0 rfl) rfl
            · skip
              refine (tz_g_iload rfl (tz_in0 rfl)).trans ?_
              refine (tz_g_iload_n rfl (tz_in0 rfl)).trans ?_
              refine (tz_g_isub (tz_in0 rfl)).trans ?_
              refine (tz_g_goto (t := 112) (by decide) (tz_in0 rfl)).trans ?_
              exact tz_g_ret1 (tz_in0 rfl) rfl
          · skip
            refine (tz_g_iload rfl (tz_in0 rfl)).trans ?_
            refine (tz_g_aload_n rfl (tz_in0 rfl)).trans ?_
            refine (tz_g_getr (j := 162) rfl rfl rfl rfl rfl (tz_in0 rfl)).trans ?_
            refine (tz_g_iload_n rfl (tz_in0 rfl)).trans ?_
            refine (tz_g_iald (n := 8) rfl rfl rfl (tz_in0 rfl)).trans ?_
            refine tz_cn1 ?_
            refine (tz_g_iadd (tz_in0 rfl)).trans ?_
            exact tz_g_ret1 (tz_in0 rfl) rfl
      · skip
        refine (tz_g_iload_n rfl (tz_in0 rfl)).trans ?_
        refine (tz_g_iconst (v := 3) rfl (tz_in0 rfl)).trans ?_
        refine (tz_g_ic_ne (t := 52) (by decide) (tz_in0 rfl)).trans ?_
        refine tz_cg ?_ ?_
        · skip
          refine (tz_g_aload_n rfl (tz_in0 rfl)).trans ?_
          refine (tz_g_bipush (v := 10) rfl (tz_in0 rfl)).trans ?_
          refine (tz_g_cv1V (m2 := 242) (rc := 0) rfl rfl rfl rfl rfl rfl (by decide) (tz_in0 rfl)).trans ?_
          refine tz_jV (fun A2 => ?_)
          refine (tz_g_iload_n rfl (tz_in0 rfl)).trans ?_
          refine (tz_g_iload_n rfl (tz_in0 rfl)).trans ?_
          refine (tz_g_iadd (tz_in0 rfl)).trans ?_
          refine (tz_g_istore (L2 := [some (.ref 157), some (.int x1), some (.int x2), some (.int (tz_g A 161 (Int32.toNatClampNeg x1))), some (.int (x2 + x1))]) rfl rfl (tz_in0 rfl)).trans ?_
          refine (tz_g_iload_n rfl (tz_in0 rfl)).trans ?_
          refine (tz_g_iconst (v := 1) rfl (tz_in0 rfl)).trans ?_
          refine (tz_g_ic_eq (t := 73) (by decide) (tz_in0 rfl)).trans ?_
          refine tz_cg ?_ ?_
          · skip
            refine (tz_g_iload rfl (tz_in0 rfl)).trans ?_
            refine (tz_g_aload_n rfl (tz_in0 rfl)).trans ?_
            refine (tz_g_getr (j := 162) rfl rfl rfl rfl rfl (tz_in0 rfl)).trans ?_
            refine (tz_g_iload_n rfl (tz_in0 rfl)).trans ?_
            refine (tz_g_iald (n := 8) rfl rfl rfl (tz_in0 rfl)).trans ?_
            refine tz_cn1 ?_
            refine (tz_g_iadd (tz_in0 rfl)).trans ?_
            exact tz_g_ret1 (tz_in0 rfl) rfl
          · skip
            refine (tz_g_iload_n rfl (tz_in0 rfl)).trans ?_
            refine (tz_g_iconst (v := 3) rfl (tz_in0 rfl)).trans ?_
            refine (tz_g_ic_ne (t := 83) (by decide) (tz_in0 rfl)).trans ?_
            refine tz_cg ?_ ?_
            · skip
              refine (tz_g_iload_n rfl (tz_in0 rfl)).trans ?_
              refine (tz_g_iconst (v := 4) rfl (tz_in0 rfl)).trans ?_
              refine (tz_g_ic_ne (t := 95) (by decide) (tz_in0 rfl)).trans ?_
              refine tz_cg ?_ ?_
              · skip
                refine (tz_g_iload_n rfl (tz_in0 rfl)).trans ?_
                refine (tz_g_bipush (v := 6) rfl (tz_in0 rfl)).trans ?_
                refine (tz_g_ic_ne (t := 110) (by decide) (tz_in0 rfl)).trans ?_
                refine tz_cg ?_ ?_
                · skip
                  refine (tz_g_iload rfl (tz_in0 rfl)).trans ?_
                  exact tz_g_ret1 (tz_in0 rfl) rfl
                · skip
                  refine (tz_g_iload rfl (tz_in0 rfl)).trans ?_
                  refine (tz_g_iload_n rfl (tz_in0 rfl)).trans ?_
                  refine (tz_g_isub (tz_in0 rfl)).trans ?_
                  refine (tz_g_iconst (v := 2) rfl (tz_in0 rfl)).trans ?_
                  refine (tz_g_imul (tz_in0 rfl)).trans ?_
                  refine (tz_g_goto (t := 112) (by decide) (tz_in0 rfl)).trans ?_
                  exact tz_g_ret1 (tz_in0 rfl) rfl
              · skip
                refine (tz_g_iload rfl (tz_in0 rfl)).trans ?_
                refine (tz_g_iload_n rfl (tz_in0 rfl)).trans ?_
                refine (tz_g_isub (tz_in0 rfl)).trans ?_
                refine (tz_g_goto (t := 112) (by decide) (tz_in0 rfl)).trans ?_
                exact tz_g_ret1 (tz_in0 rfl) rfl
            · skip
              refine (tz_g_iload rfl (tz_in0 rfl)).trans ?_
              refine (tz_g_aload_n rfl (tz_in0 rfl)).trans ?_
              refine (tz_g_getr (j := 162) rfl rfl rfl rfl rfl (tz_in0 rfl)).trans ?_
              refine (tz_g_iload_n rfl (tz_in0 rfl)).trans ?_
              refine (tz_g_iald (n := 8) rfl rfl rfl (tz_in0 rfl)).trans ?_
              refine tz_cn1 ?_
              refine (tz_g_iadd (tz_in0 rfl)).trans ?_
              exact tz_g_ret1 (tz_in0 rfl) rfl
        · skip
          refine (tz_g_aload_n rfl (tz_in0 rfl)).trans ?_
          refine (tz_g_bipush (v := 20) rfl (tz_in0 rfl)).trans ?_
          refine (tz_g_cv1V (m2 := 242) (rc := 0) rfl rfl rfl rfl rfl rfl (by decide) (tz_in0 rfl)).trans ?_
          refine tz_jV (fun A2 => ?_)
          refine (tz_g_aload_n rfl (tz_in0 rfl)).trans ?_
          refine (tz_g_bipush (v := 10) rfl (tz_in0 rfl)).trans ?_
          refine (tz_g_cv1V (m2 := 242) (rc := 0) rfl rfl rfl rfl rfl rfl (by decide) (tz_in0 rfl)).trans ?_
          refine tz_jV (fun A3 => ?_)
          refine (tz_g_iload_n rfl (tz_in0 rfl)).trans ?_
          refine (tz_g_iload_n rfl (tz_in0 rfl)).trans ?_
          refine (tz_g_iadd (tz_in0 rfl)).trans ?_
          refine (tz_g_istore (L2 := [some (.ref 157), some (.int x1), some (.int x2), some (.int (tz_g A 161 (Int32.toNatClampNeg x1))), some (.int (x2 + x1))]) rfl rfl (tz_in0 rfl)).trans ?_
          refine (tz_g_iload_n rfl (tz_in0 rfl)).trans ?_
          refine (tz_g_iconst (v := 1) rfl (tz_in0 rfl)).trans ?_
          refine (tz_g_ic_eq (t := 73) (by decide) (tz_in0 rfl)).trans ?_
          refine tz_cg ?_ ?_
          · skip
            refine (tz_g_iload rfl (tz_in0 rfl)).trans ?_
            refine (tz_g_aload_n rfl (tz_in0 rfl)).trans ?_
            refine (tz_g_getr (j := 162) rfl rfl rfl rfl rfl (tz_in0 rfl)).trans ?_
            refine (tz_g_iload_n rfl (tz_in0 rfl)).trans ?_
            refine (tz_g_iald (n := 8) rfl rfl rfl (tz_in0 rfl)).trans ?_
            refine tz_cn1 ?_
            refine (tz_g_iadd (tz_in0 rfl)).trans ?_
            exact tz_g_ret1 (tz_in0 rfl) rfl
          · skip
            refine (tz_g_iload_n rfl (tz_in0 rfl)).trans ?_
            refine (tz_g_iconst (v := 3) rfl (tz_in0 rfl)).trans ?_
            refine (tz_g_ic_ne (t := 83) (by decide) (tz_in0 rfl)).trans ?_
            refine tz_cg ?_ ?_
            · skip
              refine (tz_g_iload_n rfl (tz_in0 rfl)).trans ?_
              refine (tz_g_iconst (v := 4) rfl (tz_in0 rfl)).trans ?_
              refine (tz_g_ic_ne (t := 95) (by decide) (tz_in0 rfl)).trans ?_
              refine tz_cg ?_ ?_
              · skip
                refine (tz_g_iload_n rfl (tz_in0 rfl)).trans ?_
                refine (tz_g_bipush (v := 6) rfl (tz_in0 rfl)).trans ?_
                refine (tz_g_ic_ne (t := 110) (by decide) (tz_in0 rfl)).trans ?_
                refine tz_cg ?_ ?_
                · skip
                  refine (tz_g_iload rfl (tz_in0 rfl)).trans ?_
                  exact tz_g_ret1 (tz_in0 rfl) rfl
                · skip
                  refine (tz_g_iload rfl (tz_in0 rfl)).trans ?_
                  refine (tz_g_iload_n rfl (tz_in0 rfl)).trans ?_
                  refine (tz_g_isub (tz_in0 rfl)).trans ?_
                  refine (tz_g_iconst (v := 2) rfl (tz_in0 rfl)).trans ?_
                  refine (tz_g_imul (tz_in0 rfl)).trans ?_
                  refine (tz_g_goto (t := 112) (by decide) (tz_in0 rfl)).trans ?_
                  exact tz_g_ret1 (tz_in0 rfl) rfl
              · skip
                refine (tz_g_iload rfl (tz_in0 rfl)).trans ?_
                refine (tz_g_iload_n rfl (tz_in0 rfl)).trans ?_
                refine (tz_g_isub (tz_in0 rfl)).trans ?_
                refine (tz_g_goto (t := 112) (by decide) (tz_in0 rfl)).trans ?_
                exact tz_g_ret1 (tz_in0 rfl) rfl
            · skip
              refine (tz_g_iload rfl (tz_in0 rfl)).trans ?_
              refine (tz_g_aload_n rfl (tz_in0 rfl)).trans ?_
              refine (tz_g_getr (j := 162) rfl rfl rfl rfl rfl (tz_in0 rfl)).trans ?_
              refine (tz_g_iload_n rfl (tz_in0 rfl)).trans ?_
              refine (tz_g_iald (n := 8) rfl rfl rfl (tz_in0 rfl)).trans ?_
              refine tz_cn1 ?_
              refine (tz_g_iadd (tz_in0 rfl)).trans ?_
              exact tz_g_ret1 (tz_in0 rfl) rfl
    · skip
      refine (tz_g_iload_n rfl (tz_in0 rfl)).trans ?_
      refine (tz_g_bipush (v := 6) rfl (tz_in0 rfl)).trans ?_
      refine (tz_g_ic_ne (t := 36) (by decide) (tz_in0 rfl)).trans ?_
      refine tz_cg ?_ ?_
      · skip
        refine (tz_g_iload_n rfl (tz_in0 rfl)).trans ?_
        refine (tz_g_iconst (v := 1) rfl (tz_in0 rfl)).trans ?_
        refine (tz_g_ic_eq (t := 46) (by decide) (tz_in0 rfl)).trans ?_
        refine tz_cg ?_ ?_
        · skip
          refine (tz_g_aload_n rfl (tz_in0 rfl)).trans ?_
          refine (tz_g_bipush (v := 20) rfl (tz_in0 rfl)).trans ?_
          refine (tz_g_cv1V (m2 := 242) (rc := 0) rfl rfl rfl rfl rfl rfl (by decide) (tz_in0 rfl)).trans ?_
          refine tz_jV (fun A1 => ?_)
          refine (tz_g_aload_n rfl (tz_in0 rfl)).trans ?_
          refine (tz_g_bipush (v := 10) rfl (tz_in0 rfl)).trans ?_
          refine (tz_g_cv1V (m2 := 242) (rc := 0) rfl rfl rfl rfl rfl rfl (by decide) (tz_in0 rfl)).trans ?_
          refine tz_jV (fun A2 => ?_)
          refine (tz_g_iload_n rfl (tz_in0 rfl)).trans ?_
          refine (tz_g_iload_n rfl (tz_in0 rfl)).trans ?_
          refine (tz_g_iadd (tz_in0 rfl)).trans ?_
          refine (tz_g_istore (L2 := [some (.ref 157), some (.int x1), some (.int x2), some (.int (tz_g A 161 (Int32.toNatClampNeg x1))), some (.int (x2 + x1))]) rfl rfl (tz_in0 rfl)).trans ?_
          refine (tz_g_iload_n rfl (tz_in0 rfl)).trans ?_
          refine (tz_g_iconst (v := 1) rfl (tz_in0 rfl)).trans ?_
          refine (tz_g_ic_eq (t := 73) (by decide) (tz_in0 rfl)).trans ?_
          refine tz_cg ?_ ?_
          · skip
            refine (tz_g_iload rfl (tz_in0 rfl)).trans ?_
            refine (tz_g_aload_n rfl (tz_in0 rfl)).trans ?_
            refine (tz_g_getr (j := 162) rfl rfl rfl rfl rfl (tz_in0 rfl)).trans ?_
            refine (tz_g_iload_n rfl (tz_in0 rfl)).trans ?_
            refine (tz_g_iald (n := 8) rfl rfl rfl (tz_in0 rfl)).trans ?_
            refine tz_cn1 ?_
            refine (tz_g_iadd (tz_in0 rfl)).trans ?_
            exact tz_g_ret1 (tz_in0 rfl) rfl
          · skip
            refine (tz_g_iload_n rfl (tz_in0 rfl)).trans ?_
            refine (tz_g_iconst (v := 3) rfl (tz_in0 rfl)).trans ?_
            refine (tz_g_ic_ne (t := 83) (by decide) (tz_in0 rfl)).trans ?_
            refine tz_cg ?_ ?_
            · skip
              refine (tz_g_iload_n rfl (tz_in0 rfl)).trans ?_
              refine (tz_g_iconst (v := 4) rfl (tz_in0 rfl)).trans ?_
              refine (tz_g_ic_ne (t := 95) (by decide) (tz_in0 rfl)).trans ?_
              refine tz_cg ?_ ?_
              · skip
                refine (tz_g_iload_n rfl (tz_in0 rfl)).trans ?_
                refine (tz_g_bipush (v := 6) rfl (tz_in0 rfl)).trans ?_
                refine (tz_g_ic_ne (t := 110) (by decide) (tz_in0 rfl)).trans ?_
                refine tz_cg ?_ ?_
                · skip
                  refine (tz_g_iload rfl (tz_in0 rfl)).trans ?_
                  exact tz_g_ret1 (tz_in0 rfl) rfl
                · skip
                  refine (tz_g_iload rfl (tz_in0 rfl)).trans ?_
                  refine (tz_g_iload_n rfl (tz_in0 rfl)).trans ?_
                  refine (tz_g_isub (tz_in0 rfl)).trans ?_
                  refine (tz_g_iconst (v := 2) rfl (tz_in0 rfl)).trans ?_
                  refine (tz_g_imul (tz_in0 rfl)).trans ?_
                  refine (tz_g_goto (t := 112) (by decide) (tz_in0 rfl)).trans ?_
                  exact tz_g_ret1 (tz_in0 rfl) rfl
              · skip
                refine (tz_g_iload rfl (tz_in0 rfl)).trans ?_
                refine (tz_g_iload_n rfl (tz_in0 rfl)).trans ?_
                refine (tz_g_isub (tz_in0 rfl)).trans ?_
                refine (tz_g_goto (t := 112) (by decide) (tz_in0 rfl)).trans ?_
                exact tz_g_ret1 (tz_in0 rfl) rfl
            · skip
              refine (tz_g_iload rfl (tz_in0 rfl)).trans ?_
              refine (tz_g_aload_n rfl (tz_in0 rfl)).trans ?_
              refine (tz_g_getr (j := 162) rfl rfl rfl rfl rfl (tz_in0 rfl)).trans ?_
              refine (tz_g_iload_n rfl (tz_in0 rfl)).trans ?_
              refine (tz_g_iald (n := 8) rfl rfl rfl (tz_in0 rfl)).trans ?_
              refine tz_cn1 ?_
              refine (tz_g_iadd (tz_in0 rfl)).trans ?_
              exact tz_g_ret1 (tz_in0 rfl) rfl
        · skip
          refine (tz_g_iload_n rfl (tz_in0 rfl)).trans ?_
          refine (tz_g_iconst (v := 3) rfl (tz_in0 rfl)).trans ?_
          refine (tz_g_ic_ne (t := 52) (by decide) (tz_in0 rfl)).trans ?_
          refine tz_cg ?_ ?_
          · skip
            refine (tz_g_aload_n rfl (tz_in0 rfl)).trans ?_
            refine (tz_g_bipush (v := 10) rfl (tz_in0 rfl)).trans ?_
            refine (tz_g_cv1V (m2 := 242) (rc := 0) rfl rfl rfl rfl rfl rfl (by decide) (tz_in0 rfl)).trans ?_
            refine tz_jV (fun A1 => ?_)
            refine (tz_g_iload_n rfl (tz_in0 rfl)).trans ?_
            refine (tz_g_iload_n rfl (tz_in0 rfl)).trans ?_
            refine (tz_g_iadd (tz_in0 rfl)).trans ?_
            refine (tz_g_istore (L2 := [some (.ref 157), some (.int x1), some (.int x2), some (.int (tz_g A 161 (Int32.toNatClampNeg x1))), some (.int (x2 + x1))]) rfl rfl (tz_in0 rfl)).trans ?_
            refine (tz_g_iload_n rfl (tz_in0 rfl)).trans ?_
            refine (tz_g_iconst (v := 1) rfl (tz_in0 rfl)).trans ?_
            refine (tz_g_ic_eq (t := 73) (by decide) (tz_in0 rfl)).trans ?_
            refine tz_cg ?_ ?_
            · skip
              refine (tz_g_iload rfl (tz_in0 rfl)).trans ?_
              refine (tz_g_aload_n rfl (tz_in0 rfl)).trans ?_
              refine (tz_g_getr (j := 162) rfl rfl rfl rfl rfl (tz_in0 rfl)).trans ?_
              refine (tz_g_iload_n rfl (tz_in0 rfl)).trans ?_
              refine (tz_g_iald (n := 8) rfl rfl rfl (tz_in0 rfl)).trans ?_
              refine tz_cn1 ?_
              refine (tz_g_iadd (tz_in0 rfl)).trans ?_
              exact tz_g_ret1 (tz_in0 rfl) rfl
            · skip
              refine (tz_g_iload_n rfl (tz_in0 rfl)).trans ?_
              refine (tz_g_iconst (v := 3) rfl (tz_in0 rfl)).trans ?_
              refine (tz_g_ic_ne (t := 83) (by decide) (tz_in0 rfl)).trans ?_
              refine tz_cg ?_ ?_
              · skip
                refine (tz_g_iload_n rfl (tz_in0 rfl)).trans ?_
                refine (tz_g_iconst (v := 4) rfl (tz_in0 rfl)).trans ?_
                refine (tz_g_ic_ne (t := 95) (by decide) (tz_in0 rfl)).trans ?_
                refine tz_cg ?_ ?_
                · skip
                  refine (tz_g_iload_n rfl (tz_in0 rfl)).trans ?_
                  refine (tz_g_bipush (v := 6) rfl (tz_in0 rfl)).trans ?_
                  refine (tz_g_ic_ne (t := 110) (by decide) (tz_in0 rfl)).trans ?_
                  refine tz_cg ?_ ?_
                  · skip
                    refine (tz_g_iload rfl (tz_in0 rfl)).trans ?_
                    exact tz_g_ret1 (tz_in0 rfl) rfl
                  · skip
                    refine (tz_g_iload rfl (tz_in0 rfl)).trans ?_
                    refine (tz_g_iload_n rfl (tz_in0 rfl)).trans ?_
                    refine (tz_g_isub (tz_in0 rfl)).trans ?_
                    refine (tz_g_iconst (v := 2) rfl (tz_in0 rfl)).trans ?_
                    refine (tz_g_imul (tz_in0 rfl)).trans ?_
                    refine (tz_g_goto (t := 112) (by decide) (tz_in0 rfl)).trans ?_
                    exact tz_g_ret1 (tz_in0 rfl) rfl
                · skip
                  refine (tz_g_iload rfl (tz_in0 rfl)).trans ?_
                  refine (tz_g_iload_n rfl (tz_in0 rfl)).trans ?_
                  refine (tz_g_isub (tz_in0 rfl)).trans ?_
                  refine (tz_g_goto (t := 112) (by decide) (tz_in0 rfl)).trans ?_
                  exact tz_g_ret1 (tz_in0 rfl) rfl
              · skip
                refine (tz_g_iload rfl (tz_in0 rfl)).trans ?_
                refine (tz_g_aload_n rfl (tz_in0 rfl)).trans ?_
                refine (tz_g_getr (j := 162) rfl rfl rfl rfl rfl (tz_in0 rfl)).trans ?_
                refine (tz_g_iload_n rfl (tz_in0 rfl)).trans ?_
                refine (tz_g_iald (n := 8) rfl rfl rfl (tz_in0 rfl)).trans ?_
                refine tz_cn1 ?_
                refine (tz_g_iadd (tz_in0 rfl)).trans ?_
                exact tz_g_ret1 (tz_in0 rfl) rfl
          · skip
            refine (tz_g_aload_n rfl (tz_in0 rfl)).trans ?_
            refine (tz_g_bipush (v := 20) rfl (tz_in0 rfl)).trans ?_
            refine (tz_g_cv1V (m2 := 242) (rc := 0) rfl rfl rfl rfl rfl rfl (by decide) (tz_in0 rfl)).trans ?_
            refine tz_jV (fun A1 => ?_)
            refine (tz_g_aload_n rfl (tz_in0 rfl)).trans ?_
            refine (tz_g_bipush (v := 10) rfl (tz_in0 rfl)).trans ?_
            refine (tz_g_cv1V (m2 := 242) (rc := 0) rfl rfl rfl rfl rfl rfl (by decide) (tz_in0 rfl)).trans ?_
            refine tz_jV (fun A2 => ?_)
            refine (tz_g_iload_n rfl (tz_in0 rfl)).trans ?_
            refine (tz_g_iload_n rfl (tz_in0 rfl)).trans ?_
            refine (tz_g_iadd (tz_in0 rfl)).trans ?_
            refine (tz_g_istore (L2 := [some (.ref 157), some (.int x1), some (.int x2), some (.int (tz_g A 161 (Int32.toNatClampNeg x1))), some (.int (x2 + x1))]) rfl rfl (tz_in0 rfl)).trans ?_
            refine (tz_g_iload_n rfl (tz_in0 rfl)).trans ?_
            refine (tz_g_iconst (v := 1) rfl (tz_in0 rfl)).trans ?_
            refine (tz_g_ic_eq (t := 73) (by decide) (tz_in0 rfl)).trans ?_
            refine tz_cg ?_ ?_
            · skip
              refine (tz_g_iload rfl (tz_in0 rfl)).trans ?_
              refine (tz_g_aload_n rfl (tz_in0 rfl)).trans ?_
              refine (tz_g_getr (j := 162) rfl rfl rfl rfl rfl (tz_in0 rfl)).trans ?_
              refine (tz_g_iload_n rfl (tz_in0 rfl)).trans ?_
              refine (tz_g_iald (n := 8) rfl rfl rfl (tz_in0 rfl)).trans ?_
              refine tz_cn1 ?_
              refine (tz_g_iadd (tz_in0 rfl)).trans ?_
              exact tz_g_ret1 (tz_in0 rfl) rfl
            · skip
              refine (tz_g_iload_n rfl (tz_in0 rfl)).trans ?_
              refine (tz_g_iconst (v := 3) rfl (tz_in0 rfl)).trans ?_
              refine (tz_g_ic_ne (t := 83) (by decide) (tz_in0 rfl)).trans ?_
              refine tz_cg ?_ ?_
              · skip
                refine (tz_g_iload_n rfl (tz_in0 rfl)).trans ?_
                refine (tz_g_iconst (v := 4) rfl (tz_in0 rfl)).trans ?_
                refine (tz_g_ic_ne (t := 95) (by decide) (tz_in0 rfl)).trans ?_
                refine tz_cg ?_ ?_
                · skip
                  refine (tz_g_iload_n rfl (tz_in0 rfl)).trans ?_
                  refine (tz_g_bipush (v := 6) rfl (tz_in0 rfl)).trans ?_
                  refine (tz_g_ic_ne (t := 110) (by decide) (tz_in0 rfl)).trans ?_
                  refine tz_cg ?_ ?_
                  · skip
                    refine (tz_g_iload rfl (tz_in0 rfl)).trans ?_
                    exact tz_g_ret1 (tz_in0 rfl) rfl
                  · skip
                    refine (tz_g_iload rfl (tz_in0 rfl)).trans ?_
                    refine (tz_g_iload_n rfl (tz_in0 rfl)).trans ?_
                    refine (tz_g_isub (tz_in0 rfl)).trans ?_
                    refine (tz_g_iconst (v := 2) rfl (tz_in0 rfl)).trans ?_
                    refine (tz_g_imul (tz_in0 rfl)).trans ?_
                    refine (tz_g_goto (t := 112) (by decide) (tz_in0 rfl)).trans ?_
                    exact tz_g_ret1 (tz_in0 rfl) rfl
                · skip
                  refine (tz_g_iload rfl (tz_in0 rfl)).trans ?_
                  refine (tz_g_iload_n rfl (tz_in0 rfl)).trans ?_
                  refine (tz_g_isub (tz_in0 rfl)).trans ?_
                  refine (tz_g_goto (t := 112) (by decide) (tz_in0 rfl)).trans ?_
                  exact tz_g_ret1 (tz_in0 rfl) rfl
              · skip
                refine (tz_g_iload rfl (tz_in0 rfl)).trans ?_
                refine (tz_g_aload_n rfl (tz_in0 rfl)).trans ?_
                refine (tz_g_getr (j := 162) rfl rfl rfl rfl rfl (tz_in0 rfl)).trans ?_
                refine (tz_g_iload_n rfl (tz_in0 rfl)).trans ?_
                refine (tz_g_iald (n := 8) rfl rfl rfl (tz_in0 rfl)).trans ?_
                refine tz_cn1 ?_
                refine (tz_g_iadd (tz_in0 rfl)).trans ?_
                exact tz_g_ret1 (tz_in0 rfl) rfl
      · skip
        refine (tz_g_aload_n rfl (tz_in0 rfl)).trans ?_
        refine (tz_g_bipush (v := 51) rfl (tz_in0 rfl)).trans ?_
        refine (tz_g_cv1V (m2 := 242) (rc := 0) rfl rfl rfl rfl rfl rfl (by decide) (tz_in0 rfl)).trans ?_
        refine tz_jV (fun A1 => ?_)
        refine (tz_g_iload_n rfl (tz_in0 rfl)).trans ?_
        refine (tz_g_iconst (v := 1) rfl (tz_in0 rfl)).trans ?_
        refine (tz_g_ic_eq (t := 46) (by decide) (tz_in0 rfl)).trans ?_
        refine tz_cg ?_ ?_
        · skip
          refine (tz_g_aload_n rfl (tz_in0 rfl)).trans ?_
          refine (tz_g_bipush (v := 20) rfl (tz_in0 rfl)).trans ?_
          refine (tz_g_cv1V (m2 := 242) (rc := 0) rfl rfl rfl rfl rfl rfl (by decide) (tz_in0 rfl)).trans ?_
          refine tz_jV (fun A2 => ?_)
          refine (tz_g_aload_n rfl (tz_in0 rfl)).trans ?_
          refine (tz_g_bipush (v := 10) rfl (tz_in0 rfl)).trans ?_
          refine (tz_g_cv1V (m2 := 242) (rc := 0) rfl rfl rfl rfl rfl rfl (by decide) (tz_in0 rfl)).trans ?_
          refine tz_jV (fun A3 => ?_)
          refine (tz_g_iload_n rfl (tz_in0 rfl)).trans ?_
          refine (tz_g_iload_n rfl (tz_in0 rfl)).trans ?_
          refine (tz_g_iadd (tz_in0 rfl)).trans ?_
          refine (tz_g_istore (L2 := [some (.ref 157), some (.int x1), some (.int x2), some (.int (tz_g A 161 (Int32.toNatClampNeg x1))), some (.int (x2 + x1))]) rfl rfl (tz_in0 rfl)).trans ?_
          refine (tz_g_iload_n rfl (tz_in0 rfl)).trans ?_
          refine (tz_g_iconst (v := 1) rfl (tz_in0 rfl)).trans ?_
          refine (tz_g_ic_eq (t := 73) (by decide) (tz_in0 rfl)).trans ?_
          refine tz_cg ?_ ?_
          · skip
            refine (tz_g_iload rfl (tz_in0 rfl)).trans ?_
            refine (tz_g_aload_n rfl (tz_in0 rfl)).trans ?_
            refine (tz_g_getr (j := 162) rfl rfl rfl rfl rfl (tz_in0 rfl)).trans ?_
            refine (tz_g_iload_n rfl (tz_in0 rfl)).trans ?_
            refine (tz_g_iald (n := 8) rfl rfl rfl (tz_in0 rfl)).trans ?_
            refine tz_cn1 ?_
            refine (tz_g_iadd (tz_in0 rfl)).trans ?_
            exact tz_g_ret1 (tz_in0 rfl) rfl
          · skip
            refine (tz_g_iload_n rfl (tz_in0 rfl)).trans ?_
            refine (tz_g_iconst (v := 3) rfl (tz_in0 rfl)).trans ?_
            refine (tz_g_ic_ne (t := 83) (by decide) (tz_in0 rfl)).trans ?_
            refine tz_cg ?_ ?_
            · skip
              refine (tz_g_iload_n rfl (tz_in0 rfl)).trans ?_
              refine (tz_g_iconst (v := 4) rfl (tz_in0 rfl)).trans ?_
              refine (tz_g_ic_ne (t := 95) (by decide) (tz_in0 rfl)).trans ?_
              refine tz_cg ?_ ?_
              · skip
                refine (tz_g_iload_n rfl (tz_in0 rfl)).trans ?_
                refine (tz_g_bipush (v := 6) rfl (tz_in0 rfl)).trans ?_
                refine (tz_g_ic_ne (t := 110) (by decide) (tz_in0 rfl)).trans ?_
                refine tz_cg ?_ ?_
                · skip
                  refine (tz_g_iload rfl (tz_in0 rfl)).trans ?_
                  exact tz_g_ret1 (tz_in0 rfl) rfl
                · skip
                  refine (tz_g_iload rfl (tz_in0 rfl)).trans ?_
                  refine (tz_g_iload_n rfl (tz_in0 rfl)).trans ?_
                  refine (tz_g_isub (tz_in0 rfl)).trans ?_
                  refine (tz_g_iconst (v := 2) rfl (tz_in0 rfl)).trans ?_
                  refine (tz_g_imul (tz_in0 rfl)).trans ?_
                  refine (tz_g_goto (t := 112) (by decide) (tz_in0 rfl)).trans ?_
                  exact tz_g_ret1 (tz_in0 rfl) rfl
              · skip
                refine (tz_g_iload rfl (tz_in0 rfl)).trans ?_
                refine (tz_g_iload_n rfl (tz_in0 rfl)).trans ?_
                refine (tz_g_isub (tz_in0 rfl)).trans ?_
                refine (tz_g_goto (t := 112) (by decide) (tz_in0 rfl)).trans ?_
                exact tz_g_ret1 (tz_in0 rfl) rfl
            · skip
              refine (tz_g_iload rfl (tz_in0 rfl)).trans ?_
              refine (tz_g_aload_n rfl (tz_in0 rfl)).trans ?_
              refine (tz_g_getr (j := 162) rfl rfl rfl rfl rfl (tz_in0 rfl)).trans ?_
              refine (tz_g_iload_n rfl (tz_in0 rfl)).trans ?_
              refine (tz_g_iald (n := 8) rfl rfl rfl (tz_in0 rfl)).trans ?_
              refine tz_cn1 ?_
              refine (tz_g_iadd (tz_in0 rfl)).trans ?_
              exact tz_g_ret1 (tz_in0 rfl) rfl
        · skip
          refine (tz_g_iload_n rfl (tz_in0 rfl)).trans ?_
          refine (tz_g_iconst (v := 3) rfl (tz_in0 rfl)).trans ?_
          refine (tz_g_ic_ne (t := 52) (by decide) (tz_in0 rfl)).trans ?_
          refine tz_cg ?_ ?_
          · skip
            refine (tz_g_aload_n rfl (tz_in0 rfl)).trans ?_
            refine (tz_g_bipush (v := 10) rfl (tz_in0 rfl)).trans ?_
            refine (tz_g_cv1V (m2 := 242) (rc := 0) rfl rfl rfl rfl rfl rfl (by decide) (tz_in0 rfl)).trans ?_
            refine tz_jV (fun A2 => ?_)
            refine (tz_g_iload_n rfl (tz_in0 rfl)).trans ?_
            refine (tz_g_iload_n rfl (tz_in0 rfl)).trans ?_
            refine (tz_g_iadd (tz_in0 rfl)).trans ?_
            refine (tz_g_istore (L2 := [some (.ref 157), some (.int x1), some (.int x2), some (.int (tz_g A 161 (Int32.toNatClampNeg x1))), some (.int (x2 + x1))]) rfl rfl (tz_in0 rfl)).trans ?_
            refine (tz_g_iload_n rfl (tz_in0 rfl)).trans ?_
            refine (tz_g_iconst (v := 1) rfl (tz_in0 rfl)).trans ?_
            refine (tz_g_ic_eq (t := 73) (by decide) (tz_in0 rfl)).trans ?_
            refine tz_cg ?_ ?_
            · skip
              refine (tz_g_iload rfl (tz_in0 rfl)).trans ?_
              refine (tz_g_aload_n rfl (tz_in0 rfl)).trans ?_
              refine (tz_g_getr (j := 162) rfl rfl rfl rfl rfl (tz_in0 rfl)).trans ?_
              refine (tz_g_iload_n rfl (tz_in0 rfl)).trans ?_
              refine (tz_g_iald (n := 8) rfl rfl rfl (tz_in0 rfl)).trans ?_
              refine tz_cn1 ?_
              refine (tz_g_iadd (tz_in0 rfl)).trans ?_
              exact tz_g_ret1 (tz_in0 rfl) rfl
            · skip
              refine (tz_g_iload_n rfl (tz_in0 rfl)).trans ?_
              refine (tz_g_iconst (v := 3) rfl (tz_in0 rfl)).trans ?_
              refine (tz_g_ic_ne (t := 83) (by decide) (tz_in0 rfl)).trans ?_
              refine tz_cg ?_ ?_
              · skip
                refine (tz_g_iload_n rfl (tz_in0 rfl)).trans ?_
                refine (tz_g_iconst (v := 4) rfl (tz_in0 rfl)).trans ?_
                refine (tz_g_ic_ne (t := 95) (by decide) (tz_in0 rfl)).trans ?_
                refine tz_cg ?_ ?_
                · skip
                  refine (tz_g_iload_n rfl (tz_in0 rfl)).trans ?_
                  refine (tz_g_bipush (v := 6) rfl (tz_in0 rfl)).trans ?_
                  refine (tz_g_ic_ne (t := 110) (by decide) (tz_in0 rfl)).trans ?_
                  refine tz_cg ?_ ?_
                  · skip
                    refine (tz_g_iload rfl (tz_in0 rfl)).trans ?_
                    exact tz_g_ret1 (tz_in0 rfl) rfl
                  · skip
                    refine (tz_g_iload rfl (tz_in0 rfl)).trans ?_
                    refine (tz_g_iload_n rfl (tz_in0 rfl)).trans ?_
                    refine (tz_g_isub (tz_in0 rfl)).trans ?_
                    refine (tz_g_iconst (v := 2) rfl (tz_in0 rfl)).trans ?_
                    refine (tz_g_imul (tz_in0 rfl)).trans ?_
                    refine (tz_g_goto (t := 112) (by decide) (tz_in0 rfl)).trans ?_
                    exact tz_g_ret1 (tz_in0 rfl) rfl
                · skip
                  refine (tz_g_iload rfl (tz_in0 rfl)).trans ?_
                  refine (tz_g_iload_n rfl (tz_in0 rfl)).trans ?_
                  refine (tz_g_isub (tz_in0 rfl)).trans ?_
                  refine (tz_g_goto (t := 112) (by decide) (tz_in0 rfl)).trans ?_
                  exact tz_g_ret1 (tz_in0 rfl) rfl
              · skip
                refine (tz_g_iload rfl (tz_in0 rfl)).trans ?_
                refine (tz_g_aload_n rfl (tz_in0 rfl)).trans ?_
                refine (tz_g_getr (j := 162) rfl rfl rfl rfl rfl (tz_in0 rfl)).trans ?_
                refine (tz_g_iload_n rfl (tz_in0 rfl)).trans ?_
                refine (tz_g_iald (n := 8) rfl rfl rfl (tz_in0 rfl)).trans ?_
                refine tz_cn1 ?_
                refine (tz_g_iadd (tz_in0 rfl)).trans ?_
                exact tz_g_ret1 (tz_in0 rfl) rfl
          · skip
            refine (tz_g_aload_n rfl (tz_in0 rfl)).trans ?_
            refine (tz_g_bipush (v := 20) rfl (tz_in0 rfl)).trans ?_
            refine (tz_g_cv1V (m2 := 242) (rc := 0) rfl rfl rfl rfl rfl rfl (by decide) (tz_in0 rfl)).trans ?_
            refine tz_jV (fun A2 => ?_)
            refine (tz_g_aload_n rfl (tz_in0 rfl)).trans ?_
            refine (tz_g_bipush (v := 10) rfl (tz_in0 rfl)).trans ?_
            refine (tz_g_cv1V (m2 := 242) (rc := 0) rfl rfl rfl rfl rfl rfl (by decide) (tz_in0 rfl)).trans ?_
            refine tz_jV (fun A3 => ?_)
            refine (tz_g_iload_n rfl (tz_in0 rfl)).trans ?_
            refine (tz_g_iload_n rfl (tz_in0 rfl)).trans ?_
            refine (tz_g_iadd (tz_in0 rfl)).trans ?_
            refine (tz_g_istore (L2 := [some (.ref 157), some (.int x1), some (.int x2), some (.int (tz_g A 161 (Int32.toNatClampNeg x1))), some (.int (x2 + x1))]) rfl rfl (tz_in0 rfl)).trans ?_
            refine (tz_g_iload_n rfl (tz_in0 rfl)).trans ?_
            refine (tz_g_iconst (v := 1) rfl (tz_in0 rfl)).trans ?_
            refine (tz_g_ic_eq (t := 73) (by decide) (tz_in0 rfl)).trans ?_
            refine tz_cg ?_ ?_
            · skip
              refine (tz_g_iload rfl (tz_in0 rfl)).trans ?_
              refine (tz_g_aload_n rfl (tz_in0 rfl)).trans ?_
              refine (tz_g_getr (j := 162) rfl rfl rfl rfl rfl (tz_in0 rfl)).trans ?_
              refine (tz_g_iload_n rfl (tz_in0 rfl)).trans ?_
              refine (tz_g_iald (n := 8) rfl rfl rfl (tz_in0 rfl)).trans ?_
              refine tz_cn1 ?_
              refine (tz_g_iadd (tz_in0 rfl)).trans ?_
              exact tz_g_ret1 (tz_in0 rfl) rfl
            · skip
              refine (tz_g_iload_n rfl (tz_in0 rfl)).trans ?_
              refine (tz_g_iconst (v := 3) rfl (tz_in0 rfl)).trans ?_
              refine (tz_g_ic_ne (t := 83) (by decide) (tz_in0 rfl)).trans ?_
              refine tz_cg ?_ ?_
              · skip
                refine (tz_g_iload_n rfl (tz_in0 rfl)).trans ?_
                refine (tz_g_iconst (v := 4) rfl (tz_in0 rfl)).trans ?_
                refine (tz_g_ic_ne (t := 95) (by decide) (tz_in0 rfl)).trans ?_
                refine tz_cg ?_ ?_
                · skip
                  refine (tz_g_iload_n rfl (tz_in0 rfl)).trans ?_
                  refine (tz_g_bipush (v := 6) rfl (tz_in0 rfl)).trans ?_
                  refine (tz_g_ic_ne (t := 110) (by decide) (tz_in0 rfl)).trans ?_
                  refine tz_cg ?_ ?_
                  · skip
                    refine (tz_g_iload rfl (tz_in0 rfl)).trans ?_
                    exact tz_g_ret1 (tz_in0 rfl) rfl
                  · skip
                    refine (tz_g_iload rfl (tz_in0 rfl)).trans ?_
                    refine (tz_g_iload_n rfl (tz_in0 rfl)).trans ?_
                    refine (tz_g_isub (tz_in0 rfl)).trans ?_
                    refine (tz_g_iconst (v := 2) rfl (tz_in0 rfl)).trans ?_
                    refine (tz_g_imul (tz_in0 rfl)).trans ?_
                    refine (tz_g_goto (t := 112) (by decide) (tz_in0 rfl)).trans ?_
                    exact tz_g_ret1 (tz_in0 rfl) rfl
                · skip
                  refine (tz_g_iload rfl (tz_in0 rfl)).trans ?_
                  refine (tz_g_iload_n rfl (tz_in0 rfl)).trans ?_
                  refine (tz_g_isub (tz_in0 rfl)).trans ?_
                  refine (tz_g_goto (t := 112) (by decide) (tz_in0 rfl)).trans ?_
                  exact tz_g_ret1 (tz_in0 rfl) rfl
              · skip
                refine (tz_g_iload rfl (tz_in0 rfl)).trans ?_
                refine (tz_g_aload_n rfl (tz_in0 rfl)).trans ?_
                refine (tz_g_getr (j := 162) rfl rfl rfl rfl rfl (tz_in0 rfl)).trans ?_
                refine (tz_g_iload_n rfl (tz_in0 rfl)).trans ?_
                refine (tz_g_iald (n := 8) rfl rfl rfl (tz_in0 rfl)).trans ?_
                refine tz_cn1 ?_
                refine (tz_g_iadd (tz_in0 rfl)).trans ?_
                exact tz_g_ret1 (tz_in0 rfl) rfl
  · skip
    refine (tz_g_aload_n rfl (tz_in0 rfl)).trans ?_
    refine (tz_g_bipush (v := 70) rfl (tz_in0 rfl)).trans ?_
    refine (tz_g_cv1V (m2 := 242) (rc := 0) rfl rfl rfl rfl rfl rfl (by decide) (tz_in0 rfl)).trans ?_
    refine tz_jV (fun A1 => ?_)
    refine (tz_g_iload_n rfl (tz_in0 rfl)).trans ?_
    refine (tz_g_iconst (v := 4) rfl (tz_in0 rfl)).trans ?_
    refine (tz_g_ic_eq (t := 30) (by decide) (tz_in0 rfl)).trans ?_
    refine tz_cg ?_ ?_
    · skip
      refine (tz_g_aload_n rfl (tz_in0 rfl)).trans ?_
      refine (tz_g_bipush (v := 51) rfl (tz_in0 rfl)).trans ?_
      refine (tz_g_cv1V (m2 := 242) (rc := 0) rfl rfl rfl rfl rfl rfl (by decide) (tz_in0 rfl)).trans ?_
      refine tz_jV (fun A2 => ?_)
      refine (tz_g_iload_n rfl (tz_in0 rfl)).trans ?_
      refine (tz_g_iconst (v := 1) rfl (tz_in0 rfl)).trans ?_
      refine (tz_g_ic_eq (t := 46) (by decide) (tz_in0 rfl)).trans ?_
      refine tz_cg ?_ ?_
      · skip
        refine (tz_g_aload_n rfl (tz_in0 rfl)).trans ?_
        refine (tz_g_bipush (v := 20) rfl (tz_in0 rfl)).trans ?_
        refine (tz_g_cv1V (m2 := 242) (rc := 0) rfl rfl rfl rfl rfl rfl (by decide) (tz_in0 rfl)).trans ?_
        refine tz_jV (fun A3 => ?_)
        refine (tz_g_aload_n rfl (tz_in0 rfl)).trans ?_
        refine (tz_g_bipush (v := 10) rfl (tz_in0 rfl)).trans ?_
        refine (tz_g_cv1V (m2 := 242) (rc := 0) rfl rfl rfl rfl rfl rfl (by decide) (tz_in0 rfl)).trans ?_
        refine tz_jV (fun A4 => ?_)
        refine (tz_g_iload_n rfl (tz_in0 rfl)).trans ?_
        refine (tz_g_iload_n rfl (tz_in0 rfl)).trans ?_
        refine (tz_g_iadd (tz_in0 rfl)).trans ?_
        refine (tz_g_istore (L2 := [some (.ref 157), some (.int x1), some (.int x2), some (.int (tz_g A 161 (Int32.toNatClampNeg x1))), some (.int (x2 + x1))]) rfl rfl (tz_in0 rfl)).trans ?_
        refine (tz_g_iload_n rfl (tz_in0 rfl)).trans ?_
        refine (tz_g_iconst (v := 1) rfl (tz_in0 rfl)).trans ?_
        refine (tz_g_ic_eq (t := 73) (by decide) (tz_in0 rfl)).trans ?_
        refine tz_cg ?_ ?_
        · skip
          refine (tz_g_iload rfl (tz_in0 rfl)).trans ?_
          refine (tz_g_aload_n rfl (tz_in0 rfl)).trans ?_
          refine (tz_g_getr (j := 162) rfl rfl rfl rfl rfl (tz_in0 rfl)).trans ?_
          refine (tz_g_iload_n rfl (tz_in0 rfl)).trans ?_
          refine (tz_g_iald (n := 8) rfl rfl rfl (tz_in0 rfl)).trans ?_
          refine tz_cn1 ?_
          refine (tz_g_iadd (tz_in0 rfl)).trans ?_
          exact tz_g_ret1 (tz_in0 rfl) rfl
        · skip
          refine (tz_g_iload_n rfl (tz_in0 rfl)).trans ?_
          refine (tz_g_iconst (v := 3) rfl (tz_in0 rfl)).trans ?_
          refine (tz_g_ic_ne (t := 83) (by decide) (tz_in0 rfl)).trans ?_
          refine tz_cg ?_ ?_
          · skip
            refine (tz_g_iload_n rfl (tz_in0 rfl)).trans ?_
            refine (tz_g_iconst (v := 4) rfl (tz_in0 rfl)).trans ?_
            refine (tz_g_ic_ne (t := 95) (by decide) (tz_in0 rfl)).trans ?_
            refine tz_cg ?_ ?_
            · skip
              refine (tz_g_iload_n rfl (tz_in0 rfl)).trans ?_
              refine (tz_g_bipush (v := 6) rfl (tz_in0 rfl)).trans ?_
              refine (tz_g_ic_ne (t := 110) (by decide) (tz_in0 rfl)).trans ?_
              refine tz_cg ?_ ?_
              · skip
                refine (tz_g_iload rfl (tz_in0 rfl)).trans ?_
                exact tz_g_ret1 (tz_in0 rfl) rfl
              · skip
                refine (tz_g_iload rfl (tz_in0 rfl)).trans ?_
                refine (tz_g_iload_n rfl (tz_in0 rfl)).trans ?_
                refine (tz_g_isub (tz_in0 rfl)).trans ?_
                refine (tz_g_iconst (v := 2) rfl (tz_in0 rfl)).trans ?_
                refine (tz_g_imul (tz_in0 rfl)).trans ?_
                refine (tz_g_goto (t := 112) (by decide) (tz_in0 rfl)).trans ?_
                exact tz_g_ret1 (tz_in0 rfl) rfl
            · skip
              refine (tz_g_iload rfl (tz_in0 rfl)).trans ?_
              refine (tz_g_iload_n rfl (tz_in0 rfl)).trans ?_
              refine (tz_g_isub (tz_in0 rfl)).trans ?_
              refine (tz_g_goto (t := 112) (by decide) (tz_in0 rfl)).trans ?_
              exact tz_g_ret1 (tz_in0 rfl) rfl
          · skip
            refine (tz_g_iload rfl (tz_in0 rfl)).trans ?_
            refine (tz_g_aload_n rfl (tz_in0 rfl)).trans ?_
            refine (tz_g_getr (j := 162) rfl rfl rfl rfl rfl (tz_in0 rfl)).trans ?_
            refine (tz_g_iload_n rfl (tz_in0 rfl)).trans ?_
            refine (tz_g_iald (n := 8) rfl rfl rfl (tz_in0 rfl)).trans ?_
            refine tz_cn1 ?_
            refine (tz_g_iadd (tz_in0 rfl)).trans ?_
            exact tz_g_ret1 (tz_in0 rfl) rfl
      · skip
        refine (tz_g_iload_n rfl (tz_in0 rfl)).trans ?_
        refine (tz_g_iconst (v := 3) rfl (tz_in0 rfl)).trans ?_
        refine (tz_g_ic_ne (t := 52) (by decide) (tz_in0 rfl)).trans ?_
        refine tz_cg ?_ ?_
        · skip
          refine (tz_g_aload_n rfl (tz_in0 rfl)).trans ?_
          refine (tz_g_bipush (v := 10) rfl (tz_in0 rfl)).trans ?_
          refine (tz_g_cv1V (m2 := 242) (rc := 0) rfl rfl rfl rfl rfl rfl (by decide) (tz_in0 rfl)).trans ?_
          refine tz_jV (fun A3 => ?_)
          refine (tz_g_iload_n rfl (tz_in0 rfl)).trans ?_
          refine (tz_g_iload_n rfl (tz_in0 rfl)).trans ?_
          refine (tz_g_iadd (tz_in0 rfl)).trans ?_
          refine (tz_g_istore (L2 := [some (.ref 157), some (.int x1), some (.int x2), some (.int (tz_g A 161 (Int32.toNatClampNeg x1))), some (.int (x2 + x1))]) rfl rfl (tz_in0 rfl)).trans ?_
          refine (tz_g_iload_n rfl (tz_in0 rfl)).trans ?_
          refine (tz_g_iconst (v := 1) rfl (tz_in0 rfl)).trans ?_
          refine (tz_g_ic_eq (t := 73) (by decide) (tz_in0 rfl)).trans ?_
          refine tz_cg ?_ ?_
          · skip
            refine (tz_g_iload rfl (tz_in0 rfl)).trans ?_
            refine (tz_g_aload_n rfl (tz_in0 rfl)).trans ?_
            refine (tz_g_getr (j := 162) rfl rfl rfl rfl rfl (tz_in0 rfl)).trans ?_
            refine (tz_g_iload_n rfl (tz_in0 rfl)).trans ?_
            refine (tz_g_iald (n := 8) rfl rfl rfl (tz_in0 rfl)).trans ?_
            refine tz_cn1 ?_
            refine (tz_g_iadd (tz_in0 rfl)).trans ?_
            exact tz_g_ret1 (tz_in0 rfl) rfl
          · skip
            refine (tz_g_iload_n rfl (tz_in0 rfl)).trans ?_
            refine (tz_g_iconst (v := 3) rfl (tz_in0 rfl)).trans ?_
            refine (tz_g_ic_ne (t := 83) (by decide) (tz_in0 rfl)).trans ?_
            refine tz_cg ?_ ?_
            · skip
              refine (tz_g_iload_n rfl (tz_in0 rfl)).trans ?_
              refine (tz_g_iconst (v := 4) rfl (tz_in0 rfl)).trans ?_
              refine (tz_g_ic_ne (t := 95) (by decide) (tz_in0 rfl)).trans ?_
              refine tz_cg ?_ ?_
              · skip
                refine (tz_g_iload_n rfl (tz_in0 rfl)).trans ?_
                refine (tz_g_bipush (v := 6) rfl (tz_in0 rfl)).trans ?_
                refine (tz_g_ic_ne (t := 110) (by decide) (tz_in0 rfl)).trans ?_
                refine tz_cg ?_ ?_
                · skip
                  refine (tz_g_iload rfl (tz_in0 rfl)).trans ?_
                  exact tz_g_ret1 (tz_in0 rfl) rfl
                · skip
                  refine (tz_g_iload rfl (tz_in0 rfl)).trans ?_
                  refine (tz_g_iload_n rfl (tz_in0 rfl)).trans ?_
                  refine (tz_g_isub (tz_in0 rfl)).trans ?_
                  refine (tz_g_iconst (v := 2) rfl (tz_in0 rfl)).trans ?_
                  refine (tz_g_imul (tz_in0 rfl)).trans ?_
                  refine (tz_g_goto (t := 112) (by decide) (tz_in0 rfl)).trans ?_
                  exact tz_g_ret1 (tz_in0 rfl) rfl
              · skip
                refine (tz_g_iload rfl (tz_in0 rfl)).trans ?_
                refine (tz_g_iload_n rfl (tz_in0 rfl)).trans ?_
                refine (tz_g_isub (tz_in0 rfl)).trans ?_
                refine (tz_g_goto (t := 112) (by decide) (tz_in0 rfl)).trans ?_
                exact tz_g_ret1 (tz_in0 rfl) rfl
            · skip
              refine (tz_g_iload rfl (tz_in0 rfl)).trans ?_
              refine (tz_g_aload_n rfl (tz_in0 rfl)).trans ?_
              refine (tz_g_getr (j := 162) rfl rfl rfl rfl rfl (tz_in0 rfl)).trans ?_
              refine (tz_g_iload_n rfl (tz_in0 rfl)).trans ?_
              refine (tz_g_iald (n := 8) rfl rfl rfl (tz_in0 rfl)).trans ?_
              refine tz_cn1 ?_
              refine (tz_g_iadd (tz_in0 rfl)).trans ?_
              exact tz_g_ret1 (tz_in0 rfl) rfl
        · skip
          refine (tz_g_aload_n rfl (tz_in0 rfl)).trans ?_
          refine (tz_g_bipush (v := 20) rfl (tz_in0 rfl)).trans ?_
          refine (tz_g_cv1V (m2 := 242) (rc := 0) rfl rfl rfl rfl rfl rfl (by decide) (tz_in0 rfl)).trans ?_
          refine tz_jV (fun A3 => ?_)
          refine (tz_g_aload_n rfl (tz_in0 rfl)).trans ?_
          refine (tz_g_bipush (v := 10) rfl (tz_in0 rfl)).trans ?_
          refine (tz_g_cv1V (m2 := 242) (rc := 0) rfl rfl rfl rfl rfl rfl (by decide) (tz_in0 rfl)).trans ?_
          refine tz_jV (fun A4 => ?_)
          refine (tz_g_iload_n rfl (tz_in0 rfl)).trans ?_
          refine (tz_g_iload_n rfl (tz_in0 rfl)).trans ?_
          refine (tz_g_iadd (tz_in0 rfl)).trans ?_
          refine (tz_g_istore (L2 := [some (.ref 157), some (.int x1), some (.int x2), some (.int (tz_g A 161 (Int32.toNatClampNeg x1))), some (.int (x2 + x1))]) rfl rfl (tz_in0 rfl)).trans ?_
          refine (tz_g_iload_n rfl (tz_in0 rfl)).trans ?_
          refine (tz_g_iconst (v := 1) rfl (tz_in0 rfl)).trans ?_
          refine (tz_g_ic_eq (t := 73) (by decide) (tz_in0 rfl)).trans ?_
          refine tz_cg ?_ ?_
          · skip
            refine (tz_g_iload rfl (tz_in0 rfl)).trans ?_
            refine (tz_g_aload_n rfl (tz_in0 rfl)).trans ?_
            refine (tz_g_getr (j := 162) rfl rfl rfl rfl rfl (tz_in0 rfl)).trans ?_
            refine (tz_g_iload_n rfl (tz_in0 rfl)).trans ?_
            refine (tz_g_iald (n := 8) rfl rfl rfl (tz_in0 rfl)).trans ?_
            refine tz_cn1 ?_
            refine (tz_g_iadd (tz_in0 rfl)).trans ?_
            exact tz_g_ret1 (tz_in0 rfl) rfl
          · skip
            refine (tz_g_iload_n rfl (tz_in0 rfl)).trans ?_
            refine (tz_g_iconst (v := 3) rfl (tz_in0 rfl)).trans ?_
            refine (tz_g_ic_ne (t := 83) (by decide) (tz_in0 rfl)).trans ?_
            refine tz_cg ?_ ?_
            · skip
              refine (tz_g_iload_n rfl (tz_in0 rfl)).trans ?_
              refine (tz_g_iconst (v := 4) rfl (tz_in0 rfl)).trans ?_
              refine (tz_g_ic_ne (t := 95) (by decide) (tz_in0 rfl)).trans ?_
              refine tz_cg ?_ ?_
              · skip
                refine (tz_g_iload_n rfl (tz_in0 rfl)).trans ?_
                refine (tz_g_bipush (v := 6) rfl (tz_in0 rfl)).trans ?_
                refine (tz_g_ic_ne (t := 110) (by decide) (tz_in0 rfl)).trans ?_
                refine tz_cg ?_ ?_
                · skip
                  refine (tz_g_iload rfl (tz_in0 rfl)).trans ?_
                  exact tz_g_ret1 (tz_in0 rfl) rfl
                · skip
                  refine (tz_g_iload rfl (tz_in0 rfl)).trans ?_
                  refine (tz_g_iload_n rfl (tz_in0 rfl)).trans ?_
                  refine (tz_g_isub (tz_in0 rfl)).trans ?_
                  refine (tz_g_iconst (v := 2) rfl (tz_in0 rfl)).trans ?_
                  refine (tz_g_imul (tz_in0 rfl)).trans ?_
                  refine (tz_g_goto (t := 112) (by decide) (tz_in0 rfl)).trans ?_
                  exact tz_g_ret1 (tz_in0 rfl) rfl
              · skip
                refine (tz_g_iload rfl (tz_in0 rfl)).trans ?_
                refine (tz_g_iload_n rfl (tz_in0 rfl)).trans ?_
                refine (tz_g_isub (tz_in0 rfl)).trans ?_
                refine (tz_g_goto (t := 112) (by decide) (tz_in0 rfl)).trans ?_
                exact tz_g_ret1 (tz_in0 rfl) rfl
            · skip
              refine (tz_g_iload rfl (tz_in0 rfl)).trans ?_
              refine (tz_g_aload_n rfl (tz_in0 rfl)).trans ?_
              refine (tz_g_getr (j := 162) rfl rfl rfl rfl rfl (tz_in0 rfl)).trans ?_
              refine (tz_g_iload_n rfl (tz_in0 rfl)).trans ?_
              refine (tz_g_iald (n := 8) rfl rfl rfl (tz_in0 rfl)).trans ?_
              refine tz_cn1 ?_
              refine (tz_g_iadd (tz_in0 rfl)).trans ?_
              exact tz_g_ret1 (tz_in0 rfl) rfl
    · skip
      refine (tz_g_iload_n rfl (tz_in0 rfl)).trans ?_
      refine (tz_g_bipush (v := 6) rfl (tz_in0 rfl)).trans ?_
      refine (tz_g_ic_ne (t := 36) (by decide) (tz_in0 rfl)).trans ?_
      refine tz_cg ?_ ?_
      · skip
        refine (tz_g_iload_n rfl (tz_in0 rfl)).trans ?_
        refine (tz_g_iconst (v := 1) rfl (tz_in0 rfl)).trans ?_
        refine (tz_g_ic_eq (t := 46) (by decide) (tz_in0 rfl)).trans ?_
        refine tz_cg ?_ ?_
        · skip
          refine (tz_g_aload_n rfl (tz_in0 rfl)).trans ?_
          refine (tz_g_bipush (v := 20) rfl (tz_in0 rfl)).trans ?_
          refine (tz_g_cv1V (m2 := 242) (rc := 0) rfl rfl rfl rfl rfl rfl (by decide) (tz_in0 rfl)).trans ?_
          refine tz_jV (fun A2 => ?_)
          refine (tz_g_aload_n rfl (tz_in0 rfl)).trans ?_
          refine (tz_g_bipush (v := 10) rfl (tz_in0 rfl)).trans ?_
          refine (tz_g_cv1V (m2 := 242) (rc := 0) rfl rfl rfl rfl rfl rfl (by decide) (tz_in0 rfl)).trans ?_
          refine tz_jV (fun A3 => ?_)
          refine (tz_g_iload_n rfl (tz_in0 rfl)).trans ?_
          refine (tz_g_iload_n rfl (tz_in0 rfl)).trans ?_
          refine (tz_g_iadd (tz_in0 rfl)).trans ?_
          refine (tz_g_istore (L2 := [some (.ref 157), some (.int x1), some (.int x2), some (.int (tz_g A 161 (Int32.toNatClampNeg x1))), some (.int (x2 + x1))]) rfl rfl (tz_in0 rfl)).trans ?_
          refine (tz_g_iload_n rfl (tz_in0 rfl)).trans ?_
          refine (tz_g_iconst (v := 1) rfl (tz_in0 rfl)).trans ?_
          refine (tz_g_ic_eq (t := 73) (by decide) (tz_in0 rfl)).trans ?_
          refine tz_cg ?_ ?_
          · skip
            refine (tz_g_iload rfl (tz_in0 rfl)).trans ?_
            refine (tz_g_aload_n rfl (tz_in0 rfl)).trans ?_
            refine (tz_g_getr (j := 162) rfl rfl rfl rfl rfl (tz_in0 rfl)).trans ?_
            refine (tz_g_iload_n rfl (tz_in0 rfl)).trans ?_
            refine (tz_g_iald (n := 8) rfl rfl rfl (tz_in0 rfl)).trans ?_
            refine tz_cn1 ?_
            refine (tz_g_iadd (tz_in0 rfl)).trans ?_
            exact tz_g_ret1 (tz_in0 rfl) rfl
          · skip
            refine (tz_g_iload_n rfl (tz_in0 rfl)).trans ?_
            refine (tz_g_iconst (v := 3) rfl (tz_in0 rfl)).trans ?_
            refine (tz_g_ic_ne (t := 83) (by decide) (tz_in0 rfl)).trans ?_
            refine tz_cg ?_ ?_
            · skip
              refine (tz_g_iload_n rfl (tz_in0 rfl)).trans ?_
              refine (tz_g_iconst (v := 4) rfl (tz_in0 rfl)).trans ?_
              refine (tz_g_ic_ne (t := 95) (by decide) (tz_in0 rfl)).trans ?_
              refine tz_cg ?_ ?_
              · skip
                refine (tz_g_iload_n rfl (tz_in0 rfl)).trans ?_
                refine (tz_g_bipush (v := 6) rfl (tz_in0 rfl)).trans ?_
                refine (tz_g_ic_ne (t := 110) (by decide) (tz_in0 rfl)).trans ?_
                refine tz_cg ?_ ?_
                · skip
                  refine (tz_g_iload rfl (tz_in0 rfl)).trans ?_
                  exact tz_g_ret1 (tz_in0 rfl) rfl
                · skip
                  refine (tz_g_iload rfl (tz_in0 rfl)).trans ?_
                  refine (tz_g_iload_n rfl (tz_in0 rfl)).trans ?_
                  refine (tz_g_isub (tz_in0 rfl)).trans ?_
                  refine (tz_g_iconst (v := 2) rfl (tz_in0 rfl)).trans ?_
                  refine (tz_g_imul (tz_in0 rfl)).trans ?_
                  refine (tz_g_goto (t := 112) (by decide) (tz_in0 rfl)).trans ?_
                  exact tz_g_ret1 (tz_in0 rfl) rfl
              · skip
                refine (tz_g_iload rfl (tz_in0 rfl)).trans ?_
                refine (tz_g_iload_n rfl (tz_in0 rfl)).trans ?_
                refine (tz_g_isub (tz_in0 rfl)).trans ?_
                refine (tz_g_goto (t := 112) (by decide) (tz_in0 rfl)).trans ?_
                exact tz_g_ret1 (tz_in0 rfl) rfl
            · skip
              refine (tz_g_iload rfl (tz_in0 rfl)).trans ?_
              refine (tz_g_aload_n rfl (tz_in0 rfl)).trans ?_
              refine (tz_g_getr (j := 162) rfl rfl rfl rfl rfl (tz_in0 rfl)).trans ?_
              refine (tz_g_iload_n rfl (tz_in0 rfl)).trans ?_
              refine (tz_g_iald (n := 8) rfl rfl rfl (tz_in0 rfl)).trans ?_
              refine tz_cn1 ?_
              refine (tz_g_iadd (tz_in0 rfl)).trans ?_
              exact tz_g_ret1 (tz_in0 rfl) rfl
        · skip
          refine (tz_g_iload_n rfl (tz_in0 rfl)).trans ?_
          refine (tz_g_iconst (v := 3) rfl (tz_in0 rfl)).trans ?_
          refine (tz_g_ic_ne (t := 52) (by decide) (tz_in0 rfl)).trans ?_
          refine tz_cg ?_ ?_
          · skip
            refine (tz_g_aload_n rfl (tz_in0 rfl)).trans ?_
            refine (tz_g_bipush (v := 10) rfl (tz_in0 rfl)).trans ?_
            refine (tz_g_cv1V (m2 := 242) (rc := 0) rfl rfl rfl rfl rfl rfl (by decide) (tz_in0 rfl)).trans ?_
            refine tz_jV (fun A2 => ?_)
            refine (tz_g_iload_n rfl (tz_in0 rfl)).trans ?_
            refine (tz_g_iload_n rfl (tz_in0 rfl)).trans ?_
            refine (tz_g_iadd (tz_in0 rfl)).trans ?_
            refine (tz_g_istore (L2 := [some (.ref 157), some (.int x1), some (.int x2), some (.int (tz_g A 161 (Int32.toNatClampNeg x1))), some (.int (x2 + x1))]) rfl rfl (tz_in0 rfl)).trans ?_
            refine (tz_g_iload_n rfl (tz_in0 rfl)).trans ?_
            refine (tz_g_iconst (v := 1) rfl (tz_in0 rfl)).trans ?_
            refine (tz_g_ic_eq (t := 73) (by decide) (tz_in0 rfl)).trans ?_
            refine tz_cg ?_ ?_
            · skip
              refine (tz_g_iload rfl (tz_in0 rfl)).trans ?_
              refine (tz_g_aload_n rfl (tz_in0 rfl)).trans ?_
              refine (tz_g_getr (j := 162) rfl rfl rfl rfl rfl (tz_in0 rfl)).trans ?_
              refine (tz_g_iload_n rfl (tz_in0 rfl)).trans ?_
              refine (tz_g_iald (n := 8) rfl rfl rfl (tz_in0 rfl)).trans ?_
              refine tz_cn1 ?_
              refine (tz_g_iadd (tz_in0 rfl)).trans ?_
              exact tz_g_ret1 (tz_in0 rfl) rfl
            · skip
              refine (tz_g_iload_n rfl (tz_in0 rfl)).trans ?_
              refine (tz_g_iconst (v := 3) rfl (tz_in0 rfl)).trans ?_
              refine (tz_g_ic_ne (t := 83) (by decide) (tz_in0 rfl)).trans ?_
              refine tz_cg ?_ ?_
              · skip
                refine (tz_g_iload_n rfl (tz_in0 rfl)).trans ?_
                refine (tz_g_iconst (v := 4) rfl (tz_in0 rfl)).trans ?_
                refine (tz_g_ic_ne (t := 95) (by decide) (tz_in0 rfl)).trans ?_
                refine tz_cg ?_ ?_
                · skip
                  refine (tz_g_iload_n rfl (tz_in0 rfl)).trans ?_
                  refine (tz_g_bipush (v := 6) rfl (tz_in0 rfl)).trans ?_
                  refine (tz_g_ic_ne (t := 110) (by decide) (tz_in0 rfl)).trans ?_
                  refine tz_cg ?_ ?_
                  · skip
                    refine (tz_g_iload rfl (tz_in0 rfl)).trans ?_
                    exact tz_g_ret1 (tz_in0 rfl) rfl
                  · skip
                    refine (tz_g_iload rfl (tz_in0 rfl)).trans ?_
                    refine (tz_g_iload_n rfl (tz_in0 rfl)).trans ?_
                    refine (tz_g_isub (tz_in0 rfl)).trans ?_
                    refine (tz_g_iconst (v := 2) rfl (tz_in0 rfl)).trans ?_
                    refine (tz_g_imul (tz_in0 rfl)).trans ?_
                    refine (tz_g_goto (t := 112) (by decide) (tz_in0 rfl)).trans ?_
                    exact tz_g_ret1 (tz_in0 rfl) rfl
                · skip
                  refine (tz_g_iload rfl (tz_in0 rfl)).trans ?_
                  refine (tz_g_iload_n rfl (tz_in0 rfl)).trans ?_
                  refine (tz_g_isub (tz_in0 rfl)).trans ?_
                  refine (tz_g_goto (t := 112) (by decide) (tz_in0 rfl)).trans ?_
                  exact tz_g_ret1 (tz_in0 rfl) rfl
              · skip
                refine (tz_g_iload rfl (tz_in0 rfl)).trans ?_
                refine (tz_g_aload_n rfl (tz_in0 rfl)).trans ?_
                refine (tz_g_getr (j := 162) rfl rfl rfl rfl rfl (tz_in0 rfl)).trans ?_
                refine (tz_g_iload_n rfl (tz_in0 rfl)).trans ?_
                refine (tz_g_iald (n := 8) rfl rfl rfl (tz_in0 rfl)).trans ?_
                refine tz_cn1 ?_
                refine (tz_g_iadd (tz_in0 rfl)).trans ?_
                exact tz_g_ret1 (tz_in0 rfl) rfl
          · skip
            refine (tz_g_aload_n rfl (tz_in0 rfl)).trans ?_
            refine (tz_g_bipush (v := 20) rfl (tz_in0 rfl)).trans ?_
            refine (tz_g_cv1V (m2 := 242) (rc := 0) rfl rfl rfl rfl rfl rfl (by decide) (tz_in0 rfl)).trans ?_
            refine tz_jV (fun A2 => ?_)
            refine (tz_g_aload_n rfl (tz_in0 rfl)).trans ?_
            refine (tz_g_bipush (v := 10) rfl (tz_in0 rfl)).trans ?_
            refine (tz_g_cv1V (m2 := 242) (rc := 0) rfl rfl rfl rfl rfl rfl (by decide) (tz_in0 rfl)).trans ?_
            refine tz_jV (fun A3 => ?_)
            refine (tz_g_iload_n rfl (tz_in0 rfl)).trans ?_
            refine (tz_g_iload_n rfl (tz_in0 rfl)).trans ?_
            refine (tz_g_iadd (tz_in0 rfl)).trans ?_
            refine (tz_g_istore (L2 := [some (.ref 157), some (.int x1), some (.int x2), some (.int (tz_g A 161 (Int32.toNatClampNeg x1))), some (.int (x2 + x1))]) rfl rfl (tz_in0 rfl)).trans ?_
            refine (tz_g_iload_n rfl (tz_in0 rfl)).trans ?_
            refine (tz_g_iconst (v := 1) rfl (tz_in0 rfl)).trans ?_
            refine (tz_g_ic_eq (t := 73) (by decide) (tz_in0 rfl)).trans ?_
            refine tz_cg ?_ ?_
            · skip
              refine (tz_g_iload rfl (tz_in0 rfl)).trans ?_
              refine (tz_g_aload_n rfl (tz_in0 rfl)).trans ?_
              refine (tz_g_getr (j := 162) rfl rfl rfl rfl rfl (tz_in0 rfl)).trans ?_
              refine (tz_g_iload_n rfl (tz_in0 rfl)).trans ?_
              refine (tz_g_iald (n := 8) rfl rfl rfl (tz_in0 rfl)).trans ?_
              refine tz_cn1 ?_
              refine (tz_g_iadd (tz_in0 rfl)).trans ?_
              exact tz_g_ret1 (tz_in0 rfl) rfl
            · skip
              refine (tz_g_iload_n rfl (tz_in0 rfl)).trans ?_
              refine (tz_g_iconst (v := 3) rfl (tz_in0 rfl)).trans ?_
              refine (tz_g_ic_ne (t := 83) (by decide) (tz_in0 rfl)).trans ?_
              refine tz_cg ?_ ?_
              · skip
                refine (tz_g_iload_n rfl (tz_in0 rfl)).trans ?_
                refine (tz_g_iconst (v := 4) rfl (tz_in0 rfl)).trans ?_
                refine (tz_g_ic_ne (t := 95) (by decide) (tz_in0 rfl)).trans ?_
                refine tz_cg ?_ ?_
                · skip
                  refine (tz_g_iload_n rfl (tz_in0 rfl)).trans ?_
                  refine (tz_g_bipush (v := 6) rfl (tz_in0 rfl)).trans ?_
                  refine (tz_g_ic_ne (t := 110) (by decide) (tz_in0 rfl)).trans ?_
                  refine tz_cg ?_ ?_
                  · skip
                    refine (tz_g_iload rfl (tz_in0 rfl)).trans ?_
                    exact tz_g_ret1 (tz_in0 rfl) rfl
                  · skip
                    refine (tz_g_iload rfl (tz_in0 rfl)).trans ?_
                    refine (tz_g_iload_n rfl (tz_in0 rfl)).trans ?_
                    refine (tz_g_isub (tz_in0 rfl)).trans ?_
                    refine (tz_g_iconst (v := 2) rfl (tz_in0 rfl)).trans ?_
                    refine (tz_g_imul (tz_in0 rfl)).trans ?_
                    refine (tz_g_goto (t := 112) (by decide) (tz_in0 rfl)).trans ?_
                    exact tz_g_ret1 (tz_in0 rfl) rfl
                · skip
                  refine (tz_g_iload rfl (tz_in0 rfl)).trans ?_
                  refine (tz_g_iload_n rfl (tz_in0 rfl)).trans ?_
                  refine (tz_g_isub (tz_in0 rfl)).trans ?_
                  refine (tz_g_goto (t := 112) (by decide) (tz_in0 rfl)).trans ?_
                  exact tz_g_ret1 (tz_in0 rfl) rfl
              · skip
                refine (tz_g_iload rfl (tz_in0 rfl)).trans ?_
                refine (tz_g_aload_n rfl (tz_in0 rfl)).trans ?_
                refine (tz_g_getr (j := 162) rfl rfl rfl rfl rfl (tz_in0 rfl)).trans ?_
                refine (tz_g_iload_n rfl (tz_in0 rfl)).trans ?_
                refine (tz_g_iald (n := 8) rfl rfl rfl (tz_in0 rfl)).trans ?_
                refine tz_cn1 ?_
                refine (tz_g_iadd (tz_in0 rfl)).trans ?_
                exact tz_g_ret1 (tz_in0 rfl) rfl
      · skip
        refine (tz_g_aload_n rfl (tz_in0 rfl)).trans ?_
        refine (tz_g_bipush (v := 51) rfl (tz_in0 rfl)).trans ?_
        refine (tz_g_cv1V (m2 := 242) (rc := 0) rfl rfl rfl rfl rfl rfl (by decide) (tz_in0 rfl)).trans ?_
        refine tz_jV (fun A2 => ?_)
        refine (tz_g_iload_n rfl (tz_in0 rfl)).trans ?_
        refine (tz_g_iconst (v := 1) rfl (tz_in0 rfl)).trans ?_
        refine (tz_g_ic_eq (t := 46) (by decide) (tz_in0 rfl)).trans ?_
        refine tz_cg ?_ ?_
        · skip
          refine (tz_g_aload_n rfl (tz_in0 rfl)).trans ?_
          refine (tz_g_bipush (v := 20) rfl (tz_in0 rfl)).trans ?_
          refine (tz_g_cv1V (m2 := 242) (rc := 0) rfl rfl rfl rfl rfl rfl (by decide) (tz_in0 rfl)).trans ?_
          refine tz_jV (fun A3 => ?_)
          refine (tz_g_aload_n rfl (tz_in0 rfl)).trans ?_
          refine (tz_g_bipush (v := 10) rfl (tz_in0 rfl)).trans ?_
          refine (tz_g_cv1V (m2 := 242) (rc := 0) rfl rfl rfl rfl rfl rfl (by decide) (tz_in0 rfl)).trans ?_
          refine tz_jV (fun A4 => ?_)
          refine (tz_g_iload_n rfl (tz_in0 rfl)).trans ?_
          refine (tz_g_iload_n rfl (tz_in0 rfl)).trans ?_
          refine (tz_g_iadd (tz_in0 rfl)).trans ?_
          refine (tz_g_istore (L2 := [some (.ref 157), some (.int x1), some (.int x2), some (.int (tz_g A 161 (Int32.toNatClampNeg x1))), some (.int (x2 + x1))]) rfl rfl (tz_in0 rfl)).trans ?_
          refine (tz_g_iload_n rfl (tz_in0 rfl)).trans ?_
          refine (tz_g_iconst (v := 1) rfl (tz_in0 rfl)).trans ?_
          refine (tz_g_ic_eq (t := 73) (by decide) (tz_in0 rfl)).trans ?_
          refine tz_cg ?_ ?_
          · skip
            refine (tz_g_iload rfl (tz_in0 rfl)).trans ?_
            refine (tz_g_aload_n rfl (tz_in0 rfl)).trans ?_
            refine (tz_g_getr (j := 162) rfl rfl rfl rfl rfl (tz_in0 rfl)).trans ?_
            refine (tz_g_iload_n rfl (tz_in0 rfl)).trans ?_
            refine (tz_g_iald (n := 8) rfl rfl rfl (tz_in0 rfl)).trans ?_
            refine tz_cn1 ?_
            refine (tz_g_iadd (tz_in0 rfl)).trans ?_
            exact tz_g_ret1 (tz_in0 rfl) rfl
          · skip
            refine (tz_g_iload_n rfl (tz_in0 rfl)).trans ?_
            refine (tz_g_iconst (v := 3) rfl (tz_in0 rfl)).trans ?_
            refine (tz_g_ic_ne (t := 83) (by decide) (tz_in0 rfl)).trans ?_
            refine tz_cg ?_ ?_
            · skip
              refine (tz_g_iload_n rfl (tz_in0 rfl)).trans ?_
              refine (tz_g_iconst (v := 4) rfl (tz_in0 rfl)).trans ?_
              refine (tz_g_ic_ne (t := 95) (by decide) (tz_in0 rfl)).trans ?_
              refine tz_cg ?_ ?_
              · skip
                refine (tz_g_iload_n rfl (tz_in0 rfl)).trans ?_
                refine (tz_g_bipush (v := 6) rfl (tz_in0 rfl)).trans ?_
                refine (tz_g_ic_ne (t := 110) (by decide) (tz_in0 rfl)).trans ?_
                refine tz_cg ?_ ?_
                · skip
                  refine (tz_g_iload rfl (tz_in0 rfl)).trans ?_
                  exact tz_g_ret1 (tz_in0 rfl) rfl
                · skip
                  refine (tz_g_iload rfl (tz_in0 rfl)).trans ?_
                  refine (tz_g_iload_n rfl (tz_in0 rfl)).trans ?_
                  refine (tz_g_isub (tz_in0 rfl)).trans ?_
                  refine (tz_g_iconst (v := 2) rfl (tz_in0 rfl)).trans ?_
                  refine (tz_g_imul (tz_in0 rfl)).trans ?_
                  refine (tz_g_goto (t := 112) (by decide) (tz_in0 rfl)).trans ?_
                  exact tz_g_ret1 (tz_in0 rfl) rfl
              · skip
                refine (tz_g_iload rfl (tz_in0 rfl)).trans ?_
                refine (tz_g_iload_n rfl (tz_in0 rfl)).trans ?_
                refine (tz_g_isub (tz_in0 rfl)).trans ?_
                refine (tz_g_goto (t := 112) (by decide) (tz_in0 rfl)).trans ?_
                exact tz_g_ret1 (tz_in0 rfl) rfl
            · skip
              refine (tz_g_iload rfl (tz_in0 rfl)).trans ?_
              refine (tz_g_aload_n rfl (tz_in0 rfl)).trans ?_
              refine (tz_g_getr (j := 162) rfl rfl rfl rfl rfl (tz_in0 rfl)).trans ?_
              refine (tz_g_iload_n rfl (tz_in0 rfl)).trans ?_
              refine (tz_g_iald (n := 8) rfl rfl rfl (tz_in0 rfl)).trans ?_
              refine tz_cn1 ?_
              refine (tz_g_iadd (tz_in0 rfl)).trans ?_
              exact tz_g_ret1 (tz_in0 rfl) rfl
        · skip
          refine (tz_g_iload_n rfl (tz_in0 rfl)).trans ?_
          refine (tz_g_iconst (v := 3) rfl (tz_in0 rfl)).trans ?_
          refine (tz_g_ic_ne (t := 52) (by decide) (tz_in0 rfl)).trans ?_
          refine tz_cg ?_ ?_
          · skip
            refine (tz_g_aload_n rfl (tz_in0 rfl)).trans ?_
            refine (tz_g_bipush (v := 10) rfl (tz_in0 rfl)).trans ?_
            refine (tz_g_cv1V (m2 := 242) (rc := 0) rfl rfl rfl rfl rfl rfl (by decide) (tz_in0 rfl)).trans ?_
            refine tz_jV (fun A3 => ?_)
            refine (tz_g_iload_n rfl (tz_in0 rfl)).trans ?_
            refine (tz_g_iload_n rfl (tz_in0 rfl)).trans ?_
            refine (tz_g_iadd (tz_in0 rfl)).trans ?_
            refine (tz_g_istore (L2 := [some (.ref 157), some (.int x1), some (.int x2), some (.int (tz_g A 161 (Int32.toNatClampNeg x1))), some (.int (x2 + x1))]) rfl rfl (tz_in0 rfl)).trans ?_
            refine (tz_g_iload_n rfl (tz_in0 rfl)).trans ?_
            refine (tz_g_iconst (v := 1) rfl (tz_in0 rfl)).trans ?_
            refine (tz_g_ic_eq (t := 73) (by decide) (tz_in0 rfl)).trans ?_
            refine tz_cg ?_ ?_
            · skip
              refine (tz_g_iload rfl (tz_in0 rfl)).trans ?_
              refine (tz_g_aload_n rfl (tz_in0 rfl)).trans ?_
              refine (tz_g_getr (j := 162) rfl rfl rfl rfl rfl (tz_in0 rfl)).trans ?_
              refine (tz_g_iload_n rfl (tz_in0 rfl)).trans ?_
              refine (tz_g_iald (n := 8) rfl rfl rfl (tz_in0 rfl)).trans ?_
              refine tz_cn1 ?_
              refine (tz_g_iadd (tz_in0 rfl)).trans ?_
              exact tz_g_ret1 (tz_in0 rfl) rfl
            · skip
              refine (tz_g_iload_n rfl (tz_in0 rfl)).trans ?_
              refine (tz_g_iconst (v := 3) rfl (tz_in0 rfl)).trans ?_
              refine (tz_g_ic_ne (t := 83) (by decide) (tz_in0 rfl)).trans ?_
              refine tz_cg ?_ ?_
              · skip
                refine (tz_g_iload_n rfl (tz_in0 rfl)).trans ?_
                refine (tz_g_iconst (v := 4) rfl (tz_in0 rfl)).trans ?_
                refine (tz_g_ic_ne (t := 95) (by decide) (tz_in0 rfl)).trans ?_
                refine tz_cg ?_ ?_
                · skip
                  refine (tz_g_iload_n rfl (tz_in0 rfl)).trans ?_
                  refine (tz_g_bipush (v := 6) rfl (tz_in0 rfl)).trans ?_
                  refine (tz_g_ic_ne (t := 110) (by decide) (tz_in0 rfl)).trans ?_
                  refine tz_cg ?_ ?_
                  · skip
                    refine (tz_g_iload rfl (tz_in0 rfl)).trans ?_
                    exact tz_g_ret1 (tz_in0 rfl) rfl
                  · skip
                    refine (tz_g_iload rfl (tz_in0 rfl)).trans ?_
                    refine (tz_g_iload_n rfl (tz_in0 rfl)).trans ?_
                    refine (tz_g_isub (tz_in0 rfl)).trans ?_
                    refine (tz_g_iconst (v := 2) rfl (tz_in0 rfl)).trans ?_
                    refine (tz_g_imul (tz_in0 rfl)).trans ?_
                    refine (tz_g_goto (t := 112) (by decide) (tz_in0 rfl)).trans ?_
                    exact tz_g_ret1 (tz_in0 rfl) rfl
                · skip
                  refine (tz_g_iload rfl (tz_in0 rfl)).trans ?_
                  refine (tz_g_iload_n rfl (tz_in0 rfl)).trans ?_
                  refine (tz_g_isub (tz_in0 rfl)).trans ?_
                  refine (tz_g_goto (t := 112) (by decide) (tz_in0 rfl)).trans ?_
                  exact tz_g_ret1 (tz_in0 rfl) rfl
              · skip
                refine (tz_g_iload rfl (tz_in0 rfl)).trans ?_
                refine (tz_g_aload_n rfl (tz_in0 rfl)).trans ?_
                refine (tz_g_getr (j := 162) rfl rfl rfl rfl rfl (tz_in0 rfl)).trans ?_
                refine (tz_g_iload_n rfl (tz_in0 rfl)).trans ?_
                refine (tz_g_iald (n := 8) rfl rfl rfl (tz_in0 rfl)).trans ?_
                refine tz_cn1 ?_
                refine (tz_g_iadd (tz_in0 rfl)).trans ?_
                exact tz_g_ret1 (tz_in0 rfl) rfl
          · skip
            refine (tz_g_aload_n rfl (tz_in0 rfl)).trans ?_
            refine (tz_g_bipush (v := 20) rfl (tz_in0 rfl)).trans ?_
            refine (tz_g_cv1V (m2 := 242) (rc := 0) rfl rfl rfl rfl rfl rfl (by decide) (tz_in0 rfl)).trans ?_
            refine tz_jV (fun A3 => ?_)
            refine (tz_g_aload_n rfl (tz_in0 rfl)).trans ?_
            refine (tz_g_bipush (v := 10) rfl (tz_in0 rfl)).trans ?_
            refine (tz_g_cv1V (m2 := 242) (rc := 0) rfl rfl rfl rfl rfl rfl (by decide) (tz_in0 rfl)).trans ?_
            refine tz_jV (fun A4 => ?_)
            refine (tz_g_iload_n rfl (tz_in0 rfl)).trans ?_
            refine (tz_g_iload_n rfl (tz_in0 rfl)).trans ?_
            refine (tz_g_iadd (tz_in0 rfl)).trans ?_
            refine (tz_g_istore (L2 := [some (.ref 157), some (.int x1), some (.int x2), some (.int (tz_g A 161 (Int32.toNatClampNeg x1))), some (.int (x2 + x1))]) rfl rfl (tz_in0 rfl)).trans ?_
            refine (tz_g_iload_n rfl (tz_in0 rfl)).trans ?_
            refine (tz_g_iconst (v := 1) rfl (tz_in0 rfl)).trans ?_
            refine (tz_g_ic_eq (t := 73) (by decide) (tz_in0 rfl)).trans ?_
            refine tz_cg ?_ ?_
            · skip
              refine (tz_g_iload rfl (tz_in0 rfl)).trans ?_
              refine (tz_g_aload_n rfl (tz_in0 rfl)).trans ?_
              refine (tz_g_getr (j := 162) rfl rfl rfl rfl rfl (tz_in0 rfl)).trans ?_
              refine (tz_g_iload_n rfl (tz_in0 rfl)).trans ?_
              refine (tz_g_iald (n := 8) rfl rfl rfl (tz_in0 rfl)).trans ?_
              refine tz_cn1 ?_
              refine (tz_g_iadd (tz_in0 rfl)).trans ?_
              exact tz_g_ret1 (tz_in0 rfl) rfl
            · skip
              refine (tz_g_iload_n rfl (tz_in0 rfl)).trans ?_
              refine (tz_g_iconst (v := 3) rfl (tz_in0 rfl)).trans ?_
              refine (tz_g_ic_ne (t := 83) (by decide) (tz_in0 rfl)).trans ?_
              refine tz_cg ?_ ?_
              · skip
                refine (tz_g_iload_n rfl (tz_in0 rfl)).trans ?_
                refine (tz_g_iconst (v := 4) rfl (tz_in0 rfl)).trans ?_
                refine (tz_g_ic_ne (t := 95) (by decide) (tz_in0 rfl)).trans ?_
                refine tz_cg ?_ ?_
                · skip
                  refine (tz_g_iload_n rfl (tz_in0 rfl)).trans ?_
                  refine (tz_g_bipush (v := 6) rfl (tz_in0 rfl)).trans ?_
                  refine (tz_g_ic_ne (t := 110) (by decide) (tz_in0 rfl)).trans ?_
                  refine tz_cg ?_ ?_
                  · skip
                    refine (tz_g_iload rfl (tz_in0 rfl)).trans ?_
                    exact tz_g_ret1 (tz_in0 rfl) rfl
                  · skip
                    refine (tz_g_iload rfl (tz_in0 rfl)).trans ?_
                    refine (tz_g_iload_n rfl (tz_in0 rfl)).trans ?_
                    refine (tz_g_isub (tz_in0 rfl)).trans ?_
                    refine (tz_g_iconst (v := 2) rfl (tz_in0 rfl)).trans ?_
                    refine (tz_g_imul (tz_in0 rfl)).trans ?_
                    refine (tz_g_goto (t := 112) (by decide) (tz_in0 rfl)).trans ?_
                    exact tz_g_ret1 (tz_in0 rfl) rfl
                · skip
                  refine (tz_g_iload rfl (tz_in0 rfl)).trans ?_
                  refine (tz_g_iload_n rfl (tz_in0 rfl)).trans ?_
                  refine (tz_g_isub (tz_in0 rfl)).trans ?_
                  refine (tz_g_goto (t := 112) (by decide) (tz_in0 rfl)).trans ?_
                  exact tz_g_ret1 (tz_in0 rfl) rfl
              · skip
                refine (tz_g_iload rfl (tz_in0 rfl)).trans ?_
                refine (tz_g_aload_n rfl (tz_in0 rfl)).trans ?_
                refine (tz_g_getr (j := 162) rfl rfl rfl rfl rfl (tz_in0 rfl)).trans ?_
                refine (tz_g_iload_n rfl (tz_in0 rfl)).trans ?_
                refine (tz_g_iald (n := 8) rfl rfl rfl (tz_in0 rfl)).trans ?_
                refine tz_cn1 ?_
                refine (tz_g_iadd (tz_in0 rfl)).trans ?_
                exact tz_g_ret1 (tz_in0 rfl) rfl

theorem e_X12_image (A : tz_Mem) : f_X12_image A =
  tz_bV (f_X12_keep_s179 (tz_s A 157 30 1)) (fun A1 =>
some (some (.int (tz_g A1 157 3)), A1)) := by
  refine (tz_Fe (L := [some (.ref 157)]) rfl).trans ?_
  refine (tz_g_aload_n rfl (tz_in0 rfl)).trans ?_
  refine (tz_g_iconst (v := 1) rfl (tz_in0 rfl)).trans ?_
  refine (tz_g_putz rfl rfl rfl (by decide) (tz_in0 rfl)).trans ?_
  refine (tz_g_aload_n rfl (tz_in0 rfl)).trans ?_
  refine (tz_g_aload_n rfl (tz_in0 rfl)).trans ?_
  refine (tz_g_getr (j := 179) rfl rfl rfl rfl rfl (tz_in0 rfl)).trans ?_
  refine (tz_g_cv1V (m2 := 196) (rc := 0) rfl rfl rfl rfl rfl rfl (by decide) (tz_in0 rfl)).trans ?_
  refine tz_jV (fun A1 => ?_)
  refine (tz_g_aload_n rfl (tz_in0 rfl)).trans ?_
  refine (tz_g_geti rfl rfl rfl (tz_in0 rfl)).trans ?_
  exact tz_g_ret1 (tz_in0 rfl) rfl

theorem e_X12_restore (A : tz_Mem) : f_X12_restore A =
  if ¬ (tz_g A 157 30) = 0 then
  tz_bV (f_X12_again_s179 A) (fun A1 =>
  q_X12_restore_24 0 A1)
else
  tz_bI (f_X12_no (-6) A) (fun y1 A1 =>
  some (some (.int y1), A1)) := by
  refine (tz_Fe (L := [some (.ref 157), none]) rfl).trans ?_
  refine (tz_g_aload_n rfl (tz_in0 rfl)).trans ?_
  refine (tz_g_getz rfl rfl rfl (tz_in0 rfl)).trans ?_
  refine (tz_g_if_ne (t := 14) (by decide) (tz_in0 rfl)).trans ?_
  refine tz_cg ?_ ?_
  · skip
    refine (tz_g_aload_n rfl (tz_in0 rfl)).trans ?_
    refine (tz_g_aload_n rfl (tz_in0 rfl)).trans ?_
    refine (tz_g_getr (j := 179) rfl rfl rfl rfl rfl (tz_in0 rfl)).trans ?_
    refine (tz_g_cv1V (m2 := 211) (rc := 0) rfl rfl rfl rfl rfl rfl (by decide) (tz_in0 rfl)).trans ?_
    refine tz_jV (fun A1 => ?_)
    refine (tz_g_iconst (v := 0) rfl (tz_in0 rfl)).trans ?_
    refine (tz_g_istore_n (L2 := [some (.ref 157), some (.int 0)]) rfl rfl (tz_in0 rfl)).trans ?_
    exact tz_Gm (L2 := [some (.ref 157), some (.int 0)]) rfl rfl rfl rfl
  · skip
    refine (tz_g_aload_n rfl (tz_in0 rfl)).trans ?_
    refine (tz_g_bipush (v := (-6)) rfl (tz_in0 rfl)).trans ?_
    refine (tz_g_cv1I (m2 := 166) (rc := 1) rfl rfl rfl rfl rfl rfl (by decide) (tz_in0 rfl)).trans ?_
    refine tz_jI (fun y1 A1 => ?_)
    exact tz_g_ret1 (tz_in0 rfl) rfl

theorem e_X12_restore_24 (z1 : Int32) (A : tz_Mem) : q_X12_restore_24 z1 A =
  if 8 ≤ z1 then
  some (some (.int (tz_g A 157 3)), A)
else
  tz_bI (f_X12_isRow z1 A) (fun y1 A1 =>
  if ¬ y1 = 0 then
    q_X12_restore_24 (z1 + 1) A1
  else
    if z1 < 0 ∨ 8 ≤ (Int32.toNatClampNeg z1) then none else
    if (tz_g A1 158 (Int32.toNatClampNeg z1)) < (tz_g A1 157 3) then
      q_X12_restore_24 (z1 + 1) A1
    else
      if z1 < 0 ∨ 8 ≤ (Int32.toNatClampNeg z1) then none else
      q_X12_restore_24 (z1 + 1) (tz_s A1 158 (Int32.toNatClampNeg z1) (-1))) := by
  show tz_Go 247 24 [some (.ref 157), some (.int z1)] [] A = _
  refine (tz_g_iload_n rfl (tz_inM rfl rfl rfl)).trans ?_
  refine (tz_g_bipush (v := 8) rfl (tz_in0 rfl)).trans ?_
  refine (tz_g_ic_ge (t := 64) (by decide) (tz_in0 rfl)).trans ?_
  refine tz_cg ?_ ?_
  · skip
    refine (tz_g_aload_n rfl (tz_in0 rfl)).trans ?_
    refine (tz_g_geti rfl rfl rfl (tz_in0 rfl)).trans ?_
    exact tz_g_ret1 (tz_in0 rfl) rfl
  · skip
    refine (tz_g_aload_n rfl (tz_in0 rfl)).trans ?_
    refine (tz_g_iload_n rfl (tz_in0 rfl)).trans ?_
    refine (tz_g_cv1I (m2 := 169) (rc := 4) rfl rfl rfl rfl rfl rfl (by decide) (tz_in0 rfl)).trans ?_
    refine tz_jI (fun y1 A1 => ?_)
    refine (tz_g_if_ne (t := 58) (by decide) (tz_in0 rfl)).trans ?_
    refine tz_cg ?_ ?_
    · skip
      refine (tz_g_iinc (v := 1) (L2 := [some (.ref 157), some (.int (z1 + 1))]) rfl rfl rfl rfl (tz_in0 rfl)).trans ?_
      refine (tz_g_goto (t := 24) (by decide) (tz_in0 rfl)).trans ?_
      exact tz_Gm (L2 := [some (.ref 157), some (.int (z1 + 1))]) rfl rfl rfl rfl
    · skip
      refine (tz_g_aload_n rfl (tz_in0 rfl)).trans ?_
      refine (tz_g_getr (j := 158) rfl rfl rfl rfl rfl (tz_in0 rfl)).trans ?_
      refine (tz_g_iload_n rfl (tz_in0 rfl)).trans ?_
      refine (tz_g_iald (n := 8) rfl rfl rfl (tz_in0 rfl)).trans ?_
      refine tz_cn1 ?_
      refine (tz_g_aload_n rfl (tz_in0 rfl)).trans ?_
      refine (tz_g_geti rfl rfl rfl (tz_in0 rfl)).trans ?_
      refine (tz_g_ic_lt (t := 58) (by decide) (tz_in0 rfl)).trans ?_
      refine tz_cg ?_ ?_
      · skip
        refine (tz_g_iinc (v := 1) (L2 := [some (.ref 157), some (.int (z1 + 1))]) rfl rfl rfl rfl (tz_in0 rfl)).trans ?_
        refine (tz_g_goto (t := 24) (by decide) (tz_in0 rfl)).trans ?_
        exact tz_Gm (L2 := [some (.ref 157), some (.int (z1 + 1))]) rfl rfl rfl rfl
      · skip
        refine (tz_g_aload_n rfl (tz_in0 rfl)).trans ?_
        refine (tz_g_getr (j := 158) rfl rfl rfl rfl rfl (tz_in0 rfl)).trans ?_
        refine (tz_g_iload_n rfl (tz_in0 rfl)).trans ?_
        refine (tz_g_iconst (v := (-1)) rfl (tz_in0 rfl)).trans ?_
        refine (tz_g_iast (n := 8) rfl rfl rfl (tz_in0 rfl)).trans ?_
        refine tz_cn1 ?_
        refine (tz_g_iinc (v := 1) (L2 := [some (.ref 157), some (.int (z1 + 1))]) rfl rfl rfl rfl (tz_in0 rfl)).trans ?_
        refine (tz_g_goto (t := 24) (by decide) (tz_in0 rfl)).trans ?_
        exact tz_Gm (L2 := [some (.ref 157), some (.int (z1 + 1))]) rfl rfl rfl rfl

theorem e_X12_status (x1 : Int32) (A : tz_Mem) : f_X12_status x1 A =
  if x1 = 0 then
  some (some (.int (tz_g A 157 3)), A)
else if x1 = 1 then
  some (some (.int (tz_g A 157 8)), A)
else if x1 = 2 then
  some (some (.int (tz_g A 157 15)), A)
else if x1 = 3 then
  tz_bI (f_X12_there A) (fun y1 A1 =>
  some (some (.int y1), A1))
else if x1 = 4 then
  q_X12_status_78 0 0 A
else if x1 = 5 then
  some (some (.int (tz_g A 157 22)), A)
else if x1 = 6 then
  some (some (.int (tz_g A 157 23)), A)
else if x1 = 7 then
  some (some (.int (tz_g A 157 24)), A)
else if x1 = 8 then
  some (some (.int (tz_g A 157 25)), A)
else if x1 = 9 then
  some (some (.int (tz_g A 157 28)), A)
else tz_bI (f_X12_within x1 11 17 A) (fun y1 A1 =>
if y1 = 0 then
  some (some (.int (-1)), A1)
else
  if (x1 - 10) < 0 ∨ 8 ≤ (Int32.toNatClampNeg (x1 - 10)) then none else
  some (some (.int (tz_g A1 177 (Int32.toNatClampNeg (x1 - 10)))), A1)) := by
  refine (tz_Fe (L := [some (.ref 157), some (.int x1), none, none]) rfl).trans ?_
  refine (tz_g_iconst (v := 0) rfl (tz_in0 rfl)).trans ?_
  refine (tz_g_istore_n (L2 := [some (.ref 157), some (.int x1), some (.int 0), none]) rfl rfl (tz_in0 rfl)).trans ?_
  refine (tz_g_iload_n rfl (tz_in0 rfl)).trans ?_
  refine (tz_g_tsw (by decide) (tz_in0 rfl)).trans ?_
  refine tz_swc (v := 0) (by decide) ?_ ?_
  · refine (tz_tg (t := 56) (by decide)).trans ?_
    refine (tz_g_aload_n rfl (tz_in0 rfl)).trans ?_
    refine (tz_g_geti rfl rfl rfl (tz_in0 rfl)).trans ?_
    exact tz_g_ret1 (tz_in0 rfl) rfl
  refine tz_swc (v := 1) (by decide) ?_ ?_
  · refine (tz_tg (t := 61) (by decide)).trans ?_
    refine (tz_g_aload_n rfl (tz_in0 rfl)).trans ?_
    refine (tz_g_geti rfl rfl rfl (tz_in0 rfl)).trans ?_
    exact tz_g_ret1 (tz_in0 rfl) rfl
  refine tz_swc (v := 2) (by decide) ?_ ?_
  · refine (tz_tg (t := 66) (by decide)).trans ?_
    refine (tz_g_aload_n rfl (tz_in0 rfl)).trans ?_
    refine (tz_g_geti rfl rfl rfl (tz_in0 rfl)).trans ?_
    exact tz_g_ret1 (tz_in0 rfl) rfl
  refine tz_swc (v := 3) (by decide) ?_ ?_
  · refine (tz_tg (t := 71) (by decide)).trans ?_
    refine (tz_g_aload_n rfl (tz_in0 rfl)).trans ?_
    refine (tz_g_cv0I (m2 := 234) (rc := 1) rfl rfl rfl rfl rfl rfl (by decide) (tz_in0 rfl)).trans ?_
    refine tz_jI (fun y1 A1 => ?_)
    exact tz_g_ret1 (tz_in0 rfl) rfl
  refine tz_swc (v := 4) (by decide) ?_ ?_
  · refine (tz_tg (t := 76) (by decide)).trans ?_
    refine (tz_g_iconst (v := 0) rfl (tz_in0 rfl)).trans ?_
    refine (tz_g_istore_n (L2 := [some (.ref 157), some (.int x1), some (.int 0), some (.int 0)]) rfl rfl (tz_in0 rfl)).trans ?_
    exact tz_Gm (L2 := [some (.ref 157), none, some (.int 0), some (.int 0)]) rfl rfl rfl rfl
  refine tz_swc (v := 5) (by decide) ?_ ?_
  · refine (tz_tg (t := 109) (by decide)).trans ?_
    refine (tz_g_aload_n rfl (tz_in0 rfl)).trans ?_
    refine (tz_g_geti rfl rfl rfl (tz_in0 rfl)).trans ?_
    exact tz_g_ret1 (tz_in0 rfl) rfl
  refine tz_swc (v := 6) (by decide) ?_ ?_
  · refine (tz_tg (t := 114) (by decide)).trans ?_
    refine (tz_g_aload_n rfl (tz_in0 rfl)).trans ?_
    refine (tz_g_geti rfl rfl rfl (tz_in0 rfl)).trans ?_
    exact tz_g_ret1 (tz_in0 rfl) rfl
  refine tz_swc (v := 7) (by decide) ?_ ?_
  · refine (tz_tg (t := 119) (by decide)).trans ?_
    refine (tz_g_aload_n rfl (tz_in0 rfl)).trans ?_
    refine (tz_g_geti rfl rfl rfl (tz_in0 rfl)).trans ?_
    exact tz_g_ret1 (tz_in0 rfl) rfl
  refine tz_swc (v := 8) (by decide) ?_ ?_
  · refine (tz_tg (t := 124) (by decide)).trans ?_
    refine (tz_g_aload_n rfl (tz_in0 rfl)).trans ?_
    refine (tz_g_geti rfl rfl rfl (tz_in0 rfl)).trans ?_
    exact tz_g_ret1 (tz_in0 rfl) rfl
  refine tz_swc (v := 9) (by decide) ?_ ?_
  · refine (tz_tg (t := 129) (by decide)).trans ?_
    refine (tz_g_aload_n rfl (tz_in0 rfl)).trans ?_
    refine (tz_g_geti rfl rfl rfl (tz_in0 rfl)).trans ?_
    exact tz_g_ret1 (tz_in0 rfl) rfl
  refine tz_swd ?_
  refine (tz_tg (t := 134) (by decide)).trans ?_
  refine (tz_g_iload_n rfl (tz_in0 rfl)).trans ?_
  refine (tz_g_bipush (v := 11) rfl (tz_in0 rfl)).trans ?_
  refine (tz_g_bipush (v := 17) rfl (tz_in0 rfl)).trans ?_
  refine (tz_g_cs3I (m2 := 165) (rc := 4) rfl rfl rfl rfl rfl rfl (by decide) (tz_in0 rfl)).trans ?_
  refine tz_jI (fun y1 A1 => ?_)
  refine (tz_g_if_eq (t := 157) (by decide) (tz_in0 rfl)).trans ?_
  refine tz_cg ?_ ?_
  · skip
    refine (tz_g_iconst (v := (-1)) rfl (tz_in0 rfl)).trans ?_
    exact tz_g_ret1 (tz_in0 rfl) rfl
  · skip
    refine (tz_g_aload_n rfl (tz_in0 rfl)).trans ?_
    refine (tz_g_getr (j := 177) rfl rfl rfl rfl rfl (tz_in0 rfl)).trans ?_
    refine (tz_g_iload_n rfl (tz_in0 rfl)).trans ?_
    refine (tz_g_bipush (v := 10) rfl (tz_in0 rfl)).trans ?_
    refine (tz_g_isub (tz_in0 rfl)).trans ?_
    refine (tz_g_iald (n := 8) rfl rfl rfl (tz_in0 rfl)).trans ?_
    refine tz_cn1 ?_
    refine (tz_g_goto (t := 158) (by decide) (tz_in0 rfl)).trans ?_
    exact tz_g_ret1 (tz_in0 rfl) rfl

theorem e_X12_status_78 (z2 : Int32) (z3 : Int32) (A : tz_Mem) : q_X12_status_78 z2 z3 A =
  if (tz_g A 157 15) ≤ z3 then
  some (some (.int z2), A)
else
  if z3 < 0 ∨ 12 ≤ (Int32.toNatClampNeg z3) then none else
  if ¬ (tz_g A 175 (Int32.toNatClampNeg z3)) = 300 then
    q_X12_status_78 z2 (z3 + 1) A
  else
    q_X12_status_78 (z2 + 1) (z3 + 1) A := by
  show tz_Go 248 78 [some (.ref 157), none, some (.int z2), some (.int z3)] [] A = _
  refine (tz_g_iload_n rfl (tz_inM rfl rfl rfl)).trans ?_
  refine (tz_g_aload_n rfl (tz_in0 rfl)).trans ?_
  refine (tz_g_geti rfl rfl rfl (tz_in0 rfl)).trans ?_
  refine (tz_g_ic_ge (t := 107) (by decide) (tz_in0 rfl)).trans ?_
  refine tz_cg ?_ ?_
  · skip
    refine (tz_g_iload_n rfl (tz_in0 rfl)).trans ?_
    exact tz_g_ret1 (tz_in0 rfl) rfl
  · skip
    refine (tz_g_aload_n rfl (tz_in0 rfl)).trans ?_
    refine (tz_g_getr (j := 175) rfl rfl rfl rfl rfl (tz_in0 rfl)).trans ?_
    refine (tz_g_iload_n rfl (tz_in0 rfl)).trans ?_
    refine (tz_g_iald (n := 12) rfl rfl rfl (tz_in0 rfl)).trans ?_
    refine tz_cn1 ?_
    refine (tz_g_sipush (v := 300) rfl (tz_in0 rfl)).trans ?_
    refine (tz_g_ic_ne (t := 101) (by decide) (tz_in0 rfl)).trans ?_
    refine tz_cg ?_ ?_
    · skip
      refine (tz_g_iinc (v := 1) (L2 := [some (.ref 157), none, some (.int z2), some (.int (z3 + 1))]) rfl rfl rfl rfl (tz_in0 rfl)).trans ?_
      refine (tz_g_goto (t := 78) (by decide) (tz_in0 rfl)).trans ?_
      exact tz_Gm (L2 := [some (.ref 157), none, some (.int z2), some (.int (z3 + 1))]) rfl rfl rfl rfl
    · skip
      refine (tz_g_iinc (v := 1) (L2 := [some (.ref 157), none, some (.int (z2 + 1)), some (.int z3)]) rfl rfl rfl rfl (tz_in0 rfl)).trans ?_
      refine (tz_g_iinc (v := 1) (L2 := [some (.ref 157), none, some (.int (z2 + 1)), some (.int (z3 + 1))]) rfl rfl rfl rfl (tz_in0 rfl)).trans ?_
      refine (tz_g_goto (t := 78) (by decide) (tz_in0 rfl)).trans ?_
      exact tz_Gm (L2 := [some (.ref 157), none, some (.int (z2 + 1)), some (.int (z3 + 1))]) rfl rfl rfl rfl

theorem e_X11_row (x1 : Int32) (x2 : Int32) (x3 : Int32) (A : tz_Mem) : f_X11_row x1 x2 x3 A =
  tz_bI (f_X8_has x1 A) (fun y1 A1 =>
if ¬ y1 = 0 then
  if 0 ≤ x3 then
    if x2 < 0 then
      tz_bI (f_X11_refuse (-6) A1) (fun y2 A2 =>
      some (some (.int y2), A2))
    else
      if x2 ≤ 3 then
        if x3 ≤ 160 then
          tz_bV (f_X8_putRow x1 x2 x3 A1) (fun A2 =>
          some (some (.int 1), A2))
        else
          tz_bI (f_X11_refuse (-7) A1) (fun y2 A2 =>
          some (some (.int y2), A2))
      else
        tz_bI (f_X11_refuse (-6) A1) (fun y2 A2 =>
        some (some (.int y2), A2))
  else
    tz_bI (f_X11_refuse (-4) A1) (fun y2 A2 =>
    some (some (.int y2), A2))
else
  tz_bI (f_X11_refuse (-1) A1) (fun y2 A2 =>
  some (some (.int y2), A2))) := by
  refine (tz_Fe (L := [some (.ref 17), some (.int x1), some (.int x2), some (.int x3)]) rfl).trans ?_
  refine (tz_g_aload_n rfl (tz_in0 rfl)).trans ?_
  refine (tz_g_getr (j := 18) rfl rfl rfl rfl rfl (tz_in0 rfl)).trans ?_
  refine (tz_g_iload_n rfl (tz_in0 rfl)).trans ?_
  refine (tz_g_cv1I (m2 := 14) (rc := 4) rfl rfl rfl rfl rfl rfl (by decide) (tz_in0 rfl)).trans ?_
  refine tz_jI (fun y1 A1 => ?_)
  refine (tz_g_if_ne (t := 17) (by decide) (tz_in0 rfl)).trans ?_
  refine tz_cg ?_ ?_
  · skip
    refine (tz_g_iload_n rfl (tz_in0 rfl)).trans ?_
    refine (tz_g_if_ge (t := 28) (by decide) (tz_in0 rfl)).trans ?_
    refine tz_cg ?_ ?_
    · skip
      refine (tz_g_iload_n rfl (tz_in0 rfl)).trans ?_
      refine (tz_g_if_lt (t := 37) (by decide) (tz_in0 rfl)).trans ?_
      refine tz_cg ?_ ?_
      · skip
        refine (tz_g_aload_n rfl (tz_in0 rfl)).trans ?_
        refine (tz_g_bipush (v := (-6)) rfl (tz_in0 rfl)).trans ?_
        refine (tz_g_cv1I (m2 := 15) (rc := 1) rfl rfl rfl rfl rfl rfl (by decide) (tz_in0 rfl)).trans ?_
        refine tz_jI (fun y2 A2 => ?_)
        exact tz_g_ret1 (tz_in0 rfl) rfl
      · skip
        refine (tz_g_iload_n rfl (tz_in0 rfl)).trans ?_
        refine (tz_g_iconst (v := 3) rfl (tz_in0 rfl)).trans ?_
        refine (tz_g_ic_le (t := 44) (by decide) (tz_in0 rfl)).trans ?_
        refine tz_cg ?_ ?_
        · skip
          refine (tz_g_iload_n rfl (tz_in0 rfl)).trans ?_
          refine (tz_g_sipush (v := 160) rfl (tz_in0 rfl)).trans ?_
          refine (tz_g_ic_le (t := 58) (by decide) (tz_in0 rfl)).trans ?_
          refine tz_cg ?_ ?_
          · skip
            refine (tz_g_aload_n rfl (tz_in0 rfl)).trans ?_
            refine (tz_g_getr (j := 18) rfl rfl rfl rfl rfl (tz_in0 rfl)).trans ?_
            refine (tz_g_iload_n rfl (tz_in0 rfl)).trans ?_
            refine (tz_g_iload_n rfl (tz_in0 rfl)).trans ?_
            refine (tz_g_iload_n rfl (tz_in0 rfl)).trans ?_
            refine (tz_g_cv3V (m2 := 16) (rc := 0) rfl rfl rfl rfl rfl rfl (by decide) (tz_in0 rfl)).trans ?_
            refine tz_jV (fun A2 => ?_)
            refine (tz_g_iconst (v := 1) rfl (tz_in0 rfl)).trans ?_
            exact tz_g_ret1 (tz_in0 rfl) rfl
          · skip
            refine (tz_g_aload_n rfl (tz_in0 rfl)).trans ?_
            refine (tz_g_bipush (v := (-7)) rfl (tz_in0 rfl)).trans ?_
            refine (tz_g_cv1I (m2 := 15) (rc := 1) rfl rfl rfl rfl rfl rfl (by decide) (tz_in0 rfl)).trans ?_
            refine tz_jI (fun y2 A2 => ?_)
            exact tz_g_ret1 (tz_in0 rfl) rfl
        · skip
          refine (tz_g_aload_n rfl (tz_in0 rfl)).trans ?_
          refine (tz_g_bipush (v := (-6)) rfl (tz_in0 rfl)).trans ?_
          refine (tz_g_cv1I (m2 := 15) (rc := 1) rfl rfl rfl rfl rfl rfl (by decide) (tz_in0 rfl)).trans ?_
          refine tz_jI (fun y2 A2 => ?_)
          exact tz_g_ret1 (tz_in0 rfl) rfl
    · skip
      refine (tz_g_aload_n rfl (tz_in0 rfl)).trans ?_
      refine (tz_g_bipush (v := (-4)) rfl (tz_in0 rfl)).trans ?_
      refine (tz_g_cv1I (m2 := 15) (rc := 1) rfl rfl rfl rfl rfl rfl (by decide) (tz_in0 rfl)).trans ?_
      refine tz_jI (fun y2 A2 => ?_)
      exact tz_g_ret1 (tz_in0 rfl) rfl
  · skip
    refine (tz_g_aload_n rfl (tz_in0 rfl)).trans ?_
    refine (tz_g_iconst (v := (-1)) rfl (tz_in0 rfl)).trans ?_
    refine (tz_g_cv1I (m2 := 15) (rc := 1) rfl rfl rfl rfl rfl rfl (by decide) (tz_in0 rfl)).trans ?_
    refine tz_jI (fun y2 A2 => ?_)
    exact tz_g_ret1 (tz_in0 rfl) rfl

theorem e_X11_set (x1 : Int32) (x2 : Int32) (x3 : Int64) (A : tz_Mem) : f_X11_set x1 x2 x3 A =
  tz_bI (f_X8_refusalOfRow x1 A) (fun y1 A1 =>
if y1 = 0 then
  tz_bI (f_X8_hasElement x1 x2 A1) (fun y2 A2 =>
  if ¬ y2 = 0 then
    tz_bV (f_X8_put x1 x2 x3 A2) (fun A3 =>
    some (some (.int 1), A3))
  else
    tz_bI (f_X11_refuse (-5) A2) (fun y3 A3 =>
    some (some (.int y3), A3)))
else
  tz_bI (f_X11_refuse y1 A1) (fun y2 A2 =>
  some (some (.int y2), A2))) := by
  refine (tz_Fe (L := [some (.ref 17), some (.int x1), some (.int x2), some (.long x3), none, none]) rfl).trans ?_
  refine (tz_g_aload_n rfl (tz_in0 rfl)).trans ?_
  refine (tz_g_getr (j := 18) rfl rfl rfl rfl rfl (tz_in0 rfl)).trans ?_
  refine (tz_g_iload_n rfl (tz_in0 rfl)).trans ?_
  refine (tz_g_cv1I (m2 := 19) (rc := 1) rfl rfl rfl rfl rfl rfl (by decide) (tz_in0 rfl)).trans ?_
  refine tz_jI (fun y1 A1 => ?_)
  refine (tz_g_istore (L2 := [some (.ref 17), some (.int x1), some (.int x2), some (.long x3), none, some (.int y1)]) rfl rfl (tz_in0 rfl)).trans ?_
  refine (tz_g_iload rfl (tz_in0 rfl)).trans ?_
  refine (tz_g_if_eq (t := 22) (by decide) (tz_in0 rfl)).trans ?_
  refine tz_cg ?_ ?_
  · skip
    refine (tz_g_aload_n rfl (tz_in0 rfl)).trans ?_
    refine (tz_g_getr (j := 18) rfl rfl rfl rfl rfl (tz_in0 rfl)).trans ?_
    refine (tz_g_iload_n rfl (tz_in0 rfl)).trans ?_
    refine (tz_g_iload_n rfl (tz_in0 rfl)).trans ?_
    refine (tz_g_cv2I (m2 := 21) (rc := 4) rfl rfl rfl rfl rfl rfl (by decide) (tz_in0 rfl)).trans ?_
    refine tz_jI (fun y2 A2 => ?_)
    refine (tz_g_if_ne (t := 41) (by decide) (tz_in0 rfl)).trans ?_
    refine tz_cg ?_ ?_
    · skip
      refine (tz_g_aload_n rfl (tz_in0 rfl)).trans ?_
      refine (tz_g_getr (j := 18) rfl rfl rfl rfl rfl (tz_in0 rfl)).trans ?_
      refine (tz_g_iload_n rfl (tz_in0 rfl)).trans ?_
      refine (tz_g_iload_n rfl (tz_in0 rfl)).trans ?_
      refine (tz_g_lload_n rfl (tz_in0 rfl)).trans ?_
      refine (tz_g_cv3V (m2 := 22) (rc := 0) rfl rfl rfl rfl rfl rfl (by decide) (tz_in0 rfl)).trans ?_
      refine tz_jV (fun A3 => ?_)
      refine (tz_g_iconst (v := 1) rfl (tz_in0 rfl)).trans ?_
      exact tz_g_ret1 (tz_in0 rfl) rfl
    · skip
      refine (tz_g_aload_n rfl (tz_in0 rfl)).trans ?_
      refine (tz_g_bipush (v := (-5)) rfl (tz_in0 rfl)).trans ?_
      refine (tz_g_cv1I (m2 := 15) (rc := 1) rfl rfl rfl rfl rfl rfl (by decide) (tz_in0 rfl)).trans ?_
      refine tz_jI (fun y3 A3 => ?_)
      exact tz_g_ret1 (tz_in0 rfl) rfl
  · skip
    refine (tz_g_aload_n rfl (tz_in0 rfl)).trans ?_
    refine (tz_g_iload rfl (tz_in0 rfl)).trans ?_
    refine (tz_g_cv1I (m2 := 15) (rc := 1) rfl rfl rfl rfl rfl rfl (by decide) (tz_in0 rfl)).trans ?_
    refine tz_jI (fun y2 A2 => ?_)
    exact tz_g_ret1 (tz_in0 rfl) rfl

theorem e_X8_refusalOfRows (x1 : Int32) (x2 : Int32) (A : tz_Mem) : f_X8_refusalOfRows x1 x2 A =
  tz_bI (f_X8_refusalOfRow x1 A) (fun y1 A1 =>
tz_bI (f_X8_refusalOfRow x2 A1) (fun y2 A2 =>
if y1 = (-1) then
  some (some (.int (-1)), A2)
else
  if ¬ y2 = (-1) then
    if y1 = (-2) then
      some (some (.int (-2)), A2)
    else
      if ¬ y2 = (-2) then
        if y1 = (-3) then
          some (some (.int (-3)), A2)
        else
          if ¬ y2 = (-3) then
            if x1 < 0 ∨ 8 ≤ (Int32.toNatClampNeg x1) then none else
            if x2 < 0 ∨ 8 ≤ (Int32.toNatClampNeg x2) then none else
            if ¬ (tz_g A2 19 (Int32.toNatClampNeg x1)) = (tz_g A2 19 (Int32.toNatClampNeg x2)) then
              some (some (.int (-2)), A2)
            else
              some (some (.int 0), A2)
          else
            some (some (.int (-3)), A2)
      else
        some (some (.int (-2)), A2)
  else
    some (some (.int (-1)), A2))) := by
  refine (tz_Fe (L := [some (.ref 18), some (.int x1), some (.int x2), none, none]) rfl).trans ?_
  refine (tz_g_aload_n rfl (tz_in0 rfl)).trans ?_
  refine (tz_g_iload_n rfl (tz_in0 rfl)).trans ?_
  refine (tz_g_cv1I (m2 := 19) (rc := 1) rfl rfl rfl rfl rfl rfl (by decide) (tz_in0 rfl)).trans ?_
  refine tz_jI (fun y1 A1 => ?_)
  refine (tz_g_istore_n (L2 := [some (.ref 18), some (.int x1), some (.int x2), some (.int y1), none]) rfl rfl (tz_in0 rfl)).trans ?_
  refine (tz_g_aload_n rfl (tz_in0 rfl)).trans ?_
  refine (tz_g_iload_n rfl (tz_in0 rfl)).trans ?_
  refine (tz_g_cv1I (m2 := 19) (rc := 1) rfl rfl rfl rfl rfl rfl (by decide) (tz_in0 rfl)).trans ?_
  refine tz_jI (fun y2 A2 => ?_)
  refine (tz_g_istore (L2 := [some (.ref 18), some (.int x1), some (.int x2), some (.int y1), some (.int y2)]) rfl rfl (tz_in0 rfl)).trans ?_
  refine (tz_g_iload_n rfl (tz_in0 rfl)).trans ?_
  refine (tz_g_iconst (v := (-1)) rfl (tz_in0 rfl)).trans ?_
  refine (tz_g_ic_eq (t := 24) (by decide) (tz_in0 rfl)).trans ?_
  refine tz_cg ?_ ?_
  · skip
    refine (tz_g_iconst (v := (-1)) rfl (tz_in0 rfl)).trans ?_
    exact tz_g_ret1 (tz_in0 rfl) rfl
  · skip
    refine (tz_g_iload rfl (tz_in0 rfl)).trans ?_
    refine (tz_g_iconst (v := (-1)) rfl (tz_in0 rfl)).trans ?_
    refine (tz_g_ic_ne (t := 26) (by decide) (tz_in0 rfl)).trans ?_
    refine tz_cg ?_ ?_
    · skip
      refine (tz_g_iload_n rfl (tz_in0 rfl)).trans ?_
      refine (tz_g_bipush (v := (-2)) rfl (tz_in0 rfl)).trans ?_
      refine (tz_g_ic_eq (t := 39) (by decide) (tz_in0 rfl)).trans ?_
      refine tz_cg ?_ ?_
      · skip
        refine (tz_g_bipush (v := (-2)) rfl (tz_in0 rfl)).trans ?_
        exact tz_g_ret1 (tz_in0 rfl) rfl
      · skip
        refine (tz_g_iload rfl (tz_in0 rfl)).trans ?_
        refine (tz_g_bipush (v := (-2)) rfl (tz_in0 rfl)).trans ?_
        refine (tz_g_ic_ne (t := 42) (by decide) (tz_in0 rfl)).trans ?_
        refine tz_cg ?_ ?_
        · skip
          refine (tz_g_iload_n rfl (tz_in0 rfl)).trans ?_
          refine (tz_g_bipush (v := (-3)) rfl (tz_in0 rfl)).trans ?_
          refine (tz_g_ic_eq (t := 55) (by decide) (tz_in0 rfl)).trans ?_
          refine tz_cg ?_ ?_
          · skip
            refine (tz_g_bipush (v := (-3)) rfl (tz_in0 rfl)).trans ?_
            exact tz_g_ret1 (tz_in0 rfl) rfl
          · skip
            refine (tz_g_iload rfl (tz_in0 rfl)).trans ?_
            refine (tz_g_bipush (v := (-3)) rfl (tz_in0 rfl)).trans ?_
            refine (tz_g_ic_ne (t := 58) (by decide) (tz_in0 rfl)).trans ?_
            refine tz_cg ?_ ?_
            · skip
              refine (tz_g_aload_n rfl (tz_in0 rfl)).trans ?_
              refine (tz_g_getr (j := 19) rfl rfl rfl rfl rfl (tz_in0 rfl)).trans ?_
              refine (tz_g_iload_n rfl (tz_in0 rfl)).trans ?_
              refine (tz_g_iald (n := 8) rfl rfl rfl (tz_in0 rfl)).trans ?_
              refine tz_cn1 ?_
              refine (tz_g_aload_n rfl (tz_in0 rfl)).trans ?_
              refine (tz_g_getr (j := 19) rfl rfl rfl rfl rfl (tz_in0 rfl)).trans ?_
              refine (tz_g_iload_n rfl (tz_in0 rfl)).trans ?_
              refine (tz_g_iald (n := 8) rfl rfl rfl (tz_in0 rfl)).trans ?_
              refine tz_cn1 ?_
              refine (tz_g_ic_ne (t := 77) (by decide) (tz_in0 rfl)).trans ?_
              refine tz_cg ?_ ?_
              · skip
                refine (tz_g_bipush (v := (-2)) rfl (tz_in0 rfl)).trans ?_
                exact tz_g_ret1 (tz_in0 rfl) rfl
              · skip
                refine (tz_g_iconst (v := 0) rfl (tz_in0 rfl)).trans ?_
                refine (tz_g_goto (t := 79) (by decide) (tz_in0 rfl)).trans ?_
                exact tz_g_ret1 (tz_in0 rfl) rfl
            · skip
              refine (tz_g_bipush (v := (-3)) rfl (tz_in0 rfl)).trans ?_
              exact tz_g_ret1 (tz_in0 rfl) rfl
        · skip
          refine (tz_g_bipush (v := (-2)) rfl (tz_in0 rfl)).trans ?_
          exact tz_g_ret1 (tz_in0 rfl) rfl
    · skip
      refine (tz_g_iconst (v := (-1)) rfl (tz_in0 rfl)).trans ?_
      exact tz_g_ret1 (tz_in0 rfl) rfl

theorem e_X11_element (x1 : Int32) (x2 : Int32) (A : tz_Mem) : f_X11_element x1 x2 A =
  tz_bI (f_X8_hasElement x1 x2 A) (fun y1 A1 =>
if y1 = 0 then
  some (some (.long 0), A1)
else
  if x1 < 0 ∨ 8 ≤ (Int32.toNatClampNeg x1) then none else
  if x2 < 0 ∨ 160 ≤ (Int32.toNatClampNeg x2) then none else
  some (some (.long (tz_gl A1 (22 + (Int32.toNatClampNeg x1)) (Int32.toNatClampNeg x2))), A1)) := by
  refine (tz_Fe (L := [some (.ref 17), some (.int x1), some (.int x2)]) rfl).trans ?_
  refine (tz_g_aload_n rfl (tz_in0 rfl)).trans ?_
  refine (tz_g_getr (j := 18) rfl rfl rfl rfl rfl (tz_in0 rfl)).trans ?_
  refine (tz_g_iload_n rfl (tz_in0 rfl)).trans ?_
  refine (tz_g_iload_n rfl (tz_in0 rfl)).trans ?_
  refine (tz_g_cv2I (m2 := 21) (rc := 4) rfl rfl rfl rfl rfl rfl (by decide) (tz_in0 rfl)).trans ?_
  refine tz_jI (fun y1 A1 => ?_)
  refine (tz_g_if_eq (t := 26) (by decide) (tz_in0 rfl)).trans ?_
  refine tz_cg ?_ ?_
  · skip
    refine (tz_g_lconst (v := 0) rfl (tz_in0 rfl)).trans ?_
    exact tz_g_ret2 (tz_in0 rfl) rfl
  · skip
    refine (tz_g_aload_n rfl (tz_in0 rfl)).trans ?_
    refine (tz_g_getr (j := 18) rfl rfl rfl rfl rfl (tz_in0 rfl)).trans ?_
    refine (tz_g_getr (j := 21) rfl rfl rfl rfl rfl (tz_in0 rfl)).trans ?_
    refine (tz_g_iload_n rfl (tz_in0 rfl)).trans ?_
    refine (tz_g_aald (n := 8) rfl rfl (tz_in0 rfl)).trans ?_
    refine tz_cnh (fun h_0 => ?_)
    refine (tz_g_iload_n rfl (tz_in0 rfl)).trans ?_
    refine (tz_g_lald (n := 160) (tz_okx (tz_rwi h_0) rfl) (tz_lnx (tz_rwi h_0)) (tz_in0 rfl)).trans ?_
    refine tz_cn1 ?_
    refine (tz_g_goto (t := 27) (by decide) (tz_in0 rfl)).trans ?_
    exact tz_g_ret2 (tz_in0 rfl) rfl

theorem e_X11_says (x1 : Int32) (x2 : Int32) (A : tz_Mem) : f_X11_says x1 x2 A =
  tz_bI (f_X8_has x1 A) (fun y1 A1 =>
if y1 = 0 then
  tz_bI (f_X11_refuse (-1) A1) (fun y2 A2 =>
  some (some (.int y2), A2))
else
  tz_bI (f_X11_isKind x2 A1) (fun y2 A2 =>
  if ¬ y2 = 0 then
    tz_bI (f_X8_holdsRow x1 A2) (fun y3 A3 =>
    if y3 = 0 then
      if x1 < 0 ∨ 8 ≤ (Int32.toNatClampNeg x1) then none else
      tz_bI (f_X3_has 30 (tz_g A3 19 (Int32.toNatClampNeg x1)) A3) (fun y4 A4 =>
      if ¬ y4 = 0 then
        tz_bI (f_X3_isOne 30 (tz_g A3 19 (Int32.toNatClampNeg x1)) x2 A4) (fun y5 A5 =>
        if ¬ y5 = 0 then
          tz_bI (f_X3_answer 30 (tz_g A3 19 (Int32.toNatClampNeg x1)) x2 A5) (fun y6 A6 =>
          some (some (.int y6), A6))
        else
          tz_bI (f_X11_refuse (-2) A5) (fun y6 A6 =>
          some (some (.int y6), A6)))
      else
        tz_bI (f_X11_refuse (-3) A4) (fun y5 A5 =>
        some (some (.int y5), A5)))
    else
      tz_bI (f_X11_refuse (-2) A3) (fun y4 A4 =>
      some (some (.int y4), A4)))
  else
    tz_bI (f_X11_refuse (-1) A2) (fun y3 A3 =>
    some (some (.int y3), A3)))) := by
  refine (tz_Fe (L := [some (.ref 17), some (.int x1), some (.int x2), none]) rfl).trans ?_
  refine (tz_g_aload_n rfl (tz_in0 rfl)).trans ?_
  refine (tz_g_getr (j := 18) rfl rfl rfl rfl rfl (tz_in0 rfl)).trans ?_
  refine (tz_g_iload_n rfl (tz_in0 rfl)).trans ?_
  refine (tz_g_cv1I (m2 := 14) (rc := 4) rfl rfl rfl rfl rfl rfl (by decide) (tz_in0 rfl)).trans ?_
  refine tz_jI (fun y1 A1 => ?_)
  refine (tz_g_if_eq (t := 18) (by decide) (tz_in0 rfl)).trans ?_
  refine tz_cg ?_ ?_
  · skip
    refine (tz_g_aload_n rfl (tz_in0 rfl)).trans ?_
    refine (tz_g_iconst (v := (-1)) rfl (tz_in0 rfl)).trans ?_
    refine (tz_g_cv1I (m2 := 15) (rc := 1) rfl rfl rfl rfl rfl rfl (by decide) (tz_in0 rfl)).trans ?_
    refine tz_jI (fun y2 A2 => ?_)
    exact tz_g_ret1 (tz_in0 rfl) rfl
  · skip
    refine (tz_g_iload_n rfl (tz_in0 rfl)).trans ?_
    refine (tz_g_cs1I (m2 := 31) (rc := 4) rfl rfl rfl rfl rfl rfl (by decide) (tz_in0 rfl)).trans ?_
    refine tz_jI (fun y2 A2 => ?_)
    refine (tz_g_if_ne (t := 24) (by decide) (tz_in0 rfl)).trans ?_
    refine tz_cg ?_ ?_
    · skip
      refine (tz_g_aload_n rfl (tz_in0 rfl)).trans ?_
      refine (tz_g_getr (j := 18) rfl rfl rfl rfl rfl (tz_in0 rfl)).trans ?_
      refine (tz_g_iload_n rfl (tz_in0 rfl)).trans ?_
      refine (tz_g_cv1I (m2 := 20) (rc := 4) rfl rfl rfl rfl rfl rfl (by decide) (tz_in0 rfl)).trans ?_
      refine tz_jI (fun y3 A3 => ?_)
      refine (tz_g_if_eq (t := 42) (by decide) (tz_in0 rfl)).trans ?_
      refine tz_cg ?_ ?_
      · skip
        refine (tz_g_aload_n rfl (tz_in0 rfl)).trans ?_
        refine (tz_g_getr (j := 18) rfl rfl rfl rfl rfl (tz_in0 rfl)).trans ?_
        refine (tz_g_getr (j := 19) rfl rfl rfl rfl rfl (tz_in0 rfl)).trans ?_
        refine (tz_g_iload_n rfl (tz_in0 rfl)).trans ?_
        refine (tz_g_iald (n := 8) rfl rfl rfl (tz_in0 rfl)).trans ?_
        refine tz_cn1 ?_
        refine (tz_g_istore_n (L2 := [some (.ref 17), some (.int x1), some (.int x2), some (.int (tz_g A3 19 (Int32.toNatClampNeg x1)))]) rfl rfl (tz_in0 rfl)).trans ?_
        refine (tz_g_aload_n rfl (tz_in0 rfl)).trans ?_
        refine (tz_g_getr (j := 30) rfl rfl rfl rfl rfl (tz_in0 rfl)).trans ?_
        refine (tz_g_getr (j := 31) rfl rfl rfl rfl rfl (tz_in0 rfl)).trans ?_
        refine (tz_g_iload_n rfl (tz_in0 rfl)).trans ?_
        refine (tz_g_cv1I (m2 := 28) (rc := 4) rfl rfl rfl rfl rfl rfl (by decide) (tz_in0 rfl)).trans ?_
        refine tz_jI (fun y4 A4 => ?_)
        refine (tz_g_if_ne (t := 73) (by decide) (tz_in0 rfl)).trans ?_
        refine tz_cg ?_ ?_
        · skip
          refine (tz_g_aload_n rfl (tz_in0 rfl)).trans ?_
          refine (tz_g_getr (j := 30) rfl rfl rfl rfl rfl (tz_in0 rfl)).trans ?_
          refine (tz_g_getr (j := 31) rfl rfl rfl rfl rfl (tz_in0 rfl)).trans ?_
          refine (tz_g_iload_n rfl (tz_in0 rfl)).trans ?_
          refine (tz_g_iload_n rfl (tz_in0 rfl)).trans ?_
          refine (tz_g_cv2I (m2 := 32) (rc := 4) rfl rfl rfl rfl rfl rfl (by decide) (tz_in0 rfl)).trans ?_
          refine tz_jI (fun y5 A5 => ?_)
          refine (tz_g_if_ne (t := 95) (by decide) (tz_in0 rfl)).trans ?_
          refine tz_cg ?_ ?_
          · skip
            refine (tz_g_aload_n rfl (tz_in0 rfl)).trans ?_
            refine (tz_g_getr (j := 30) rfl rfl rfl rfl rfl (tz_in0 rfl)).trans ?_
            refine (tz_g_getr (j := 31) rfl rfl rfl rfl rfl (tz_in0 rfl)).trans ?_
            refine (tz_g_iload_n rfl (tz_in0 rfl)).trans ?_
            refine (tz_g_iload_n rfl (tz_in0 rfl)).trans ?_
            refine (tz_g_cv2I (m2 := 33) (rc := 1) rfl rfl rfl rfl rfl rfl (by decide) (tz_in0 rfl)).trans ?_
            refine tz_jI (fun y6 A6 => ?_)
            exact tz_g_ret1 (tz_in0 rfl) rfl
          · skip
            refine (tz_g_aload_n rfl (tz_in0 rfl)).trans ?_
            refine (tz_g_bipush (v := (-2)) rfl (tz_in0 rfl)).trans ?_
            refine (tz_g_cv1I (m2 := 15) (rc := 1) rfl rfl rfl rfl rfl rfl (by decide) (tz_in0 rfl)).trans ?_
            refine tz_jI (fun y6 A6 => ?_)
            exact tz_g_ret1 (tz_in0 rfl) rfl
        · skip
          refine (tz_g_aload_n rfl (tz_in0 rfl)).trans ?_
          refine (tz_g_bipush (v := (-3)) rfl (tz_in0 rfl)).trans ?_
          refine (tz_g_cv1I (m2 := 15) (rc := 1) rfl rfl rfl rfl rfl rfl (by decide) (tz_in0 rfl)).trans ?_
          refine tz_jI (fun y5 A5 => ?_)
          exact tz_g_ret1 (tz_in0 rfl) rfl
      · skip
        refine (tz_g_aload_n rfl (tz_in0 rfl)).trans ?_
        refine (tz_g_bipush (v := (-2)) rfl (tz_in0 rfl)).trans ?_
        refine (tz_g_cv1I (m2 := 15) (rc := 1) rfl rfl rfl rfl rfl rfl (by decide) (tz_in0 rfl)).trans ?_
        refine tz_jI (fun y4 A4 => ?_)
        exact tz_g_ret1 (tz_in0 rfl) rfl
    · skip
      refine (tz_g_aload_n rfl (tz_in0 rfl)).trans ?_
      refine (tz_g_iconst (v := (-1)) rfl (tz_in0 rfl)).trans ?_
      refine (tz_g_cv1I (m2 := 15) (rc := 1) rfl rfl rfl rfl rfl rfl (by decide) (tz_in0 rfl)).trans ?_
      refine tz_jI (fun y3 A3 => ?_)
      exact tz_g_ret1 (tz_in0 rfl) rfl

theorem e_X8_refusalOfElements (x1 : Int32) (x2 : Int32) (A : tz_Mem) : f_X8_refusalOfElements x1 x2 A =
  tz_bI (f_X8_refusalOfRow x1 A) (fun y1 A1 =>
if y1 = 0 then
  if 0 ≤ x2 then
    if x1 < 0 ∨ 8 ≤ (Int32.toNatClampNeg x1) then none else
    if x2 ≤ (tz_g A1 20 (Int32.toNatClampNeg x1)) then
      some (some (.int 0), A1)
    else
      some (some (.int (-5)), A1)
  else
    some (some (.int (-4)), A1)
else
  some (some (.int y1), A1)) := by
  refine (tz_Fe (L := [some (.ref 18), some (.int x1), some (.int x2), none]) rfl).trans ?_
  refine (tz_g_aload_n rfl (tz_in0 rfl)).trans ?_
  refine (tz_g_iload_n rfl (tz_in0 rfl)).trans ?_
  refine (tz_g_cv1I (m2 := 19) (rc := 1) rfl rfl rfl rfl rfl rfl (by decide) (tz_in0 rfl)).trans ?_
  refine tz_jI (fun y1 A1 => ?_)
  refine (tz_g_istore_n (L2 := [some (.ref 18), some (.int x1), some (.int x2), some (.int y1)]) rfl rfl (tz_in0 rfl)).trans ?_
  refine (tz_g_iload_n rfl (tz_in0 rfl)).trans ?_
  refine (tz_g_if_eq (t := 12) (by decide) (tz_in0 rfl)).trans ?_
  refine tz_cg ?_ ?_
  · skip
    refine (tz_g_iload_n rfl (tz_in0 rfl)).trans ?_
    refine (tz_g_if_ge (t := 19) (by decide) (tz_in0 rfl)).trans ?_
    refine tz_cg ?_ ?_
    · skip
      refine (tz_g_iload_n rfl (tz_in0 rfl)).trans ?_
      refine (tz_g_aload_n rfl (tz_in0 rfl)).trans ?_
      refine (tz_g_getr (j := 20) rfl rfl rfl rfl rfl (tz_in0 rfl)).trans ?_
      refine (tz_g_iload_n rfl (tz_in0 rfl)).trans ?_
      refine (tz_g_iald (n := 8) rfl rfl rfl (tz_in0 rfl)).trans ?_
      refine tz_cn1 ?_
      refine (tz_g_ic_le (t := 34) (by decide) (tz_in0 rfl)).trans ?_
      refine tz_cg ?_ ?_
      · skip
        refine (tz_g_iconst (v := 0) rfl (tz_in0 rfl)).trans ?_
        exact tz_g_ret1 (tz_in0 rfl) rfl
      · skip
        refine (tz_g_bipush (v := (-5)) rfl (tz_in0 rfl)).trans ?_
        refine (tz_g_goto (t := 35) (by decide) (tz_in0 rfl)).trans ?_
        exact tz_g_ret1 (tz_in0 rfl) rfl
    · skip
      refine (tz_g_bipush (v := (-4)) rfl (tz_in0 rfl)).trans ?_
      exact tz_g_ret1 (tz_in0 rfl) rfl
  · skip
    refine (tz_g_iload_n rfl (tz_in0 rfl)).trans ?_
    exact tz_g_ret1 (tz_in0 rfl) rfl

theorem e_X11_letter (x1 : Int32) (x2 : Int32) (x3 : Int32) (x4 : Int32) (A : tz_Mem) : f_X11_letter x1 x2 x3 x4 A =
  tz_bI (f_X11_refusalOfLetter x1 x2 x3 x4 A) (fun y1 A1 =>
if y1 = 0 then
  tz_bI (f_X9_addLetter 30 x1 x2 x3 x4 A1) (fun y2 A2 =>
  some (some (.int y2), A2))
else
  tz_bI (f_X11_refuse y1 A1) (fun y2 A2 =>
  some (some (.int y2), A2))) := by
  refine (tz_Fe (L := [some (.ref 17), some (.int x1), some (.int x2), some (.int x3), some (.int x4), none]) rfl).trans ?_
  refine (tz_g_aload_n rfl (tz_in0 rfl)).trans ?_
  refine (tz_g_iload_n rfl (tz_in0 rfl)).trans ?_
  refine (tz_g_iload_n rfl (tz_in0 rfl)).trans ?_
  refine (tz_g_iload_n rfl (tz_in0 rfl)).trans ?_
  refine (tz_g_iload rfl (tz_in0 rfl)).trans ?_
  refine (tz_g_cv4I (m2 := 49) (rc := 1) rfl rfl rfl rfl rfl rfl (by decide) (tz_in0 rfl)).trans ?_
  refine tz_jI (fun y1 A1 => ?_)
  refine (tz_g_istore (L2 := [some (.ref 17), some (.int x1), some (.int x2), some (.int x3), some (.int x4), some (.int y1)]) rfl rfl (tz_in0 rfl)).trans ?_
  refine (tz_g_iload rfl (tz_in0 rfl)).trans ?_
  refine (tz_g_if_eq (t := 23) (by decide) (tz_in0 rfl)).trans ?_
  refine tz_cg ?_ ?_
  · skip
    refine (tz_g_aload_n rfl (tz_in0 rfl)).trans ?_
    refine (tz_g_getr (j := 30) rfl rfl rfl rfl rfl (tz_in0 rfl)).trans ?_
    refine (tz_g_iload_n rfl (tz_in0 rfl)).trans ?_
    refine (tz_g_iload_n rfl (tz_in0 rfl)).trans ?_
    refine (tz_g_iload_n rfl (tz_in0 rfl)).trans ?_
    refine (tz_g_iload rfl (tz_in0 rfl)).trans ?_
    refine (tz_g_cv4I (m2 := 52) (rc := 1) rfl rfl rfl rfl rfl rfl (by decide) (tz_in0 rfl)).trans ?_
    refine tz_jI (fun y2 A2 => ?_)
    exact tz_g_ret1 (tz_in0 rfl) rfl
  · skip
    refine (tz_g_aload_n rfl (tz_in0 rfl)).trans ?_
    refine (tz_g_iload rfl (tz_in0 rfl)).trans ?_
    refine (tz_g_cv1I (m2 := 15) (rc := 1) rfl rfl rfl rfl rfl rfl (by decide) (tz_in0 rfl)).trans ?_
    refine tz_jI (fun y2 A2 => ?_)
    exact tz_g_ret1 (tz_in0 rfl) rfl

theorem e_X10_allAt (b : Nat) (x1 : Int32) (hb : tz_sky b) (A : tz_Mem) : f_X10_allAt b x1 A =
  q_X10_allAt_4 b x1 0 0 A := by
  obtain rfl | rfl | rfl | rfl | rfl := hb
  all_goals
    refine (tz_Fe (L := [some (.ref _), some (.int x1), none, none]) rfl).trans ?_
    refine (tz_g_iconst (v := 0) rfl (tz_in0 rfl)).trans ?_
    refine (tz_g_istore_n (L2 := [some (.ref _), some (.int x1), some (.int 0), none]) rfl rfl (tz_in0 rfl)).trans ?_
    refine (tz_g_iconst (v := 0) rfl (tz_in0 rfl)).trans ?_
    refine (tz_g_istore_n (L2 := [some (.ref _), some (.int x1), some (.int 0), some (.int 0)]) rfl rfl (tz_in0 rfl)).trans ?_
    exact tz_Gm (L2 := [some (.ref _), some (.int x1), some (.int 0), some (.int 0)]) rfl rfl rfl rfl

theorem e_X10_allAt_4 (b : Nat) (z1 : Int32) (z2 : Int32) (z3 : Int32) (hb : tz_sky b) (A : tz_Mem) : q_X10_allAt_4 b z1 z2 z3 A =
  if (tz_g A (b + 7) 0) ≤ z3 then
  some (some (.int z2), A)
else
  tz_bI (f_X10_hillOfStorm b z3 A) (fun y1 A1 =>
  if ¬ y1 = z1 then
    q_X10_allAt_4 b z1 z2 (z3 + 1) A1
  else
    q_X10_allAt_4 b z1 (z2 ||| (1 <<< (z3 &&& 31))) (z3 + 1) A1) := by
  obtain rfl | rfl | rfl | rfl | rfl := hb
  all_goals
    show tz_Go 55 4 _ [] A = _
    refine (tz_g_iload_n rfl (tz_inM rfl rfl rfl)).trans ?_
    refine (tz_g_aload_n rfl (tz_in0 rfl)).trans ?_
    refine (tz_g_geti rfl rfl rfl (tz_in0 rfl)).trans ?_
    refine (tz_g_ic_ge (t := 33) (by decide) (tz_in0 rfl)).trans ?_
    refine tz_cg ?_ ?_
    · skip
      refine (tz_g_iload_n rfl (tz_in0 rfl)).trans ?_
      exact tz_g_ret1 (tz_in0 rfl) rfl
    · skip
      refine (tz_g_aload_n rfl (tz_in0 rfl)).trans ?_
      refine (tz_g_iload_n rfl (tz_in0 rfl)).trans ?_
      refine (tz_g_cv1I (m2 := 56) (rc := 1) rfl rfl rfl rfl rfl rfl (by decide) (tz_in0 rfl)).trans ?_
      refine tz_jI (fun y1 A1 => ?_)
      refine (tz_g_iload_n rfl (tz_in0 rfl)).trans ?_
      refine (tz_g_ic_ne (t := 27) (by decide) (tz_in0 rfl)).trans ?_
      refine tz_cg ?_ ?_
      · skip
        refine (tz_g_iinc (v := 1) (L2 := [some (.ref _), some (.int z1), some (.int z2), some (.int (z3 + 1))]) rfl rfl rfl rfl (tz_in0 rfl)).trans ?_
        refine (tz_g_goto (t := 4) (by decide) (tz_in0 rfl)).trans ?_
        exact tz_Gm (L2 := [some (.ref _), some (.int z1), some (.int z2), some (.int (z3 + 1))]) rfl rfl rfl rfl
      · skip
        refine (tz_g_iload_n rfl (tz_in0 rfl)).trans ?_
        refine (tz_g_iconst (v := 1) rfl (tz_in0 rfl)).trans ?_
        refine (tz_g_iload_n rfl (tz_in0 rfl)).trans ?_
        refine (tz_g_ishl (tz_in0 rfl)).trans ?_
        refine (tz_g_ior (tz_in0 rfl)).trans ?_
        refine (tz_g_istore_n (L2 := [some (.ref _), some (.int z1), some (.int (z2 ||| (1 <<< (z3 &&& 31)))), some (.int z3)]) rfl rfl (tz_in0 rfl)).trans ?_
        refine (tz_g_iinc (v := 1) (L2 := [some (.ref _), some (.int z1), some (.int (z2 ||| (1 <<< (z3 &&& 31)))), some (.int (z3 + 1))]) rfl rfl rfl rfl (tz_in0 rfl)).trans ?_
        refine (tz_g_goto (t := 4) (by decide) (tz_in0 rfl)).trans ?_
        exact tz_Gm (L2 := [some (.ref _), some (.int z1), some (.int (z2 ||| (1 <<< (z3 &&& 31)))), some (.int (z3 + 1))]) rfl rfl rfl rfl

theorem e_X11_stormOf (x1 : Int32) (x2 : Int32) (A : tz_Mem) : f_X11_stormOf x1 x2 A =
  tz_bI (f_X10_has 30 x1 A) (fun y1 A1 =>
if ¬ y1 = 0 then
  if x2 = 0 then
    tz_bI (f_X10_hillOfStorm 30 x1 A1) (fun y2 A2 =>
    some (some (.int y2), A2))
  else if x2 = 1 then
    if x1 < 0 ∨ 4 ≤ (Int32.toNatClampNeg x1) then none else
    some (some (.int (tz_g A1 38 (Int32.toNatClampNeg x1))), A1)
  else if x2 = 2 then
    if x1 < 0 ∨ 4 ≤ (Int32.toNatClampNeg x1) then none else
    some (some (.int (tz_g A1 39 (Int32.toNatClampNeg x1))), A1)
  else if x2 = 3 then
    if x1 < 0 ∨ 4 ≤ (Int32.toNatClampNeg x1) then none else
    some (some (.int (tz_g A1 40 (Int32.toNatClampNeg x1))), A1)
  else if x2 = 4 then
    if x1 < 0 ∨ 4 ≤ (Int32.toNatClampNeg x1) then none else
    some (some (.int (tz_g A1 44 (Int32.toNatClampNeg x1))), A1)
  else if x2 = 5 then
    if x1 < 0 ∨ 4 ≤ (Int32.toNatClampNeg x1) then none else
    some (some (.int (tz_g A1 41 (Int32.toNatClampNeg x1))), A1)
  else tz_bI (f_X11_wayOf x1 x2 A1) (fun y2 A2 =>
  some (some (.int y2), A2))
else
  tz_bI (f_X11_refuse (-5) A1) (fun y2 A2 =>
  some (some (.int y2), A2))) := by
  refine (tz_Fe (L := [some (.ref 17), some (.int x1), some (.int x2)]) rfl).trans ?_
  refine (tz_g_aload_n rfl (tz_in0 rfl)).trans ?_
  refine (tz_g_getr (j := 30) rfl rfl rfl rfl rfl (tz_in0 rfl)).trans ?_
  refine (tz_g_getr (j := 37) rfl rfl rfl rfl rfl (tz_in0 rfl)).trans ?_
  refine (tz_g_iload_n rfl (tz_in0 rfl)).trans ?_
  refine (tz_g_cv1I (m2 := 59) (rc := 4) rfl rfl rfl rfl rfl rfl (by decide) (tz_in0 rfl)).trans ?_
  refine tz_jI (fun y1 A1 => ?_)
  refine (tz_g_if_ne (t := 21) (by decide) (tz_in0 rfl)).trans ?_
  refine tz_cg ?_ ?_
  · skip
    refine (tz_g_iload_n rfl (tz_in0 rfl)).trans ?_
    refine (tz_g_tsw (by decide) (tz_in0 rfl)).trans ?_
    refine tz_swc (v := 0) (by decide) ?_ ?_
    · refine (tz_tg (t := 60) (by decide)).trans ?_
      refine (tz_g_aload_n rfl (tz_in0 rfl)).trans ?_
      refine (tz_g_getr (j := 30) rfl rfl rfl rfl rfl (tz_in0 rfl)).trans ?_
      refine (tz_g_getr (j := 37) rfl rfl rfl rfl rfl (tz_in0 rfl)).trans ?_
      refine (tz_g_iload_n rfl (tz_in0 rfl)).trans ?_
      refine (tz_g_cv1I (m2 := 56) (rc := 1) rfl rfl rfl rfl rfl rfl (by decide) (tz_in0 rfl)).trans ?_
      refine tz_jI (fun y2 A2 => ?_)
      exact tz_g_ret1 (tz_in0 rfl) rfl
    refine tz_swc (v := 1) (by decide) ?_ ?_
    · refine (tz_tg (t := 72) (by decide)).trans ?_
      refine (tz_g_aload_n rfl (tz_in0 rfl)).trans ?_
      refine (tz_g_getr (j := 30) rfl rfl rfl rfl rfl (tz_in0 rfl)).trans ?_
      refine (tz_g_getr (j := 37) rfl rfl rfl rfl rfl (tz_in0 rfl)).trans ?_
      refine (tz_g_getr (j := 38) rfl rfl rfl rfl rfl (tz_in0 rfl)).trans ?_
      refine (tz_g_iload_n rfl (tz_in0 rfl)).trans ?_
      refine (tz_g_iald (n := 4) rfl rfl rfl (tz_in0 rfl)).trans ?_
      refine tz_cn1 ?_
      exact tz_g_ret1 (tz_in0 rfl) rfl
    refine tz_swc (v := 2) (by decide) ?_ ?_
    · refine (tz_tg (t := 85) (by decide)).trans ?_
      refine (tz_g_aload_n rfl (tz_in0 rfl)).trans ?_
      refine (tz_g_getr (j := 30) rfl rfl rfl rfl rfl (tz_in0 rfl)).trans ?_
      refine (tz_g_getr (j := 37) rfl rfl rfl rfl rfl (tz_in0 rfl)).trans ?_
      refine (tz_g_getr (j := 39) rfl rfl rfl rfl rfl (tz_in0 rfl)).trans ?_
      refine (tz_g_iload_n rfl (tz_in0 rfl)).trans ?_
      refine (tz_g_iald (n := 4) rfl rfl rfl (tz_in0 rfl)).trans ?_
      refine tz_cn1 ?_
      exact tz_g_ret1 (tz_in0 rfl) rfl
    refine tz_swc (v := 3) (by decide) ?_ ?_
    · refine (tz_tg (t := 98) (by decide)).trans ?_
      refine (tz_g_aload_n rfl (tz_in0 rfl)).trans ?_
      refine (tz_g_getr (j := 30) rfl rfl rfl rfl rfl (tz_in0 rfl)).trans ?_
      refine (tz_g_getr (j := 37) rfl rfl rfl rfl rfl (tz_in0 rfl)).trans ?_
      refine (tz_g_getr (j := 40) rfl rfl rfl rfl rfl (tz_in0 rfl)).trans ?_
      refine (tz_g_iload_n rfl (tz_in0 rfl)).trans ?_
      refine (tz_g_iald (n := 4) rfl rfl rfl (tz_in0 rfl)).trans ?_
      refine tz_cn1 ?_
      exact tz_g_ret1 (tz_in0 rfl) rfl
    refine tz_swc (v := 4) (by decide) ?_ ?_
    · refine (tz_tg (t := 111) (by decide)).trans ?_
      refine (tz_g_aload_n rfl (tz_in0 rfl)).trans ?_
      refine (tz_g_getr (j := 30) rfl rfl rfl rfl rfl (tz_in0 rfl)).trans ?_
      refine (tz_g_getr (j := 37) rfl rfl rfl rfl rfl (tz_in0 rfl)).trans ?_
      refine (tz_g_getr (j := 44) rfl rfl rfl rfl rfl (tz_in0 rfl)).trans ?_
      refine (tz_g_iload_n rfl (tz_in0 rfl)).trans ?_
      refine (tz_g_iald (n := 4) rfl rfl rfl (tz_in0 rfl)).trans ?_
      refine tz_cn1 ?_
      exact tz_g_ret1 (tz_in0 rfl) rfl
    refine tz_swc (v := 5) (by decide) ?_ ?_
    · refine (tz_tg (t := 124) (by decide)).trans ?_
      refine (tz_g_aload_n rfl (tz_in0 rfl)).trans ?_
      refine (tz_g_getr (j := 30) rfl rfl rfl rfl rfl (tz_in0 rfl)).trans ?_
      refine (tz_g_getr (j := 37) rfl rfl rfl rfl rfl (tz_in0 rfl)).trans ?_
      refine (tz_g_getr (j := 41) rfl rfl rfl rfl rfl (tz_in0 rfl)).trans ?_
      refine (tz_g_iload_n rfl (tz_in0 rfl)).trans ?_
      refine (tz_g_iald (n := 4) rfl rfl rfl (tz_in0 rfl)).trans ?_
      refine tz_cn1 ?_
      exact tz_g_ret1 (tz_in0 rfl) rfl
    refine tz_swd ?_
    refine (tz_tg (t := 137) (by decide)).trans ?_
    refine (tz_g_aload_n rfl (tz_in0 rfl)).trans ?_
    refine (tz_g_iload_n rfl (tz_in0 rfl)).trans ?_
    refine (tz_g_iload_n rfl (tz_in0 rfl)).trans ?_
    refine (tz_g_cv2I (m2 := 60) (rc := 1) rfl rfl rfl rfl rfl rfl (by decide) (tz_in0 rfl)).trans ?_
    refine tz_jI (fun y2 A2 => ?_)
    exact tz_g_ret1 (tz_in0 rfl) rfl
  · skip
    refine (tz_g_aload_n rfl (tz_in0 rfl)).trans ?_
    refine (tz_g_bipush (v := (-5)) rfl (tz_in0 rfl)).trans ?_
    refine (tz_g_cv1I (m2 := 15) (rc := 1) rfl rfl rfl rfl rfl rfl (by decide) (tz_in0 rfl)).trans ?_
    refine tz_jI (fun y2 A2 => ?_)
    exact tz_g_ret1 (tz_in0 rfl) rfl

theorem e_X11_heard (x1 : Int32) (x2 : Int32) (A : tz_Mem) : f_X11_heard x1 x2 A =
  tz_bI (f_X3_has 30 x1 A) (fun y1 A1 =>
if ¬ y1 = 0 then
  tz_bI (f_X3_countKept 30 x1 A1) (fun y2 A2 =>
  if ¬ x2 = (-1) then
    if x2 < 0 then
      tz_bI (f_X11_refuse (-5) A2) (fun y3 A3 =>
      some (some (.int y3), A3))
    else
      if x2 < y2 then
        tz_bI (f_X3_keptWord 30 x1 x2 A2) (fun y3 A3 =>
        some (some (.int y3), A3))
      else
        tz_bI (f_X11_refuse (-5) A2) (fun y3 A3 =>
        some (some (.int y3), A3))
  else
    some (some (.int y2), A2))
else
  tz_bI (f_X11_refuse (-1) A1) (fun y2 A2 =>
  some (some (.int y2), A2))) := by
  refine (tz_Fe (L := [some (.ref 17), some (.int x1), some (.int x2), none]) rfl).trans ?_
  refine (tz_g_aload_n rfl (tz_in0 rfl)).trans ?_
  refine (tz_g_getr (j := 30) rfl rfl rfl rfl rfl (tz_in0 rfl)).trans ?_
  refine (tz_g_getr (j := 31) rfl rfl rfl rfl rfl (tz_in0 rfl)).trans ?_
  refine (tz_g_iload_n rfl (tz_in0 rfl)).trans ?_
  refine (tz_g_cv1I (m2 := 28) (rc := 4) rfl rfl rfl rfl rfl rfl (by decide) (tz_in0 rfl)).trans ?_
  refine tz_jI (fun y1 A1 => ?_)
  refine (tz_g_if_ne (t := 20) (by decide) (tz_in0 rfl)).trans ?_
  refine tz_cg ?_ ?_
  · skip
    refine (tz_g_aload_n rfl (tz_in0 rfl)).trans ?_
    refine (tz_g_getr (j := 30) rfl rfl rfl rfl rfl (tz_in0 rfl)).trans ?_
    refine (tz_g_getr (j := 31) rfl rfl rfl rfl rfl (tz_in0 rfl)).trans ?_
    refine (tz_g_iload_n rfl (tz_in0 rfl)).trans ?_
    refine (tz_g_cv1I (m2 := 64) (rc := 1) rfl rfl rfl rfl rfl rfl (by decide) (tz_in0 rfl)).trans ?_
    refine tz_jI (fun y2 A2 => ?_)
    refine (tz_g_istore_n (L2 := [some (.ref 17), some (.int x1), some (.int x2), some (.int y2)]) rfl rfl (tz_in0 rfl)).trans ?_
    refine (tz_g_iload_n rfl (tz_in0 rfl)).trans ?_
    refine (tz_g_iconst (v := (-1)) rfl (tz_in0 rfl)).trans ?_
    refine (tz_g_ic_ne (t := 39) (by decide) (tz_in0 rfl)).trans ?_
    refine tz_cg ?_ ?_
    · skip
      refine (tz_g_iload_n rfl (tz_in0 rfl)).trans ?_
      refine (tz_g_if_lt (t := 48) (by decide) (tz_in0 rfl)).trans ?_
      refine tz_cg ?_ ?_
      · skip
        refine (tz_g_aload_n rfl (tz_in0 rfl)).trans ?_
        refine (tz_g_bipush (v := (-5)) rfl (tz_in0 rfl)).trans ?_
        refine (tz_g_cv1I (m2 := 15) (rc := 1) rfl rfl rfl rfl rfl rfl (by decide) (tz_in0 rfl)).trans ?_
        refine tz_jI (fun y3 A3 => ?_)
        exact tz_g_ret1 (tz_in0 rfl) rfl
      · skip
        refine (tz_g_iload_n rfl (tz_in0 rfl)).trans ?_
        refine (tz_g_iload_n rfl (tz_in0 rfl)).trans ?_
        refine (tz_g_ic_lt (t := 55) (by decide) (tz_in0 rfl)).trans ?_
        refine tz_cg ?_ ?_
        · skip
          refine (tz_g_aload_n rfl (tz_in0 rfl)).trans ?_
          refine (tz_g_getr (j := 30) rfl rfl rfl rfl rfl (tz_in0 rfl)).trans ?_
          refine (tz_g_getr (j := 31) rfl rfl rfl rfl rfl (tz_in0 rfl)).trans ?_
          refine (tz_g_iload_n rfl (tz_in0 rfl)).trans ?_
          refine (tz_g_iload_n rfl (tz_in0 rfl)).trans ?_
          refine (tz_g_cv2I (m2 := 65) (rc := 1) rfl rfl rfl rfl rfl rfl (by decide) (tz_in0 rfl)).trans ?_
          refine tz_jI (fun y3 A3 => ?_)
          exact tz_g_ret1 (tz_in0 rfl) rfl
        · skip
          refine (tz_g_aload_n rfl (tz_in0 rfl)).trans ?_
          refine (tz_g_bipush (v := (-5)) rfl (tz_in0 rfl)).trans ?_
          refine (tz_g_cv1I (m2 := 15) (rc := 1) rfl rfl rfl rfl rfl rfl (by decide) (tz_in0 rfl)).trans ?_
          refine tz_jI (fun y3 A3 => ?_)
          exact tz_g_ret1 (tz_in0 rfl) rfl
    · skip
      refine (tz_g_iload_n rfl (tz_in0 rfl)).trans ?_
      exact tz_g_ret1 (tz_in0 rfl) rfl
  · skip
    refine (tz_g_aload_n rfl (tz_in0 rfl)).trans ?_
    refine (tz_g_iconst (v := (-1)) rfl (tz_in0 rfl)).trans ?_
    refine (tz_g_cv1I (m2 := 15) (rc := 1) rfl rfl rfl rfl rfl rfl (by decide) (tz_in0 rfl)).trans ?_
    refine tz_jI (fun y2 A2 => ?_)
    exact tz_g_ret1 (tz_in0 rfl) rfl

theorem e_X7_open (x1 : Int32) (b : Nat) (hb : tz_sky b) (A : tz_Mem) : f_X7_open x1 b A =
  tz_bV (f_X9_become 124 b (tz_s (tz_s (tz_s A 122 4 x1) 122 5 0) 122 0 (-1))) (fun A1 =>
some (none, A1)) := by
  obtain rfl | rfl | rfl | rfl | rfl := hb
  all_goals
    refine (tz_Fe (L := [some (.ref 122), some (.int x1), some (.ref _)]) rfl).trans ?_
    refine (tz_g_aload_n rfl (tz_in0 rfl)).trans ?_
    refine (tz_g_iload_n rfl (tz_in0 rfl)).trans ?_
    refine (tz_g_puti rfl rfl rfl (tz_in0 rfl)).trans ?_
    refine (tz_g_aload_n rfl (tz_in0 rfl)).trans ?_
    refine (tz_g_iconst (v := 0) rfl (tz_in0 rfl)).trans ?_
    refine (tz_g_puti rfl rfl rfl (tz_in0 rfl)).trans ?_
    refine (tz_g_aload_n rfl (tz_in0 rfl)).trans ?_
    refine (tz_g_iconst (v := (-1)) rfl (tz_in0 rfl)).trans ?_
    refine (tz_g_puti rfl rfl rfl (tz_in0 rfl)).trans ?_
    refine (tz_g_aload_n rfl (tz_in0 rfl)).trans ?_
    refine (tz_g_getr (j := 124) rfl rfl rfl rfl rfl (tz_in0 rfl)).trans ?_
    refine (tz_g_aload_n rfl (tz_in0 rfl)).trans ?_
    refine (tz_g_cv1V (m2 := 68) (rc := 0) rfl rfl rfl rfl rfl rfl (by decide) (tz_in0 rfl)).trans ?_
    refine tz_jV (fun A1 => ?_)
    exact tz_g_ret0 (tz_in0 rfl) rfl

theorem e_J1_charAt_s11 (x2 : Int32) (A : tz_Mem) : f_J1_charAt_s11 x2 A =
  tz_bV (f_J0_checkIndex x2 4 A) (fun A1 =>
if x2 < 0 ∨ 4 ≤ (Int32.toNatClampNeg x2) then none else
if (Int32.toUInt32 ((Int32.toUInt32 ((tz_XT 11 (Int32.toNatClampNeg x2)) &&& 255) % 65536).toInt32) % 65536).toInt32 = ((Int32.toUInt32 ((tz_XT 11 (Int32.toNatClampNeg x2)) &&& 255) % 65536).toInt32) then some (some (.int ((Int32.toUInt32 ((tz_XT 11 (Int32.toNatClampNeg x2)) &&& 255) % 65536).toInt32)), A1) else none) := by
  refine (tz_Fe (L := [some (.ref 11), some (.int x2)]) rfl).trans ?_
  refine (tz_g_iload_n rfl (tz_in0 rfl)).trans ?_
  refine (tz_g_aload_n rfl (tz_in0 rfl)).trans ?_
  refine (tz_g_alen (v := 4) rfl rfl (tz_in0 rfl)).trans ?_
  refine (tz_g_cs2V (m2 := 81) (rc := 0) rfl rfl rfl rfl rfl rfl (by decide) (tz_in0 rfl)).trans ?_
  refine tz_jV (fun A1 => ?_)
  refine (tz_g_aload_n rfl (tz_in0 rfl)).trans ?_
  refine (tz_g_iload_n rfl (tz_in0 rfl)).trans ?_
  refine (tz_g_bald (n := 4) rfl rfl (tz_in0 rfl)).trans ?_
  refine tz_cn1 ?_
  refine (tz_g_sipush (v := 255) rfl (tz_in0 rfl)).trans ?_
  refine (tz_g_iand (tz_in0 rfl)).trans ?_
  refine (tz_g_i2c (tz_in0 rfl)).trans ?_
  exact tz_g_ret5 (tz_in0 rfl) rfl

theorem e_J1_charAt_s12 (x2 : Int32) (A : tz_Mem) : f_J1_charAt_s12 x2 A =
  tz_bV (f_J0_checkIndex x2 5 A) (fun A1 =>
if x2 < 0 ∨ 5 ≤ (Int32.toNatClampNeg x2) then none else
if (Int32.toUInt32 ((Int32.toUInt32 ((tz_XT 12 (Int32.toNatClampNeg x2)) &&& 255) % 65536).toInt32) % 65536).toInt32 = ((Int32.toUInt32 ((tz_XT 12 (Int32.toNatClampNeg x2)) &&& 255) % 65536).toInt32) then some (some (.int ((Int32.toUInt32 ((tz_XT 12 (Int32.toNatClampNeg x2)) &&& 255) % 65536).toInt32)), A1) else none) := by
  refine (tz_Fe (L := [some (.ref 12), some (.int x2)]) rfl).trans ?_
  refine (tz_g_iload_n rfl (tz_in0 rfl)).trans ?_
  refine (tz_g_aload_n rfl (tz_in0 rfl)).trans ?_
  refine (tz_g_alen (v := 5) rfl rfl (tz_in0 rfl)).trans ?_
  refine (tz_g_cs2V (m2 := 81) (rc := 0) rfl rfl rfl rfl rfl rfl (by decide) (tz_in0 rfl)).trans ?_
  refine tz_jV (fun A1 => ?_)
  refine (tz_g_aload_n rfl (tz_in0 rfl)).trans ?_
  refine (tz_g_iload_n rfl (tz_in0 rfl)).trans ?_
  refine (tz_g_bald (n := 5) rfl rfl (tz_in0 rfl)).trans ?_
  refine tz_cn1 ?_
  refine (tz_g_sipush (v := 255) rfl (tz_in0 rfl)).trans ?_
  refine (tz_g_iand (tz_in0 rfl)).trans ?_
  refine (tz_g_i2c (tz_in0 rfl)).trans ?_
  exact tz_g_ret5 (tz_in0 rfl) rfl

theorem e_J1_charAt_s13 (x2 : Int32) (A : tz_Mem) : f_J1_charAt_s13 x2 A =
  tz_bV (f_J0_checkIndex x2 6 A) (fun A1 =>
if x2 < 0 ∨ 6 ≤ (Int32.toNatClampNeg x2) then none else
if (Int32.toUInt32 ((Int32.toUInt32 ((tz_XT 13 (Int32.toNatClampNeg x2)) &&& 255) % 65536).toInt32) % 65536).toInt32 = ((Int32.toUInt32 ((tz_XT 13 (Int32.toNatClampNeg x2)) &&& 255) % 65536).toInt32) then some (some (.int ((Int32.toUInt32 ((tz_XT 13 (Int32.toNatClampNeg x2)) &&& 255) % 65536).toInt32)), A1) else none) := by
  refine (tz_Fe (L := [some (.ref 13), some (.int x2)]) rfl).trans ?_
  refine (tz_g_iload_n rfl (tz_in0 rfl)).trans ?_
  refine (tz_g_aload_n rfl (tz_in0 rfl)).trans ?_
  refine (tz_g_alen (v := 6) rfl rfl (tz_in0 rfl)).trans ?_
  refine (tz_g_cs2V (m2 := 81) (rc := 0) rfl rfl rfl rfl rfl rfl (by decide) (tz_in0 rfl)).trans ?_
  refine tz_jV (fun A1 => ?_)
  refine (tz_g_aload_n rfl (tz_in0 rfl)).trans ?_
  refine (tz_g_iload_n rfl (tz_in0 rfl)).trans ?_
  refine (tz_g_bald (n := 6) rfl rfl (tz_in0 rfl)).trans ?_
  refine tz_cn1 ?_
  refine (tz_g_sipush (v := 255) rfl (tz_in0 rfl)).trans ?_
  refine (tz_g_iand (tz_in0 rfl)).trans ?_
  refine (tz_g_i2c (tz_in0 rfl)).trans ?_
  exact tz_g_ret5 (tz_in0 rfl) rfl

theorem e_J1_charAt_s14 (x2 : Int32) (A : tz_Mem) : f_J1_charAt_s14 x2 A =
  tz_bV (f_J0_checkIndex x2 4 A) (fun A1 =>
if x2 < 0 ∨ 4 ≤ (Int32.toNatClampNeg x2) then none else
if (Int32.toUInt32 ((Int32.toUInt32 ((tz_XT 14 (Int32.toNatClampNeg x2)) &&& 255) % 65536).toInt32) % 65536).toInt32 = ((Int32.toUInt32 ((tz_XT 14 (Int32.toNatClampNeg x2)) &&& 255) % 65536).toInt32) then some (some (.int ((Int32.toUInt32 ((tz_XT 14 (Int32.toNatClampNeg x2)) &&& 255) % 65536).toInt32)), A1) else none) := by
  refine (tz_Fe (L := [some (.ref 14), some (.int x2)]) rfl).trans ?_
  refine (tz_g_iload_n rfl (tz_in0 rfl)).trans ?_
  refine (tz_g_aload_n rfl (tz_in0 rfl)).trans ?_
  refine (tz_g_alen (v := 4) rfl rfl (tz_in0 rfl)).trans ?_
  refine (tz_g_cs2V (m2 := 81) (rc := 0) rfl rfl rfl rfl rfl rfl (by decide) (tz_in0 rfl)).trans ?_
  refine tz_jV (fun A1 => ?_)
  refine (tz_g_aload_n rfl (tz_in0 rfl)).trans ?_
  refine (tz_g_iload_n rfl (tz_in0 rfl)).trans ?_
  refine (tz_g_bald (n := 4) rfl rfl (tz_in0 rfl)).trans ?_
  refine tz_cn1 ?_
  refine (tz_g_sipush (v := 255) rfl (tz_in0 rfl)).trans ?_
  refine (tz_g_iand (tz_in0 rfl)).trans ?_
  refine (tz_g_i2c (tz_in0 rfl)).trans ?_
  exact tz_g_ret5 (tz_in0 rfl) rfl

theorem e_J1_charAt_s15 (x2 : Int32) (A : tz_Mem) : f_J1_charAt_s15 x2 A =
  tz_bV (f_J0_checkIndex x2 4 A) (fun A1 =>
if x2 < 0 ∨ 4 ≤ (Int32.toNatClampNeg x2) then none else
if (Int32.toUInt32 ((Int32.toUInt32 ((tz_XT 15 (Int32.toNatClampNeg x2)) &&& 255) % 65536).toInt32) % 65536).toInt32 = ((Int32.toUInt32 ((tz_XT 15 (Int32.toNatClampNeg x2)) &&& 255) % 65536).toInt32) then some (some (.int ((Int32.toUInt32 ((tz_XT 15 (Int32.toNatClampNeg x2)) &&& 255) % 65536).toInt32)), A1) else none) := by
  refine (tz_Fe (L := [some (.ref 15), some (.int x2)]) rfl).trans ?_
  refine (tz_g_iload_n rfl (tz_in0 rfl)).trans ?_
  refine (tz_g_aload_n rfl (tz_in0 rfl)).trans ?_
  refine (tz_g_alen (v := 4) rfl rfl (tz_in0 rfl)).trans ?_
  refine (tz_g_cs2V (m2 := 81) (rc := 0) rfl rfl rfl rfl rfl rfl (by decide) (tz_in0 rfl)).trans ?_
  refine tz_jV (fun A1 => ?_)
  refine (tz_g_aload_n rfl (tz_in0 rfl)).trans ?_
  refine (tz_g_iload_n rfl (tz_in0 rfl)).trans ?_
  refine (tz_g_bald (n := 4) rfl rfl (tz_in0 rfl)).trans ?_
  refine tz_cn1 ?_
  refine (tz_g_sipush (v := 255) rfl (tz_in0 rfl)).trans ?_
  refine (tz_g_iand (tz_in0 rfl)).trans ?_
  refine (tz_g_i2c (tz_in0 rfl)).trans ?_
  exact tz_g_ret5 (tz_in0 rfl) rfl

theorem e_J1_charAt_s16 (x2 : Int32) (A : tz_Mem) : f_J1_charAt_s16 x2 A =
  tz_bV (f_J0_checkIndex x2 3 A) (fun A1 =>
if x2 < 0 ∨ 3 ≤ (Int32.toNatClampNeg x2) then none else
if (Int32.toUInt32 ((Int32.toUInt32 ((tz_XT 16 (Int32.toNatClampNeg x2)) &&& 255) % 65536).toInt32) % 65536).toInt32 = ((Int32.toUInt32 ((tz_XT 16 (Int32.toNatClampNeg x2)) &&& 255) % 65536).toInt32) then some (some (.int ((Int32.toUInt32 ((tz_XT 16 (Int32.toNatClampNeg x2)) &&& 255) % 65536).toInt32)), A1) else none) := by
  refine (tz_Fe (L := [some (.ref 16), some (.int x2)]) rfl).trans ?_
  refine (tz_g_iload_n rfl (tz_in0 rfl)).trans ?_
  refine (tz_g_aload_n rfl (tz_in0 rfl)).trans ?_
  refine (tz_g_alen (v := 3) rfl rfl (tz_in0 rfl)).trans ?_
  refine (tz_g_cs2V (m2 := 81) (rc := 0) rfl rfl rfl rfl rfl rfl (by decide) (tz_in0 rfl)).trans ?_
  refine tz_jV (fun A1 => ?_)
  refine (tz_g_aload_n rfl (tz_in0 rfl)).trans ?_
  refine (tz_g_iload_n rfl (tz_in0 rfl)).trans ?_
  refine (tz_g_bald (n := 3) rfl rfl (tz_in0 rfl)).trans ?_
  refine tz_cn1 ?_
  refine (tz_g_sipush (v := 255) rfl (tz_in0 rfl)).trans ?_
  refine (tz_g_iand (tz_in0 rfl)).trans ?_
  refine (tz_g_i2c (tz_in0 rfl)).trans ?_
  exact tz_g_ret5 (tz_in0 rfl) rfl

theorem e_X7_readHill (A : tz_Mem) : f_X7_readHill A =
  tz_bI (f_X7_readNumber 0 6 A) (fun y1 A1 =>
tz_bI (f_X7_readNumber 0 9 A1) (fun y2 A2 =>
if ¬ (tz_g A2 122 0) = (-1) then
  some (none, A2)
else
  tz_bI (f_X3_add 124 y1 y2 A2) (fun y3 A3 =>
  some (none, A3)))) := by
  refine (tz_Fe (L := [some (.ref 122), none, none]) rfl).trans ?_
  refine (tz_g_aload_n rfl (tz_in0 rfl)).trans ?_
  refine (tz_g_iconst (v := 0) rfl (tz_in0 rfl)).trans ?_
  refine (tz_g_bipush (v := 6) rfl (tz_in0 rfl)).trans ?_
  refine (tz_g_cv2I (m2 := 85) (rc := 1) rfl rfl rfl rfl rfl rfl (by decide) (tz_in0 rfl)).trans ?_
  refine tz_jI (fun y1 A1 => ?_)
  refine (tz_g_istore_n (L2 := [some (.ref 122), some (.int y1), none]) rfl rfl (tz_in0 rfl)).trans ?_
  refine (tz_g_aload_n rfl (tz_in0 rfl)).trans ?_
  refine (tz_g_iconst (v := 0) rfl (tz_in0 rfl)).trans ?_
  refine (tz_g_bipush (v := 9) rfl (tz_in0 rfl)).trans ?_
  refine (tz_g_cv2I (m2 := 85) (rc := 1) rfl rfl rfl rfl rfl rfl (by decide) (tz_in0 rfl)).trans ?_
  refine tz_jI (fun y2 A2 => ?_)
  refine (tz_g_istore_n (L2 := [some (.ref 122), some (.int y1), some (.int y2)]) rfl rfl (tz_in0 rfl)).trans ?_
  refine (tz_g_aload_n rfl (tz_in0 rfl)).trans ?_
  refine (tz_g_geti rfl rfl rfl (tz_in0 rfl)).trans ?_
  refine (tz_g_iconst (v := (-1)) rfl (tz_in0 rfl)).trans ?_
  refine (tz_g_ic_ne (t := 37) (by decide) (tz_in0 rfl)).trans ?_
  refine tz_cg ?_ ?_
  · skip
    exact tz_g_ret0 (tz_in0 rfl) rfl
  · skip
    refine (tz_g_aload_n rfl (tz_in0 rfl)).trans ?_
    refine (tz_g_getr (j := 124) rfl rfl rfl rfl rfl (tz_in0 rfl)).trans ?_
    refine (tz_g_getr (j := 125) rfl rfl rfl rfl rfl (tz_in0 rfl)).trans ?_
    refine (tz_g_iload_n rfl (tz_in0 rfl)).trans ?_
    refine (tz_g_iload_n rfl (tz_in0 rfl)).trans ?_
    refine (tz_g_cv2I (m2 := 39) (rc := 1) rfl rfl rfl rfl rfl rfl (by decide) (tz_in0 rfl)).trans ?_
    refine tz_jI (fun y3 A3 => ?_)
    refine (tz_g_pop rfl (tz_in0 rfl)).trans ?_
    exact tz_g_ret0 (tz_in0 rfl) rfl

theorem e_X7_readHillNumber (A : tz_Mem) : f_X7_readHillNumber A =
  tz_bI (f_X7_readNumber 0 ((tz_g A 125 0) - 1) A) (fun y1 A1 =>
some (some (.int y1), A1)) := by
  refine (tz_Fe (L := [some (.ref 122)]) rfl).trans ?_
  refine (tz_g_aload_n rfl (tz_in0 rfl)).trans ?_
  refine (tz_g_iconst (v := 0) rfl (tz_in0 rfl)).trans ?_
  refine (tz_g_aload_n rfl (tz_in0 rfl)).trans ?_
  refine (tz_g_getr (j := 124) rfl rfl rfl rfl rfl (tz_in0 rfl)).trans ?_
  refine (tz_g_getr (j := 125) rfl rfl rfl rfl rfl (tz_in0 rfl)).trans ?_
  refine (tz_g_geti rfl rfl rfl (tz_in0 rfl)).trans ?_
  refine (tz_g_iconst (v := 1) rfl (tz_in0 rfl)).trans ?_
  refine (tz_g_isub (tz_in0 rfl)).trans ?_
  refine (tz_g_cv2I (m2 := 85) (rc := 1) rfl rfl rfl rfl rfl rfl (by decide) (tz_in0 rfl)).trans ?_
  refine tz_jI (fun y1 A1 => ?_)
  exact tz_g_ret1 (tz_in0 rfl) rfl

theorem e_X9_sayLetter (b : Nat) (x1 : Int32) (x2 : Int32) (hb : tz_sky b) (A : tz_Mem) : f_X9_sayLetter b x1 x2 A =
  if x1 < 0 ∨ 12 ≤ (Int32.toNatClampNeg x1) then none else
tz_bI (f_X3_becomes b x2 (tz_g A (b + 16) (Int32.toNatClampNeg x1)) A) (fun y1 A1 =>
if x1 < 0 ∨ 12 ≤ (Int32.toNatClampNeg x1) then none else
tz_bI (f_X3_timesHeard b x2 (tz_g A1 (b + 19) (Int32.toNatClampNeg x1)) A1) (fun y2 A2 =>
if x1 < 0 ∨ 12 ≤ (Int32.toNatClampNeg x1) then none else
tz_bV (f_X3_hear b x2 y1 y2 (tz_s A2 (b + 16) (Int32.toNatClampNeg x1) y1)) (fun A3 =>
if (tz_gr A3 b 7) = 0 then
  if x1 < 0 ∨ 12 ≤ (Int32.toNatClampNeg x1) then none else
  if ¬ (tz_g A3 (b + 18) (Int32.toNatClampNeg x1)) = x2 then
    if x1 < 0 ∨ 12 ≤ (Int32.toNatClampNeg x1) then none else
    if x2 < 0 ∨ 8 ≤ (Int32.toNatClampNeg x2) then none else
    if x2 < 0 ∨ 8 ≤ (Int32.toNatClampNeg x2) then none else
    some (none, (tz_s (tz_s A3 (b + 20) (Int32.toNatClampNeg x1) x2) (b + 4) (Int32.toNatClampNeg x2) ((tz_g (tz_s A3 (b + 20) (Int32.toNatClampNeg x1) x2) (b + 4) (Int32.toNatClampNeg x2)) ||| (1 <<< (x1 &&& 31)))))
  else
    if x1 < 0 ∨ 12 ≤ (Int32.toNatClampNeg x1) then none else
    if x1 < 0 ∨ 12 ≤ (Int32.toNatClampNeg x1) then none else
    some (none, (tz_s (tz_s A3 (b + 20) (Int32.toNatClampNeg x1) 200) (b + 21) (Int32.toNatClampNeg x1) (tz_g (tz_s A3 (b + 20) (Int32.toNatClampNeg x1) 200) b 3)))
else if (tz_gr A3 b 7) = 151 then
  if (tz_gr A3 b 7) = 0 then
    none
  else if (tz_gr A3 b 7) = 151 then
    tz_bV (f_X2_listen x1 x2 y1 y2 A3) (fun A4 =>
    if x1 < 0 ∨ 12 ≤ (Int32.toNatClampNeg x1) then none else
    if ¬ (tz_g A4 (b + 18) (Int32.toNatClampNeg x1)) = x2 then
      if x1 < 0 ∨ 12 ≤ (Int32.toNatClampNeg x1) then none else
      if x2 < 0 ∨ 8 ≤ (Int32.toNatClampNeg x2) then none else
      if x2 < 0 ∨ 8 ≤ (Int32.toNatClampNeg x2) then none else
      some (none, (tz_s (tz_s A4 (b + 20) (Int32.toNatClampNeg x1) x2) (b + 4) (Int32.toNatClampNeg x2) ((tz_g (tz_s A4 (b + 20) (Int32.toNatClampNeg x1) x2) (b + 4) (Int32.toNatClampNeg x2)) ||| (1 <<< (x1 &&& 31)))))
    else
      if x1 < 0 ∨ 12 ≤ (Int32.toNatClampNeg x1) then none else
      if x1 < 0 ∨ 12 ≤ (Int32.toNatClampNeg x1) then none else
      some (none, (tz_s (tz_s A4 (b + 20) (Int32.toNatClampNeg x1) 200) (b + 21) (Int32.toNatClampNeg x1) (tz_g (tz_s A4 (b + 20) (Int32.toNatClampNeg x1) 200) b 3))))
  else if (tz_gr A3 b 7) = 152 then
    tz_bV (f_X5_listen x1 x2 y1 y2 A3) (fun A4 =>
    if x1 < 0 ∨ 12 ≤ (Int32.toNatClampNeg x1) then none else
    if ¬ (tz_g A4 (b + 18) (Int32.toNatClampNeg x1)) = x2 then
      if x1 < 0 ∨ 12 ≤ (Int32.toNatClampNeg x1) then none else
      if x2 < 0 ∨ 8 ≤ (Int32.toNatClampNeg x2) then none else
      if x2 < 0 ∨ 8 ≤ (Int32.toNatClampNeg x2) then none else
      some (none, (tz_s (tz_s A4 (b + 20) (Int32.toNatClampNeg x1) x2) (b + 4) (Int32.toNatClampNeg x2) ((tz_g (tz_s A4 (b + 20) (Int32.toNatClampNeg x1) x2) (b + 4) (Int32.toNatClampNeg x2)) ||| (1 <<< (x1 &&& 31)))))
    else
      if x1 < 0 ∨ 12 ≤ (Int32.toNatClampNeg x1) then none else
      if x1 < 0 ∨ 12 ≤ (Int32.toNatClampNeg x1) then none else
      some (none, (tz_s (tz_s A4 (b + 20) (Int32.toNatClampNeg x1) 200) (b + 21) (Int32.toNatClampNeg x1) (tz_g (tz_s A4 (b + 20) (Int32.toNatClampNeg x1) 200) b 3))))
  else if (tz_gr A3 b 7) = 154 then
    tz_bV (f_X6_listen x1 x2 y1 y2 A3) (fun A4 =>
    if x1 < 0 ∨ 12 ≤ (Int32.toNatClampNeg x1) then none else
    if ¬ (tz_g A4 (b + 18) (Int32.toNatClampNeg x1)) = x2 then
      if x1 < 0 ∨ 12 ≤ (Int32.toNatClampNeg x1) then none else
      if x2 < 0 ∨ 8 ≤ (Int32.toNatClampNeg x2) then none else
      if x2 < 0 ∨ 8 ≤ (Int32.toNatClampNeg x2) then none else
      some (none, (tz_s (tz_s A4 (b + 20) (Int32.toNatClampNeg x1) x2) (b + 4) (Int32.toNatClampNeg x2) ((tz_g (tz_s A4 (b + 20) (Int32.toNatClampNeg x1) x2) (b + 4) (Int32.toNatClampNeg x2)) ||| (1 <<< (x1 &&& 31)))))
    else
      if x1 < 0 ∨ 12 ≤ (Int32.toNatClampNeg x1) then none else
      if x1 < 0 ∨ 12 ≤ (Int32.toNatClampNeg x1) then none else
      some (none, (tz_s (tz_s A4 (b + 20) (Int32.toNatClampNeg x1) 200) (b + 21) (Int32.toNatClampNeg x1) (tz_g (tz_s A4 (b + 20) (Int32.toNatClampNeg x1) 200) b 3))))
  else none
else if (tz_gr A3 b 7) = 152 then
  if (tz_gr A3 b 7) = 0 then
    none
  else if (tz_gr A3 b 7) = 151 then
    tz_bV (f_X2_listen x1 x2 y1 y2 A3) (fun A4 =>
    if x1 < 0 ∨ 12 ≤ (Int32.toNatClampNeg x1) then none else
    if ¬ (tz_g A4 (b + 18) (Int32.toNatClampNeg x1)) = x2 then
      if x1 < 0 ∨ 12 ≤ (Int32.toNatClampNeg x1) then none else
      if x2 < 0 ∨ 8 ≤ (Int32.toNatClampNeg x2) then none else
      if x2 < 0 ∨ 8 ≤ (Int32.toNatClampNeg x2) then none else
      some (none, (tz_s (tz_s A4 (b + 20) (Int32.toNatClampNeg x1) x2) (b + 4) (Int32.toNatClampNeg x2) ((tz_g (tz_s A4 (b + 20) (Int32.toNatClampNeg x1) x2) (b + 4) (Int32.toNatClampNeg x2)) ||| (1 <<< (x1 &&& 31)))))
    else
      if x1 < 0 ∨ 12 ≤ (Int32.toNatClampNeg x1) then none else
      if x1 < 0 ∨ 12 ≤ (Int32.toNatClampNeg x1) then none else
      some (none, (tz_s (tz_s A4 (b + 20) (Int32.toNatClampNeg x1) 200) (b + 21) (Int32.toNatClampNeg x1) (tz_g (tz_s A4 (b + 20) (Int32.toNatClampNeg x1) 200) b 3))))
  else if (tz_gr A3 b 7) = 152 then
    tz_bV (f_X5_listen x1 x2 y1 y2 A3) (fun A4 =>
    if x1 < 0 ∨ 12 ≤ (Int32.toNatClampNeg x1) then none else
    if ¬ (tz_g A4 (b + 18) (Int32.toNatClampNeg x1)) = x2 then
      if x1 < 0 ∨ 12 ≤ (Int32.toNatClampNeg x1) then none else
      if x2 < 0 ∨ 8 ≤ (Int32.toNatClampNeg x2) then none else
      if x2 < 0 ∨ 8 ≤ (Int32.toNatClampNeg x2) then none else
      some (none, (tz_s (tz_s A4 (b + 20) (Int32.toNatClampNeg x1) x2) (b + 4) (Int32.toNatClampNeg x2) ((tz_g (tz_s A4 (b + 20) (Int32.toNatClampNeg x1) x2) (b + 4) (Int32.toNatClampNeg x2)) ||| (1 <<< (x1 &&& 31)))))
    else
      if x1 < 0 ∨ 12 ≤ (Int32.toNatClampNeg x1) then none else
      if x1 < 0 ∨ 12 ≤ (Int32.toNatClampNeg x1) then none else
      some (none, (tz_s (tz_s A4 (b + 20) (Int32.toNatClampNeg x1) 200) (b + 21) (Int32.toNatClampNeg x1) (tz_g (tz_s A4 (b + 20) (Int32.toNatClampNeg x1) 200) b 3))))
  else if (tz_gr A3 b 7) = 154 then
    tz_bV (f_X6_listen x1 x2 y1 y2 A3) (fun A4 =>
    if x1 < 0 ∨ 12 ≤ (Int32.toNatClampNeg x1) then none else
    if ¬ (tz_g A4 (b + 18) (Int32.toNatClampNeg x1)) = x2 then
      if x1 < 0 ∨ 12 ≤ (Int32.toNatClampNeg x1) then none else
      if x2 < 0 ∨ 8 ≤ (Int32.toNatClampNeg x2) then none else
      if x2 < 0 ∨ 8 ≤ (Int32.toNatClampNeg x2) then none else
      some (none, (tz_s (tz_s A4 (b + 20) (Int32.toNatClampNeg x1) x2) (b + 4) (Int32.toNatClampNeg x2) ((tz_g (tz_s A4 (b + 20) (Int32.toNatClampNeg x1) x2) (b + 4) (Int32.toNatClampNeg x2)) ||| (1 <<< (x1 &&& 31)))))
    else
      if x1 < 0 ∨ 12 ≤ (Int32.toNatClampNeg x1) then none else
      if x1 < 0 ∨ 12 ≤ (Int32.toNatClampNeg x1) then none else
      some (none, (tz_s (tz_s A4 (b + 20) (Int32.toNatClampNeg x1) 200) (b + 21) (Int32.toNatClampNeg x1) (tz_g (tz_s A4 (b + 20) (Int32.toNatClampNeg x1) 200) b 3))))
  else none
else if (tz_gr A3 b 7) = 154 then
  if (tz_gr A3 b 7) = 0 then
    none
  else if (tz_gr A3 b 7) = 151 then
    tz_bV (f_X2_listen x1 x2 y1 y2 A3) (fun A4 =>
    if x1 < 0 ∨ 12 ≤ (Int32.toNatClampNeg x1) then none else
    if ¬ (tz_g A4 (b + 18) (Int32.toNatClampNeg x1)) = x2 then
      if x1 < 0 ∨ 12 ≤ (Int32.toNatClampNeg x1) then none else
      if x2 < 0 ∨ 8 ≤ (Int32.toNatClampNeg x2) then none else
      if x2 < 0 ∨ 8 ≤ (Int32.toNatClampNeg x2) then none else
      some (none, (tz_s (tz_s A4 (b + 20) (Int32.toNatClampNeg x1) x2) (b + 4) (Int32.toNatClampNeg x2) ((tz_g (tz_s A4 (b + 20) (Int32.toNatClampNeg x1) x2) (b + 4) (Int32.toNatClampNeg x2)) ||| (1 <<< (x1 &&& 31)))))
    else
      if x1 < 0 ∨ 12 ≤ (Int32.toNatClampNeg x1) then none else
      if x1 < 0 ∨ 12 ≤ (Int32.toNatClampNeg x1) then none else
      some (none, (tz_s (tz_s A4 (b + 20) (Int32.toNatClampNeg x1) 200) (b + 21) (Int32.toNatClampNeg x1) (tz_g (tz_s A4 (b + 20) (Int32.toNatClampNeg x1) 200) b 3))))
  else if (tz_gr A3 b 7) = 152 then
    tz_bV (f_X5_listen x1 x2 y1 y2 A3) (fun A4 =>
    if x1 < 0 ∨ 12 ≤ (Int32.toNatClampNeg x1) then none else
    if ¬ (tz_g A4 (b + 18) (Int32.toNatClampNeg x1)) = x2 then
      if x1 < 0 ∨ 12 ≤ (Int32.toNatClampNeg x1) then none else
      if x2 < 0 ∨ 8 ≤ (Int32.toNatClampNeg x2) then none else
      if x2 < 0 ∨ 8 ≤ (Int32.toNatClampNeg x2) then none else
      some (none, (tz_s (tz_s A4 (b + 20) (Int32.toNatClampNeg x1) x2) (b + 4) (Int32.toNatClampNeg x2) ((tz_g (tz_s A4 (b + 20) (Int32.toNatClampNeg x1) x2) (b + 4) (Int32.toNatClampNeg x2)) ||| (1 <<< (x1 &&& 31)))))
    else
      if x1 < 0 ∨ 12 ≤ (Int32.toNatClampNeg x1) then none else
      if x1 < 0 ∨ 12 ≤ (Int32.toNatClampNeg x1) then none else
      some (none, (tz_s (tz_s A4 (b + 20) (Int32.toNatClampNeg x1) 200) (b + 21) (Int32.toNatClampNeg x1) (tz_g (tz_s A4 (b + 20) (Int32.toNatClampNeg x1) 200) b 3))))
  else if (tz_gr A3 b 7) = 154 then
    tz_bV (f_X6_listen x1 x2 y1 y2 A3) (fun A4 =>
    if x1 < 0 ∨ 12 ≤ (Int32.toNatClampNeg x1) then none else
    if ¬ (tz_g A4 (b + 18) (Int32.toNatClampNeg x1)) = x2 then
      if x1 < 0 ∨ 12 ≤ (Int32.toNatClampNeg x1) then none else
      if x2 < 0 ∨ 8 ≤ (Int32.toNatClampNeg x2) then none else
      if x2 < 0 ∨ 8 ≤ (Int32.toNatClampNeg x2) then none else
      some (none, (tz_s (tz_s A4 (b + 20) (Int32.toNatClampNeg x1) x2) (b + 4) (Int32.toNatClampNeg x2) ((tz_g (tz_s A4 (b + 20) (Int32.toNatClampNeg x1) x2) (b + 4) (Int32.toNatClampNeg x2)) ||| (1 <<< (x1 &&& 31)))))
    else
      if x1 < 0 ∨ 12 ≤ (Int32.toNatClampNeg x1) then none else
      if x1 < 0 ∨ 12 ≤ (Int32.toNatClampNeg x1) then none else
      some (none, (tz_s (tz_s A4 (b + 20) (Int32.toNatClampNeg x1) 200) (b + 21) (Int32.toNatClampNeg x1) (tz_g (tz_s A4 (b + 20) (Int32.toNatClampNeg x1) 200) b 3))))
  else none
else none))) := by
  obtain rfl | rfl | rfl | rfl | rfl := hb
  all_goals
    refine (tz_Fe (L := [some (.ref _), some (.int x1), some (.int x2), none, none]) rfl).trans ?_
    refine (tz_g_aload_n rfl (tz_in0 rfl)).trans ?_
    refine (tz_g_getr (j := _) rfl rfl rfl rfl rfl (tz_in0 rfl)).trans ?_
    refine (tz_g_iload_n rfl (tz_in0 rfl)).trans ?_
    refine (tz_g_aload_n rfl (tz_in0 rfl)).trans ?_
    refine (tz_g_getr (j := _) rfl rfl rfl rfl rfl (tz_in0 rfl)).trans ?_
    refine (tz_g_getr (j := _) rfl rfl rfl rfl rfl (tz_in0 rfl)).trans ?_
    refine (tz_g_iload_n rfl (tz_in0 rfl)).trans ?_
    refine (tz_g_iald (n := 12) rfl rfl rfl (tz_in0 rfl)).trans ?_
    refine tz_cn1 ?_
    refine (tz_g_cv2I (m2 := 35) (rc := 1) rfl rfl rfl rfl rfl rfl (by decide) (tz_in0 rfl)).trans ?_
    refine tz_jI (fun y1 A1 => ?_)
    refine (tz_g_istore_n (L2 := [some (.ref _), some (.int x1), some (.int x2), some (.int y1), none]) rfl rfl (tz_in0 rfl)).trans ?_
    refine (tz_g_aload_n rfl (tz_in0 rfl)).trans ?_
    refine (tz_g_getr (j := _) rfl rfl rfl rfl rfl (tz_in0 rfl)).trans ?_
    refine (tz_g_iload_n rfl (tz_in0 rfl)).trans ?_
    refine (tz_g_aload_n rfl (tz_in0 rfl)).trans ?_
    refine (tz_g_getr (j := _) rfl rfl rfl rfl rfl (tz_in0 rfl)).trans ?_
    refine (tz_g_getr (j := _) rfl rfl rfl rfl rfl (tz_in0 rfl)).trans ?_
    refine (tz_g_iload_n rfl (tz_in0 rfl)).trans ?_
    refine (tz_g_iald (n := 12) rfl rfl rfl (tz_in0 rfl)).trans ?_
    refine tz_cn1 ?_
    refine (tz_g_cv2I (m2 := 36) (rc := 1) rfl rfl rfl rfl rfl rfl (by decide) (tz_in0 rfl)).trans ?_
    refine tz_jI (fun y2 A2 => ?_)
    refine (tz_g_istore (L2 := [some (.ref _), some (.int x1), some (.int x2), some (.int y1), some (.int y2)]) rfl rfl (tz_in0 rfl)).trans ?_
    refine (tz_g_aload_n rfl (tz_in0 rfl)).trans ?_
    refine (tz_g_getr (j := _) rfl rfl rfl rfl rfl (tz_in0 rfl)).trans ?_
    refine (tz_g_getr (j := _) rfl rfl rfl rfl rfl (tz_in0 rfl)).trans ?_
    refine (tz_g_iload_n rfl (tz_in0 rfl)).trans ?_
    refine (tz_g_iload_n rfl (tz_in0 rfl)).trans ?_
    refine (tz_g_iast (n := 12) rfl rfl rfl (tz_in0 rfl)).trans ?_
    refine tz_cn1 ?_
    refine (tz_g_aload_n rfl (tz_in0 rfl)).trans ?_
    refine (tz_g_getr (j := _) rfl rfl rfl rfl rfl (tz_in0 rfl)).trans ?_
    refine (tz_g_iload_n rfl (tz_in0 rfl)).trans ?_
    refine (tz_g_iload_n rfl (tz_in0 rfl)).trans ?_
    refine (tz_g_iload rfl (tz_in0 rfl)).trans ?_
    refine (tz_g_cv3V (m2 := 98) (rc := 0) rfl rfl rfl rfl rfl rfl (by decide) (tz_in0 rfl)).trans ?_
    refine tz_jV (fun A3 => ?_)
    refine (tz_g_aload_n rfl (tz_in0 rfl)).trans ?_
    refine (tz_g_gete rfl rfl rfl (tz_in0 rfl)).trans ?_
    refine tz_cg ?_ ?_
    · skip
      refine (tz_g_ifnullN (t := 77) (by decide) (tz_in0 rfl)).trans ?_
      refine (tz_g_aload_n rfl (tz_in0 rfl)).trans ?_
      refine (tz_g_getr (j := _) rfl rfl rfl rfl rfl (tz_in0 rfl)).trans ?_
      refine (tz_g_getr (j := _) rfl rfl rfl rfl rfl (tz_in0 rfl)).trans ?_
      refine (tz_g_iload_n rfl (tz_in0 rfl)).trans ?_
      refine (tz_g_iald (n := 12) rfl rfl rfl (tz_in0 rfl)).trans ?_
      refine tz_cn1 ?_
      refine (tz_g_iload_n rfl (tz_in0 rfl)).trans ?_
      refine (tz_g_ic_ne (t := 118) (by decide) (tz_in0 rfl)).trans ?_
      refine tz_cg ?_ ?_
      · skip
        refine (tz_g_aload_n rfl (tz_in0 rfl)).trans ?_
        refine (tz_g_getr (j := _) rfl rfl rfl rfl rfl (tz_in0 rfl)).trans ?_
        refine (tz_g_getr (j := _) rfl rfl rfl rfl rfl (tz_in0 rfl)).trans ?_
        refine (tz_g_iload_n rfl (tz_in0 rfl)).trans ?_
        refine (tz_g_iload_n rfl (tz_in0 rfl)).trans ?_
        refine (tz_g_iast (n := 12) rfl rfl rfl (tz_in0 rfl)).trans ?_
        refine tz_cn1 ?_
        refine (tz_g_aload_n rfl (tz_in0 rfl)).trans ?_
        refine (tz_g_getr (j := _) rfl rfl rfl rfl rfl (tz_in0 rfl)).trans ?_
        refine (tz_g_getr (j := _) rfl rfl rfl rfl rfl (tz_in0 rfl)).trans ?_
        refine (tz_g_iload_n rfl (tz_in0 rfl)).trans ?_
        refine (tz_g_dup2a rfl rfl (tz_in0 rfl)).trans ?_
        refine (tz_g_iald (n := 8) rfl rfl rfl (tz_in0 rfl)).trans ?_
        refine tz_cn1 ?_
        refine (tz_g_iconst (v := 1) rfl (tz_in0 rfl)).trans ?_
        refine (tz_g_iload_n rfl (tz_in0 rfl)).trans ?_
        refine (tz_g_ishl (tz_in0 rfl)).trans ?_
        refine (tz_g_ior (tz_in0 rfl)).trans ?_
        refine (tz_g_iast (n := 8) rfl rfl rfl (tz_in0 rfl)).trans ?_
        refine tz_cn1 ?_
        exact tz_g_ret0 (tz_in0 rfl) rfl
      · skip
        refine (tz_g_aload_n rfl (tz_in0 rfl)).trans ?_
        refine (tz_g_getr (j := _) rfl rfl rfl rfl rfl (tz_in0 rfl)).trans ?_
        refine (tz_g_getr (j := _) rfl rfl rfl rfl rfl (tz_in0 rfl)).trans ?_
        refine (tz_g_iload_n rfl (tz_in0 rfl)).trans ?_
        refine (tz_g_sipush (v := 200) rfl (tz_in0 rfl)).trans ?_
        refine (tz_g_iast (n := 12) rfl rfl rfl (tz_in0 rfl)).trans ?_
        refine tz_cn1 ?_
        refine (tz_g_aload_n rfl (tz_in0 rfl)).trans ?_
        refine (tz_g_getr (j := _) rfl rfl rfl rfl rfl (tz_in0 rfl)).trans ?_
        refine (tz_g_getr (j := _) rfl rfl rfl rfl rfl (tz_in0 rfl)).trans ?_
        refine (tz_g_iload_n rfl (tz_in0 rfl)).trans ?_
        refine (tz_g_aload_n rfl (tz_in0 rfl)).trans ?_
        refine (tz_g_geti rfl rfl rfl (tz_in0 rfl)).trans ?_
        refine (tz_g_iast (n := 12) rfl rfl rfl (tz_in0 rfl)).trans ?_
        refine tz_cn1 ?_
        refine (tz_g_goto (t := 143) (by decide) (tz_in0 rfl)).trans ?_
        exact tz_g_ret0 (tz_in0 rfl) rfl
    refine tz_cg ?_ ?_
    · skip
      refine (tz_g_ifnullR (t := 77) (by decide) (tz_in0 rfl)).trans ?_
      refine (tz_g_aload_n rfl (tz_in0 rfl)).trans ?_
      refine (tz_g_gete rfl rfl rfl (tz_in0 rfl)).trans ?_
      refine tz_cg ?_ ?_
      · skip
        refine (tz_g_iload_n rfl (tz_in0 rfl)).trans ?_
        refine (tz_g_iload_n rfl (tz_in0 rfl)).trans ?_
        refine (tz_g_iload_n rfl (tz_in0 rfl)).trans ?_
        refine (tz_g_iload rfl (tz_in0 rfl)).trans ?_
        exact ((tz_in0 rfl) _ _).trans rfl
      refine tz_cg ?_ ?_
      · skip
        refine (tz_g_iload_n rfl (tz_in0 rfl)).trans ?_
        refine (tz_g_iload_n rfl (tz_in0 rfl)).trans ?_
        refine (tz_g_iload_n rfl (tz_in0 rfl)).trans ?_
        refine (tz_g_iload rfl (tz_in0 rfl)).trans ?_
        refine (tz_g_cv4V (m2 := 99) (rc := 0) rfl rfl rfl rfl rfl rfl (by decide) (tz_in0 rfl)).trans ?_
        refine tz_jV (fun A4 => ?_)
        refine (tz_g_aload_n rfl (tz_in0 rfl)).trans ?_
        refine (tz_g_getr (j := _) rfl rfl rfl rfl rfl (tz_in0 rfl)).trans ?_
        refine (tz_g_getr (j := _) rfl rfl rfl rfl rfl (tz_in0 rfl)).trans ?_
        refine (tz_g_iload_n rfl (tz_in0 rfl)).trans ?_
        refine (tz_g_iald (n := 12) rfl rfl rfl (tz_in0 rfl)).trans ?_
        refine tz_cn1 ?_
        refine (tz_g_iload_n rfl (tz_in0 rfl)).trans ?_
        refine (tz_g_ic_ne (t := 118) (by decide) (tz_in0 rfl)).trans ?_
        refine tz_cg ?_ ?_
        · skip
          refine (tz_g_aload_n rfl (tz_in0 rfl)).trans ?_
          refine (tz_g_getr (j := _) rfl rfl rfl rfl rfl (tz_in0 rfl)).trans ?_
          refine (tz_g_getr (j := _) rfl rfl rfl rfl rfl (tz_in0 rfl)).trans ?_
          refine (tz_g_iload_n rfl (tz_in0 rfl)).trans ?_
          refine (tz_g_iload_n rfl (tz_in0 rfl)).trans ?_
          refine (tz_g_iast (n := 12) rfl rfl rfl (tz_in0 rfl)).trans ?_
          refine tz_cn1 ?_
          refine (tz_g_aload_n rfl (tz_in0 rfl)).trans ?_
          refine (tz_g_getr (j := _) rfl rfl rfl rfl rfl (tz_in0 rfl)).trans ?_
          refine (tz_g_getr (j := _) rfl rfl rfl rfl rfl (tz_in0 rfl)).trans ?_
          refine (tz_g_iload_n rfl (tz_in0 rfl)).trans ?_
          refine (tz_g_dup2a rfl rfl (tz_in0 rfl)).trans ?_
          refine (tz_g_iald (n := 8) rfl rfl rfl (tz_in0 rfl)).trans ?_
          refine tz_cn1 ?_
          refine (tz_g_iconst (v := 1) rfl (tz_in0 rfl)).trans ?_
          refine (tz_g_iload_n rfl (tz_in0 rfl)).trans ?_
          refine (tz_g_ishl (tz_in0 rfl)).trans ?_
          refine (tz_g_ior (tz_in0 rfl)).trans ?_
          refine (tz_g_iast (n := 8) rfl rfl rfl (tz_in0 rfl)).trans ?_
          refine tz_cn1 ?_
          exact tz_g_ret0 (tz_in0 rfl) rfl
        · skip
          refine (tz_g_aload_n rfl (tz_in0 rfl)).trans ?_
          refine (tz_g_getr (j := _) rfl rfl rfl rfl rfl (tz_in0 rfl)).trans ?_
          refine (tz_g_getr (j := _) rfl rfl rfl rfl rfl (tz_in0 rfl)).trans ?_
          refine (tz_g_iload_n rfl (tz_in0 rfl)).trans ?_
          refine (tz_g_sipush (v := 200) rfl (tz_in0 rfl)).trans ?_
          refine (tz_g_iast (n := 12) rfl rfl rfl (tz_in0 rfl)).trans ?_
          refine tz_cn1 ?_
          refine (tz_g_aload_n rfl (tz_in0 rfl)).trans ?_
          refine (tz_g_getr (j := _) rfl rfl rfl rfl rfl (tz_in0 rfl)).trans ?_
          refine (tz_g_getr (j := _) rfl rfl rfl rfl rfl (tz_in0 rfl)).trans ?_
          refine (tz_g_iload_n rfl (tz_in0 rfl)).trans ?_
          refine (tz_g_aload_n rfl (tz_in0 rfl)).trans ?_
          refine (tz_g_geti rfl rfl rfl (tz_in0 rfl)).trans ?_
          refine (tz_g_iast (n := 12) rfl rfl rfl (tz_in0 rfl)).trans ?_
          refine tz_cn1 ?_
          refine (tz_g_goto (t := 143) (by decide) (tz_in0 rfl)).trans ?_
          exact tz_g_ret0 (tz_in0 rfl) rfl
      refine tz_cg ?_ ?_
      · skip
        refine (tz_g_iload_n rfl (tz_in0 rfl)).trans ?_
        refine (tz_g_iload_n rfl (tz_in0 rfl)).trans ?_
        refine (tz_g_iload_n rfl (tz_in0 rfl)).trans ?_
        refine (tz_g_iload rfl (tz_in0 rfl)).trans ?_
        refine (tz_g_cv4V (m2 := 100) (rc := 0) rfl rfl rfl rfl rfl rfl (by decide) (tz_in0 rfl)).trans ?_
        refine tz_jV (fun A4 => ?_)
        refine (tz_g_aload_n rfl (tz_in0 rfl)).trans ?_
        refine (tz_g_getr (j := _) rfl rfl rfl rfl rfl (tz_in0 rfl)).trans ?_
        refine (tz_g_getr (j := _) rfl rfl rfl rfl rfl (tz_in0 rfl)).trans ?_
        refine (tz_g_iload_n rfl (tz_in0 rfl)).trans ?_
        refine (tz_g_iald (n := 12) rfl rfl rfl (tz_in0 rfl)).trans ?_
        refine tz_cn1 ?_
        refine (tz_g_iload_n rfl (tz_in0 rfl)).trans ?_
        refine (tz_g_ic_ne (t := 118) (by decide) (tz_in0 rfl)).trans ?_
        refine tz_cg ?_ ?_
        · skip
          refine (tz_g_aload_n rfl (tz_in0 rfl)).trans ?_
          refine (tz_g_getr (j := _) rfl rfl rfl rfl rfl (tz_in0 rfl)).trans ?_
          refine (tz_g_getr (j := _) rfl rfl rfl rfl rfl (tz_in0 rfl)).trans ?_
          refine (tz_g_iload_n rfl (tz_in0 rfl)).trans ?_
          refine (tz_g_iload_n rfl (tz_in0 rfl)).trans ?_
          refine (tz_g_iast (n := 12) rfl rfl rfl (tz_in0 rfl)).trans ?_
          refine tz_cn1 ?_
          refine (tz_g_aload_n rfl (tz_in0 rfl)).trans ?_
          refine (tz_g_getr (j := _) rfl rfl rfl rfl rfl (tz_in0 rfl)).trans ?_
          refine (tz_g_getr (j := _) rfl rfl rfl rfl rfl (tz_in0 rfl)).trans ?_
          refine (tz_g_iload_n rfl (tz_in0 rfl)).trans ?_
          refine (tz_g_dup2a rfl rfl (tz_in0 rfl)).trans ?_
          refine (tz_g_iald (n := 8) rfl rfl rfl (tz_in0 rfl)).trans ?_
          refine tz_cn1 ?_
          refine (tz_g_iconst (v := 1) rfl (tz_in0 rfl)).trans ?_
          refine (tz_g_iload_n rfl (tz_in0 rfl)).trans ?_
          refine (tz_g_ishl (tz_in0 rfl)).trans ?_
          refine (tz_g_ior (tz_in0 rfl)).trans ?_
          refine (tz_g_iast (n := 8) rfl rfl rfl (tz_in0 rfl)).trans ?_
          refine tz_cn1 ?_
          exact tz_g_ret0 (tz_in0 rfl) rfl
        · skip
          refine (tz_g_aload_n rfl (tz_in0 rfl)).trans ?_
          refine (tz_g_getr (j := _) rfl rfl rfl rfl rfl (tz_in0 rfl)).trans ?_
          refine (tz_g_getr (j := _) rfl rfl rfl rfl rfl (tz_in0 rfl)).trans ?_
          refine (tz_g_iload_n rfl (tz_in0 rfl)).trans ?_
          refine (tz_g_sipush (v := 200) rfl (tz_in0 rfl)).trans ?_
          refine (tz_g_iast (n := 12) rfl rfl rfl (tz_in0 rfl)).trans ?_
          refine tz_cn1 ?_
          refine (tz_g_aload_n rfl (tz_in0 rfl)).trans ?_
          refine (tz_g_getr (j := _) rfl rfl rfl rfl rfl (tz_in0 rfl)).trans ?_
          refine (tz_g_getr (j := _) rfl rfl rfl rfl rfl (tz_in0 rfl)).trans ?_
          refine (tz_g_iload_n rfl (tz_in0 rfl)).trans ?_
          refine (tz_g_aload_n rfl (tz_in0 rfl)).trans ?_
          refine (tz_g_geti rfl rfl rfl (tz_in0 rfl)).trans ?_
          refine (tz_g_iast (n := 12) rfl rfl rfl (tz_in0 rfl)).trans ?_
          refine tz_cn1 ?_
          refine (tz_g_goto (t := 143) (by decide) (tz_in0 rfl)).trans ?_
          exact tz_g_ret0 (tz_in0 rfl) rfl
      refine tz_cg ?_ ?_
      · skip
        refine (tz_g_iload_n rfl (tz_in0 rfl)).trans ?_
        refine (tz_g_iload_n rfl (tz_in0 rfl)).trans ?_
        refine (tz_g_iload_n rfl (tz_in0 rfl)).trans ?_
        refine (tz_g_iload rfl (tz_in0 rfl)).trans ?_
        refine (tz_g_cv4V (m2 := 102) (rc := 0) rfl rfl rfl rfl rfl rfl (by decide) (tz_in0 rfl)).trans ?_
        refine tz_jV (fun A4 => ?_)
        refine (tz_g_aload_n rfl (tz_in0 rfl)).trans ?_
        refine (tz_g_getr (j := _) rfl rfl rfl rfl rfl (tz_in0 rfl)).trans ?_
        refine (tz_g_getr (j := _) rfl rfl rfl rfl rfl (tz_in0 rfl)).trans ?_
        refine (tz_g_iload_n rfl (tz_in0 rfl)).trans ?_
        refine (tz_g_iald (n := 12) rfl rfl rfl (tz_in0 rfl)).trans ?_
        refine tz_cn1 ?_
        refine (tz_g_iload_n rfl (tz_in0 rfl)).trans ?_
        refine (tz_g_ic_ne (t := 118) (by decide) (tz_in0 rfl)).trans ?_
        refine tz_cg ?_ ?_
        · skip
          refine (tz_g_aload_n rfl (tz_in0 rfl)).trans ?_
          refine (tz_g_getr (j := _) rfl rfl rfl rfl rfl (tz_in0 rfl)).trans ?_
          refine (tz_g_getr (j := _) rfl rfl rfl rfl rfl (tz_in0 rfl)).trans ?_
          refine (tz_g_iload_n rfl (tz_in0 rfl)).trans ?_
          refine (tz_g_iload_n rfl (tz_in0 rfl)).trans ?_
          refine (tz_g_iast (n := 12) rfl rfl rfl (tz_in0 rfl)).trans ?_
          refine tz_cn1 ?_
          refine (tz_g_aload_n rfl (tz_in0 rfl)).trans ?_
          refine (tz_g_getr (j := _) rfl rfl rfl rfl rfl (tz_in0 rfl)).trans ?_
          refine (tz_g_getr (j := _) rfl rfl rfl rfl rfl (tz_in0 rfl)).trans ?_
          refine (tz_g_iload_n rfl (tz_in0 rfl)).trans ?_
          refine (tz_g_dup2a rfl rfl (tz_in0 rfl)).trans ?_
          refine (tz_g_iald (n := 8) rfl rfl rfl (tz_in0 rfl)).trans ?_
          refine tz_cn1 ?_
          refine (tz_g_iconst (v := 1) rfl (tz_in0 rfl)).trans ?_
          refine (tz_g_iload_n rfl (tz_in0 rfl)).trans ?_
          refine (tz_g_ishl (tz_in0 rfl)).trans ?_
          refine (tz_g_ior (tz_in0 rfl)).trans ?_
          refine (tz_g_iast (n := 8) rfl rfl rfl (tz_in0 rfl)).trans ?_
          refine tz_cn1 ?_
          exact tz_g_ret0 (tz_in0 rfl) rfl
        · skip
          refine (tz_g_aload_n rfl (tz_in0 rfl)).trans ?_
          refine (tz_g_getr (j := _) rfl rfl rfl rfl rfl (tz_in0 rfl)).trans ?_
          refine (tz_g_getr (j := _) rfl rfl rfl rfl rfl (tz_in0 rfl)).trans ?_
          refine (tz_g_iload_n rfl (tz_in0 rfl)).trans ?_
          refine (tz_g_sipush (v := 200) rfl (tz_in0 rfl)).trans ?_
          refine (tz_g_iast (n := 12) rfl rfl rfl (tz_in0 rfl)).trans ?_
          refine tz_cn1 ?_
          refine (tz_g_aload_n rfl (tz_in0 rfl)).trans ?_
          refine (tz_g_getr (j := _) rfl rfl rfl rfl rfl (tz_in0 rfl)).trans ?_
          refine (tz_g_getr (j := _) rfl rfl rfl rfl rfl (tz_in0 rfl)).trans ?_
          refine (tz_g_iload_n rfl (tz_in0 rfl)).trans ?_
          refine (tz_g_aload_n rfl (tz_in0 rfl)).trans ?_
          refine (tz_g_geti rfl rfl rfl (tz_in0 rfl)).trans ?_
          refine (tz_g_iast (n := 12) rfl rfl rfl (tz_in0 rfl)).trans ?_
          refine tz_cn1 ?_
          refine (tz_g_goto (t := 143) (by decide) (tz_in0 rfl)).trans ?_
          exact tz_g_ret0 (tz_in0 rfl) rfl
      rfl
    refine tz_cg ?_ ?_
    · skip
      refine (tz_g_ifnullR (t := 77) (by decide) (tz_in0 rfl)).trans ?_
      refine (tz_g_aload_n rfl (tz_in0 rfl)).trans ?_
      refine (tz_g_gete rfl rfl rfl (tz_in0 rfl)).trans ?_
      refine tz_cg ?_ ?_
      · skip
        refine (tz_g_iload_n rfl (tz_in0 rfl)).trans ?_
        refine (tz_g_iload_n rfl (tz_in0 rfl)).trans ?_
        refine (tz_g_iload_n rfl (tz_in0 rfl)).trans ?_
        refine (tz_g_iload rfl (tz_in0 rfl)).trans ?_
        exact ((tz_in0 rfl) _ _).trans rfl
      refine tz_cg ?_ ?_
      · skip
        refine (tz_g_iload_n rfl (tz_in0 rfl)).trans ?_
        refine (tz_g_iload_n rfl (tz_in0 rfl)).trans ?_
        refine (tz_g_iload_n rfl (tz_in0 rfl)).trans ?_
        refine (tz_g_iload rfl (tz_in0 rfl)).trans ?_
        refine (tz_g_cv4V (m2 := 99) (rc := 0) rfl rfl rfl rfl rfl rfl (by decide) (tz_in0 rfl)).trans ?_
        refine tz_jV (fun A4 => ?_)
        refine (tz_g_aload_n rfl (tz_in0 rfl)).trans ?_
        refine (tz_g_getr (j := _) rfl rfl rfl rfl rfl (tz_in0 rfl)).trans ?_
        refine (tz_g_getr (j := _) rfl rfl rfl rfl rfl (tz_in0 rfl)).trans ?_
        refine (tz_g_iload_n rfl (tz_in0 rfl)).trans ?_
        refine (tz_g_iald (n := 12) rfl rfl rfl (tz_in0 rfl)).trans ?_
        refine tz_cn1 ?_
        refine (tz_g_iload_n rfl (tz_in0 rfl)).trans ?_
        refine (tz_g_ic_ne (t := 118) (by decide) (tz_in0 rfl)).trans ?_
        refine tz_cg ?_ ?_
        · skip
          refine (tz_g_aload_n rfl (tz_in0 rfl)).trans ?_
          refine (tz_g_getr (j := _) rfl rfl rfl rfl rfl (tz_in0 rfl)).trans ?_
          refine (tz_g_getr (j := _) rfl rfl rfl rfl rfl (tz_in0 rfl)).trans ?_
          refine (tz_g_iload_n rfl (tz_in0 rfl)).trans ?_
          refine (tz_g_iload_n rfl (tz_in0 rfl)).trans ?_
          refine (tz_g_iast (n := 12) rfl rfl rfl (tz_in0 rfl)).trans ?_
          refine tz_cn1 ?_
          refine (tz_g_aload_n rfl (tz_in0 rfl)).trans ?_
          refine (tz_g_getr (j := _) rfl rfl rfl rfl rfl (tz_in0 rfl)).trans ?_
          refine (tz_g_getr (j := _) rfl rfl rfl rfl rfl (tz_in0 rfl)).trans ?_
          refine (tz_g_iload_n rfl (tz_in0 rfl)).trans ?_
          refine (tz_g_dup2a rfl rfl (tz_in0 rfl)).trans ?_
          refine (tz_g_iald (n := 8) rfl rfl rfl (tz_in0 rfl)).trans ?_
          refine tz_cn1 ?_
          refine (tz_g_iconst (v := 1) rfl (tz_in0 rfl)).trans ?_
          refine (tz_g_iload_n rfl (tz_in0 rfl)).trans ?_
          refine (tz_g_ishl (tz_in0 rfl)).trans ?_
          refine (tz_g_ior (tz_in0 rfl)).trans ?_
          refine (tz_g_iast (n := 8) rfl rfl rfl (tz_in0 rfl)).trans ?_
          refine tz_cn1 ?_
          exact tz_g_ret0 (tz_in0 rfl) rfl
        · skip
          refine (tz_g_aload_n rfl (tz_in0 rfl)).trans ?_
          refine (tz_g_getr (j := _) rfl rfl rfl rfl rfl (tz_in0 rfl)).trans ?_
          refine (tz_g_getr (j := _) rfl rfl rfl rfl rfl (tz_in0 rfl)).trans ?_
          refine (tz_g_iload_n rfl (tz_in0 rfl)).trans ?_
          refine (tz_g_sipush (v := 200) rfl (tz_in0 rfl)).trans ?_
          refine (tz_g_iast (n := 12) rfl rfl rfl (tz_in0 rfl)).trans ?_
          refine tz_cn1 ?_
          refine (tz_g_aload_n rfl (tz_in0 rfl)).trans ?_
          refine (tz_g_getr (j := _) rfl rfl rfl rfl rfl (tz_in0 rfl)).trans ?_
          refine (tz_g_getr (j := _) rfl rfl rfl rfl rfl (tz_in0 rfl)).trans ?_
          refine (tz_g_iload_n rfl (tz_in0 rfl)).trans ?_
          refine (tz_g_aload_n rfl (tz_in0 rfl)).trans ?_
          refine (tz_g_geti rfl rfl rfl (tz_in0 rfl)).trans ?_
          refine (tz_g_iast (n := 12) rfl rfl rfl (tz_in0 rfl)).trans ?_
          refine tz_cn1 ?_
          refine (tz_g_goto (t := 143) (by decide) (tz_in0 rfl)).trans ?_
          exact tz_g_ret0 (tz_in0 rfl) rfl
      refine tz_cg ?_ ?_
      · skip
        refine (tz_g_iload_n rfl (tz_in0 rfl)).trans ?_
        refine (tz_g_iload_n rfl (tz_in0 rfl)).trans ?_
        refine (tz_g_iload_n rfl (tz_in0 rfl)).trans ?_
        refine (tz_g_iload rfl (tz_in0 rfl)).trans ?_
        refine (tz_g_cv4V (m2 := 100) (rc := 0) rfl rfl rfl rfl rfl rfl (by decide) (tz_in0 rfl)).trans ?_
        refine tz_jV (fun A4 => ?_)
        refine (tz_g_aload_n rfl (tz_in0 rfl)).trans ?_
        refine (tz_g_getr (j := _) rfl rfl rfl rfl rfl (tz_in0 rfl)).trans ?_
        refine (tz_g_getr (j := _) rfl rfl rfl rfl rfl (tz_in0 rfl)).trans ?_
        refine (tz_g_iload_n rfl (tz_in0 rfl)).trans ?_
        refine (tz_g_iald (n := 12) rfl rfl rfl (tz_in0 rfl)).trans ?_
        refine tz_cn1 ?_
        refine (tz_g_iload_n rfl (tz_in0 rfl)).trans ?_
        refine (tz_g_ic_ne (t := 118) (by decide) (tz_in0 rfl)).trans ?_
        refine tz_cg ?_ ?_
        · skip
          refine (tz_g_aload_n rfl (tz_in0 rfl)).trans ?_
          refine (tz_g_getr (j := _) rfl rfl rfl rfl rfl (tz_in0 rfl)).trans ?_
          refine (tz_g_getr (j := _) rfl rfl rfl rfl rfl (tz_in0 rfl)).trans ?_
          refine (tz_g_iload_n rfl (tz_in0 rfl)).trans ?_
          refine (tz_g_iload_n rfl (tz_in0 rfl)).trans ?_
          refine (tz_g_iast (n := 12) rfl rfl rfl (tz_in0 rfl)).trans ?_
          refine tz_cn1 ?_
          refine (tz_g_aload_n rfl (tz_in0 rfl)).trans ?_
          refine (tz_g_getr (j := _) rfl rfl rfl rfl rfl (tz_in0 rfl)).trans ?_
          refine (tz_g_getr (j := _) rfl rfl rfl rfl rfl (tz_in0 rfl)).trans ?_
          refine (tz_g_iload_n rfl (tz_in0 rfl)).trans ?_
          refine (tz_g_dup2a rfl rfl (tz_in0 rfl)).trans ?_
          refine (tz_g_iald (n := 8) rfl rfl rfl (tz_in0 rfl)).trans ?_
          refine tz_cn1 ?_
          refine (tz_g_iconst (v := 1) rfl (tz_in0 rfl)).trans ?_
          refine (tz_g_iload_n rfl (tz_in0 rfl)).trans ?_
          refine (tz_g_ishl (tz_in0 rfl)).trans ?_
          refine (tz_g_ior (tz_in0 rfl)).trans ?_
          refine (tz_g_iast (n := 8) rfl rfl rfl (tz_in0 rfl)).trans ?_
          refine tz_cn1 ?_
          exact tz_g_ret0 (tz_in0 rfl) rfl
        · skip
          refine (tz_g_aload_n rfl (tz_in0 rfl)).trans ?_
          refine (tz_g_getr (j := _) rfl rfl rfl rfl rfl (tz_in0 rfl)).trans ?_
          refine (tz_g_getr (j := _) rfl rfl rfl rfl rfl (tz_in0 rfl)).trans ?_
          refine (tz_g_iload_n rfl (tz_in0 rfl)).trans ?_
          refine (tz_g_sipush (v := 200) rfl (tz_in0 rfl)).trans ?_
          refine (tz_g_iast (n := 12) rfl rfl rfl (tz_in0 rfl)).trans ?_
          refine tz_cn1 ?_
          refine (tz_g_aload_n rfl (tz_in0 rfl)).trans ?_
          refine (tz_g_getr (j := _) rfl rfl rfl rfl rfl (tz_in0 rfl)).trans ?_
          refine (tz_g_getr (j := _) rfl rfl rfl rfl rfl (tz_in0 rfl)).trans ?_
          refine (tz_g_iload_n rfl (tz_in0 rfl)).trans ?_
          refine (tz_g_aload_n rfl (tz_in0 rfl)).trans ?_
          refine (tz_g_geti rfl rfl rfl (tz_in0 rfl)).trans ?_
          refine (tz_g_iast (n := 12) rfl rfl rfl (tz_in0 rfl)).trans ?_
          refine tz_cn1 ?_
          refine (tz_g_goto (t := 143) (by decide) (tz_in0 rfl)).trans ?_
          exact tz_g_ret0 (tz_in0 rfl) rfl
      refine tz_cg ?_ ?_
      · skip
        refine (tz_g_iload_n rfl (tz_in0 rfl)).trans ?_
        refine (tz_g_iload_n rfl (tz_in0 rfl)).trans ?_
        refine (tz_g_iload_n rfl (tz_in0 rfl)).trans ?_
        refine (tz_g_iload rfl (tz_in0 rfl)).trans ?_
        refine (tz_g_cv4V (m2 := 102) (rc := 0) rfl rfl rfl rfl rfl rfl (by decide) (tz_in0 rfl)).trans ?_
        refine tz_jV (fun A4 => ?_)
        refine (tz_g_aload_n rfl (tz_in0 rfl)).trans ?_
        refine (tz_g_getr (j := _) rfl rfl rfl rfl rfl (tz_in0 rfl)).trans ?_
        refine (tz_g_getr (j := _) rfl rfl rfl rfl rfl (tz_in0 rfl)).trans ?_
        refine (tz_g_iload_n rfl (tz_in0 rfl)).trans ?_
        refine (tz_g_iald (n := 12) rfl rfl rfl (tz_in0 rfl)).trans ?_
        refine tz_cn1 ?_
        refine (tz_g_iload_n rfl (tz_in0 rfl)).trans ?_
        refine (tz_g_ic_ne (t := 118) (by decide) (tz_in0 rfl)).trans ?_
        refine tz_cg ?_ ?_
        · skip
          refine (tz_g_aload_n rfl (tz_in0 rfl)).trans ?_
          refine (tz_g_getr (j := _) rfl rfl rfl rfl rfl (tz_in0 rfl)).trans ?_
          refine (tz_g_getr (j := _) rfl rfl rfl rfl rfl (tz_in0 rfl)).trans ?_
          refine (tz_g_iload_n rfl (tz_in0 rfl)).trans ?_
          refine (tz_g_iload_n rfl (tz_in0 rfl)).trans ?_
          refine (tz_g_iast (n := 12) rfl rfl rfl (tz_in0 rfl)).trans ?_
          refine tz_cn1 ?_
          refine (tz_g_aload_n rfl (tz_in0 rfl)).trans ?_
          refine (tz_g_getr (j := _) rfl rfl rfl rfl rfl (tz_in0 rfl)).trans ?_
          refine (tz_g_getr (j := _) rfl rfl rfl rfl rfl (tz_in0 rfl)).trans ?_
          refine (tz_g_iload_n rfl (tz_in0 rfl)).trans ?_
          refine (tz_g_dup2a rfl rfl (tz_in0 rfl)).trans ?_
          refine (tz_g_iald (n := 8) rfl rfl rfl (tz_in0 rfl)).trans ?_
          refine tz_cn1 ?_
          refine (tz_g_iconst (v := 1) rfl (tz_in0 rfl)).trans ?_
          refine (tz_g_iload_n rfl (tz_in0 rfl)).trans ?_
          refine (tz_g_ishl (tz_in0 rfl)).trans ?_
          refine (tz_g_ior (tz_in0 rfl)).trans ?_
          refine (tz_g_iast (n := 8) rfl rfl rfl (tz_in0 rfl)).trans ?_
          refine tz_cn1 ?_
          exact tz_g_ret0 (tz_in0 rfl) rfl
        · skip
          refine (tz_g_aload_n rfl (tz_in0 rfl)).trans ?_
          refine (tz_g_getr (j := _) rfl rfl rfl rfl rfl (tz_in0 rfl)).trans ?_
          refine (tz_g_getr (j := _) rfl rfl rfl rfl rfl (tz_in0 rfl)).trans ?_
          refine (tz_g_iload_n rfl (tz_in0 rfl)).trans ?_
          refine (tz_g_sipush (v := 200) rfl (tz_in0 rfl)).trans ?_
          refine (tz_g_iast (n := 12) rfl rfl rfl (tz_in0 rfl)).trans ?_
          refine tz_cn1 ?_
          refine (tz_g_aload_n rfl (tz_in0 rfl)).trans ?_
          refine (tz_g_getr (j := _) rfl rfl rfl rfl rfl (tz_in0 rfl)).trans ?_
          refine (tz_g_getr (j := _) rfl rfl rfl rfl rfl (tz_in0 rfl)).trans ?_
          refine (tz_g_iload_n rfl (tz_in0 rfl)).trans ?_
          refine (tz_g_aload_n rfl (tz_in0 rfl)).trans ?_
          refine (tz_g_geti rfl rfl rfl (tz_in0 rfl)).trans ?_
          refine (tz_g_iast (n := 12) rfl rfl rfl (tz_in0 rfl)).trans ?_
          refine tz_cn1 ?_
          refine (tz_g_goto (t := 143) (by decide) (tz_in0 rfl)).trans ?_
          exact tz_g_ret0 (tz_in0 rfl) rfl
      rfl
    refine tz_cg ?_ ?_
    · skip
      refine (tz_g_ifnullR (t := 77) (by decide) (tz_in0 rfl)).trans ?_
      refine (tz_g_aload_n rfl (tz_in0 rfl)).trans ?_
      refine (tz_g_gete rfl rfl rfl (tz_in0 rfl)).trans ?_
      refine tz_cg ?_ ?_
      · skip
        refine (tz_g_iload_n rfl (tz_in0 rfl)).trans ?_
        refine (tz_g_iload_n rfl (tz_in0 rfl)).trans ?_
        refine (tz_g_iload_n rfl (tz_in0 rfl)).trans ?_
        refine (tz_g_iload rfl (tz_in0 rfl)).trans ?_
        exact ((tz_in0 rfl) _ _).trans rfl
      refine tz_cg ?_ ?_
      · skip
        refine (tz_g_iload_n rfl (tz_in0 rfl)).trans ?_
        refine (tz_g_iload_n rfl (tz_in0 rfl)).trans ?_
        refine (tz_g_iload_n rfl (tz_in0 rfl)).trans ?_
        refine (tz_g_iload rfl (tz_in0 rfl)).trans ?_
        refine (tz_g_cv4V (m2 := 99) (rc := 0) rfl rfl rfl rfl rfl rfl (by decide) (tz_in0 rfl)).trans ?_
        refine tz_jV (fun A4 => ?_)
        refine (tz_g_aload_n rfl (tz_in0 rfl)).trans ?_
        refine (tz_g_getr (j := _) rfl rfl rfl rfl rfl (tz_in0 rfl)).trans ?_
        refine (tz_g_getr (j := _) rfl rfl rfl rfl rfl (tz_in0 rfl)).trans ?_
        refine (tz_g_iload_n rfl (tz_in0 rfl)).trans ?_
        refine (tz_g_iald (n := 12) rfl rfl rfl (tz_in0 rfl)).trans ?_
        refine tz_cn1 ?_
        refine (tz_g_iload_n rfl (tz_in0 rfl)).trans ?_
        refine (tz_g_ic_ne (t := 118) (by decide) (tz_in0 rfl)).trans ?_
        refine tz_cg ?_ ?_
        · skip
          refine (tz_g_aload_n rfl (tz_in0 rfl)).trans ?_
          refine (tz_g_getr (j := _) rfl rfl rfl rfl rfl (tz_in0 rfl)).trans ?_
          refine (tz_g_getr (j := _) rfl rfl rfl rfl rfl (tz_in0 rfl)).trans ?_
          refine (tz_g_iload_n rfl (tz_in0 rfl)).trans ?_
          refine (tz_g_iload_n rfl (tz_in0 rfl)).trans ?_
          refine (tz_g_iast (n := 12) rfl rfl rfl (tz_in0 rfl)).trans ?_
          refine tz_cn1 ?_
          refine (tz_g_aload_n rfl (tz_in0 rfl)).trans ?_
          refine (tz_g_getr (j := _) rfl rfl rfl rfl rfl (tz_in0 rfl)).trans ?_
          refine (tz_g_getr (j := _) rfl rfl rfl rfl rfl (tz_in0 rfl)).trans ?_
          refine (tz_g_iload_n rfl (tz_in0 rfl)).trans ?_
          refine (tz_g_dup2a rfl rfl (tz_in0 rfl)).trans ?_
          refine (tz_g_iald (n := 8) rfl rfl rfl (tz_in0 rfl)).trans ?_
          refine tz_cn1 ?_
          refine (tz_g_iconst (v := 1) rfl (tz_in0 rfl)).trans ?_
          refine (tz_g_iload_n rfl (tz_in0 rfl)).trans ?_
          refine (tz_g_ishl (tz_in0 rfl)).trans ?_
          refine (tz_g_ior (tz_in0 rfl)).trans ?_
          refine (tz_g_iast (n := 8) rfl rfl rfl (tz_in0 rfl)).trans ?_
          refine tz_cn1 ?_
          exact tz_g_ret0 (tz_in0 rfl) rfl
        · skip
          refine (tz_g_aload_n rfl (tz_in0 rfl)).trans ?_
          refine (tz_g_getr (j := _) rfl rfl rfl rfl rfl (tz_in0 rfl)).trans ?_
          refine (tz_g_getr (j := _) rfl rfl rfl rfl rfl (tz_in0 rfl)).trans ?_
          refine (tz_g_iload_n rfl (tz_in0 rfl)).trans ?_
          refine (tz_g_sipush (v := 200) rfl (tz_in0 rfl)).trans ?_
          refine (tz_g_iast (n := 12) rfl rfl rfl (tz_in0 rfl)).trans ?_
          refine tz_cn1 ?_
          refine (tz_g_aload_n rfl (tz_in0 rfl)).trans ?_
          refine (tz_g_getr (j := _) rfl rfl rfl rfl rfl (tz_in0 rfl)).trans ?_
          refine (tz_g_getr (j := _) rfl rfl rfl rfl rfl (tz_in0 rfl)).trans ?_
          refine (tz_g_iload_n rfl (tz_in0 rfl)).trans ?_
          refine (tz_g_aload_n rfl (tz_in0 rfl)).trans ?_
          refine (tz_g_geti rfl rfl rfl (tz_in0 rfl)).trans ?_
          refine (tz_g_iast (n := 12) rfl rfl rfl (tz_in0 rfl)).trans ?_
          refine tz_cn1 ?_
          refine (tz_g_goto (t := 143) (by decide) (tz_in0 rfl)).trans ?_
          exact tz_g_ret0 (tz_in0 rfl) rfl
      refine tz_cg ?_ ?_
      · skip
        refine (tz_g_iload_n rfl (tz_in0 rfl)).trans ?_
        refine (tz_g_iload_n rfl (tz_in0 rfl)).trans ?_
        refine (tz_g_iload_n rfl (tz_in0 rfl)).trans ?_
        refine (tz_g_iload rfl (tz_in0 rfl)).trans ?_
        refine (tz_g_cv4V (m2 := 100) (rc := 0) rfl rfl rfl rfl rfl rfl (by decide) (tz_in0 rfl)).trans ?_
        refine tz_jV (fun A4 => ?_)
        refine (tz_g_aload_n rfl (tz_in0 rfl)).trans ?_
        refine (tz_g_getr (j := _) rfl rfl rfl rfl rfl (tz_in0 rfl)).trans ?_
        refine (tz_g_getr (j := _) rfl rfl rfl rfl rfl (tz_in0 rfl)).trans ?_
        refine (tz_g_iload_n rfl (tz_in0 rfl)).trans ?_
        refine (tz_g_iald (n := 12) rfl rfl rfl (tz_in0 rfl)).trans ?_
        refine tz_cn1 ?_
        refine (tz_g_iload_n rfl (tz_in0 rfl)).trans ?_
        refine (tz_g_ic_ne (t := 118) (by decide) (tz_in0 rfl)).trans ?_
        refine tz_cg ?_ ?_
        · skip
          refine (tz_g_aload_n rfl (tz_in0 rfl)).trans ?_
          refine (tz_g_getr (j := _) rfl rfl rfl rfl rfl (tz_in0 rfl)).trans ?_
          refine (tz_g_getr (j := _) rfl rfl rfl rfl rfl (tz_in0 rfl)).trans ?_
          refine (tz_g_iload_n rfl (tz_in0 rfl)).trans ?_
          refine (tz_g_iload_n rfl (tz_in0 rfl)).trans ?_
          refine (tz_g_iast (n := 12) rfl rfl rfl (tz_in0 rfl)).trans ?_
          refine tz_cn1 ?_
          refine (tz_g_aload_n rfl (tz_in0 rfl)).trans ?_
          refine (tz_g_getr (j := _) rfl rfl rfl rfl rfl (tz_in0 rfl)).trans ?_
          refine (tz_g_getr (j := _) rfl rfl rfl rfl rfl (tz_in0 rfl)).trans ?_
          refine (tz_g_iload_n rfl (tz_in0 rfl)).trans ?_
          refine (tz_g_dup2a rfl rfl (tz_in0 rfl)).trans ?_
          refine (tz_g_iald (n := 8) rfl rfl rfl (tz_in0 rfl)).trans ?_
          refine tz_cn1 ?_
          refine (tz_g_iconst (v := 1) rfl (tz_in0 rfl)).trans ?_
          refine (tz_g_iload_n rfl (tz_in0 rfl)).trans ?_
          refine (tz_g_ishl (tz_in0 rfl)).trans ?_
          refine (tz_g_ior (tz_in0 rfl)).trans ?_
          refine (tz_g_iast (n := 8) rfl rfl rfl (tz_in0 rfl)).trans ?_
          refine tz_cn1 ?_
          exact tz_g_ret0 (tz_in0 rfl) rfl
        · skip
          refine (tz_g_aload_n rfl (tz_in0 rfl)).trans ?_
          refine (tz_g_getr (j := _) rfl rfl rfl rfl rfl (tz_in0 rfl)).trans ?_
          refine (tz_g_getr (j := _) rfl rfl rfl rfl rfl (tz_in0 rfl)).trans ?_
          refine (tz_g_iload_n rfl (tz_in0 rfl)).trans ?_
          refine (tz_g_sipush (v := 200) rfl (tz_in0 rfl)).trans ?_
          refine (tz_g_iast (n := 12) rfl rfl rfl (tz_in0 rfl)).trans ?_
          refine tz_cn1 ?_
          refine (tz_g_aload_n rfl (tz_in0 rfl)).trans ?_
          refine (tz_g_getr (j := _) rfl rfl rfl rfl rfl (tz_in0 rfl)).trans ?_
          refine (tz_g_getr (j := _) rfl rfl rfl rfl rfl (tz_in0 rfl)).trans ?_
          refine (tz_g_iload_n rfl (tz_in0 rfl)).trans ?_
          refine (tz_g_aload_n rfl (tz_in0 rfl)).trans ?_
          refine (tz_g_geti rfl rfl rfl (tz_in0 rfl)).trans ?_
          refine (tz_g_iast (n := 12) rfl rfl rfl (tz_in0 rfl)).trans ?_
          refine tz_cn1 ?_
          refine (tz_g_goto (t := 143) (by decide) (tz_in0 rfl)).trans ?_
          exact tz_g_ret0 (tz_in0 rfl) rfl
      refine tz_cg ?_ ?_
      · skip
        refine (tz_g_iload_n rfl (tz_in0 rfl)).trans ?_
        refine (tz_g_iload_n rfl (tz_in0 rfl)).trans ?_
        refine (tz_g_iload_n rfl (tz_in0 rfl)).trans ?_
        refine (tz_g_iload rfl (tz_in0 rfl)).trans ?_
        refine (tz_g_cv4V (m2 := 102) (rc := 0) rfl rfl rfl rfl rfl rfl (by decide) (tz_in0 rfl)).trans ?_
        refine tz_jV (fun A4 => ?_)
        refine (tz_g_aload_n rfl (tz_in0 rfl)).trans ?_
        refine (tz_g_getr (j := _) rfl rfl rfl rfl rfl (tz_in0 rfl)).trans ?_
        refine (tz_g_getr (j := _) rfl rfl rfl rfl rfl (tz_in0 rfl)).trans ?_
        refine (tz_g_iload_n rfl (tz_in0 rfl)).trans ?_
        refine (tz_g_iald (n := 12) rfl rfl rfl (tz_in0 rfl)).trans ?_
        refine tz_cn1 ?_
        refine (tz_g_iload_n rfl (tz_in0 rfl)).trans ?_
        refine (tz_g_ic_ne (t := 118) (by decide) (tz_in0 rfl)).trans ?_
        refine tz_cg ?_ ?_
        · skip
          refine (tz_g_aload_n rfl (tz_in0 rfl)).trans ?_
          refine (tz_g_getr (j := _) rfl rfl rfl rfl rfl (tz_in0 rfl)).trans ?_
          refine (tz_g_getr (j := _) rfl rfl rfl rfl rfl (tz_in0 rfl)).trans ?_
          refine (tz_g_iload_n rfl (tz_in0 rfl)).trans ?_
          refine (tz_g_iload_n rfl (tz_in0 rfl)).trans ?_
          refine (tz_g_iast (n := 12) rfl rfl rfl (tz_in0 rfl)).trans ?_
          refine tz_cn1 ?_
          refine (tz_g_aload_n rfl (tz_in0 rfl)).trans ?_
          refine (tz_g_getr (j := _) rfl rfl rfl rfl rfl (tz_in0 rfl)).trans ?_
          refine (tz_g_getr (j := _) rfl rfl rfl rfl rfl (tz_in0 rfl)).trans ?_
          refine (tz_g_iload_n rfl (tz_in0 rfl)).trans ?_
          refine (tz_g_dup2a rfl rfl (tz_in0 rfl)).trans ?_
          refine (tz_g_iald (n := 8) rfl rfl rfl (tz_in0 rfl)).trans ?_
          refine tz_cn1 ?_
          refine (tz_g_iconst (v := 1) rfl (tz_in0 rfl)).trans ?_
          refine (tz_g_iload_n rfl (tz_in0 rfl)).trans ?_
          refine (tz_g_ishl (tz_in0 rfl)).trans ?_
          refine (tz_g_ior (tz_in0 rfl)).trans ?_
          refine (tz_g_iast (n := 8) rfl rfl rfl (tz_in0 rfl)).trans ?_
          refine tz_cn1 ?_
          exact tz_g_ret0 (tz_in0 rfl) rfl
        · skip
          refine (tz_g_aload_n rfl (tz_in0 rfl)).trans ?_
          refine (tz_g_getr (j := _) rfl rfl rfl rfl rfl (tz_in0 rfl)).trans ?_
          refine (tz_g_getr (j := _) rfl rfl rfl rfl rfl (tz_in0 rfl)).trans ?_
          refine (tz_g_iload_n rfl (tz_in0 rfl)).trans ?_
          refine (tz_g_sipush (v := 200) rfl (tz_in0 rfl)).trans ?_
          refine (tz_g_iast (n := 12) rfl rfl rfl (tz_in0 rfl)).trans ?_
          refine tz_cn1 ?_
          refine (tz_g_aload_n rfl (tz_in0 rfl)).trans ?_
          refine (tz_g_getr (j := _) rfl rfl rfl rfl rfl (tz_in0 rfl)).trans ?_
          refine (tz_g_getr (j := _) rfl rfl rfl rfl rfl (tz_in0 rfl)).trans ?_
          refine (tz_g_iload_n rfl (tz_in0 rfl)).trans ?_
          refine (tz_g_aload_n rfl (tz_in0 rfl)).trans ?_
          refine (tz_g_geti rfl rfl rfl (tz_in0 rfl)).trans ?_
          refine (tz_g_iast (n := 12) rfl rfl rfl (tz_in0 rfl)).trans ?_
          refine tz_cn1 ?_
          refine (tz_g_goto (t := 143) (by decide) (tz_in0 rfl)).trans ?_
          exact tz_g_ret0 (tz_in0 rfl) rfl
      rfl
    rfl

theorem e_X7_readBurn (A : tz_Mem) : f_X7_readBurn A =
  tz_bI (f_X7_readNumber 0 ((tz_g A 139 0) - 1) A) (fun y1 A1 =>
if ¬ (tz_g A1 122 0) = (-1) then
  some (none, A1)
else
  tz_bI (f_X9_burnLetter 124 y1 A1) (fun y2 A2 =>
  some (none, A2))) := by
  refine (tz_Fe (L := [some (.ref 122), none]) rfl).trans ?_
  refine (tz_g_aload_n rfl (tz_in0 rfl)).trans ?_
  refine (tz_g_iconst (v := 0) rfl (tz_in0 rfl)).trans ?_
  refine (tz_g_aload_n rfl (tz_in0 rfl)).trans ?_
  refine (tz_g_getr (j := 124) rfl rfl rfl rfl rfl (tz_in0 rfl)).trans ?_
  refine (tz_g_getr (j := 139) rfl rfl rfl rfl rfl (tz_in0 rfl)).trans ?_
  refine (tz_g_geti rfl rfl rfl (tz_in0 rfl)).trans ?_
  refine (tz_g_iconst (v := 1) rfl (tz_in0 rfl)).trans ?_
  refine (tz_g_isub (tz_in0 rfl)).trans ?_
  refine (tz_g_cv2I (m2 := 85) (rc := 1) rfl rfl rfl rfl rfl rfl (by decide) (tz_in0 rfl)).trans ?_
  refine tz_jI (fun y1 A1 => ?_)
  refine (tz_g_istore_n (L2 := [some (.ref 122), some (.int y1)]) rfl rfl (tz_in0 rfl)).trans ?_
  refine (tz_g_aload_n rfl (tz_in0 rfl)).trans ?_
  refine (tz_g_geti rfl rfl rfl (tz_in0 rfl)).trans ?_
  refine (tz_g_iconst (v := (-1)) rfl (tz_in0 rfl)).trans ?_
  refine (tz_g_ic_ne (t := 35) (by decide) (tz_in0 rfl)).trans ?_
  refine tz_cg ?_ ?_
  · skip
    exact tz_g_ret0 (tz_in0 rfl) rfl
  · skip
    refine (tz_g_aload_n rfl (tz_in0 rfl)).trans ?_
    refine (tz_g_getr (j := 124) rfl rfl rfl rfl rfl (tz_in0 rfl)).trans ?_
    refine (tz_g_iload_n rfl (tz_in0 rfl)).trans ?_
    refine (tz_g_cv1I (m2 := 105) (rc := 4) rfl rfl rfl rfl rfl rfl (by decide) (tz_in0 rfl)).trans ?_
    refine tz_jI (fun y2 A2 => ?_)
    refine (tz_g_pop rfl (tz_in0 rfl)).trans ?_
    exact tz_g_ret0 (tz_in0 rfl) rfl

theorem e_X11_reach (x1 : Int32) (x2 : Int32) (A : tz_Mem) : f_X11_reach x1 x2 A =
  tz_bI (f_X3_has 30 x1 A) (fun y1 A1 =>
if ¬ y1 = 0 then
  if x2 < 1 then
    tz_bI (f_X11_refuse (-6) A1) (fun y2 A2 =>
    some (some (.int y2), A2))
  else
    if x2 ≤ 99 then
      q_X11_reach_45 x2 (1 <<< (x1 &&& 31)) 0 A1
    else
      tz_bI (f_X11_refuse (-6) A1) (fun y2 A2 =>
      some (some (.int y2), A2))
else
  tz_bI (f_X11_refuse (-1) A1) (fun y2 A2 =>
  some (some (.int y2), A2))) := by
  refine (tz_Fe (L := [some (.ref 17), some (.int x1), some (.int x2), none, none]) rfl).trans ?_
  refine (tz_g_aload_n rfl (tz_in0 rfl)).trans ?_
  refine (tz_g_getr (j := 30) rfl rfl rfl rfl rfl (tz_in0 rfl)).trans ?_
  refine (tz_g_getr (j := 31) rfl rfl rfl rfl rfl (tz_in0 rfl)).trans ?_
  refine (tz_g_iload_n rfl (tz_in0 rfl)).trans ?_
  refine (tz_g_cv1I (m2 := 28) (rc := 4) rfl rfl rfl rfl rfl rfl (by decide) (tz_in0 rfl)).trans ?_
  refine tz_jI (fun y1 A1 => ?_)
  refine (tz_g_if_ne (t := 20) (by decide) (tz_in0 rfl)).trans ?_
  refine tz_cg ?_ ?_
  · skip
    refine (tz_g_iload_n rfl (tz_in0 rfl)).trans ?_
    refine (tz_g_iconst (v := 1) rfl (tz_in0 rfl)).trans ?_
    refine (tz_g_ic_lt (t := 31) (by decide) (tz_in0 rfl)).trans ?_
    refine tz_cg ?_ ?_
    · skip
      refine (tz_g_aload_n rfl (tz_in0 rfl)).trans ?_
      refine (tz_g_bipush (v := (-6)) rfl (tz_in0 rfl)).trans ?_
      refine (tz_g_cv1I (m2 := 15) (rc := 1) rfl rfl rfl rfl rfl rfl (by decide) (tz_in0 rfl)).trans ?_
      refine tz_jI (fun y2 A2 => ?_)
      exact tz_g_ret1 (tz_in0 rfl) rfl
    · skip
      refine (tz_g_iload_n rfl (tz_in0 rfl)).trans ?_
      refine (tz_g_bipush (v := 99) rfl (tz_in0 rfl)).trans ?_
      refine (tz_g_ic_le (t := 38) (by decide) (tz_in0 rfl)).trans ?_
      refine tz_cg ?_ ?_
      · skip
        refine (tz_g_iconst (v := 1) rfl (tz_in0 rfl)).trans ?_
        refine (tz_g_iload_n rfl (tz_in0 rfl)).trans ?_
        refine (tz_g_ishl (tz_in0 rfl)).trans ?_
        refine (tz_g_istore_n (L2 := [some (.ref 17), some (.int x1), some (.int x2), some (.int (1 <<< (x1 &&& 31))), none]) rfl rfl (tz_in0 rfl)).trans ?_
        refine (tz_g_iconst (v := 0) rfl (tz_in0 rfl)).trans ?_
        refine (tz_g_istore (L2 := [some (.ref 17), some (.int x1), some (.int x2), some (.int (1 <<< (x1 &&& 31))), some (.int 0)]) rfl rfl (tz_in0 rfl)).trans ?_
        exact tz_Gm (L2 := [some (.ref 17), none, some (.int x2), some (.int (1 <<< (x1 &&& 31))), some (.int 0)]) rfl rfl rfl rfl
      · skip
        refine (tz_g_aload_n rfl (tz_in0 rfl)).trans ?_
        refine (tz_g_bipush (v := (-6)) rfl (tz_in0 rfl)).trans ?_
        refine (tz_g_cv1I (m2 := 15) (rc := 1) rfl rfl rfl rfl rfl rfl (by decide) (tz_in0 rfl)).trans ?_
        refine tz_jI (fun y2 A2 => ?_)
        exact tz_g_ret1 (tz_in0 rfl) rfl
  · skip
    refine (tz_g_aload_n rfl (tz_in0 rfl)).trans ?_
    refine (tz_g_iconst (v := (-1)) rfl (tz_in0 rfl)).trans ?_
    refine (tz_g_cv1I (m2 := 15) (rc := 1) rfl rfl rfl rfl rfl rfl (by decide) (tz_in0 rfl)).trans ?_
    refine tz_jI (fun y2 A2 => ?_)
    exact tz_g_ret1 (tz_in0 rfl) rfl

theorem e_X11_reach_45 (z2 : Int32) (z3 : Int32) (z4 : Int32) (A : tz_Mem) : q_X11_reach_45 z2 z3 z4 A =
  if (tz_g A 31 0) ≤ z4 then
  some (some (.int z3), A)
else
  tz_bI (f_X10_spread 30 z3 z2 A) (fun y1 A1 =>
  q_X11_reach_45 z2 y1 (z4 + 1) A1) := by
  show tz_Go 125 45 [some (.ref 17), none, some (.int z2), some (.int z3), some (.int z4)] [] A = _
  refine (tz_g_iload rfl (tz_inM rfl rfl rfl)).trans ?_
  refine (tz_g_aload_n rfl (tz_in0 rfl)).trans ?_
  refine (tz_g_getr (j := 30) rfl rfl rfl rfl rfl (tz_in0 rfl)).trans ?_
  refine (tz_g_getr (j := 31) rfl rfl rfl rfl rfl (tz_in0 rfl)).trans ?_
  refine (tz_g_geti rfl rfl rfl (tz_in0 rfl)).trans ?_
  refine (tz_g_ic_ge (t := 79) (by decide) (tz_in0 rfl)).trans ?_
  refine tz_cg ?_ ?_
  · skip
    refine (tz_g_iload_n rfl (tz_in0 rfl)).trans ?_
    exact tz_g_ret1 (tz_in0 rfl) rfl
  · skip
    refine (tz_g_aload_n rfl (tz_in0 rfl)).trans ?_
    refine (tz_g_getr (j := 30) rfl rfl rfl rfl rfl (tz_in0 rfl)).trans ?_
    refine (tz_g_getr (j := 37) rfl rfl rfl rfl rfl (tz_in0 rfl)).trans ?_
    refine (tz_g_iload_n rfl (tz_in0 rfl)).trans ?_
    refine (tz_g_iload_n rfl (tz_in0 rfl)).trans ?_
    refine (tz_g_cv2I (m2 := 126) (rc := 1) rfl rfl rfl rfl rfl rfl (by decide) (tz_in0 rfl)).trans ?_
    refine tz_jI (fun y1 A1 => ?_)
    refine (tz_g_istore_n (L2 := [some (.ref 17), none, some (.int z2), some (.int y1), some (.int z4)]) rfl rfl (tz_in0 rfl)).trans ?_
    refine (tz_g_iinc (v := 1) (L2 := [some (.ref 17), none, some (.int z2), some (.int y1), some (.int (z4 + 1))]) rfl rfl rfl rfl (tz_in0 rfl)).trans ?_
    refine (tz_g_goto (t := 45) (by decide) (tz_in0 rfl)).trans ?_
    exact tz_Gm (L2 := [some (.ref 17), none, some (.int z2), some (.int y1), some (.int (z4 + 1))]) rfl rfl rfl rfl

