theorem e_X12_arrives (x1 : Int32) (A : tz_Mem) : f_X12_arrives x1 A =
  tz_bI (f_X12_isLetter x1 A) (fun y1 A1 =>
if y1 = 0 then
  tz_bI (f_X12_no10 (-5) A1) (fun y2 A2 =>
  some (some (.int y2), A2))
else
  tz_bI (f_X12_arrivesBy x1 A1) (fun y2 A2 =>
  some (some (.int y2), A2))) := by
  refine (tz_Fe (L := [some (.ref 157), some (.int x1)]) rfl).trans ?_
  refine (tz_g_aload_n rfl (tz_in0 rfl)).trans ?_
  refine (tz_g_iload_n rfl (tz_in0 rfl)).trans ?_
  refine (tz_g_cv1I (m2 := 193) (rc := 4) rfl rfl rfl rfl rfl rfl (by decide) (tz_in0 rfl)).trans ?_
  refine tz_jI (fun y1 A1 => ?_)
  refine (tz_g_if_eq (t := 16) (by decide) (tz_in0 rfl)).trans ?_
  refine tz_cg ?_ ?_
  · skip
    refine (tz_g_aload_n rfl (tz_in0 rfl)).trans ?_
    refine (tz_g_bipush (v := (-5)) rfl (tz_in0 rfl)).trans ?_
    refine (tz_g_cv1I (m2 := 218) (rc := 1) rfl rfl rfl rfl rfl rfl (by decide) (tz_in0 rfl)).trans ?_
    refine tz_jI (fun y2 A2 => ?_)
    exact tz_g_ret1 (tz_in0 rfl) rfl
  · skip
    refine (tz_g_aload_n rfl (tz_in0 rfl)).trans ?_
    refine (tz_g_iload_n rfl (tz_in0 rfl)).trans ?_
    refine (tz_g_cv1I (m2 := 216) (rc := 1) rfl rfl rfl rfl rfl rfl (by decide) (tz_in0 rfl)).trans ?_
    refine tz_jI (fun y2 A2 => ?_)
    refine (tz_g_goto (t := 22) (by decide) (tz_in0 rfl)).trans ?_
    exact tz_g_ret1 (tz_in0 rfl) rfl

theorem e_X12_handIn (x1 : Int32) (x2 : Int32) (x3 : Int32) (x4 : Int32) (x5 : Int32) (A : tz_Mem) : f_X12_handIn x1 x2 x3 x4 x5 A =
  tz_bI (f_X12_within x1 0 9999 A) (fun y1 A1 =>
if y1 = 0 then
  tz_bI (f_X12_noHanding x2 x3 0 A1) (fun y2 A2 =>
  if 0 ≤ y2 then
    tz_bI (f_X12_handed x1 x2 x3 x4 x5 A2) (fun y3 A3 =>
    some (some (.int y3), A3))
  else
    tz_bI (f_X12_no10 y2 A2) (fun y3 A3 =>
    some (some (.int y3), A3)))
else
  tz_bI (f_X12_within x4 1 99 A1) (fun y2 A2 =>
  if y2 = 0 then
    tz_bI (f_X12_noHanding x2 x3 0 A2) (fun y3 A3 =>
    if 0 ≤ y3 then
      tz_bI (f_X12_handed x1 x2 x3 x4 x5 A3) (fun y4 A4 =>
      some (some (.int y4), A4))
    else
      tz_bI (f_X12_no10 y3 A3) (fun y4 A4 =>
      some (some (.int y4), A4)))
  else
    tz_bI (f_X12_within x5 0 99 A2) (fun y3 A3 =>
    if y3 = 0 then
      tz_bI (f_X12_noHanding x2 x3 0 A3) (fun y4 A4 =>
      if 0 ≤ y4 then
        tz_bI (f_X12_handed x1 x2 x3 x4 x5 A4) (fun y5 A5 =>
        some (some (.int y5), A5))
      else
        tz_bI (f_X12_no10 y4 A4) (fun y5 A5 =>
        some (some (.int y5), A5)))
    else
      tz_bI (f_X12_noHanding x2 x3 1 A3) (fun y4 A4 =>
      if 0 ≤ y4 then
        tz_bI (f_X12_handed x1 x2 x3 x4 x5 A4) (fun y5 A5 =>
        some (some (.int y5), A5))
      else
        tz_bI (f_X12_no10 y4 A4) (fun y5 A5 =>
        some (some (.int y5), A5)))))) := by
  refine (tz_Fe (L := [some (.ref 157), some (.int x1), some (.int x2), some (.int x3), some (.int x4), some (.int x5), none]) rfl).trans ?_
  refine (tz_g_aload_n rfl (tz_in0 rfl)).trans ?_
  refine (tz_g_iload_n rfl (tz_in0 rfl)).trans ?_
  refine (tz_g_iload_n rfl (tz_in0 rfl)).trans ?_
  refine (tz_g_iload_n rfl (tz_in0 rfl)).trans ?_
  refine (tz_g_iconst (v := 0) rfl (tz_in0 rfl)).trans ?_
  refine (tz_g_sipush (v := 9999) rfl (tz_in0 rfl)).trans ?_
  refine (tz_g_cs3I (m2 := 165) (rc := 4) rfl rfl rfl rfl rfl rfl (by decide) (tz_in0 rfl)).trans ?_
  refine tz_jI (fun y1 A1 => ?_)
  refine (tz_g_if_eq (t := 40) (by decide) (tz_in0 rfl)).trans ?_
  refine tz_cg ?_ ?_
  · skip
    refine (tz_g_iconst (v := 0) rfl (tz_in0 rfl)).trans ?_
    refine (tz_g_cv3I (m2 := 220) (rc := 1) rfl rfl rfl rfl rfl rfl (by decide) (tz_in0 rfl)).trans ?_
    refine tz_jI (fun y2 A2 => ?_)
    refine (tz_g_istore (L2 := [some (.ref 157), some (.int x1), some (.int x2), some (.int x3), some (.int x4), some (.int x5), some (.int y2)]) rfl rfl (tz_in0 rfl)).trans ?_
    refine (tz_g_iload rfl (tz_in0 rfl)).trans ?_
    refine (tz_g_if_ge (t := 60) (by decide) (tz_in0 rfl)).trans ?_
    refine tz_cg ?_ ?_
    · skip
      refine (tz_g_aload_n rfl (tz_in0 rfl)).trans ?_
      refine (tz_g_iload_n rfl (tz_in0 rfl)).trans ?_
      refine (tz_g_iload_n rfl (tz_in0 rfl)).trans ?_
      refine (tz_g_iload_n rfl (tz_in0 rfl)).trans ?_
      refine (tz_g_iload rfl (tz_in0 rfl)).trans ?_
      refine (tz_g_iload rfl (tz_in0 rfl)).trans ?_
      refine (tz_g_cv5I (m2 := 221) (rc := 1) rfl rfl rfl rfl rfl rfl (by decide) (tz_in0 rfl)).trans ?_
      refine tz_jI (fun y3 A3 => ?_)
      exact tz_g_ret1 (tz_in0 rfl) rfl
    · skip
      refine (tz_g_aload_n rfl (tz_in0 rfl)).trans ?_
      refine (tz_g_iload rfl (tz_in0 rfl)).trans ?_
      refine (tz_g_cv1I (m2 := 218) (rc := 1) rfl rfl rfl rfl rfl rfl (by decide) (tz_in0 rfl)).trans ?_
      refine tz_jI (fun y3 A3 => ?_)
      refine (tz_g_goto (t := 71) (by decide) (tz_in0 rfl)).trans ?_
      exact tz_g_ret1 (tz_in0 rfl) rfl
  · skip
    refine (tz_g_iload rfl (tz_in0 rfl)).trans ?_
    refine (tz_g_iconst (v := 1) rfl (tz_in0 rfl)).trans ?_
    refine (tz_g_bipush (v := 99) rfl (tz_in0 rfl)).trans ?_
    refine (tz_g_cs3I (m2 := 165) (rc := 4) rfl rfl rfl rfl rfl rfl (by decide) (tz_in0 rfl)).trans ?_
    refine tz_jI (fun y2 A2 => ?_)
    refine (tz_g_if_eq (t := 40) (by decide) (tz_in0 rfl)).trans ?_
    refine tz_cg ?_ ?_
    · skip
      refine (tz_g_iconst (v := 0) rfl (tz_in0 rfl)).trans ?_
      refine (tz_g_cv3I (m2 := 220) (rc := 1) rfl rfl rfl rfl rfl rfl (by decide) (tz_in0 rfl)).trans ?_
      refine tz_jI (fun y3 A3 => ?_)
      refine (tz_g_istore (L2 := [some (.ref 157), some (.int x1), some (.int x2), some (.int x3), some (.int x4), some (.int x5), some (.int y3)]) rfl rfl (tz_in0 rfl)).trans ?_
      refine (tz_g_iload rfl (tz_in0 rfl)).trans ?_
      refine (tz_g_if_ge (t := 60) (by decide) (tz_in0 rfl)).trans ?_
      refine tz_cg ?_ ?_
      · skip
        refine (tz_g_aload_n rfl (tz_in0 rfl)).trans ?_
        refine (tz_g_iload_n rfl (tz_in0 rfl)).trans ?_
        refine (tz_g_iload_n rfl (tz_in0 rfl)).trans ?_
        refine (tz_g_iload_n rfl (tz_in0 rfl)).trans ?_
        refine (tz_g_iload rfl (tz_in0 rfl)).trans ?_
        refine (tz_g_iload rfl (tz_in0 rfl)).trans ?_
        refine (tz_g_cv5I (m2 := 221) (rc := 1) rfl rfl rfl rfl rfl rfl (by decide) (tz_in0 rfl)).trans ?_
        refine tz_jI (fun y4 A4 => ?_)
        exact tz_g_ret1 (tz_in0 rfl) rfl
      · skip
        refine (tz_g_aload_n rfl (tz_in0 rfl)).trans ?_
        refine (tz_g_iload rfl (tz_in0 rfl)).trans ?_
        refine (tz_g_cv1I (m2 := 218) (rc := 1) rfl rfl rfl rfl rfl rfl (by decide) (tz_in0 rfl)).trans ?_
        refine tz_jI (fun y4 A4 => ?_)
        refine (tz_g_goto (t := 71) (by decide) (tz_in0 rfl)).trans ?_
        exact tz_g_ret1 (tz_in0 rfl) rfl
    · skip
      refine (tz_g_iload rfl (tz_in0 rfl)).trans ?_
      refine (tz_g_iconst (v := 0) rfl (tz_in0 rfl)).trans ?_
      refine (tz_g_bipush (v := 99) rfl (tz_in0 rfl)).trans ?_
      refine (tz_g_cs3I (m2 := 165) (rc := 4) rfl rfl rfl rfl rfl rfl (by decide) (tz_in0 rfl)).trans ?_
      refine tz_jI (fun y3 A3 => ?_)
      refine (tz_g_if_eq (t := 40) (by decide) (tz_in0 rfl)).trans ?_
      refine tz_cg ?_ ?_
      · skip
        refine (tz_g_iconst (v := 0) rfl (tz_in0 rfl)).trans ?_
        refine (tz_g_cv3I (m2 := 220) (rc := 1) rfl rfl rfl rfl rfl rfl (by decide) (tz_in0 rfl)).trans ?_
        refine tz_jI (fun y4 A4 => ?_)
        refine (tz_g_istore (L2 := [some (.ref 157), some (.int x1), some (.int x2), some (.int x3), some (.int x4), some (.int x5), some (.int y4)]) rfl rfl (tz_in0 rfl)).trans ?_
        refine (tz_g_iload rfl (tz_in0 rfl)).trans ?_
        refine (tz_g_if_ge (t := 60) (by decide) (tz_in0 rfl)).trans ?_
        refine tz_cg ?_ ?_
        · skip
          refine (tz_g_aload_n rfl (tz_in0 rfl)).trans ?_
          refine (tz_g_iload_n rfl (tz_in0 rfl)).trans ?_
          refine (tz_g_iload_n rfl (tz_in0 rfl)).trans ?_
          refine (tz_g_iload_n rfl (tz_in0 rfl)).trans ?_
          refine (tz_g_iload rfl (tz_in0 rfl)).trans ?_
          refine (tz_g_iload rfl (tz_in0 rfl)).trans ?_
          refine (tz_g_cv5I (m2 := 221) (rc := 1) rfl rfl rfl rfl rfl rfl (by decide) (tz_in0 rfl)).trans ?_
          refine tz_jI (fun y5 A5 => ?_)
          exact tz_g_ret1 (tz_in0 rfl) rfl
        · skip
          refine (tz_g_aload_n rfl (tz_in0 rfl)).trans ?_
          refine (tz_g_iload rfl (tz_in0 rfl)).trans ?_
          refine (tz_g_cv1I (m2 := 218) (rc := 1) rfl rfl rfl rfl rfl rfl (by decide) (tz_in0 rfl)).trans ?_
          refine tz_jI (fun y5 A5 => ?_)
          refine (tz_g_goto (t := 71) (by decide) (tz_in0 rfl)).trans ?_
          exact tz_g_ret1 (tz_in0 rfl) rfl
      · skip
        refine (tz_g_iconst (v := 1) rfl (tz_in0 rfl)).trans ?_
        refine (tz_g_goto (t := 41) (by decide) (tz_in0 rfl)).trans ?_
        refine (tz_g_cv3I (m2 := 220) (rc := 1) rfl rfl rfl rfl rfl rfl (by decide) (tz_in0 rfl)).trans ?_
        refine tz_jI (fun y4 A4 => ?_)
        refine (tz_g_istore (L2 := [some (.ref 157), some (.int x1), some (.int x2), some (.int x3), some (.int x4), some (.int x5), some (.int y4)]) rfl rfl (tz_in0 rfl)).trans ?_
        refine (tz_g_iload rfl (tz_in0 rfl)).trans ?_
        refine (tz_g_if_ge (t := 60) (by decide) (tz_in0 rfl)).trans ?_
        refine tz_cg ?_ ?_
        · skip
          refine (tz_g_aload_n rfl (tz_in0 rfl)).trans ?_
          refine (tz_g_iload_n rfl (tz_in0 rfl)).trans ?_
          refine (tz_g_iload_n rfl (tz_in0 rfl)).trans ?_
          refine (tz_g_iload_n rfl (tz_in0 rfl)).trans ?_
          refine (tz_g_iload rfl (tz_in0 rfl)).trans ?_
          refine (tz_g_iload rfl (tz_in0 rfl)).trans ?_
          refine (tz_g_cv5I (m2 := 221) (rc := 1) rfl rfl rfl rfl rfl rfl (by decide) (tz_in0 rfl)).trans ?_
          refine tz_jI (fun y5 A5 => ?_)
          exact tz_g_ret1 (tz_in0 rfl) rfl
        · skip
          refine (tz_g_aload_n rfl (tz_in0 rfl)).trans ?_
          refine (tz_g_iload rfl (tz_in0 rfl)).trans ?_
          refine (tz_g_cv1I (m2 := 218) (rc := 1) rfl rfl rfl rfl rfl rfl (by decide) (tz_in0 rfl)).trans ?_
          refine tz_jI (fun y5 A5 => ?_)
          refine (tz_g_goto (t := 71) (by decide) (tz_in0 rfl)).trans ?_
          exact tz_g_ret1 (tz_in0 rfl) rfl

theorem e_X12_latest (x1 : Int32) (x2 : Int32) (x3 : Int32) (x4 : Int32) (A : tz_Mem) : f_X12_latest x1 x2 x3 x4 A =
  tz_bI (f_X12_within x3 1 99 A) (fun y1 A1 =>
tz_bI (f_X12_noHanding x1 x2 y1 A1) (fun y2 A2 =>
if 0 ≤ y2 then
  q_X12_latest_31 x1 x2 x3 x4 99 A2
else
  tz_bI (f_X12_no10 y2 A2) (fun y3 A3 =>
  some (some (.int y3), A3)))) := by
  refine (tz_Fe (L := [some (.ref 157), some (.int x1), some (.int x2), some (.int x3), some (.int x4), none, none, none]) rfl).trans ?_
  refine (tz_g_aload_n rfl (tz_in0 rfl)).trans ?_
  refine (tz_g_iload_n rfl (tz_in0 rfl)).trans ?_
  refine (tz_g_iload_n rfl (tz_in0 rfl)).trans ?_
  refine (tz_g_iload_n rfl (tz_in0 rfl)).trans ?_
  refine (tz_g_iconst (v := 1) rfl (tz_in0 rfl)).trans ?_
  refine (tz_g_bipush (v := 99) rfl (tz_in0 rfl)).trans ?_
  refine (tz_g_cs3I (m2 := 165) (rc := 4) rfl rfl rfl rfl rfl rfl (by decide) (tz_in0 rfl)).trans ?_
  refine tz_jI (fun y1 A1 => ?_)
  refine (tz_g_cv3I (m2 := 220) (rc := 1) rfl rfl rfl rfl rfl rfl (by decide) (tz_in0 rfl)).trans ?_
  refine tz_jI (fun y2 A2 => ?_)
  refine (tz_g_istore (L2 := [some (.ref 157), some (.int x1), some (.int x2), some (.int x3), some (.int x4), some (.int y2), none, none]) rfl rfl (tz_in0 rfl)).trans ?_
  refine (tz_g_iload rfl (tz_in0 rfl)).trans ?_
  refine (tz_g_if_ge (t := 27) (by decide) (tz_in0 rfl)).trans ?_
  refine tz_cg ?_ ?_
  · skip
    refine (tz_g_bipush (v := 99) rfl (tz_in0 rfl)).trans ?_
    refine (tz_g_istore (L2 := [some (.ref 157), some (.int x1), some (.int x2), some (.int x3), some (.int x4), some (.int y2), some (.int 99), none]) rfl rfl (tz_in0 rfl)).trans ?_
    exact tz_Gm (L2 := [some (.ref 157), some (.int x1), some (.int x2), some (.int x3), some (.int x4), none, some (.int 99), none]) rfl rfl rfl rfl
  · skip
    refine (tz_g_aload_n rfl (tz_in0 rfl)).trans ?_
    refine (tz_g_iload rfl (tz_in0 rfl)).trans ?_
    refine (tz_g_cv1I (m2 := 218) (rc := 1) rfl rfl rfl rfl rfl rfl (by decide) (tz_in0 rfl)).trans ?_
    refine tz_jI (fun y3 A3 => ?_)
    exact tz_g_ret1 (tz_in0 rfl) rfl

theorem e_X12_latest_31 (z1 : Int32) (z2 : Int32) (z3 : Int32) (z4 : Int32) (z6 : Int32) (A : tz_Mem) : q_X12_latest_31 z1 z2 z3 z4 z6 A =
  if z6 < 0 then
  some (some (.int (-1)), A)
else
  tz_bI (f_X12_handed 0 z1 z2 z3 z6 A) (fun y1 A1 =>
  if y1 = (-1) then
    q_X12_latest_31 z1 z2 z3 z4 (z6 + (-1)) A1
  else
    if z4 < y1 then
      q_X12_latest_31 z1 z2 z3 z4 (z6 + (-1)) A1
    else
      some (some (.int z6), A1)) := by
  show tz_Go 222 31 [some (.ref 157), some (.int z1), some (.int z2), some (.int z3), some (.int z4), none, some (.int z6), none] [] A = _
  refine (tz_g_iload rfl (tz_inM rfl rfl rfl)).trans ?_
  refine (tz_g_if_lt (t := 70) (by decide) (tz_in0 rfl)).trans ?_
  refine tz_cg ?_ ?_
  · skip
    refine (tz_g_iconst (v := (-1)) rfl (tz_in0 rfl)).trans ?_
    exact tz_g_ret1 (tz_in0 rfl) rfl
  · skip
    refine (tz_g_aload_n rfl (tz_in0 rfl)).trans ?_
    refine (tz_g_iconst (v := 0) rfl (tz_in0 rfl)).trans ?_
    refine (tz_g_iload_n rfl (tz_in0 rfl)).trans ?_
    refine (tz_g_iload_n rfl (tz_in0 rfl)).trans ?_
    refine (tz_g_iload_n rfl (tz_in0 rfl)).trans ?_
    refine (tz_g_iload rfl (tz_in0 rfl)).trans ?_
    refine (tz_g_cv5I (m2 := 221) (rc := 1) rfl rfl rfl rfl rfl rfl (by decide) (tz_in0 rfl)).trans ?_
    refine tz_jI (fun y1 A1 => ?_)
    refine (tz_g_istore (L2 := [some (.ref 157), some (.int z1), some (.int z2), some (.int z3), some (.int z4), none, some (.int z6), some (.int y1)]) rfl rfl (tz_in0 rfl)).trans ?_
    refine (tz_g_iload rfl (tz_in0 rfl)).trans ?_
    refine (tz_g_iconst (v := (-1)) rfl (tz_in0 rfl)).trans ?_
    refine (tz_g_ic_eq (t := 64) (by decide) (tz_in0 rfl)).trans ?_
    refine tz_cg ?_ ?_
    · skip
      refine (tz_g_iinc (v := (-1)) (L2 := [some (.ref 157), some (.int z1), some (.int z2), some (.int z3), some (.int z4), none, some (.int (z6 + (-1))), some (.int y1)]) rfl rfl rfl rfl (tz_in0 rfl)).trans ?_
      refine (tz_g_goto (t := 31) (by decide) (tz_in0 rfl)).trans ?_
      exact tz_Gm (L2 := [some (.ref 157), some (.int z1), some (.int z2), some (.int z3), some (.int z4), none, some (.int (z6 + (-1))), none]) rfl rfl rfl rfl
    · skip
      refine (tz_g_iload rfl (tz_in0 rfl)).trans ?_
      refine (tz_g_iload rfl (tz_in0 rfl)).trans ?_
      refine (tz_g_ic_gt (t := 64) (by decide) (tz_in0 rfl)).trans ?_
      refine tz_cg ?_ ?_
      · skip
        refine (tz_g_iinc (v := (-1)) (L2 := [some (.ref 157), some (.int z1), some (.int z2), some (.int z3), some (.int z4), none, some (.int (z6 + (-1))), some (.int y1)]) rfl rfl rfl rfl (tz_in0 rfl)).trans ?_
        refine (tz_g_goto (t := 31) (by decide) (tz_in0 rfl)).trans ?_
        exact tz_Gm (L2 := [some (.ref 157), some (.int z1), some (.int z2), some (.int z3), some (.int z4), none, some (.int (z6 + (-1))), none]) rfl rfl rfl rfl
      · skip
        refine (tz_g_iload rfl (tz_in0 rfl)).trans ?_
        exact tz_g_ret1 (tz_in0 rfl) rfl

theorem e_X12_lightest (x1 : Int32) (x2 : Int32) (x3 : Int32) (A : tz_Mem) : f_X12_lightest x1 x2 x3 A =
  tz_bI (f_X12_noHanding x1 x2 1 A) (fun y1 A1 =>
if 0 ≤ y1 then
  q_X12_lightest_24 x1 x2 x3 1 A1
else
  tz_bI (f_X12_no10 y1 A1) (fun y2 A2 =>
  some (some (.int y2), A2))) := by
  refine (tz_Fe (L := [some (.ref 157), some (.int x1), some (.int x2), some (.int x3), none, none, none]) rfl).trans ?_
  refine (tz_g_aload_n rfl (tz_in0 rfl)).trans ?_
  refine (tz_g_iload_n rfl (tz_in0 rfl)).trans ?_
  refine (tz_g_iload_n rfl (tz_in0 rfl)).trans ?_
  refine (tz_g_iconst (v := 1) rfl (tz_in0 rfl)).trans ?_
  refine (tz_g_cv3I (m2 := 220) (rc := 1) rfl rfl rfl rfl rfl rfl (by decide) (tz_in0 rfl)).trans ?_
  refine tz_jI (fun y1 A1 => ?_)
  refine (tz_g_istore (L2 := [some (.ref 157), some (.int x1), some (.int x2), some (.int x3), some (.int y1), none, none]) rfl rfl (tz_in0 rfl)).trans ?_
  refine (tz_g_iload rfl (tz_in0 rfl)).trans ?_
  refine (tz_g_if_ge (t := 21) (by decide) (tz_in0 rfl)).trans ?_
  refine tz_cg ?_ ?_
  · skip
    refine (tz_g_iconst (v := 1) rfl (tz_in0 rfl)).trans ?_
    refine (tz_g_istore (L2 := [some (.ref 157), some (.int x1), some (.int x2), some (.int x3), some (.int y1), some (.int 1), none]) rfl rfl (tz_in0 rfl)).trans ?_
    exact tz_Gm (L2 := [some (.ref 157), some (.int x1), some (.int x2), some (.int x3), none, some (.int 1), none]) rfl rfl rfl rfl
  · skip
    refine (tz_g_aload_n rfl (tz_in0 rfl)).trans ?_
    refine (tz_g_iload rfl (tz_in0 rfl)).trans ?_
    refine (tz_g_cv1I (m2 := 218) (rc := 1) rfl rfl rfl rfl rfl rfl (by decide) (tz_in0 rfl)).trans ?_
    refine tz_jI (fun y2 A2 => ?_)
    exact tz_g_ret1 (tz_in0 rfl) rfl

theorem e_X12_lightest_24 (z1 : Int32) (z2 : Int32) (z3 : Int32) (z5 : Int32) (A : tz_Mem) : q_X12_lightest_24 z1 z2 z3 z5 A =
  if 100 ≤ z5 then
  some (some (.int (-1)), A)
else
  tz_bI (f_X12_handed 0 z1 z2 z5 0 A) (fun y1 A1 =>
  if y1 = (-1) then
    q_X12_lightest_24 z1 z2 z3 (z5 + 1) A1
  else
    if z3 < y1 then
      q_X12_lightest_24 z1 z2 z3 (z5 + 1) A1
    else
      some (some (.int z5), A1)) := by
  show tz_Go 223 24 [some (.ref 157), some (.int z1), some (.int z2), some (.int z3), none, some (.int z5), none] [] A = _
  refine (tz_g_iload rfl (tz_inM rfl rfl rfl)).trans ?_
  refine (tz_g_bipush (v := 100) rfl (tz_in0 rfl)).trans ?_
  refine (tz_g_ic_ge (t := 64) (by decide) (tz_in0 rfl)).trans ?_
  refine tz_cg ?_ ?_
  · skip
    refine (tz_g_iconst (v := (-1)) rfl (tz_in0 rfl)).trans ?_
    exact tz_g_ret1 (tz_in0 rfl) rfl
  · skip
    refine (tz_g_aload_n rfl (tz_in0 rfl)).trans ?_
    refine (tz_g_iconst (v := 0) rfl (tz_in0 rfl)).trans ?_
    refine (tz_g_iload_n rfl (tz_in0 rfl)).trans ?_
    refine (tz_g_iload_n rfl (tz_in0 rfl)).trans ?_
    refine (tz_g_iload rfl (tz_in0 rfl)).trans ?_
    refine (tz_g_iconst (v := 0) rfl (tz_in0 rfl)).trans ?_
    refine (tz_g_cv5I (m2 := 221) (rc := 1) rfl rfl rfl rfl rfl rfl (by decide) (tz_in0 rfl)).trans ?_
    refine tz_jI (fun y1 A1 => ?_)
    refine (tz_g_istore (L2 := [some (.ref 157), some (.int z1), some (.int z2), some (.int z3), none, some (.int z5), some (.int y1)]) rfl rfl (tz_in0 rfl)).trans ?_
    refine (tz_g_iload rfl (tz_in0 rfl)).trans ?_
    refine (tz_g_iconst (v := (-1)) rfl (tz_in0 rfl)).trans ?_
    refine (tz_g_ic_eq (t := 58) (by decide) (tz_in0 rfl)).trans ?_
    refine tz_cg ?_ ?_
    · skip
      refine (tz_g_iinc (v := 1) (L2 := [some (.ref 157), some (.int z1), some (.int z2), some (.int z3), none, some (.int (z5 + 1)), some (.int y1)]) rfl rfl rfl rfl (tz_in0 rfl)).trans ?_
      refine (tz_g_goto (t := 24) (by decide) (tz_in0 rfl)).trans ?_
      exact tz_Gm (L2 := [some (.ref 157), some (.int z1), some (.int z2), some (.int z3), none, some (.int (z5 + 1)), none]) rfl rfl rfl rfl
    · skip
      refine (tz_g_iload rfl (tz_in0 rfl)).trans ?_
      refine (tz_g_iload_n rfl (tz_in0 rfl)).trans ?_
      refine (tz_g_ic_gt (t := 58) (by decide) (tz_in0 rfl)).trans ?_
      refine tz_cg ?_ ?_
      · skip
        refine (tz_g_iinc (v := 1) (L2 := [some (.ref 157), some (.int z1), some (.int z2), some (.int z3), none, some (.int (z5 + 1)), some (.int y1)]) rfl rfl rfl rfl (tz_in0 rfl)).trans ?_
        refine (tz_g_goto (t := 24) (by decide) (tz_in0 rfl)).trans ?_
        exact tz_Gm (L2 := [some (.ref 157), some (.int z1), some (.int z2), some (.int z3), none, some (.int (z5 + 1)), none]) rfl rfl rfl rfl
      · skip
        refine (tz_g_iload rfl (tz_in0 rfl)).trans ?_
        exact tz_g_ret1 (tz_in0 rfl) rfl

theorem e_X12_needs (x1 : Int32) (x2 : Int32) (A : tz_Mem) : f_X12_needs x1 x2 A =
  tz_bI (f_X12_isLetter x1 A) (fun y1 A1 =>
if y1 = 0 then
  tz_bI (f_X12_no10 (-5) A1) (fun y2 A2 =>
  some (some (.int y2), A2))
else
  tz_bI (f_X12_within x2 0 1 A1) (fun y2 A2 =>
  if ¬ y2 = 0 then
    tz_bI (f_X12_arrivesBy x1 A2) (fun y3 A3 =>
    if x1 < 0 ∨ 12 ≤ (Int32.toNatClampNeg x1) then none else
    if ¬ (tz_g A3 175 (Int32.toNatClampNeg x1)) = 200 then
      q_X12_needs_58 x1 x2 0 y3 (-1) 0 0 A3
    else
      q_X12_needs_58 x1 x2 0 y3 (-1) 1 0 A3)
  else
    tz_bI (f_X12_no10 (-5) A2) (fun y3 A3 =>
    some (some (.int y3), A3)))) := by
  refine (tz_Fe (L := [some (.ref 157), some (.int x1), some (.int x2), none, none, none, none, none, none]) rfl).trans ?_
  refine (tz_g_aload_n rfl (tz_in0 rfl)).trans ?_
  refine (tz_g_iload_n rfl (tz_in0 rfl)).trans ?_
  refine (tz_g_cv1I (m2 := 193) (rc := 4) rfl rfl rfl rfl rfl rfl (by decide) (tz_in0 rfl)).trans ?_
  refine tz_jI (fun y1 A1 => ?_)
  refine (tz_g_if_eq (t := 17) (by decide) (tz_in0 rfl)).trans ?_
  refine tz_cg ?_ ?_
  · skip
    refine (tz_g_aload_n rfl (tz_in0 rfl)).trans ?_
    refine (tz_g_bipush (v := (-5)) rfl (tz_in0 rfl)).trans ?_
    refine (tz_g_cv1I (m2 := 218) (rc := 1) rfl rfl rfl rfl rfl rfl (by decide) (tz_in0 rfl)).trans ?_
    refine tz_jI (fun y2 A2 => ?_)
    exact tz_g_ret1 (tz_in0 rfl) rfl
  · skip
    refine (tz_g_iload_n rfl (tz_in0 rfl)).trans ?_
    refine (tz_g_iconst (v := 0) rfl (tz_in0 rfl)).trans ?_
    refine (tz_g_iconst (v := 1) rfl (tz_in0 rfl)).trans ?_
    refine (tz_g_cs3I (m2 := 165) (rc := 4) rfl rfl rfl rfl rfl rfl (by decide) (tz_in0 rfl)).trans ?_
    refine tz_jI (fun y2 A2 => ?_)
    refine (tz_g_if_ne (t := 24) (by decide) (tz_in0 rfl)).trans ?_
    refine tz_cg ?_ ?_
    · skip
      refine (tz_g_iconst (v := 0) rfl (tz_in0 rfl)).trans ?_
      refine (tz_g_istore_n (L2 := [some (.ref 157), some (.int x1), some (.int x2), some (.int 0), none, none, none, none, none]) rfl rfl (tz_in0 rfl)).trans ?_
      refine (tz_g_aload_n rfl (tz_in0 rfl)).trans ?_
      refine (tz_g_iload_n rfl (tz_in0 rfl)).trans ?_
      refine (tz_g_cv1I (m2 := 216) (rc := 1) rfl rfl rfl rfl rfl rfl (by decide) (tz_in0 rfl)).trans ?_
      refine tz_jI (fun y3 A3 => ?_)
      refine (tz_g_istore (L2 := [some (.ref 157), some (.int x1), some (.int x2), some (.int 0), some (.int y3), none, none, none, none]) rfl rfl (tz_in0 rfl)).trans ?_
      refine (tz_g_iconst (v := (-1)) rfl (tz_in0 rfl)).trans ?_
      refine (tz_g_istore (L2 := [some (.ref 157), some (.int x1), some (.int x2), some (.int 0), some (.int y3), some (.int (-1)), none, none, none]) rfl rfl (tz_in0 rfl)).trans ?_
      refine (tz_g_aload_n rfl (tz_in0 rfl)).trans ?_
      refine (tz_g_getr (j := 175) rfl rfl rfl rfl rfl (tz_in0 rfl)).trans ?_
      refine (tz_g_iload_n rfl (tz_in0 rfl)).trans ?_
      refine (tz_g_iald (n := 12) rfl rfl rfl (tz_in0 rfl)).trans ?_
      refine tz_cn1 ?_
      refine (tz_g_sipush (v := 200) rfl (tz_in0 rfl)).trans ?_
      refine (tz_g_ic_ne (t := 52) (by decide) (tz_in0 rfl)).trans ?_
      refine tz_cg ?_ ?_
      · skip
        refine (tz_g_iconst (v := 0) rfl (tz_in0 rfl)).trans ?_
        refine (tz_g_istore (L2 := [some (.ref 157), some (.int x1), some (.int x2), some (.int 0), some (.int y3), some (.int (-1)), some (.int 0), none, none]) rfl rfl (tz_in0 rfl)).trans ?_
        refine (tz_g_iconst (v := 0) rfl (tz_in0 rfl)).trans ?_
        refine (tz_g_istore (L2 := [some (.ref 157), some (.int x1), some (.int x2), some (.int 0), some (.int y3), some (.int (-1)), some (.int 0), some (.int 0), none]) rfl rfl (tz_in0 rfl)).trans ?_
        exact tz_Gm (L2 := [some (.ref 157), some (.int x1), some (.int x2), some (.int 0), some (.int y3), some (.int (-1)), some (.int 0), some (.int 0), none]) rfl rfl rfl rfl
      · skip
        refine (tz_g_iconst (v := 1) rfl (tz_in0 rfl)).trans ?_
        refine (tz_g_goto (t := 53) (by decide) (tz_in0 rfl)).trans ?_
        refine (tz_g_istore (L2 := [some (.ref 157), some (.int x1), some (.int x2), some (.int 0), some (.int y3), some (.int (-1)), some (.int 1), none, none]) rfl rfl (tz_in0 rfl)).trans ?_
        refine (tz_g_iconst (v := 0) rfl (tz_in0 rfl)).trans ?_
        refine (tz_g_istore (L2 := [some (.ref 157), some (.int x1), some (.int x2), some (.int 0), some (.int y3), some (.int (-1)), some (.int 1), some (.int 0), none]) rfl rfl (tz_in0 rfl)).trans ?_
        exact tz_Gm (L2 := [some (.ref 157), some (.int x1), some (.int x2), some (.int 0), some (.int y3), some (.int (-1)), some (.int 1), some (.int 0), none]) rfl rfl rfl rfl
    · skip
      refine (tz_g_aload_n rfl (tz_in0 rfl)).trans ?_
      refine (tz_g_bipush (v := (-5)) rfl (tz_in0 rfl)).trans ?_
      refine (tz_g_cv1I (m2 := 218) (rc := 1) rfl rfl rfl rfl rfl rfl (by decide) (tz_in0 rfl)).trans ?_
      refine tz_jI (fun y3 A3 => ?_)
      exact tz_g_ret1 (tz_in0 rfl) rfl

theorem e_X12_needs_58 (z1 : Int32) (z2 : Int32) (z3 : Int32) (z4 : Int32) (z5 : Int32) (z6 : Int32) (z7 : Int32) (A : tz_Mem) : q_X12_needs_58 z1 z2 z3 z4 z5 z6 z7 A =
  if (tz_g A 157 8) ≤ z7 then
  if ¬ z2 = 0 then
    some (some (.int z5), A)
  else
    some (some (.int z3), A)
else
  if ¬ z6 = 0 then
    if ¬ z2 = 0 then
      some (some (.int z5), A)
    else
      some (some (.int z3), A)
  else
    tz_bI (f_X12_arrivesBy z1 (tz_s A 157 34 (1 <<< (z7 &&& 31)))) (fun y1 A1 =>
    if ¬ y1 = (-1) then
      if z4 = (-1) then
        q_X12_needs_58 z1 z2 z3 y1 z7 z6 (z7 + 1) (tz_s A1 157 34 0)
      else
        if y1 < z4 then
          q_X12_needs_58 z1 z2 z3 y1 z7 z6 (z7 + 1) (tz_s A1 157 34 0)
        else
          q_X12_needs_58 z1 z2 z3 z4 z5 z6 (z7 + 1) (tz_s A1 157 34 0)
    else
      q_X12_needs_58 z1 z2 (z3 ||| (1 <<< (z7 &&& 31))) z4 z5 z6 (z7 + 1) (tz_s A1 157 34 0)) := by
  show tz_Go 225 58 [some (.ref 157), some (.int z1), some (.int z2), some (.int z3), some (.int z4), some (.int z5), some (.int z6), some (.int z7), none] [] A = _
  refine (tz_g_iload rfl (tz_inM rfl rfl rfl)).trans ?_
  refine (tz_g_aload_n rfl (tz_in0 rfl)).trans ?_
  refine (tz_g_geti rfl rfl rfl (tz_in0 rfl)).trans ?_
  refine (tz_g_ic_ge (t := 138) (by decide) (tz_in0 rfl)).trans ?_
  refine tz_cg ?_ ?_
  · skip
    refine (tz_g_iload_n rfl (tz_in0 rfl)).trans ?_
    refine (tz_g_if_ne (t := 146) (by decide) (tz_in0 rfl)).trans ?_
    refine tz_cg ?_ ?_
    · skip
      refine (tz_g_iload rfl (tz_in0 rfl)).trans ?_
      exact tz_g_ret1 (tz_in0 rfl) rfl
    · skip
      refine (tz_g_iload_n rfl (tz_in0 rfl)).trans ?_
      refine (tz_g_goto (t := 148) (by decide) (tz_in0 rfl)).trans ?_
      exact tz_g_ret1 (tz_in0 rfl) rfl
  · skip
    refine (tz_g_iload rfl (tz_in0 rfl)).trans ?_
    refine (tz_g_if_ne (t := 138) (by decide) (tz_in0 rfl)).trans ?_
    refine tz_cg ?_ ?_
    · skip
      refine (tz_g_iload_n rfl (tz_in0 rfl)).trans ?_
      refine (tz_g_if_ne (t := 146) (by decide) (tz_in0 rfl)).trans ?_
      refine tz_cg ?_ ?_
      · skip
        refine (tz_g_iload rfl (tz_in0 rfl)).trans ?_
        exact tz_g_ret1 (tz_in0 rfl) rfl
      · skip
        refine (tz_g_iload_n rfl (tz_in0 rfl)).trans ?_
        refine (tz_g_goto (t := 148) (by decide) (tz_in0 rfl)).trans ?_
        exact tz_g_ret1 (tz_in0 rfl) rfl
    · skip
      refine (tz_g_aload_n rfl (tz_in0 rfl)).trans ?_
      refine (tz_g_iconst (v := 1) rfl (tz_in0 rfl)).trans ?_
      refine (tz_g_iload rfl (tz_in0 rfl)).trans ?_
      refine (tz_g_ishl (tz_in0 rfl)).trans ?_
      refine (tz_g_puti rfl rfl rfl (tz_in0 rfl)).trans ?_
      refine (tz_g_aload_n rfl (tz_in0 rfl)).trans ?_
      refine (tz_g_iload_n rfl (tz_in0 rfl)).trans ?_
      refine (tz_g_cv1I (m2 := 216) (rc := 1) rfl rfl rfl rfl rfl rfl (by decide) (tz_in0 rfl)).trans ?_
      refine tz_jI (fun y1 A1 => ?_)
      refine (tz_g_istore (L2 := [some (.ref 157), some (.int z1), some (.int z2), some (.int z3), some (.int z4), some (.int z5), some (.int z6), some (.int z7), some (.int y1)]) rfl rfl (tz_in0 rfl)).trans ?_
      refine (tz_g_aload_n rfl (tz_in0 rfl)).trans ?_
      refine (tz_g_iconst (v := 0) rfl (tz_in0 rfl)).trans ?_
      refine (tz_g_puti rfl rfl rfl (tz_in0 rfl)).trans ?_
      refine (tz_g_iload rfl (tz_in0 rfl)).trans ?_
      refine (tz_g_iconst (v := (-1)) rfl (tz_in0 rfl)).trans ?_
      refine (tz_g_ic_ne (t := 108) (by decide) (tz_in0 rfl)).trans ?_
      refine tz_cg ?_ ?_
      · skip
        refine (tz_g_iload rfl (tz_in0 rfl)).trans ?_
        refine (tz_g_iconst (v := (-1)) rfl (tz_in0 rfl)).trans ?_
        refine (tz_g_ic_eq (t := 124) (by decide) (tz_in0 rfl)).trans ?_
        refine tz_cg ?_ ?_
        · skip
          refine (tz_g_iload rfl (tz_in0 rfl)).trans ?_
          refine (tz_g_istore (L2 := [some (.ref 157), some (.int z1), some (.int z2), some (.int z3), some (.int y1), some (.int z5), some (.int z6), some (.int z7), some (.int y1)]) rfl rfl (tz_in0 rfl)).trans ?_
          refine (tz_g_iload rfl (tz_in0 rfl)).trans ?_
          refine (tz_g_istore (L2 := [some (.ref 157), some (.int z1), some (.int z2), some (.int z3), some (.int y1), some (.int z7), some (.int z6), some (.int z7), some (.int y1)]) rfl rfl (tz_in0 rfl)).trans ?_
          refine (tz_g_iinc (v := 1) (L2 := [some (.ref 157), some (.int z1), some (.int z2), some (.int z3), some (.int y1), some (.int z7), some (.int z6), some (.int (z7 + 1)), some (.int y1)]) rfl rfl rfl rfl (tz_in0 rfl)).trans ?_
          refine (tz_g_goto (t := 58) (by decide) (tz_in0 rfl)).trans ?_
          exact tz_Gm (L2 := [some (.ref 157), some (.int z1), some (.int z2), some (.int z3), some (.int y1), some (.int z7), some (.int z6), some (.int (z7 + 1)), none]) rfl rfl rfl rfl
        · skip
          refine (tz_g_iload rfl (tz_in0 rfl)).trans ?_
          refine (tz_g_iload rfl (tz_in0 rfl)).trans ?_
          refine (tz_g_ic_lt (t := 124) (by decide) (tz_in0 rfl)).trans ?_
          refine tz_cg ?_ ?_
          · skip
            refine (tz_g_iload rfl (tz_in0 rfl)).trans ?_
            refine (tz_g_istore (L2 := [some (.ref 157), some (.int z1), some (.int z2), some (.int z3), some (.int y1), some (.int z5), some (.int z6), some (.int z7), some (.int y1)]) rfl rfl (tz_in0 rfl)).trans ?_
            refine (tz_g_iload rfl (tz_in0 rfl)).trans ?_
            refine (tz_g_istore (L2 := [some (.ref 157), some (.int z1), some (.int z2), some (.int z3), some (.int y1), some (.int z7), some (.int z6), some (.int z7), some (.int y1)]) rfl rfl (tz_in0 rfl)).trans ?_
            refine (tz_g_iinc (v := 1) (L2 := [some (.ref 157), some (.int z1), some (.int z2), some (.int z3), some (.int y1), some (.int z7), some (.int z6), some (.int (z7 + 1)), some (.int y1)]) rfl rfl rfl rfl (tz_in0 rfl)).trans ?_
            refine (tz_g_goto (t := 58) (by decide) (tz_in0 rfl)).trans ?_
            exact tz_Gm (L2 := [some (.ref 157), some (.int z1), some (.int z2), some (.int z3), some (.int y1), some (.int z7), some (.int z6), some (.int (z7 + 1)), none]) rfl rfl rfl rfl
          · skip
            refine (tz_g_goto (t := 132) (by decide) (tz_in0 rfl)).trans ?_
            refine (tz_g_iinc (v := 1) (L2 := [some (.ref 157), some (.int z1), some (.int z2), some (.int z3), some (.int z4), some (.int z5), some (.int z6), some (.int (z7 + 1)), some (.int y1)]) rfl rfl rfl rfl (tz_in0 rfl)).trans ?_
            refine (tz_g_goto (t := 58) (by decide) (tz_in0 rfl)).trans ?_
            exact tz_Gm (L2 := [some (.ref 157), some (.int z1), some (.int z2), some (.int z3), some (.int z4), some (.int z5), some (.int z6), some (.int (z7 + 1)), none]) rfl rfl rfl rfl
      · skip
        refine (tz_g_iload_n rfl (tz_in0 rfl)).trans ?_
        refine (tz_g_iconst (v := 1) rfl (tz_in0 rfl)).trans ?_
        refine (tz_g_iload rfl (tz_in0 rfl)).trans ?_
        refine (tz_g_ishl (tz_in0 rfl)).trans ?_
        refine (tz_g_ior (tz_in0 rfl)).trans ?_
        refine (tz_g_istore_n (L2 := [some (.ref 157), some (.int z1), some (.int z2), some (.int (z3 ||| (1 <<< (z7 &&& 31)))), some (.int z4), some (.int z5), some (.int z6), some (.int z7), some (.int y1)]) rfl rfl (tz_in0 rfl)).trans ?_
        refine (tz_g_goto (t := 132) (by decide) (tz_in0 rfl)).trans ?_
        refine (tz_g_iinc (v := 1) (L2 := [some (.ref 157), some (.int z1), some (.int z2), some (.int (z3 ||| (1 <<< (z7 &&& 31)))), some (.int z4), some (.int z5), some (.int z6), some (.int (z7 + 1)), some (.int y1)]) rfl rfl rfl rfl (tz_in0 rfl)).trans ?_
        refine (tz_g_goto (t := 58) (by decide) (tz_in0 rfl)).trans ?_
        exact tz_Gm (L2 := [some (.ref 157), some (.int z1), some (.int z2), some (.int (z3 ||| (1 <<< (z7 &&& 31)))), some (.int z4), some (.int z5), some (.int z6), some (.int (z7 + 1)), none]) rfl rfl rfl rfl

theorem e_X12_postage (A : tz_Mem) : f_X12_postage A =
  q_X12_postage_4 0 0 A := by
  refine (tz_Fe (L := [some (.ref 157), none, none, none]) rfl).trans ?_
  refine (tz_g_iconst (v := 0) rfl (tz_in0 rfl)).trans ?_
  refine (tz_g_istore_n (L2 := [some (.ref 157), some (.int 0), none, none]) rfl rfl (tz_in0 rfl)).trans ?_
  refine (tz_g_iconst (v := 0) rfl (tz_in0 rfl)).trans ?_
  refine (tz_g_istore_n (L2 := [some (.ref 157), some (.int 0), some (.int 0), none]) rfl rfl (tz_in0 rfl)).trans ?_
  exact tz_Gm (L2 := [some (.ref 157), some (.int 0), some (.int 0), none]) rfl rfl rfl rfl

theorem e_X12_postage_4 (z1 : Int32) (z2 : Int32) (A : tz_Mem) : q_X12_postage_4 z1 z2 A =
  if (tz_g A 157 15) ≤ z2 then
  some (some (.int z1), A)
else
  if z2 < 0 ∨ 12 ≤ (Int32.toNatClampNeg z2) then none else
  if (tz_g A 175 (Int32.toNatClampNeg z2)) < 200 then
    tz_bI (f_X12_arrivesBy z2 A) (fun y1 A1 =>
    if z2 < 0 ∨ 12 ≤ (Int32.toNatClampNeg z2) then none else
    if ¬ y1 = (-1) then
      q_X12_postage_4 (z1 + ((tz_g A1 174 (Int32.toNatClampNeg z2)) * (y1 - (tz_g A1 157 22)))) (z2 + 1) A1
    else
      q_X12_postage_4 (z1 + ((tz_g A1 174 (Int32.toNatClampNeg z2)) * 500)) (z2 + 1) A1)
  else
    q_X12_postage_4 z1 (z2 + 1) A := by
  show tz_Go 232 4 [some (.ref 157), some (.int z1), some (.int z2), none] [] A = _
  refine (tz_g_iload_n rfl (tz_inM rfl rfl rfl)).trans ?_
  refine (tz_g_aload_n rfl (tz_in0 rfl)).trans ?_
  refine (tz_g_geti rfl rfl rfl (tz_in0 rfl)).trans ?_
  refine (tz_g_ic_ge (t := 66) (by decide) (tz_in0 rfl)).trans ?_
  refine tz_cg ?_ ?_
  · skip
    refine (tz_g_iload_n rfl (tz_in0 rfl)).trans ?_
    exact tz_g_ret1 (tz_in0 rfl) rfl
  · skip
    refine (tz_g_aload_n rfl (tz_in0 rfl)).trans ?_
    refine (tz_g_getr (j := 175) rfl rfl rfl rfl rfl (tz_in0 rfl)).trans ?_
    refine (tz_g_iload_n rfl (tz_in0 rfl)).trans ?_
    refine (tz_g_iald (n := 12) rfl rfl rfl (tz_in0 rfl)).trans ?_
    refine tz_cn1 ?_
    refine (tz_g_sipush (v := 200) rfl (tz_in0 rfl)).trans ?_
    refine (tz_g_ic_lt (t := 27) (by decide) (tz_in0 rfl)).trans ?_
    refine tz_cg ?_ ?_
    · skip
      refine (tz_g_aload_n rfl (tz_in0 rfl)).trans ?_
      refine (tz_g_iload_n rfl (tz_in0 rfl)).trans ?_
      refine (tz_g_cv1I (m2 := 216) (rc := 1) rfl rfl rfl rfl rfl rfl (by decide) (tz_in0 rfl)).trans ?_
      refine tz_jI (fun y1 A1 => ?_)
      refine (tz_g_istore_n (L2 := [some (.ref 157), some (.int z1), some (.int z2), some (.int y1)]) rfl rfl (tz_in0 rfl)).trans ?_
      refine (tz_g_iload_n rfl (tz_in0 rfl)).trans ?_
      refine (tz_g_aload_n rfl (tz_in0 rfl)).trans ?_
      refine (tz_g_getr (j := 174) rfl rfl rfl rfl rfl (tz_in0 rfl)).trans ?_
      refine (tz_g_iload_n rfl (tz_in0 rfl)).trans ?_
      refine (tz_g_iald (n := 12) rfl rfl rfl (tz_in0 rfl)).trans ?_
      refine tz_cn1 ?_
      refine (tz_g_iload_n rfl (tz_in0 rfl)).trans ?_
      refine (tz_g_iconst (v := (-1)) rfl (tz_in0 rfl)).trans ?_
      refine (tz_g_ic_ne (t := 51) (by decide) (tz_in0 rfl)).trans ?_
      refine tz_cg ?_ ?_
      · skip
        refine (tz_g_iload_n rfl (tz_in0 rfl)).trans ?_
        refine (tz_g_aload_n rfl (tz_in0 rfl)).trans ?_
        refine (tz_g_geti rfl rfl rfl (tz_in0 rfl)).trans ?_
        refine (tz_g_isub (tz_in0 rfl)).trans ?_
        refine (tz_g_imul (tz_in0 rfl)).trans ?_
        refine (tz_g_iadd (tz_in0 rfl)).trans ?_
        refine (tz_g_istore_n (L2 := [some (.ref 157), some (.int (z1 + ((tz_g A1 174 (Int32.toNatClampNeg z2)) * (y1 - (tz_g A1 157 22))))), some (.int z2), some (.int y1)]) rfl rfl (tz_in0 rfl)).trans ?_
        refine (tz_g_iinc (v := 1) (L2 := [some (.ref 157), some (.int (z1 + ((tz_g A1 174 (Int32.toNatClampNeg z2)) * (y1 - (tz_g A1 157 22))))), some (.int (z2 + 1)), some (.int y1)]) rfl rfl rfl rfl (tz_in0 rfl)).trans ?_
        refine (tz_g_goto (t := 4) (by decide) (tz_in0 rfl)).trans ?_
        exact tz_Gm (L2 := [some (.ref 157), some (.int (z1 + ((tz_g A1 174 (Int32.toNatClampNeg z2)) * (y1 - (tz_g A1 157 22))))), some (.int (z2 + 1)), none]) rfl rfl rfl rfl
      · skip
        refine (tz_g_sipush (v := 500) rfl (tz_in0 rfl)).trans ?_
        refine (tz_g_goto (t := 57) (by decide) (tz_in0 rfl)).trans ?_
        refine (tz_g_imul (tz_in0 rfl)).trans ?_
        refine (tz_g_iadd (tz_in0 rfl)).trans ?_
        refine (tz_g_istore_n (L2 := [some (.ref 157), some (.int (z1 + ((tz_g A1 174 (Int32.toNatClampNeg z2)) * 500))), some (.int z2), some (.int y1)]) rfl rfl (tz_in0 rfl)).trans ?_
        refine (tz_g_iinc (v := 1) (L2 := [some (.ref 157), some (.int (z1 + ((tz_g A1 174 (Int32.toNatClampNeg z2)) * 500))), some (.int (z2 + 1)), some (.int y1)]) rfl rfl rfl rfl (tz_in0 rfl)).trans ?_
        refine (tz_g_goto (t := 4) (by decide) (tz_in0 rfl)).trans ?_
        exact tz_Gm (L2 := [some (.ref 157), some (.int (z1 + ((tz_g A1 174 (Int32.toNatClampNeg z2)) * 500))), some (.int (z2 + 1)), none]) rfl rfl rfl rfl
    · skip
      refine (tz_g_goto (t := 60) (by decide) (tz_in0 rfl)).trans ?_
      refine (tz_g_iinc (v := 1) (L2 := [some (.ref 157), some (.int z1), some (.int (z2 + 1)), none]) rfl rfl rfl rfl (tz_in0 rfl)).trans ?_
      refine (tz_g_goto (t := 4) (by decide) (tz_in0 rfl)).trans ?_
      exact tz_Gm (L2 := [some (.ref 157), some (.int z1), some (.int (z2 + 1)), none]) rfl rfl rfl rfl

theorem e_X0_run_1 (x1 : Int32) (x2 : Int32) (x3 : Int32) (x4 : Int32) (A : tz_Mem) : f_X0_run_1 x1 x2 x3 x4 A =
  if x4 < 40 then
  tz_bI (f_X0_kindWithBody x1 x2 A) (fun y1 A1 =>
  tz_bI (f_X0_bodyOf x1 y1 A1) (fun y2 A2 =>
  if y1 < 0 ∨ 7 ≤ (Int32.toNatClampNeg y1) then none else
  tz_bV (f_X0_note y2 A2) (fun A3 =>
  if y2 = 10 then
    some (some (.int (x3 + (tz_g A3 148 2))), A3)
  else if y2 = 11 then
    tz_bI (f_X0_run_2 0 (tz_g A3 148 4) x3 (x4 + 1) A3) (fun y4 A4 =>
    some (some (.int (y4 * 2)), A4))
  else if y2 = 12 then
    tz_bI (f_X0_run_2 1 (tz_g A3 148 4) x3 (x4 + 1) A3) (fun y4 A4 =>
    tz_bI (f_X0_run_2 0 (tz_g A4 148 4) (x3 - (tz_g A4 148 3)) (x4 + 1) A4) (fun y5 A5 =>
    some (some (.int (y4 ^^^ y5)), A5)))
  else if y2 = 20 then
    tz_bI (f_X0_run_2 0 (tz_XT 1 (Int32.toNatClampNeg y1)) x3 (x4 + 1) A3) (fun y4 A4 =>
    some (some (.int (y4 + (tz_g A4 148 3))), A4))
  else if y2 = 30 then
    tz_bI (f_X0_run_2 1 (tz_XT 1 (Int32.toNatClampNeg y1)) x3 (x4 + 1) A3) (fun y4 A4 =>
    some (some (.int (y4 * 3)), A4))
  else if y2 = 40 then
    tz_bI (f_X0_run_2 1 (tz_XT 1 (Int32.toNatClampNeg y1)) (x3 + 1) (x4 + 1) A3) (fun y4 A4 =>
    some (some (.int y4), A4))
  else if y2 = 50 then
    tz_bI (f_X0_run_2 2 (tz_XT 1 (Int32.toNatClampNeg y1)) x3 (x4 + 1) A3) (fun y4 A4 =>
    some (some (.int (-y4)), A4))
  else if y2 = 51 then
    tz_bI (f_X0_run_2 0 (tz_XT 1 (Int32.toNatClampNeg y1)) x3 (x4 + 1) A3) (fun y4 A4 =>
    some (some (.int (y4 - (tz_g A4 148 2))), A4))
  else if y2 = 60 then
    tz_bI (f_X0_run_2 2 (tz_XT 1 (Int32.toNatClampNeg y1)) x3 (x4 + 1) A3) (fun y4 A4 =>
    some (some (.int (y4 ^^^ 5)), A4))
  else if y2 = 70 then
    tz_bI (f_X0_run_2 0 (tz_XT 1 (Int32.toNatClampNeg y1)) x3 (x4 + 1) A3) (fun y4 A4 =>
    some (some (.int (y4 * 2)), A4))
  else tz_bI (f_X0_run_2 1 (tz_XT 1 (Int32.toNatClampNeg y1)) (x3 - (tz_g A3 148 3)) (x4 + 1) A3) (fun y4 A4 =>
  some (some (.int y4), A4)))))
else
  some (some (.int 0), A) := by
  refine (tz_Fe (L := [some (.ref 148), some (.int x1), some (.int x2), some (.int x3), some (.int x4), none, none, none, none]) rfl).trans ?_
  refine (tz_g_iload rfl (tz_in0 rfl)).trans ?_
  refine (tz_g_bipush (v := 40) rfl (tz_in0 rfl)).trans ?_
  refine (tz_g_ic_lt (t := 9) (by decide) (tz_in0 rfl)).trans ?_
  refine tz_cg ?_ ?_
  · skip
    refine (tz_g_iload_n rfl (tz_in0 rfl)).trans ?_
    refine (tz_g_iload_n rfl (tz_in0 rfl)).trans ?_
    refine (tz_g_cs2I (m2 := 153) (rc := 1) rfl rfl rfl rfl rfl rfl (by decide) (tz_in0 rfl)).trans ?_
    refine tz_jI (fun y1 A1 => ?_)
    refine (tz_g_istore (L2 := [some (.ref 148), some (.int x1), some (.int x2), some (.int x3), some (.int x4), some (.int y1), none, none, none]) rfl rfl (tz_in0 rfl)).trans ?_
    refine (tz_g_iload_n rfl (tz_in0 rfl)).trans ?_
    refine (tz_g_iload rfl (tz_in0 rfl)).trans ?_
    refine (tz_g_cs2I (m2 := 154) (rc := 1) rfl rfl rfl rfl rfl rfl (by decide) (tz_in0 rfl)).trans ?_
    refine tz_jI (fun y2 A2 => ?_)
    refine (tz_g_istore (L2 := [some (.ref 148), some (.int x1), some (.int x2), some (.int x3), some (.int x4), some (.int y1), some (.int y2), none, none]) rfl rfl (tz_in0 rfl)).trans ?_
    refine (tz_g_gets0 (j := 1) rfl (tz_in0 rfl)).trans ?_
    refine (tz_g_iload rfl (tz_in0 rfl)).trans ?_
    refine (tz_g_ialx (n := 7) rfl rfl rfl (tz_in0 rfl)).trans ?_
    refine tz_cn1 ?_
    refine (tz_g_istore (L2 := [some (.ref 148), some (.int x1), some (.int x2), some (.int x3), some (.int x4), some (.int y1), some (.int y2), some (.int (tz_XT 1 (Int32.toNatClampNeg y1))), none]) rfl rfl (tz_in0 rfl)).trans ?_
    refine (tz_g_iload rfl (tz_in0 rfl)).trans ?_
    refine (tz_g_iconst (v := 1) rfl (tz_in0 rfl)).trans ?_
    refine (tz_g_iadd (tz_in0 rfl)).trans ?_
    refine (tz_g_istore (L2 := [some (.ref 148), some (.int x1), some (.int x2), some (.int x3), some (.int x4), some (.int y1), some (.int y2), some (.int (tz_XT 1 (Int32.toNatClampNeg y1))), some (.int (x4 + 1))]) rfl rfl (tz_in0 rfl)).trans ?_
    refine (tz_g_aload_n rfl (tz_in0 rfl)).trans ?_
    refine (tz_g_iload rfl (tz_in0 rfl)).trans ?_
    refine (tz_g_cv1V (m2 := 155) (rc := 0) rfl rfl rfl rfl rfl rfl (by decide) (tz_in0 rfl)).trans ?_
    refine tz_jV (fun A3 => ?_)
    refine (tz_g_iload rfl (tz_in0 rfl)).trans ?_
    refine (tz_g_lsw (by decide) (tz_in0 rfl)).trans ?_
    refine tz_slc (v := 10) (by decide) ?_ ?_
    · refine (tz_tg (t := 136) (by decide)).trans ?_
      refine (tz_g_iload_n rfl (tz_in0 rfl)).trans ?_
      refine (tz_g_aload_n rfl (tz_in0 rfl)).trans ?_
      refine (tz_g_geti rfl rfl rfl (tz_in0 rfl)).trans ?_
      refine (tz_g_iadd (tz_in0 rfl)).trans ?_
      exact tz_g_ret1 (tz_in0 rfl) rfl
    refine tz_slc (v := 11) (by decide) ?_ ?_
    · refine (tz_tg (t := 143) (by decide)).trans ?_
      refine (tz_g_aload_n rfl (tz_in0 rfl)).trans ?_
      refine (tz_g_iconst (v := 0) rfl (tz_in0 rfl)).trans ?_
      refine (tz_g_aload_n rfl (tz_in0 rfl)).trans ?_
      refine (tz_g_geti rfl rfl rfl (tz_in0 rfl)).trans ?_
      refine (tz_g_iload_n rfl (tz_in0 rfl)).trans ?_
      refine (tz_g_iload rfl (tz_in0 rfl)).trans ?_
      refine (tz_g_cv4I (m2 := 147) (rc := 1) rfl rfl rfl rfl rfl rfl (by decide) (tz_in0 rfl)).trans ?_
      refine tz_jI (fun y4 A4 => ?_)
      refine (tz_g_iconst (v := 2) rfl (tz_in0 rfl)).trans ?_
      refine (tz_g_imul (tz_in0 rfl)).trans ?_
      exact tz_g_ret1 (tz_in0 rfl) rfl
    refine tz_slc (v := 12) (by decide) ?_ ?_
    · refine (tz_tg (t := 158) (by decide)).trans ?_
      refine (tz_g_aload_n rfl (tz_in0 rfl)).trans ?_
      refine (tz_g_iconst (v := 1) rfl (tz_in0 rfl)).trans ?_
      refine (tz_g_aload_n rfl (tz_in0 rfl)).trans ?_
      refine (tz_g_geti rfl rfl rfl (tz_in0 rfl)).trans ?_
      refine (tz_g_iload_n rfl (tz_in0 rfl)).trans ?_
      refine (tz_g_iload rfl (tz_in0 rfl)).trans ?_
      refine (tz_g_cv4I (m2 := 147) (rc := 1) rfl rfl rfl rfl rfl rfl (by decide) (tz_in0 rfl)).trans ?_
      refine tz_jI (fun y4 A4 => ?_)
      refine (tz_g_aload_n rfl (tz_in0 rfl)).trans ?_
      refine (tz_g_iconst (v := 0) rfl (tz_in0 rfl)).trans ?_
      refine (tz_g_aload_n rfl (tz_in0 rfl)).trans ?_
      refine (tz_g_geti rfl rfl rfl (tz_in0 rfl)).trans ?_
      refine (tz_g_iload_n rfl (tz_in0 rfl)).trans ?_
      refine (tz_g_aload_n rfl (tz_in0 rfl)).trans ?_
      refine (tz_g_geti rfl rfl rfl (tz_in0 rfl)).trans ?_
      refine (tz_g_isub (tz_in0 rfl)).trans ?_
      refine (tz_g_iload rfl (tz_in0 rfl)).trans ?_
      refine (tz_g_cv4I (m2 := 147) (rc := 1) rfl rfl rfl rfl rfl rfl (by decide) (tz_in0 rfl)).trans ?_
      refine tz_jI (fun y5 A5 => ?_)
      refine (tz_g_ixor (tz_in0 rfl)).trans ?_
      exact tz_g_ret1 (tz_in0 rfl) rfl
    refine tz_slc (v := 20) (by decide) ?_ ?_
    · refine (tz_tg (t := 189) (by decide)).trans ?_
      refine (tz_g_aload_n rfl (tz_in0 rfl)).trans ?_
      refine (tz_g_iconst (v := 0) rfl (tz_in0 rfl)).trans ?_
      refine (tz_g_iload rfl (tz_in0 rfl)).trans ?_
      refine (tz_g_iload_n rfl (tz_in0 rfl)).trans ?_
      refine (tz_g_iload rfl (tz_in0 rfl)).trans ?_
      refine (tz_g_cv4I (m2 := 147) (rc := 1) rfl rfl rfl rfl rfl rfl (by decide) (tz_in0 rfl)).trans ?_
      refine tz_jI (fun y4 A4 => ?_)
      refine (tz_g_aload_n rfl (tz_in0 rfl)).trans ?_
      refine (tz_g_geti rfl rfl rfl (tz_in0 rfl)).trans ?_
      refine (tz_g_iadd (tz_in0 rfl)).trans ?_
      exact tz_g_ret1 (tz_in0 rfl) rfl
    refine tz_slc (v := 30) (by decide) ?_ ?_
    · refine (tz_tg (t := 205) (by decide)).trans ?_
      refine (tz_g_aload_n rfl (tz_in0 rfl)).trans ?_
      refine (tz_g_iconst (v := 1) rfl (tz_in0 rfl)).trans ?_
      refine (tz_g_iload rfl (tz_in0 rfl)).trans ?_
      refine (tz_g_iload_n rfl (tz_in0 rfl)).trans ?_
      refine (tz_g_iload rfl (tz_in0 rfl)).trans ?_
      refine (tz_g_cv4I (m2 := 147) (rc := 1) rfl rfl rfl rfl rfl rfl (by decide) (tz_in0 rfl)).trans ?_
      refine tz_jI (fun y4 A4 => ?_)
      refine (tz_g_iconst (v := 3) rfl (tz_in0 rfl)).trans ?_
      refine (tz_g_imul (tz_in0 rfl)).trans ?_
      exact tz_g_ret1 (tz_in0 rfl) rfl
    refine tz_slc (v := 40) (by decide) ?_ ?_
    · refine (tz_tg (t := 218) (by decide)).trans ?_
      refine (tz_g_aload_n rfl (tz_in0 rfl)).trans ?_
      refine (tz_g_iconst (v := 1) rfl (tz_in0 rfl)).trans ?_
      refine (tz_g_iload rfl (tz_in0 rfl)).trans ?_
      refine (tz_g_iload_n rfl (tz_in0 rfl)).trans ?_
      refine (tz_g_iconst (v := 1) rfl (tz_in0 rfl)).trans ?_
      refine (tz_g_iadd (tz_in0 rfl)).trans ?_
      refine (tz_g_iload rfl (tz_in0 rfl)).trans ?_
      refine (tz_g_cv4I (m2 := 147) (rc := 1) rfl rfl rfl rfl rfl rfl (by decide) (tz_in0 rfl)).trans ?_
      refine tz_jI (fun y4 A4 => ?_)
      exact tz_g_ret1 (tz_in0 rfl) rfl
    refine tz_slc (v := 50) (by decide) ?_ ?_
    · refine (tz_tg (t := 231) (by decide)).trans ?_
      refine (tz_g_aload_n rfl (tz_in0 rfl)).trans ?_
      refine (tz_g_iconst (v := 2) rfl (tz_in0 rfl)).trans ?_
      refine (tz_g_iload rfl (tz_in0 rfl)).trans ?_
      refine (tz_g_iload_n rfl (tz_in0 rfl)).trans ?_
      refine (tz_g_iload rfl (tz_in0 rfl)).trans ?_
      refine (tz_g_cv4I (m2 := 147) (rc := 1) rfl rfl rfl rfl rfl rfl (by decide) (tz_in0 rfl)).trans ?_
      refine tz_jI (fun y4 A4 => ?_)
      refine (tz_g_ineg (tz_in0 rfl)).trans ?_
      exact tz_g_ret1 (tz_in0 rfl) rfl
    refine tz_slc (v := 51) (by decide) ?_ ?_
    · refine (tz_tg (t := 243) (by decide)).trans ?_
      refine (tz_g_aload_n rfl (tz_in0 rfl)).trans ?_
      refine (tz_g_iconst (v := 0) rfl (tz_in0 rfl)).trans ?_
      refine (tz_g_iload rfl (tz_in0 rfl)).trans ?_
      refine (tz_g_iload_n rfl (tz_in0 rfl)).trans ?_
      refine (tz_g_iload rfl (tz_in0 rfl)).trans ?_
      refine (tz_g_cv4I (m2 := 147) (rc := 1) rfl rfl rfl rfl rfl rfl (by decide) (tz_in0 rfl)).trans ?_
      refine tz_jI (fun y4 A4 => ?_)
      refine (tz_g_aload_n rfl (tz_in0 rfl)).trans ?_
      refine (tz_g_geti rfl rfl rfl (tz_in0 rfl)).trans ?_
      refine (tz_g_isub (tz_in0 rfl)).trans ?_
      exact tz_g_ret1 (tz_in0 rfl) rfl
    refine tz_slc (v := 60) (by decide) ?_ ?_
    · refine (tz_tg (t := 259) (by decide)).trans ?_
      refine (tz_g_aload_n rfl (tz_in0 rfl)).trans ?_
      refine (tz_g_iconst (v := 2) rfl (tz_in0 rfl)).trans ?_
      refine (tz_g_iload rfl (tz_in0 rfl)).trans ?_
      refine (tz_g_iload_n rfl (tz_in0 rfl)).trans ?_
      refine (tz_g_iload rfl (tz_in0 rfl)).trans ?_
      refine (tz_g_cv4I (m2 := 147) (rc := 1) rfl rfl rfl rfl rfl rfl (by decide) (tz_in0 rfl)).trans ?_
      refine tz_jI (fun y4 A4 => ?_)
      refine (tz_g_iconst (v := 5) rfl (tz_in0 rfl)).trans ?_
      refine (tz_g_ixor (tz_in0 rfl)).trans ?_
      exact tz_g_ret1 (tz_in0 rfl) rfl
    refine tz_slc (v := 70) (by decide) ?_ ?_
    · refine (tz_tg (t := 272) (by decide)).trans ?_
      refine (tz_g_aload_n rfl (tz_in0 rfl)).trans ?_
      refine (tz_g_iconst (v := 0) rfl (tz_in0 rfl)).trans ?_
      refine (tz_g_iload rfl (tz_in0 rfl)).trans ?_
      refine (tz_g_iload_n rfl (tz_in0 rfl)).trans ?_
      refine (tz_g_iload rfl (tz_in0 rfl)).trans ?_
      refine (tz_g_cv4I (m2 := 147) (rc := 1) rfl rfl rfl rfl rfl rfl (by decide) (tz_in0 rfl)).trans ?_
      refine tz_jI (fun y4 A4 => ?_)
      refine (tz_g_iconst (v := 2) rfl (tz_in0 rfl)).trans ?_
      refine (tz_g_imul (tz_in0 rfl)).trans ?_
      exact tz_g_ret1 (tz_in0 rfl) rfl
    refine tz_sld ?_
    refine (tz_tg (t := 285) (by decide)).trans ?_
    refine (tz_g_aload_n rfl (tz_in0 rfl)).trans ?_
    refine (tz_g_iconst (v := 1) rfl (tz_in0 rfl)).trans ?_
    refine (tz_g_iload rfl (tz_in0 rfl)).trans ?_
    refine (tz_g_iload_n rfl (tz_in0 rfl)).trans ?_
    refine (tz_g_aload_n rfl (tz_in0 rfl)).trans ?_
    refine (tz_g_geti rfl rfl rfl (tz_in0 rfl)).trans ?_
    refine (tz_g_isub (tz_in0 rfl)).trans ?_
    refine (tz_g_iload rfl (tz_in0 rfl)).trans ?_
    refine (tz_g_cv4I (m2 := 147) (rc := 1) rfl rfl rfl rfl rfl rfl (by decide) (tz_in0 rfl)).trans ?_
    refine tz_jI (fun y4 A4 => ?_)
    exact tz_g_ret1 (tz_in0 rfl) rfl
  · skip
    refine (tz_g_iconst (v := 0) rfl (tz_in0 rfl)).trans ?_
    exact tz_g_ret1 (tz_in0 rfl) rfl

theorem e_X0_run_0 (x1 : Int32) (x2 : Int32) (x3 : Int32) (x4 : Int32) (A : tz_Mem) : f_X0_run_0 x1 x2 x3 x4 A =
  if x4 < 40 then
  tz_bI (f_X0_kindWithBody x1 x2 A) (fun y1 A1 =>
  tz_bI (f_X0_bodyOf x1 y1 A1) (fun y2 A2 =>
  if y1 < 0 ∨ 7 ≤ (Int32.toNatClampNeg y1) then none else
  tz_bV (f_X0_note y2 A2) (fun A3 =>
  if y2 = 10 then
    some (some (.int (x3 + (tz_g A3 148 2))), A3)
  else if y2 = 11 then
    tz_bI (f_X0_run_1 0 (tz_g A3 148 4) x3 (x4 + 1) A3) (fun y4 A4 =>
    some (some (.int (y4 * 2)), A4))
  else if y2 = 12 then
    tz_bI (f_X0_run_1 1 (tz_g A3 148 4) x3 (x4 + 1) A3) (fun y4 A4 =>
    tz_bI (f_X0_run_1 0 (tz_g A4 148 4) (x3 - (tz_g A4 148 3)) (x4 + 1) A4) (fun y5 A5 =>
    some (some (.int (y4 ^^^ y5)), A5)))
  else if y2 = 20 then
    tz_bI (f_X0_run_1 0 (tz_XT 1 (Int32.toNatClampNeg y1)) x3 (x4 + 1) A3) (fun y4 A4 =>
    some (some (.int (y4 + (tz_g A4 148 3))), A4))
  else if y2 = 30 then
    tz_bI (f_X0_run_1 1 (tz_XT 1 (Int32.toNatClampNeg y1)) x3 (x4 + 1) A3) (fun y4 A4 =>
    some (some (.int (y4 * 3)), A4))
  else if y2 = 40 then
    tz_bI (f_X0_run_1 1 (tz_XT 1 (Int32.toNatClampNeg y1)) (x3 + 1) (x4 + 1) A3) (fun y4 A4 =>
    some (some (.int y4), A4))
  else if y2 = 50 then
    tz_bI (f_X0_run_1 2 (tz_XT 1 (Int32.toNatClampNeg y1)) x3 (x4 + 1) A3) (fun y4 A4 =>
    some (some (.int (-y4)), A4))
  else if y2 = 51 then
    tz_bI (f_X0_run_1 0 (tz_XT 1 (Int32.toNatClampNeg y1)) x3 (x4 + 1) A3) (fun y4 A4 =>
    some (some (.int (y4 - (tz_g A4 148 2))), A4))
  else if y2 = 60 then
    tz_bI (f_X0_run_1 2 (tz_XT 1 (Int32.toNatClampNeg y1)) x3 (x4 + 1) A3) (fun y4 A4 =>
    some (some (.int (y4 ^^^ 5)), A4))
  else if y2 = 70 then
    tz_bI (f_X0_run_1 0 (tz_XT 1 (Int32.toNatClampNeg y1)) x3 (x4 + 1) A3) (fun y4 A4 =>
    some (some (.int (y4 * 2)), A4))
  else tz_bI (f_X0_run_1 1 (tz_XT 1 (Int32.toNatClampNeg y1)) (x3 - (tz_g A3 148 3)) (x4 + 1) A3) (fun y4 A4 =>
  some (some (.int y4), A4)))))
else
  some (some (.int 0), A) := by
  refine (tz_Fe (L := [some (.ref 148), some (.int x1), some (.int x2), some (.int x3), some (.int x4), none, none, none, none]) rfl).trans ?_
  refine (tz_g_iload rfl (tz_in0 rfl)).trans ?_
  refine (tz_g_bipush (v := 40) rfl (tz_in0 rfl)).trans ?_
  refine (tz_g_ic_lt (t := 9) (by decide) (tz_in0 rfl)).trans ?_
  refine tz_cg ?_ ?_
  · skip
    refine (tz_g_iload_n rfl (tz_in0 rfl)).trans ?_
    refine (tz_g_iload_n rfl (tz_in0 rfl)).trans ?_
    refine (tz_g_cs2I (m2 := 153) (rc := 1) rfl rfl rfl rfl rfl rfl (by decide) (tz_in0 rfl)).trans ?_
    refine tz_jI (fun y1 A1 => ?_)
    refine (tz_g_istore (L2 := [some (.ref 148), some (.int x1), some (.int x2), some (.int x3), some (.int x4), some (.int y1), none, none, none]) rfl rfl (tz_in0 rfl)).trans ?_
    refine (tz_g_iload_n rfl (tz_in0 rfl)).trans ?_
    refine (tz_g_iload rfl (tz_in0 rfl)).trans ?_
    refine (tz_g_cs2I (m2 := 154) (rc := 1) rfl rfl rfl rfl rfl rfl (by decide) (tz_in0 rfl)).trans ?_
    refine tz_jI (fun y2 A2 => ?_)
    refine (tz_g_istore (L2 := [some (.ref 148), some (.int x1), some (.int x2), some (.int x3), some (.int x4), some (.int y1), some (.int y2), none, none]) rfl rfl (tz_in0 rfl)).trans ?_
    refine (tz_g_gets0 (j := 1) rfl (tz_in0 rfl)).trans ?_
    refine (tz_g_iload rfl (tz_in0 rfl)).trans ?_
    refine (tz_g_ialx (n := 7) rfl rfl rfl (tz_in0 rfl)).trans ?_
    refine tz_cn1 ?_
    refine (tz_g_istore (L2 := [some (.ref 148), some (.int x1), some (.int x2), some (.int x3), some (.int x4), some (.int y1), some (.int y2), some (.int (tz_XT 1 (Int32.toNatClampNeg y1))), none]) rfl rfl (tz_in0 rfl)).trans ?_
    refine (tz_g_iload rfl (tz_in0 rfl)).trans ?_
    refine (tz_g_iconst (v := 1) rfl (tz_in0 rfl)).trans ?_
    refine (tz_g_iadd (tz_in0 rfl)).trans ?_
    refine (tz_g_istore (L2 := [some (.ref 148), some (.int x1), some (.int x2), some (.int x3), some (.int x4), some (.int y1), some (.int y2), some (.int (tz_XT 1 (Int32.toNatClampNeg y1))), some (.int (x4 + 1))]) rfl rfl (tz_in0 rfl)).trans ?_
    refine (tz_g_aload_n rfl (tz_in0 rfl)).trans ?_
    refine (tz_g_iload rfl (tz_in0 rfl)).trans ?_
    refine (tz_g_cv1V (m2 := 155) (rc := 0) rfl rfl rfl rfl rfl rfl (by decide) (tz_in0 rfl)).trans ?_
    refine tz_jV (fun A3 => ?_)
    refine (tz_g_iload rfl (tz_in0 rfl)).trans ?_
    refine (tz_g_lsw (by decide) (tz_in0 rfl)).trans ?_
    refine tz_slc (v := 10) (by decide) ?_ ?_
    · refine (tz_tg (t := 136) (by decide)).trans ?_
      refine (tz_g_iload_n rfl (tz_in0 rfl)).trans ?_
      refine (tz_g_aload_n rfl (tz_in0 rfl)).trans ?_
      refine (tz_g_geti rfl rfl rfl (tz_in0 rfl)).trans ?_
      refine (tz_g_iadd (tz_in0 rfl)).trans ?_
      exact tz_g_ret1 (tz_in0 rfl) rfl
    refine tz_slc (v := 11) (by decide) ?_ ?_
    · refine (tz_tg (t := 143) (by decide)).trans ?_
      refine (tz_g_aload_n rfl (tz_in0 rfl)).trans ?_
      refine (tz_g_iconst (v := 0) rfl (tz_in0 rfl)).trans ?_
      refine (tz_g_aload_n rfl (tz_in0 rfl)).trans ?_
      refine (tz_g_geti rfl rfl rfl (tz_in0 rfl)).trans ?_
      refine (tz_g_iload_n rfl (tz_in0 rfl)).trans ?_
      refine (tz_g_iload rfl (tz_in0 rfl)).trans ?_
      refine (tz_g_cv4I (m2 := 146) (rc := 1) rfl rfl rfl rfl rfl rfl (by decide) (tz_in0 rfl)).trans ?_
      refine tz_jI (fun y4 A4 => ?_)
      refine (tz_g_iconst (v := 2) rfl (tz_in0 rfl)).trans ?_
      refine (tz_g_imul (tz_in0 rfl)).trans ?_
      exact tz_g_ret1 (tz_in0 rfl) rfl
    refine tz_slc (v := 12) (by decide) ?_ ?_
    · refine (tz_tg (t := 158) (by decide)).trans ?_
      refine (tz_g_aload_n rfl (tz_in0 rfl)).trans ?_
      refine (tz_g_iconst (v := 1) rfl (tz_in0 rfl)).trans ?_
      refine (tz_g_aload_n rfl (tz_in0 rfl)).trans ?_
      refine (tz_g_geti rfl rfl rfl (tz_in0 rfl)).trans ?_
      refine (tz_g_iload_n rfl (tz_in0 rfl)).trans ?_
      refine (tz_g_iload rfl (tz_in0 rfl)).trans ?_
      refine (tz_g_cv4I (m2 := 146) (rc := 1) rfl rfl rfl rfl rfl rfl (by decide) (tz_in0 rfl)).trans ?_
      refine tz_jI (fun y4 A4 => ?_)
      refine (tz_g_aload_n rfl (tz_in0 rfl)).trans ?_
      refine (tz_g_iconst (v := 0) rfl (tz_in0 rfl)).trans ?_
      refine (tz_g_aload_n rfl (tz_in0 rfl)).trans ?_
      refine (tz_g_geti rfl rfl rfl (tz_in0 rfl)).trans ?_
      refine (tz_g_iload_n rfl (tz_in0 rfl)).trans ?_
      refine (tz_g_aload_n rfl (tz_in0 rfl)).trans ?_
      refine (tz_g_geti rfl rfl rfl (tz_in0 rfl)).trans ?_
      refine (tz_g_isub (tz_in0 rfl)).trans ?_
      refine (tz_g_iload rfl (tz_in0 rfl)).trans ?_
      refine (tz_g_cv4I (m2 := 146) (rc := 1) rfl rfl rfl rfl rfl rfl (by decide) (tz_in0 rfl)).trans ?_
      refine tz_jI (fun y5 A5 => ?_)
      refine (tz_g_ixor (tz_in0 rfl)).trans ?_
      exact tz_g_ret1 (tz_in0 rfl) rfl
    refine tz_slc (v := 20) (by decide) ?_ ?_
    · refine (tz_tg (t := 189) (by decide)).trans ?_
      refine (tz_g_aload_n rfl (tz_in0 rfl)).trans ?_
      refine (tz_g_iconst (v := 0) rfl (tz_in0 rfl)).trans ?_
      refine (tz_g_iload rfl (tz_in0 rfl)).trans ?_
      refine (tz_g_iload_n rfl (tz_in0 rfl)).trans ?_
      refine (tz_g_iload rfl (tz_in0 rfl)).trans ?_
      refine (tz_g_cv4I (m2 := 146) (rc := 1) rfl rfl rfl rfl rfl rfl (by decide) (tz_in0 rfl)).trans ?_
      refine tz_jI (fun y4 A4 => ?_)
      refine (tz_g_aload_n rfl (tz_in0 rfl)).trans ?_
      refine (tz_g_geti rfl rfl rfl (tz_in0 rfl)).trans ?_
      refine (tz_g_iadd (tz_in0 rfl)).trans ?_
      exact tz_g_ret1 (tz_in0 rfl) rfl
    refine tz_slc (v := 30) (by decide) ?_ ?_
    · refine (tz_tg (t := 205) (by decide)).trans ?_
      refine (tz_g_aload_n rfl (tz_in0 rfl)).trans ?_
      refine (tz_g_iconst (v := 1) rfl (tz_in0 rfl)).trans ?_
      refine (tz_g_iload rfl (tz_in0 rfl)).trans ?_
      refine (tz_g_iload_n rfl (tz_in0 rfl)).trans ?_
      refine (tz_g_iload rfl (tz_in0 rfl)).trans ?_
      refine (tz_g_cv4I (m2 := 146) (rc := 1) rfl rfl rfl rfl rfl rfl (by decide) (tz_in0 rfl)).trans ?_
      refine tz_jI (fun y4 A4 => ?_)
      refine (tz_g_iconst (v := 3) rfl (tz_in0 rfl)).trans ?_
      refine (tz_g_imul (tz_in0 rfl)).trans ?_
      exact tz_g_ret1 (tz_in0 rfl) rfl
    refine tz_slc (v := 40) (by decide) ?_ ?_
    · refine (tz_tg (t := 218) (by decide)).trans ?_
      refine (tz_g_aload_n rfl (tz_in0 rfl)).trans ?_
      refine (tz_g_iconst (v := 1) rfl (tz_in0 rfl)).trans ?_
      refine (tz_g_iload rfl (tz_in0 rfl)).trans ?_
      refine (tz_g_iload_n rfl (tz_in0 rfl)).trans ?_
      refine (tz_g_iconst (v := 1) rfl (tz_in0 rfl)).trans ?_
      refine (tz_g_iadd (tz_in0 rfl)).trans ?_
      refine (tz_g_iload rfl (tz_in0 rfl)).trans ?_
      refine (tz_g_cv4I (m2 := 146) (rc := 1) rfl rfl rfl rfl rfl rfl (by decide) (tz_in0 rfl)).trans ?_
      refine tz_jI (fun y4 A4 => ?_)
      exact tz_g_ret1 (tz_in0 rfl) rfl
    refine tz_slc (v := 50) (by decide) ?_ ?_
    · refine (tz_tg (t := 231) (by decide)).trans ?_
      refine (tz_g_aload_n rfl (tz_in0 rfl)).trans ?_
      refine (tz_g_iconst (v := 2) rfl (tz_in0 rfl)).trans ?_
      refine (tz_g_iload rfl (tz_in0 rfl)).trans ?_
      refine (tz_g_iload_n rfl (tz_in0 rfl)).trans ?_
      refine (tz_g_iload rfl (tz_in0 rfl)).trans ?_
      refine (tz_g_cv4I (m2 := 146) (rc := 1) rfl rfl rfl rfl rfl rfl (by decide) (tz_in0 rfl)).trans ?_
      refine tz_jI (fun y4 A4 => ?_)
      refine (tz_g_ineg (tz_in0 rfl)).trans ?_
      exact tz_g_ret1 (tz_in0 rfl) rfl
    refine tz_slc (v := 51) (by decide) ?_ ?_
    · refine (tz_tg (t := 243) (by decide)).trans ?_
      refine (tz_g_aload_n rfl (tz_in0 rfl)).trans ?_
      refine (tz_g_iconst (v := 0) rfl (tz_in0 rfl)).trans ?_
      refine (tz_g_iload rfl (tz_in0 rfl)).trans ?_
      refine (tz_g_iload_n rfl (tz_in0 rfl)).trans ?_
      refine (tz_g_iload rfl (tz_in0 rfl)).trans ?_
      refine (tz_g_cv4I (m2 := 146) (rc := 1) rfl rfl rfl rfl rfl rfl (by decide) (tz_in0 rfl)).trans ?_
      refine tz_jI (fun y4 A4 => ?_)
      refine (tz_g_aload_n rfl (tz_in0 rfl)).trans ?_
      refine (tz_g_geti rfl rfl rfl (tz_in0 rfl)).trans ?_
      refine (tz_g_isub (tz_in0 rfl)).trans ?_
      exact tz_g_ret1 (tz_in0 rfl) rfl
    refine tz_slc (v := 60) (by decide) ?_ ?_
    · refine (tz_tg (t := 259) (by decide)).trans ?_
      refine (tz_g_aload_n rfl (tz_in0 rfl)).trans ?_
      refine (tz_g_iconst (v := 2) rfl (tz_in0 rfl)).trans ?_
      refine (tz_g_iload rfl (tz_in0 rfl)).trans ?_
      refine (tz_g_iload_n rfl (tz_in0 rfl)).trans ?_
      refine (tz_g_iload rfl (tz_in0 rfl)).trans ?_
      refine (tz_g_cv4I (m2 := 146) (rc := 1) rfl rfl rfl rfl rfl rfl (by decide) (tz_in0 rfl)).trans ?_
      refine tz_jI (fun y4 A4 => ?_)
      refine (tz_g_iconst (v := 5) rfl (tz_in0 rfl)).trans ?_
      refine (tz_g_ixor (tz_in0 rfl)).trans ?_
      exact tz_g_ret1 (tz_in0 rfl) rfl
    refine tz_slc (v := 70) (by decide) ?_ ?_
    · refine (tz_tg (t := 272) (by decide)).trans ?_
      refine (tz_g_aload_n rfl (tz_in0 rfl)).trans ?_
      refine (tz_g_iconst (v := 0) rfl (tz_in0 rfl)).trans ?_
      refine (tz_g_iload rfl (tz_in0 rfl)).trans ?_
      refine (tz_g_iload_n rfl (tz_in0 rfl)).trans ?_
      refine (tz_g_iload rfl (tz_in0 rfl)).trans ?_
      refine (tz_g_cv4I (m2 := 146) (rc := 1) rfl rfl rfl rfl rfl rfl (by decide) (tz_in0 rfl)).trans ?_
      refine tz_jI (fun y4 A4 => ?_)
      refine (tz_g_iconst (v := 2) rfl (tz_in0 rfl)).trans ?_
      refine (tz_g_imul (tz_in0 rfl)).trans ?_
      exact tz_g_ret1 (tz_in0 rfl) rfl
    refine tz_sld ?_
    refine (tz_tg (t := 285) (by decide)).trans ?_
    refine (tz_g_aload_n rfl (tz_in0 rfl)).trans ?_
    refine (tz_g_iconst (v := 1) rfl (tz_in0 rfl)).trans ?_
    refine (tz_g_iload rfl (tz_in0 rfl)).trans ?_
    refine (tz_g_iload_n rfl (tz_in0 rfl)).trans ?_
    refine (tz_g_aload_n rfl (tz_in0 rfl)).trans ?_
    refine (tz_g_geti rfl rfl rfl (tz_in0 rfl)).trans ?_
    refine (tz_g_isub (tz_in0 rfl)).trans ?_
    refine (tz_g_iload rfl (tz_in0 rfl)).trans ?_
    refine (tz_g_cv4I (m2 := 146) (rc := 1) rfl rfl rfl rfl rfl rfl (by decide) (tz_in0 rfl)).trans ?_
    refine tz_jI (fun y4 A4 => ?_)
    exact tz_g_ret1 (tz_in0 rfl) rfl
  · skip
    refine (tz_g_iconst (v := 0) rfl (tz_in0 rfl)).trans ?_
    exact tz_g_ret1 (tz_in0 rfl) rfl

theorem e_X0_perform (b : Nat) (x2 : Int32) (x3 : Int32) (x4 : Int32) (hb : tz_sky b) (A : tz_Mem) : f_X0_perform b x2 x3 x4 A =
  tz_bV (f_X0_forget A) (fun A1 =>
if x2 < 0 ∨ 8 ≤ (Int32.toNatClampNeg x2) then none else
if x2 < 0 ∨ 8 ≤ (Int32.toNatClampNeg x2) then none else
tz_bI (f_X0_run_0 x3 (tz_g (tz_s (tz_s (tz_s A1 148 2 x2) 148 3 (tz_g (tz_s A1 148 2 x2) (b + 3) (Int32.toNatClampNeg x2))) 148 4 (tz_g (tz_s (tz_s A1 148 2 x2) 148 3 (tz_g (tz_s A1 148 2 x2) (b + 3) (Int32.toNatClampNeg x2))) (b + 2) (Int32.toNatClampNeg x2))) 148 4) x4 0 (tz_s (tz_s (tz_s A1 148 2 x2) 148 3 (tz_g (tz_s A1 148 2 x2) (b + 3) (Int32.toNatClampNeg x2))) 148 4 (tz_g (tz_s (tz_s A1 148 2 x2) 148 3 (tz_g (tz_s A1 148 2 x2) (b + 3) (Int32.toNatClampNeg x2))) (b + 2) (Int32.toNatClampNeg x2)))) (fun y2 A2 =>
some (some (.int y2), A2))) := by
  obtain rfl | rfl | rfl | rfl | rfl := hb
  all_goals
    refine (tz_Fe (L := [some (.ref 148), some (.ref _), some (.int x2), some (.int x3), some (.int x4)]) rfl).trans ?_
    refine (tz_g_aload_n rfl (tz_in0 rfl)).trans ?_
    refine (tz_g_cv0V (m2 := 143) (rc := 0) rfl rfl rfl rfl rfl rfl (by decide) (tz_in0 rfl)).trans ?_
    refine tz_jV (fun A1 => ?_)
    refine (tz_g_aload_n rfl (tz_in0 rfl)).trans ?_
    refine (tz_g_iload_n rfl (tz_in0 rfl)).trans ?_
    refine (tz_g_puti rfl rfl rfl (tz_in0 rfl)).trans ?_
    refine (tz_g_aload_n rfl (tz_in0 rfl)).trans ?_
    refine (tz_g_aload_n rfl (tz_in0 rfl)).trans ?_
    refine (tz_g_getr (j := _) rfl rfl rfl rfl rfl (tz_in0 rfl)).trans ?_
    refine (tz_g_iload_n rfl (tz_in0 rfl)).trans ?_
    refine (tz_g_iald (n := 8) rfl rfl rfl (tz_in0 rfl)).trans ?_
    refine tz_cn1 ?_
    refine (tz_g_puti rfl rfl rfl (tz_in0 rfl)).trans ?_
    refine (tz_g_aload_n rfl (tz_in0 rfl)).trans ?_
    refine (tz_g_aload_n rfl (tz_in0 rfl)).trans ?_
    refine (tz_g_getr (j := _) rfl rfl rfl rfl rfl (tz_in0 rfl)).trans ?_
    refine (tz_g_iload_n rfl (tz_in0 rfl)).trans ?_
    refine (tz_g_iald (n := 8) rfl rfl rfl (tz_in0 rfl)).trans ?_
    refine tz_cn1 ?_
    refine (tz_g_puti rfl rfl rfl (tz_in0 rfl)).trans ?_
    refine (tz_g_aload_n rfl (tz_in0 rfl)).trans ?_
    refine (tz_g_iload_n rfl (tz_in0 rfl)).trans ?_
    refine (tz_g_aload_n rfl (tz_in0 rfl)).trans ?_
    refine (tz_g_geti rfl rfl rfl (tz_in0 rfl)).trans ?_
    refine (tz_g_iload rfl (tz_in0 rfl)).trans ?_
    refine (tz_g_iconst (v := 0) rfl (tz_in0 rfl)).trans ?_
    refine (tz_g_cv4I (m2 := 145) (rc := 1) rfl rfl rfl rfl rfl rfl (by decide) (tz_in0 rfl)).trans ?_
    refine tz_jI (fun y2 A2 => ?_)
    exact tz_g_ret1 (tz_in0 rfl) rfl

theorem e_X11_act (x1 : Int32) (x2 : Int32) (x3 : Int32) (A : tz_Mem) : f_X11_act x1 x2 x3 A =
  tz_bI (f_X3_has 30 x1 A) (fun y1 A1 =>
if y1 = 0 then
  tz_bV (f_X0_forget A1) (fun A2 =>
  some (some (.int 0), A2))
else
  if x2 < 0 then
    tz_bV (f_X0_forget A1) (fun A2 =>
    some (some (.int 0), A2))
  else
    if x2 ≤ 2 then
      tz_bI (f_X0_perform 30 x1 x2 x3 A1) (fun y2 A2 =>
      some (some (.int y2), A2))
    else
      tz_bV (f_X0_forget A1) (fun A2 =>
      some (some (.int 0), A2))) := by
  refine (tz_Fe (L := [some (.ref 17), some (.int x1), some (.int x2), some (.int x3)]) rfl).trans ?_
  refine (tz_g_aload_n rfl (tz_in0 rfl)).trans ?_
  refine (tz_g_getr (j := 30) rfl rfl rfl rfl rfl (tz_in0 rfl)).trans ?_
  refine (tz_g_getr (j := 31) rfl rfl rfl rfl rfl (tz_in0 rfl)).trans ?_
  refine (tz_g_iload_n rfl (tz_in0 rfl)).trans ?_
  refine (tz_g_cv1I (m2 := 28) (rc := 4) rfl rfl rfl rfl rfl rfl (by decide) (tz_in0 rfl)).trans ?_
  refine tz_jI (fun y1 A1 => ?_)
  refine (tz_g_if_eq (t := 23) (by decide) (tz_in0 rfl)).trans ?_
  refine tz_cg ?_ ?_
  · skip
    refine (tz_g_aload_n rfl (tz_in0 rfl)).trans ?_
    refine (tz_g_getr (j := 148) rfl rfl rfl rfl rfl (tz_in0 rfl)).trans ?_
    refine (tz_g_cv0V (m2 := 143) (rc := 0) rfl rfl rfl rfl rfl rfl (by decide) (tz_in0 rfl)).trans ?_
    refine tz_jV (fun A2 => ?_)
    refine (tz_g_iconst (v := 0) rfl (tz_in0 rfl)).trans ?_
    exact tz_g_ret1 (tz_in0 rfl) rfl
  · skip
    refine (tz_g_iload_n rfl (tz_in0 rfl)).trans ?_
    refine (tz_g_if_lt (t := 23) (by decide) (tz_in0 rfl)).trans ?_
    refine tz_cg ?_ ?_
    · skip
      refine (tz_g_aload_n rfl (tz_in0 rfl)).trans ?_
      refine (tz_g_getr (j := 148) rfl rfl rfl rfl rfl (tz_in0 rfl)).trans ?_
      refine (tz_g_cv0V (m2 := 143) (rc := 0) rfl rfl rfl rfl rfl rfl (by decide) (tz_in0 rfl)).trans ?_
      refine tz_jV (fun A2 => ?_)
      refine (tz_g_iconst (v := 0) rfl (tz_in0 rfl)).trans ?_
      exact tz_g_ret1 (tz_in0 rfl) rfl
    · skip
      refine (tz_g_iload_n rfl (tz_in0 rfl)).trans ?_
      refine (tz_g_iconst (v := 2) rfl (tz_in0 rfl)).trans ?_
      refine (tz_g_ic_le (t := 32) (by decide) (tz_in0 rfl)).trans ?_
      refine tz_cg ?_ ?_
      · skip
        refine (tz_g_aload_n rfl (tz_in0 rfl)).trans ?_
        refine (tz_g_getr (j := 148) rfl rfl rfl rfl rfl (tz_in0 rfl)).trans ?_
        refine (tz_g_aload_n rfl (tz_in0 rfl)).trans ?_
        refine (tz_g_getr (j := 30) rfl rfl rfl rfl rfl (tz_in0 rfl)).trans ?_
        refine (tz_g_getr (j := 31) rfl rfl rfl rfl rfl (tz_in0 rfl)).trans ?_
        refine (tz_g_iload_n rfl (tz_in0 rfl)).trans ?_
        refine (tz_g_iload_n rfl (tz_in0 rfl)).trans ?_
        refine (tz_g_iload_n rfl (tz_in0 rfl)).trans ?_
        refine (tz_g_cv4I (m2 := 144) (rc := 1) rfl rfl rfl rfl rfl rfl (by decide) (tz_in0 rfl)).trans ?_
        refine tz_jI (fun y2 A2 => ?_)
        exact tz_g_ret1 (tz_in0 rfl) rfl
      · skip
        refine (tz_g_aload_n rfl (tz_in0 rfl)).trans ?_
        refine (tz_g_getr (j := 148) rfl rfl rfl rfl rfl (tz_in0 rfl)).trans ?_
        refine (tz_g_cv0V (m2 := 143) (rc := 0) rfl rfl rfl rfl rfl rfl (by decide) (tz_in0 rfl)).trans ?_
        refine tz_jV (fun A2 => ?_)
        refine (tz_g_iconst (v := 0) rfl (tz_in0 rfl)).trans ?_
        exact tz_g_ret1 (tz_in0 rfl) rfl

