theorem e_X0_run_7 (x1 : Int32) (x2 : Int32) (x3 : Int32) (x4 : Int32) (A : tz_Mem) : f_X0_run_7 x1 x2 x3 x4 A =
  if x4 < 40 then
  tz_bI (f_X0_kindWithBody x1 x2 A) (fun y1 A1 =>
  tz_bI (f_X0_bodyOf x1 y1 A1) (fun y2 A2 =>
  if y1 < 0 ∨ 7 ≤ (Int32.toNatClampNeg y1) then none else
  tz_bV (f_X0_note y2 A2) (fun A3 =>
  if y2 = 10 then
    some (some (.int (x3 + (tz_g A3 148 2))), A3)
  else if y2 = 11 then
    none
  else if y2 = 12 then
    none
  else if y2 = 20 then
    none
  else if y2 = 30 then
    none
  else if y2 = 40 then
    none
  else if y2 = 50 then
    none
  else if y2 = 51 then
    none
  else if y2 = 60 then
    none
  else if y2 = 70 then
    none
  else none)))
else
  some (some (.int 0), A) := by
  refine (tz_Fe (L := [some (.ref 148), some (.int x1), some (.int x2), some (.int x3), some (.int x4), none, none, none, none]) rfl).trans ?_
  refine (tz_g_iload rfl (tz_in0 rfl)).trans ?_
  refine (tz_g_bipush (v := 40) rfl (tz_in0 rfl)).trans ?_
  refine (tz_g_ic_lt (t := 9) (by decide) (tz_in0 rfl)).trans ?_
  refine tz_cg ?_ ?_
  · skip
    refine (tz_g_iload_n rfl (tz_in0 rfl)).trans ?_
    refine (tz_g_iload_n rfl (tz_in0 rfl)).trans ?_
    refine (tz_g_cs2I (m2 := 153) (rc := 1) rfl rfl rfl rfl rfl rfl (by decide) (tz_in0 rfl)).trans ?_
    refine tz_jI (fun y1 A1 => ?_)
    refine (tz_g_istore (L2 := [some (.ref 148), some (.int x1), some (.int x2), some (.int x3), some (.int x4), some (.int y1), none, none, none]) rfl rfl (tz_in0 rfl)).trans ?_
    refine (tz_g_iload_n rfl (tz_in0 rfl)).trans ?_
    refine (tz_g_iload rfl (tz_in0 rfl)).trans ?_
    refine (tz_g_cs2I (m2 := 154) (rc := 1) rfl rfl rfl rfl rfl rfl (by decide) (tz_in0 rfl)).trans ?_
    refine tz_jI (fun y2 A2 => ?_)
    refine (tz_g_istore (L2 := [some (.ref 148), some (.int x1), some (.int x2), some (.int x3), some (.int x4), some (.int y1), some (.int y2), none, none]) rfl rfl (tz_in0 rfl)).trans ?_
    refine (tz_g_gets0 (j := 1) rfl (tz_in0 rfl)).trans ?_
    refine (tz_g_iload rfl (tz_in0 rfl)).trans ?_
    refine (tz_g_ialx (n := 7) rfl rfl rfl (tz_in0 rfl)).trans ?_
    refine tz_cn1 ?_
    refine (tz_g_istore (L2 := [some (.ref 148), some (.int x1), some (.int x2), some (.int x3), some (.int x4), some (.int y1), some (.int y2), some (.int (tz_XT 1 (Int32.toNatClampNeg y1))), none]) rfl rfl (tz_in0 rfl)).trans ?_
    refine (tz_g_iload rfl (tz_in0 rfl)).trans ?_
    refine (tz_g_iconst (v := 1) rfl (tz_in0 rfl)).trans ?_
    refine (tz_g_iadd (tz_in0 rfl)).trans ?_
    refine (tz_g_istore (L2 := [some (.ref 148), some (.int x1), some (.int x2), some (.int x3), some (.int x4), some (.int y1), some (.int y2), some (.int (tz_XT 1 (Int32.toNatClampNeg y1))), some (.int (x4 + 1))]) rfl rfl (tz_in0 rfl)).trans ?_
    refine (tz_g_aload_n rfl (tz_in0 rfl)).trans ?_
    refine (tz_g_iload rfl (tz_in0 rfl)).trans ?_
    refine (tz_g_cv1V (m2 := 155) (rc := 0) rfl rfl rfl rfl rfl rfl (by decide) (tz_in0 rfl)).trans ?_
    refine tz_jV (fun A3 => ?_)
    refine (tz_g_iload rfl (tz_in0 rfl)).trans ?_
    refine (tz_g_lsw (by decide) (tz_in0 rfl)).trans ?_
    refine tz_slc (v := 10) (by decide) ?_ ?_
    · refine (tz_tg (t := 136) (by decide)).trans ?_
      refine (tz_g_iload_n rfl (tz_in0 rfl)).trans ?_
      refine (tz_g_aload_n rfl (tz_in0 rfl)).trans ?_
      refine (tz_g_geti rfl rfl rfl (tz_in0 rfl)).trans ?_
      refine (tz_g_iadd (tz_in0 rfl)).trans ?_
      exact tz_g_ret1 (tz_in0 rfl) rfl
    refine tz_slc (v := 11) (by decide) ?_ ?_
    · refine (tz_tg (t := 143) (by decide)).trans ?_
      refine (tz_g_aload_n rfl (tz_in0 rfl)).trans ?_
      refine (tz_g_iconst (v := 0) rfl (tz_in0 rfl)).trans ?_
      refine (tz_g_aload_n rfl (tz_in0 rfl)).trans ?_
      refine (tz_g_geti rfl rfl rfl (tz_in0 rfl)).trans ?_
      refine (tz_g_iload_n rfl (tz_in0 rfl)).trans ?_
      refine (tz_g_iload rfl (tz_in0 rfl)).trans ?_
      exact ((tz_in0 rfl) _ _).trans rfl
    refine tz_slc (v := 12) (by decide) ?_ ?_
    · refine (tz_tg (t := 158) (by decide)).trans ?_
      refine (tz_g_aload_n rfl (tz_in0 rfl)).trans ?_
      refine (tz_g_iconst (v := 1) rfl (tz_in0 rfl)).trans ?_
      refine (tz_g_aload_n rfl (tz_in0 rfl)).trans ?_
      refine (tz_g_geti rfl rfl rfl (tz_in0 rfl)).trans ?_
      refine (tz_g_iload_n rfl (tz_in0 rfl)).trans ?_
      refine (tz_g_iload rfl (tz_in0 rfl)).trans ?_
      exact ((tz_in0 rfl) _ _).trans rfl
    refine tz_slc (v := 20) (by decide) ?_ ?_
    · refine (tz_tg (t := 189) (by decide)).trans ?_
      refine (tz_g_aload_n rfl (tz_in0 rfl)).trans ?_
      refine (tz_g_iconst (v := 0) rfl (tz_in0 rfl)).trans ?_
      refine (tz_g_iload rfl (tz_in0 rfl)).trans ?_
      refine (tz_g_iload_n rfl (tz_in0 rfl)).trans ?_
      refine (tz_g_iload rfl (tz_in0 rfl)).trans ?_
      exact ((tz_in0 rfl) _ _).trans rfl
    refine tz_slc (v := 30) (by decide) ?_ ?_
    · refine (tz_tg (t := 205) (by decide)).trans ?_
      refine (tz_g_aload_n rfl (tz_in0 rfl)).trans ?_
      refine (tz_g_iconst (v := 1) rfl (tz_in0 rfl)).trans ?_
      refine (tz_g_iload rfl (tz_in0 rfl)).trans ?_
      refine (tz_g_iload_n rfl (tz_in0 rfl)).trans ?_
      refine (tz_g_iload rfl (tz_in0 rfl)).trans ?_
      exact ((tz_in0 rfl) _ _).trans rfl
    refine tz_slc (v := 40) (by decide) ?_ ?_
    · refine (tz_tg (t := 218) (by decide)).trans ?_
      refine (tz_g_aload_n rfl (tz_in0 rfl)).trans ?_
      refine (tz_g_iconst (v := 1) rfl (tz_in0 rfl)).trans ?_
      refine (tz_g_iload rfl (tz_in0 rfl)).trans ?_
      refine (tz_g_iload_n rfl (tz_in0 rfl)).trans ?_
      refine (tz_g_iconst (v := 1) rfl (tz_in0 rfl)).trans ?_
      refine (tz_g_iadd (tz_in0 rfl)).trans ?_
      refine (tz_g_iload rfl (tz_in0 rfl)).trans ?_
      exact ((tz_in0 rfl) _ _).trans rfl
    refine tz_slc (v := 50) (by decide) ?_ ?_
    · refine (tz_tg (t := 231) (by decide)).trans ?_
      refine (tz_g_aload_n rfl (tz_in0 rfl)).trans ?_
      refine (tz_g_iconst (v := 2) rfl (tz_in0 rfl)).trans ?_
      refine (tz_g_iload rfl (tz_in0 rfl)).trans ?_
      refine (tz_g_iload_n rfl (tz_in0 rfl)).trans ?_
      refine (tz_g_iload rfl (tz_in0 rfl)).trans ?_
      exact ((tz_in0 rfl) _ _).trans rfl
    refine tz_slc (v := 51) (by decide) ?_ ?_
    · refine (tz_tg (t := 243) (by decide)).trans ?_
      refine (tz_g_aload_n rfl (tz_in0 rfl)).trans ?_
      refine (tz_g_iconst (v := 0) rfl (tz_in0 rfl)).trans ?_
      refine (tz_g_iload rfl (tz_in0 rfl)).trans ?_
      refine (tz_g_iload_n rfl (tz_in0 rfl)).trans ?_
      refine (tz_g_iload rfl (tz_in0 rfl)).trans ?_
      exact ((tz_in0 rfl) _ _).trans rfl
    refine tz_slc (v := 60) (by decide) ?_ ?_
    · refine (tz_tg (t := 259) (by decide)).trans ?_
      refine (tz_g_aload_n rfl (tz_in0 rfl)).trans ?_
      refine (tz_g_iconst (v := 2) rfl (tz_in0 rfl)).trans ?_
      refine (tz_g_iload rfl (tz_in0 rfl)).trans ?_
      refine (tz_g_iload_n rfl (tz_in0 rfl)).trans ?_
      refine (tz_g_iload rfl (tz_in0 rfl)).trans ?_
      exact ((tz_in0 rfl) _ _).trans rfl
    refine tz_slc (v := 70) (by decide) ?_ ?_
    · refine (tz_tg (t := 272) (by decide)).trans ?_
      refine (tz_g_aload_n rfl (tz_in0 rfl)).trans ?_
      refine (tz_g_iconst (v := 0) rfl (tz_in0 rfl)).trans ?_
      refine (tz_g_iload rfl (tz_in0 rfl)).trans ?_
      refine (tz_g_iload_n rfl (tz_in0 rfl)).trans ?_
      refine (tz_g_iload rfl (tz_in0 rfl)).trans ?_
      exact ((tz_in0 rfl) _ _).trans rfl
    refine tz_sld ?_
    refine (tz_tg (t := 285) (by decide)).trans ?_
    refine (tz_g_aload_n rfl (tz_in0 rfl)).trans ?_
    refine (tz_g_iconst (v := 1) rfl (tz_in0 rfl)).trans ?_
    refine (tz_g_iload rfl (tz_in0 rfl)).trans ?_
    refine (tz_g_iload_n rfl (tz_in0 rfl)).trans ?_
    refine (tz_g_aload_n rfl (tz_in0 rfl)).trans ?_
    refine (tz_g_geti rfl rfl rfl (tz_in0 rfl)).trans ?_
    refine (tz_g_isub (tz_in0 rfl)).trans ?_
    refine (tz_g_iload rfl (tz_in0 rfl)).trans ?_
    exact ((tz_in0 rfl) _ _).trans rfl
  · skip
    refine (tz_g_iconst (v := 0) rfl (tz_in0 rfl)).trans ?_
    exact tz_g_ret1 (tz_in0 rfl) rfl

theorem e_X11_image (A : tz_Mem) : f_X11_image A =
  tz_bV (f_X9_become 53 30 A) (fun A1 =>
some (some (.int (tz_g (tz_s A1 17 12 1) 31 0)), (tz_s A1 17 12 1))) := by
  refine (tz_Fe (L := [some (.ref 17)]) rfl).trans ?_
  refine (tz_g_aload_n rfl (tz_in0 rfl)).trans ?_
  refine (tz_g_getr (j := 53) rfl rfl rfl rfl rfl (tz_in0 rfl)).trans ?_
  refine (tz_g_aload_n rfl (tz_in0 rfl)).trans ?_
  refine (tz_g_getr (j := 30) rfl rfl rfl rfl rfl (tz_in0 rfl)).trans ?_
  refine (tz_g_cv1V (m2 := 68) (rc := 0) rfl rfl rfl rfl rfl rfl (by decide) (tz_in0 rfl)).trans ?_
  refine tz_jV (fun A1 => ?_)
  refine (tz_g_aload_n rfl (tz_in0 rfl)).trans ?_
  refine (tz_g_iconst (v := 1) rfl (tz_in0 rfl)).trans ?_
  refine (tz_g_putz rfl rfl rfl (by decide) (tz_in0 rfl)).trans ?_
  refine (tz_g_aload_n rfl (tz_in0 rfl)).trans ?_
  refine (tz_g_getr (j := 30) rfl rfl rfl rfl rfl (tz_in0 rfl)).trans ?_
  refine (tz_g_getr (j := 31) rfl rfl rfl rfl rfl (tz_in0 rfl)).trans ?_
  refine (tz_g_geti rfl rfl rfl (tz_in0 rfl)).trans ?_
  exact tz_g_ret1 (tz_in0 rfl) rfl

theorem e_X11_restore (A : tz_Mem) : f_X11_restore A =
  if ¬ (tz_g A 17 12) = 0 then
  tz_bV (f_X9_become 30 53 A) (fun A1 =>
  tz_bV (f_X8_dropHillsFrom (tz_g A1 31 0) A1) (fun A2 =>
  some (some (.int (tz_g A2 31 0)), A2)))
else
  tz_bI (f_X11_refuse (-6) A) (fun y1 A1 =>
  some (some (.int y1), A1)) := by
  refine (tz_Fe (L := [some (.ref 17)]) rfl).trans ?_
  refine (tz_g_aload_n rfl (tz_in0 rfl)).trans ?_
  refine (tz_g_getz rfl rfl rfl (tz_in0 rfl)).trans ?_
  refine (tz_g_if_ne (t := 14) (by decide) (tz_in0 rfl)).trans ?_
  refine tz_cg ?_ ?_
  · skip
    refine (tz_g_aload_n rfl (tz_in0 rfl)).trans ?_
    refine (tz_g_getr (j := 30) rfl rfl rfl rfl rfl (tz_in0 rfl)).trans ?_
    refine (tz_g_aload_n rfl (tz_in0 rfl)).trans ?_
    refine (tz_g_getr (j := 53) rfl rfl rfl rfl rfl (tz_in0 rfl)).trans ?_
    refine (tz_g_cv1V (m2 := 68) (rc := 0) rfl rfl rfl rfl rfl rfl (by decide) (tz_in0 rfl)).trans ?_
    refine tz_jV (fun A1 => ?_)
    refine (tz_g_aload_n rfl (tz_in0 rfl)).trans ?_
    refine (tz_g_getr (j := 18) rfl rfl rfl rfl rfl (tz_in0 rfl)).trans ?_
    refine (tz_g_aload_n rfl (tz_in0 rfl)).trans ?_
    refine (tz_g_getr (j := 30) rfl rfl rfl rfl rfl (tz_in0 rfl)).trans ?_
    refine (tz_g_getr (j := 31) rfl rfl rfl rfl rfl (tz_in0 rfl)).trans ?_
    refine (tz_g_geti rfl rfl rfl (tz_in0 rfl)).trans ?_
    refine (tz_g_cv1V (m2 := 160) (rc := 0) rfl rfl rfl rfl rfl rfl (by decide) (tz_in0 rfl)).trans ?_
    refine tz_jV (fun A2 => ?_)
    refine (tz_g_aload_n rfl (tz_in0 rfl)).trans ?_
    refine (tz_g_getr (j := 30) rfl rfl rfl rfl rfl (tz_in0 rfl)).trans ?_
    refine (tz_g_getr (j := 31) rfl rfl rfl rfl rfl (tz_in0 rfl)).trans ?_
    refine (tz_g_geti rfl rfl rfl (tz_in0 rfl)).trans ?_
    exact tz_g_ret1 (tz_in0 rfl) rfl
  · skip
    refine (tz_g_aload_n rfl (tz_in0 rfl)).trans ?_
    refine (tz_g_bipush (v := (-6)) rfl (tz_in0 rfl)).trans ?_
    refine (tz_g_cv1I (m2 := 15) (rc := 1) rfl rfl rfl rfl rfl rfl (by decide) (tz_in0 rfl)).trans ?_
    refine tz_jI (fun y1 A1 => ?_)
    exact tz_g_ret1 (tz_in0 rfl) rfl

theorem e_X12_set (x1 : Int32) (x2 : Int32) (x3 : Int64) (A : tz_Mem) : f_X12_set x1 x2 x3 A =
  tz_bI (f_X12_noRow x1 A) (fun y1 A1 =>
if 0 ≤ y1 then
  if x1 < 0 ∨ 8 ≤ (Int32.toNatClampNeg x1) then none else
  tz_bI (f_X12_within x2 0 ((tz_g A1 159 (Int32.toNatClampNeg x1)) - 1) A1) (fun y2 A2 =>
  if ¬ y2 = 0 then
    if x1 < 0 ∨ 8 ≤ (Int32.toNatClampNeg x1) then none else
    if ¬ ((tz_g A2 158 (Int32.toNatClampNeg x1)) - 100) = 0 then
      if ¬ ((tz_g A2 158 (Int32.toNatClampNeg x1)) - 100) = 1 then
        if ¬ ((tz_g A2 158 (Int32.toNatClampNeg x1)) - 100) = 2 then
          if ((160 * x1) + x2) < 0 ∨ 1280 ≤ (Int32.toNatClampNeg ((160 * x1) + x2)) then none else
          some (some (.int 1), (tz_sl A2 160 (Int32.toNatClampNeg ((160 * x1) + x2)) x3))
        else
          if ((160 * x1) + x2) < 0 ∨ 1280 ≤ (Int32.toNatClampNeg ((160 * x1) + x2)) then none else
          some (some (.int 1), (tz_sl A2 160 (Int32.toNatClampNeg ((160 * x1) + x2)) (Int32.toInt64 (Int64.toInt32 x3))))
      else
        if ((160 * x1) + x2) < 0 ∨ 1280 ≤ (Int32.toNatClampNeg ((160 * x1) + x2)) then none else
        some (some (.int 1), (tz_sl A2 160 (Int32.toNatClampNeg ((160 * x1) + x2)) (Int32.toInt64 ((Int32.toInt16 (Int64.toInt32 x3)).toInt32))))
    else
      if ((160 * x1) + x2) < 0 ∨ 1280 ≤ (Int32.toNatClampNeg ((160 * x1) + x2)) then none else
      some (some (.int 1), (tz_sl A2 160 (Int32.toNatClampNeg ((160 * x1) + x2)) (Int32.toInt64 ((Int32.toInt8 (Int64.toInt32 x3)).toInt32))))
  else
    tz_bI (f_X12_no (-5) A2) (fun y3 A3 =>
    some (some (.int y3), A3)))
else
  tz_bI (f_X12_no y1 A1) (fun y2 A2 =>
  some (some (.int y2), A2))) := by
  refine (tz_Fe (L := [some (.ref 157), some (.int x1), some (.int x2), some (.long x3), none, none, none]) rfl).trans ?_
  refine (tz_g_aload_n rfl (tz_in0 rfl)).trans ?_
  refine (tz_g_iload_n rfl (tz_in0 rfl)).trans ?_
  refine (tz_g_cv1I (m2 := 168) (rc := 1) rfl rfl rfl rfl rfl rfl (by decide) (tz_in0 rfl)).trans ?_
  refine tz_jI (fun y1 A1 => ?_)
  refine (tz_g_istore (L2 := [some (.ref 157), some (.int x1), some (.int x2), some (.long x3), none, some (.int y1), none]) rfl rfl (tz_in0 rfl)).trans ?_
  refine (tz_g_iload rfl (tz_in0 rfl)).trans ?_
  refine (tz_g_if_ge (t := 19) (by decide) (tz_in0 rfl)).trans ?_
  refine tz_cg ?_ ?_
  · skip
    refine (tz_g_iload_n rfl (tz_in0 rfl)).trans ?_
    refine (tz_g_iconst (v := 0) rfl (tz_in0 rfl)).trans ?_
    refine (tz_g_aload_n rfl (tz_in0 rfl)).trans ?_
    refine (tz_g_getr (j := 159) rfl rfl rfl rfl rfl (tz_in0 rfl)).trans ?_
    refine (tz_g_iload_n rfl (tz_in0 rfl)).trans ?_
    refine (tz_g_iald (n := 8) rfl rfl rfl (tz_in0 rfl)).trans ?_
    refine tz_cn1 ?_
    refine (tz_g_iconst (v := 1) rfl (tz_in0 rfl)).trans ?_
    refine (tz_g_isub (tz_in0 rfl)).trans ?_
    refine (tz_g_cs3I (m2 := 165) (rc := 4) rfl rfl rfl rfl rfl rfl (by decide) (tz_in0 rfl)).trans ?_
    refine tz_jI (fun y2 A2 => ?_)
    refine (tz_g_if_ne (t := 42) (by decide) (tz_in0 rfl)).trans ?_
    refine tz_cg ?_ ?_
    · skip
      refine (tz_g_aload_n rfl (tz_in0 rfl)).trans ?_
      refine (tz_g_getr (j := 158) rfl rfl rfl rfl rfl (tz_in0 rfl)).trans ?_
      refine (tz_g_iload_n rfl (tz_in0 rfl)).trans ?_
      refine (tz_g_iald (n := 8) rfl rfl rfl (tz_in0 rfl)).trans ?_
      refine tz_cn1 ?_
      refine (tz_g_bipush (v := 100) rfl (tz_in0 rfl)).trans ?_
      refine (tz_g_isub (tz_in0 rfl)).trans ?_
      refine (tz_g_istore (L2 := [some (.ref 157), some (.int x1), some (.int x2), some (.long x3), none, some (.int y1), some (.int ((tz_g A2 158 (Int32.toNatClampNeg x1)) - 100))]) rfl rfl (tz_in0 rfl)).trans ?_
      refine (tz_g_aload_n rfl (tz_in0 rfl)).trans ?_
      refine (tz_g_getr (j := 160) rfl rfl rfl rfl rfl (tz_in0 rfl)).trans ?_
      refine (tz_g_sipush (v := 160) rfl (tz_in0 rfl)).trans ?_
      refine (tz_g_iload_n rfl (tz_in0 rfl)).trans ?_
      refine (tz_g_imul (tz_in0 rfl)).trans ?_
      refine (tz_g_iload_n rfl (tz_in0 rfl)).trans ?_
      refine (tz_g_iadd (tz_in0 rfl)).trans ?_
      refine (tz_g_iload rfl (tz_in0 rfl)).trans ?_
      refine (tz_g_if_ne (t := 76) (by decide) (tz_in0 rfl)).trans ?_
      refine tz_cg ?_ ?_
      · skip
        refine (tz_g_iload rfl (tz_in0 rfl)).trans ?_
        refine (tz_g_iconst (v := 1) rfl (tz_in0 rfl)).trans ?_
        refine (tz_g_ic_ne (t := 89) (by decide) (tz_in0 rfl)).trans ?_
        refine tz_cg ?_ ?_
        · skip
          refine (tz_g_iload rfl (tz_in0 rfl)).trans ?_
          refine (tz_g_iconst (v := 2) rfl (tz_in0 rfl)).trans ?_
          refine (tz_g_ic_ne (t := 101) (by decide) (tz_in0 rfl)).trans ?_
          refine tz_cg ?_ ?_
          · skip
            refine (tz_g_lload_n rfl (tz_in0 rfl)).trans ?_
            refine (tz_g_last (n := 1280) rfl rfl (tz_in0 rfl)).trans ?_
            refine tz_cn1 ?_
            refine (tz_g_iconst (v := 1) rfl (tz_in0 rfl)).trans ?_
            exact tz_g_ret1 (tz_in0 rfl) rfl
          · skip
            refine (tz_g_lload_n rfl (tz_in0 rfl)).trans ?_
            refine (tz_g_l2i (tz_in0 rfl)).trans ?_
            refine (tz_g_i2l (tz_in0 rfl)).trans ?_
            refine (tz_g_goto (t := 102) (by decide) (tz_in0 rfl)).trans ?_
            refine (tz_g_last (n := 1280) rfl rfl (tz_in0 rfl)).trans ?_
            refine tz_cn1 ?_
            refine (tz_g_iconst (v := 1) rfl (tz_in0 rfl)).trans ?_
            exact tz_g_ret1 (tz_in0 rfl) rfl
        · skip
          refine (tz_g_lload_n rfl (tz_in0 rfl)).trans ?_
          refine (tz_g_l2i (tz_in0 rfl)).trans ?_
          refine (tz_g_i2s (tz_in0 rfl)).trans ?_
          refine (tz_g_i2l (tz_in0 rfl)).trans ?_
          refine (tz_g_goto (t := 102) (by decide) (tz_in0 rfl)).trans ?_
          refine (tz_g_last (n := 1280) rfl rfl (tz_in0 rfl)).trans ?_
          refine tz_cn1 ?_
          refine (tz_g_iconst (v := 1) rfl (tz_in0 rfl)).trans ?_
          exact tz_g_ret1 (tz_in0 rfl) rfl
      · skip
        refine (tz_g_lload_n rfl (tz_in0 rfl)).trans ?_
        refine (tz_g_l2i (tz_in0 rfl)).trans ?_
        refine (tz_g_i2b (tz_in0 rfl)).trans ?_
        refine (tz_g_i2l (tz_in0 rfl)).trans ?_
        refine (tz_g_goto (t := 102) (by decide) (tz_in0 rfl)).trans ?_
        refine (tz_g_last (n := 1280) rfl rfl (tz_in0 rfl)).trans ?_
        refine tz_cn1 ?_
        refine (tz_g_iconst (v := 1) rfl (tz_in0 rfl)).trans ?_
        exact tz_g_ret1 (tz_in0 rfl) rfl
    · skip
      refine (tz_g_aload_n rfl (tz_in0 rfl)).trans ?_
      refine (tz_g_bipush (v := (-5)) rfl (tz_in0 rfl)).trans ?_
      refine (tz_g_cv1I (m2 := 166) (rc := 1) rfl rfl rfl rfl rfl rfl (by decide) (tz_in0 rfl)).trans ?_
      refine tz_jI (fun y3 A3 => ?_)
      exact tz_g_ret1 (tz_in0 rfl) rfl
  · skip
    refine (tz_g_aload_n rfl (tz_in0 rfl)).trans ?_
    refine (tz_g_iload rfl (tz_in0 rfl)).trans ?_
    refine (tz_g_cv1I (m2 := 166) (rc := 1) rfl rfl rfl rfl rfl rfl (by decide) (tz_in0 rfl)).trans ?_
    refine tz_jI (fun y2 A2 => ?_)
    exact tz_g_ret1 (tz_in0 rfl) rfl

theorem e_X12_show (x1 : Int32) (x2 : Int32) (A : tz_Mem) : f_X12_show x1 x2 A =
  tz_bI (f_X12_within x1 0 7 A) (fun y1 A1 =>
if y1 = 0 then
  tz_bI (f_X12_no (-1) A1) (fun y2 A2 =>
  some (some (.int y2), A2))
else
  if x2 = (-1) then
    if x1 < 0 ∨ 8 ≤ (Int32.toNatClampNeg x1) then none else
    if ¬ x2 = (-1) then
      some (some (.int 1), (tz_s A1 158 (Int32.toNatClampNeg x1) x2))
    else
      some (some (.int 0), (tz_s A1 158 (Int32.toNatClampNeg x1) x2))
  else
    tz_bI (f_X12_isHill x2 A1) (fun y2 A2 =>
    if ¬ y2 = 0 then
      if x1 < 0 ∨ 8 ≤ (Int32.toNatClampNeg x1) then none else
      if ¬ x2 = (-1) then
        some (some (.int 1), (tz_s A2 158 (Int32.toNatClampNeg x1) x2))
      else
        some (some (.int 0), (tz_s A2 158 (Int32.toNatClampNeg x1) x2))
    else
      tz_bI (f_X12_no (-1) A2) (fun y3 A3 =>
      some (some (.int y3), A3)))) := by
  refine (tz_Fe (L := [some (.ref 157), some (.int x1), some (.int x2)]) rfl).trans ?_
  refine (tz_g_iload_n rfl (tz_in0 rfl)).trans ?_
  refine (tz_g_iconst (v := 0) rfl (tz_in0 rfl)).trans ?_
  refine (tz_g_bipush (v := 7) rfl (tz_in0 rfl)).trans ?_
  refine (tz_g_cs3I (m2 := 165) (rc := 4) rfl rfl rfl rfl rfl rfl (by decide) (tz_in0 rfl)).trans ?_
  refine tz_jI (fun y1 A1 => ?_)
  refine (tz_g_if_eq (t := 23) (by decide) (tz_in0 rfl)).trans ?_
  refine tz_cg ?_ ?_
  · skip
    refine (tz_g_aload_n rfl (tz_in0 rfl)).trans ?_
    refine (tz_g_iconst (v := (-1)) rfl (tz_in0 rfl)).trans ?_
    refine (tz_g_cv1I (m2 := 166) (rc := 1) rfl rfl rfl rfl rfl rfl (by decide) (tz_in0 rfl)).trans ?_
    refine tz_jI (fun y2 A2 => ?_)
    exact tz_g_ret1 (tz_in0 rfl) rfl
  · skip
    refine (tz_g_iload_n rfl (tz_in0 rfl)).trans ?_
    refine (tz_g_iconst (v := (-1)) rfl (tz_in0 rfl)).trans ?_
    refine (tz_g_ic_eq (t := 29) (by decide) (tz_in0 rfl)).trans ?_
    refine tz_cg ?_ ?_
    · skip
      refine (tz_g_aload_n rfl (tz_in0 rfl)).trans ?_
      refine (tz_g_getr (j := 158) rfl rfl rfl rfl rfl (tz_in0 rfl)).trans ?_
      refine (tz_g_iload_n rfl (tz_in0 rfl)).trans ?_
      refine (tz_g_iload_n rfl (tz_in0 rfl)).trans ?_
      refine (tz_g_iast (n := 8) rfl rfl rfl (tz_in0 rfl)).trans ?_
      refine tz_cn1 ?_
      refine (tz_g_iload_n rfl (tz_in0 rfl)).trans ?_
      refine (tz_g_iconst (v := (-1)) rfl (tz_in0 rfl)).trans ?_
      refine (tz_g_ic_ne (t := 45) (by decide) (tz_in0 rfl)).trans ?_
      refine tz_cg ?_ ?_
      · skip
        refine (tz_g_iconst (v := 1) rfl (tz_in0 rfl)).trans ?_
        exact tz_g_ret1 (tz_in0 rfl) rfl
      · skip
        refine (tz_g_iconst (v := 0) rfl (tz_in0 rfl)).trans ?_
        refine (tz_g_goto (t := 46) (by decide) (tz_in0 rfl)).trans ?_
        exact tz_g_ret1 (tz_in0 rfl) rfl
    · skip
      refine (tz_g_aload_n rfl (tz_in0 rfl)).trans ?_
      refine (tz_g_iload_n rfl (tz_in0 rfl)).trans ?_
      refine (tz_g_cv1I (m2 := 173) (rc := 4) rfl rfl rfl rfl rfl rfl (by decide) (tz_in0 rfl)).trans ?_
      refine tz_jI (fun y2 A2 => ?_)
      refine (tz_g_if_ne (t := 29) (by decide) (tz_in0 rfl)).trans ?_
      refine tz_cg ?_ ?_
      · skip
        refine (tz_g_aload_n rfl (tz_in0 rfl)).trans ?_
        refine (tz_g_getr (j := 158) rfl rfl rfl rfl rfl (tz_in0 rfl)).trans ?_
        refine (tz_g_iload_n rfl (tz_in0 rfl)).trans ?_
        refine (tz_g_iload_n rfl (tz_in0 rfl)).trans ?_
        refine (tz_g_iast (n := 8) rfl rfl rfl (tz_in0 rfl)).trans ?_
        refine tz_cn1 ?_
        refine (tz_g_iload_n rfl (tz_in0 rfl)).trans ?_
        refine (tz_g_iconst (v := (-1)) rfl (tz_in0 rfl)).trans ?_
        refine (tz_g_ic_ne (t := 45) (by decide) (tz_in0 rfl)).trans ?_
        refine tz_cg ?_ ?_
        · skip
          refine (tz_g_iconst (v := 1) rfl (tz_in0 rfl)).trans ?_
          exact tz_g_ret1 (tz_in0 rfl) rfl
        · skip
          refine (tz_g_iconst (v := 0) rfl (tz_in0 rfl)).trans ?_
          refine (tz_g_goto (t := 46) (by decide) (tz_in0 rfl)).trans ?_
          exact tz_g_ret1 (tz_in0 rfl) rfl
      · skip
        refine (tz_g_aload_n rfl (tz_in0 rfl)).trans ?_
        refine (tz_g_iconst (v := (-1)) rfl (tz_in0 rfl)).trans ?_
        refine (tz_g_cv1I (m2 := 166) (rc := 1) rfl rfl rfl rfl rfl rfl (by decide) (tz_in0 rfl)).trans ?_
        refine tz_jI (fun y3 A3 => ?_)
        exact tz_g_ret1 (tz_in0 rfl) rfl

theorem e_X12_becomes (x1 : Int32) (x2 : Int32) (A : tz_Mem) : f_X12_becomes x1 x2 A =
  if x1 < 0 ∨ 8 ≤ (Int32.toNatClampNeg x1) then none else
tz_bI (f_X12_isUnder (tz_g A 161 (Int32.toNatClampNeg x1)) 2 A) (fun y1 A1 =>
if ¬ y1 = 0 then
  if x1 < 0 ∨ 8 ≤ (Int32.toNatClampNeg x1) then none else
  if ¬ (tz_g A1 161 (Int32.toNatClampNeg x1)) = 5 then
    some (some (.int (x2 / 10)), A1)
  else
    if x1 < 0 ∨ 8 ≤ (Int32.toNatClampNeg x1) then none else
    some (some (.int (if ((x2 / 10) + (tz_g A1 162 (Int32.toNatClampNeg x1))) < 9999 then ((x2 / 10) + (tz_g A1 162 (Int32.toNatClampNeg x1))) else 9999)), A1)
else
  some (some (.int x2), A1)) := by
  refine (tz_Fe (L := [some (.ref 157), some (.int x1), some (.int x2)]) rfl).trans ?_
  refine (tz_g_aload_n rfl (tz_in0 rfl)).trans ?_
  refine (tz_g_getr (j := 161) rfl rfl rfl rfl rfl (tz_in0 rfl)).trans ?_
  refine (tz_g_iload_n rfl (tz_in0 rfl)).trans ?_
  refine (tz_g_iald (n := 8) rfl rfl rfl (tz_in0 rfl)).trans ?_
  refine tz_cn1 ?_
  refine (tz_g_iconst (v := 2) rfl (tz_in0 rfl)).trans ?_
  refine (tz_g_cs2I (m2 := 176) (rc := 4) rfl rfl rfl rfl rfl rfl (by decide) (tz_in0 rfl)).trans ?_
  refine tz_jI (fun y1 A1 => ?_)
  refine (tz_g_if_ne (t := 15) (by decide) (tz_in0 rfl)).trans ?_
  refine tz_cg ?_ ?_
  · skip
    refine (tz_g_aload_n rfl (tz_in0 rfl)).trans ?_
    refine (tz_g_getr (j := 161) rfl rfl rfl rfl rfl (tz_in0 rfl)).trans ?_
    refine (tz_g_iload_n rfl (tz_in0 rfl)).trans ?_
    refine (tz_g_iald (n := 8) rfl rfl rfl (tz_in0 rfl)).trans ?_
    refine tz_cn1 ?_
    refine (tz_g_iconst (v := 5) rfl (tz_in0 rfl)).trans ?_
    refine (tz_g_ic_ne (t := 45) (by decide) (tz_in0 rfl)).trans ?_
    refine tz_cg ?_ ?_
    · skip
      refine (tz_g_iload_n rfl (tz_in0 rfl)).trans ?_
      refine (tz_g_bipush (v := 10) rfl (tz_in0 rfl)).trans ?_
      refine (tz_g_idivK (by decide) (tz_in0 rfl)).trans ?_
      exact tz_g_ret1 (tz_in0 rfl) rfl
    · skip
      refine (tz_g_sipush (v := 9999) rfl (tz_in0 rfl)).trans ?_
      refine (tz_g_iload_n rfl (tz_in0 rfl)).trans ?_
      refine (tz_g_bipush (v := 10) rfl (tz_in0 rfl)).trans ?_
      refine (tz_g_idivK (by decide) (tz_in0 rfl)).trans ?_
      refine (tz_g_aload_n rfl (tz_in0 rfl)).trans ?_
      refine (tz_g_getr (j := 162) rfl rfl rfl rfl rfl (tz_in0 rfl)).trans ?_
      refine (tz_g_iload_n rfl (tz_in0 rfl)).trans ?_
      refine (tz_g_iald (n := 8) rfl rfl rfl (tz_in0 rfl)).trans ?_
      refine tz_cn1 ?_
      refine (tz_g_iadd (tz_in0 rfl)).trans ?_
      refine (tz_g_min rfl rfl rfl (tz_in0 rfl)).trans ?_
      refine (tz_g_goto (t := 49) (by decide) (tz_in0 rfl)).trans ?_
      exact tz_g_ret1 (tz_in0 rfl) rfl
  · skip
    refine (tz_g_iload_n rfl (tz_in0 rfl)).trans ?_
    exact tz_g_ret1 (tz_in0 rfl) rfl

theorem e_X12_storm (x1 : Int32) (x2 : Int32) (x3 : Int32) (x4 : Int32) (x5 : Int32) (A : tz_Mem) : f_X12_storm x1 x2 x3 x4 x5 A =
  tz_bI (f_X12_noRow x1 A) (fun y1 A1 =>
if 0 ≤ y1 then
  if 0 ≤ x2 then
    if x1 < 0 ∨ 8 ≤ (Int32.toNatClampNeg x1) then none else
    if x2 ≤ (tz_g A1 159 (Int32.toNatClampNeg x1)) then
      tz_bI (f_X12_within x2 2 6 A1) (fun y2 A2 =>
      if y2 = 0 then
        q_X12_storm_99 x1 x2 x3 x4 x5 0 0 A2
      else
        tz_bI (f_X12_within x3 1 9 A2) (fun y3 A3 =>
        if y3 = 0 then
          q_X12_storm_99 x1 x2 x3 x4 x5 0 0 A3
        else
          tz_bI (f_X12_within x4 1 99 A3) (fun y4 A4 =>
          if y4 = 0 then
            q_X12_storm_99 x1 x2 x3 x4 x5 0 0 A4
          else
            tz_bI (f_X12_within x5 1 9 A4) (fun y5 A5 =>
            if y5 = 0 then
              q_X12_storm_99 x1 x2 x3 x4 x5 0 0 A5
            else
              q_X12_storm_99 x1 x2 x3 x4 x5 1 0 A5))))
    else
      tz_bI (f_X12_no (-5) A1) (fun y2 A2 =>
      some (some (.int y2), A2))
  else
    tz_bI (f_X12_no (-4) A1) (fun y2 A2 =>
    some (some (.int y2), A2))
else
  tz_bI (f_X12_no y1 A1) (fun y2 A2 =>
  some (some (.int y2), A2))) := by
  refine (tz_Fe (L := [some (.ref 157), some (.int x1), some (.int x2), some (.int x3), some (.int x4), some (.int x5), none, none, none]) rfl).trans ?_
  refine (tz_g_aload_n rfl (tz_in0 rfl)).trans ?_
  refine (tz_g_iload_n rfl (tz_in0 rfl)).trans ?_
  refine (tz_g_cv1I (m2 := 168) (rc := 1) rfl rfl rfl rfl rfl rfl (by decide) (tz_in0 rfl)).trans ?_
  refine tz_jI (fun y1 A1 => ?_)
  refine (tz_g_istore (L2 := [some (.ref 157), some (.int x1), some (.int x2), some (.int x3), some (.int x4), some (.int x5), some (.int y1), none, none]) rfl rfl (tz_in0 rfl)).trans ?_
  refine (tz_g_iload rfl (tz_in0 rfl)).trans ?_
  refine (tz_g_if_ge (t := 19) (by decide) (tz_in0 rfl)).trans ?_
  refine tz_cg ?_ ?_
  · skip
    refine (tz_g_iload_n rfl (tz_in0 rfl)).trans ?_
    refine (tz_g_if_ge (t := 30) (by decide) (tz_in0 rfl)).trans ?_
    refine tz_cg ?_ ?_
    · skip
      refine (tz_g_iload_n rfl (tz_in0 rfl)).trans ?_
      refine (tz_g_aload_n rfl (tz_in0 rfl)).trans ?_
      refine (tz_g_getr (j := 159) rfl rfl rfl rfl rfl (tz_in0 rfl)).trans ?_
      refine (tz_g_iload_n rfl (tz_in0 rfl)).trans ?_
      refine (tz_g_iald (n := 8) rfl rfl rfl (tz_in0 rfl)).trans ?_
      refine tz_cn1 ?_
      refine (tz_g_ic_le (t := 47) (by decide) (tz_in0 rfl)).trans ?_
      refine tz_cg ?_ ?_
      · skip
        refine (tz_g_iload_n rfl (tz_in0 rfl)).trans ?_
        refine (tz_g_iconst (v := 2) rfl (tz_in0 rfl)).trans ?_
        refine (tz_g_bipush (v := 6) rfl (tz_in0 rfl)).trans ?_
        refine (tz_g_cs3I (m2 := 165) (rc := 4) rfl rfl rfl rfl rfl rfl (by decide) (tz_in0 rfl)).trans ?_
        refine tz_jI (fun y2 A2 => ?_)
        refine (tz_g_if_eq (t := 93) (by decide) (tz_in0 rfl)).trans ?_
        refine tz_cg ?_ ?_
        · skip
          refine (tz_g_iconst (v := 0) rfl (tz_in0 rfl)).trans ?_
          refine (tz_g_istore (L2 := [some (.ref 157), some (.int x1), some (.int x2), some (.int x3), some (.int x4), some (.int x5), some (.int y1), some (.int 0), none]) rfl rfl (tz_in0 rfl)).trans ?_
          refine (tz_g_iconst (v := 0) rfl (tz_in0 rfl)).trans ?_
          refine (tz_g_istore (L2 := [some (.ref 157), some (.int x1), some (.int x2), some (.int x3), some (.int x4), some (.int x5), some (.int y1), some (.int 0), some (.int 0)]) rfl rfl (tz_in0 rfl)).trans ?_
          exact tz_Gm (L2 := [some (.ref 157), some (.int x1), some (.int x2), some (.int x3), some (.int x4), some (.int x5), none, some (.int 0), some (.int 0)]) rfl rfl rfl rfl
        · skip
          refine (tz_g_iload_n rfl (tz_in0 rfl)).trans ?_
          refine (tz_g_iconst (v := 1) rfl (tz_in0 rfl)).trans ?_
          refine (tz_g_bipush (v := 9) rfl (tz_in0 rfl)).trans ?_
          refine (tz_g_cs3I (m2 := 165) (rc := 4) rfl rfl rfl rfl rfl rfl (by decide) (tz_in0 rfl)).trans ?_
          refine tz_jI (fun y3 A3 => ?_)
          refine (tz_g_if_eq (t := 93) (by decide) (tz_in0 rfl)).trans ?_
          refine tz_cg ?_ ?_
          · skip
            refine (tz_g_iconst (v := 0) rfl (tz_in0 rfl)).trans ?_
            refine (tz_g_istore (L2 := [some (.ref 157), some (.int x1), some (.int x2), some (.int x3), some (.int x4), some (.int x5), some (.int y1), some (.int 0), none]) rfl rfl (tz_in0 rfl)).trans ?_
            refine (tz_g_iconst (v := 0) rfl (tz_in0 rfl)).trans ?_
            refine (tz_g_istore (L2 := [some (.ref 157), some (.int x1), some (.int x2), some (.int x3), some (.int x4), some (.int x5), some (.int y1), some (.int 0), some (.int 0)]) rfl rfl (tz_in0 rfl)).trans ?_
            exact tz_Gm (L2 := [some (.ref 157), some (.int x1), some (.int x2), some (.int x3), some (.int x4), some (.int x5), none, some (.int 0), some (.int 0)]) rfl rfl rfl rfl
          · skip
            refine (tz_g_iload rfl (tz_in0 rfl)).trans ?_
            refine (tz_g_iconst (v := 1) rfl (tz_in0 rfl)).trans ?_
            refine (tz_g_bipush (v := 99) rfl (tz_in0 rfl)).trans ?_
            refine (tz_g_cs3I (m2 := 165) (rc := 4) rfl rfl rfl rfl rfl rfl (by decide) (tz_in0 rfl)).trans ?_
            refine tz_jI (fun y4 A4 => ?_)
            refine (tz_g_if_eq (t := 93) (by decide) (tz_in0 rfl)).trans ?_
            refine tz_cg ?_ ?_
            · skip
              refine (tz_g_iconst (v := 0) rfl (tz_in0 rfl)).trans ?_
              refine (tz_g_istore (L2 := [some (.ref 157), some (.int x1), some (.int x2), some (.int x3), some (.int x4), some (.int x5), some (.int y1), some (.int 0), none]) rfl rfl (tz_in0 rfl)).trans ?_
              refine (tz_g_iconst (v := 0) rfl (tz_in0 rfl)).trans ?_
              refine (tz_g_istore (L2 := [some (.ref 157), some (.int x1), some (.int x2), some (.int x3), some (.int x4), some (.int x5), some (.int y1), some (.int 0), some (.int 0)]) rfl rfl (tz_in0 rfl)).trans ?_
              exact tz_Gm (L2 := [some (.ref 157), some (.int x1), some (.int x2), some (.int x3), some (.int x4), some (.int x5), none, some (.int 0), some (.int 0)]) rfl rfl rfl rfl
            · skip
              refine (tz_g_iload rfl (tz_in0 rfl)).trans ?_
              refine (tz_g_iconst (v := 1) rfl (tz_in0 rfl)).trans ?_
              refine (tz_g_bipush (v := 9) rfl (tz_in0 rfl)).trans ?_
              refine (tz_g_cs3I (m2 := 165) (rc := 4) rfl rfl rfl rfl rfl rfl (by decide) (tz_in0 rfl)).trans ?_
              refine tz_jI (fun y5 A5 => ?_)
              refine (tz_g_if_eq (t := 93) (by decide) (tz_in0 rfl)).trans ?_
              refine tz_cg ?_ ?_
              · skip
                refine (tz_g_iconst (v := 0) rfl (tz_in0 rfl)).trans ?_
                refine (tz_g_istore (L2 := [some (.ref 157), some (.int x1), some (.int x2), some (.int x3), some (.int x4), some (.int x5), some (.int y1), some (.int 0), none]) rfl rfl (tz_in0 rfl)).trans ?_
                refine (tz_g_iconst (v := 0) rfl (tz_in0 rfl)).trans ?_
                refine (tz_g_istore (L2 := [some (.ref 157), some (.int x1), some (.int x2), some (.int x3), some (.int x4), some (.int x5), some (.int y1), some (.int 0), some (.int 0)]) rfl rfl (tz_in0 rfl)).trans ?_
                exact tz_Gm (L2 := [some (.ref 157), some (.int x1), some (.int x2), some (.int x3), some (.int x4), some (.int x5), none, some (.int 0), some (.int 0)]) rfl rfl rfl rfl
              · skip
                refine (tz_g_iconst (v := 1) rfl (tz_in0 rfl)).trans ?_
                refine (tz_g_goto (t := 94) (by decide) (tz_in0 rfl)).trans ?_
                refine (tz_g_istore (L2 := [some (.ref 157), some (.int x1), some (.int x2), some (.int x3), some (.int x4), some (.int x5), some (.int y1), some (.int 1), none]) rfl rfl (tz_in0 rfl)).trans ?_
                refine (tz_g_iconst (v := 0) rfl (tz_in0 rfl)).trans ?_
                refine (tz_g_istore (L2 := [some (.ref 157), some (.int x1), some (.int x2), some (.int x3), some (.int x4), some (.int x5), some (.int y1), some (.int 1), some (.int 0)]) rfl rfl (tz_in0 rfl)).trans ?_
                exact tz_Gm (L2 := [some (.ref 157), some (.int x1), some (.int x2), some (.int x3), some (.int x4), some (.int x5), none, some (.int 1), some (.int 0)]) rfl rfl rfl rfl
      · skip
        refine (tz_g_aload_n rfl (tz_in0 rfl)).trans ?_
        refine (tz_g_bipush (v := (-5)) rfl (tz_in0 rfl)).trans ?_
        refine (tz_g_cv1I (m2 := 166) (rc := 1) rfl rfl rfl rfl rfl rfl (by decide) (tz_in0 rfl)).trans ?_
        refine tz_jI (fun y2 A2 => ?_)
        exact tz_g_ret1 (tz_in0 rfl) rfl
    · skip
      refine (tz_g_aload_n rfl (tz_in0 rfl)).trans ?_
      refine (tz_g_bipush (v := (-4)) rfl (tz_in0 rfl)).trans ?_
      refine (tz_g_cv1I (m2 := 166) (rc := 1) rfl rfl rfl rfl rfl rfl (by decide) (tz_in0 rfl)).trans ?_
      refine tz_jI (fun y2 A2 => ?_)
      exact tz_g_ret1 (tz_in0 rfl) rfl
  · skip
    refine (tz_g_aload_n rfl (tz_in0 rfl)).trans ?_
    refine (tz_g_iload rfl (tz_in0 rfl)).trans ?_
    refine (tz_g_cv1I (m2 := 166) (rc := 1) rfl rfl rfl rfl rfl rfl (by decide) (tz_in0 rfl)).trans ?_
    refine tz_jI (fun y2 A2 => ?_)
    exact tz_g_ret1 (tz_in0 rfl) rfl

theorem e_X12_storm_99 (z1 : Int32) (z2 : Int32) (z3 : Int32) (z4 : Int32) (z5 : Int32) (z7 : Int32) (z8 : Int32) (A : tz_Mem) : q_X12_storm_99 z1 z2 z3 z4 z5 z7 z8 A =
  if z2 ≤ z8 then
  if ¬ z7 = 0 then
    if ¬ (tz_g A 157 8) = 4 then
      if (tz_g A 157 8) < 0 ∨ 4 ≤ (Int32.toNatClampNeg (tz_g A 157 8)) then none else
      q_X12_storm_207 z1 z2 z3 z4 z5 0 (tz_s A 165 (Int32.toNatClampNeg (tz_g A 157 8)) z2)
    else
      tz_bI (f_X12_no (-7) A) (fun y1 A1 =>
      some (some (.int y1), A1))
  else
    tz_bI (f_X12_no (-6) A) (fun y1 A1 =>
    some (some (.int y1), A1))
else
  if z7 = 0 then
    if ¬ z7 = 0 then
      if ¬ (tz_g A 157 8) = 4 then
        if (tz_g A 157 8) < 0 ∨ 4 ≤ (Int32.toNatClampNeg (tz_g A 157 8)) then none else
        q_X12_storm_207 z1 z2 z3 z4 z5 0 (tz_s A 165 (Int32.toNatClampNeg (tz_g A 157 8)) z2)
      else
        tz_bI (f_X12_no (-7) A) (fun y1 A1 =>
        some (some (.int y1), A1))
    else
      tz_bI (f_X12_no (-6) A) (fun y1 A1 =>
      some (some (.int y1), A1))
  else
    tz_bI (f_X12_told z1 z8 A) (fun y1 A1 =>
    tz_bI (f_X12_isHill y1 A1) (fun y2 A2 =>
    if y2 = 0 then
      q_X12_storm_99 z1 z2 z3 z4 z5 0 (z8 + 1) A2
    else
      tz_bI (f_X12_told z1 z8 A2) (fun y3 A3 =>
      if ¬ z8 = 0 then
        tz_bI (f_X12_told z1 (z8 - 1) A3) (fun y4 A4 =>
        if y3 = y4 then
          q_X12_storm_99 z1 z2 z3 z4 z5 0 (z8 + 1) A4
        else
          q_X12_storm_99 z1 z2 z3 z4 z5 1 (z8 + 1) A4)
      else
        tz_bI (f_X12_told z1 (z2 - 1) A3) (fun y4 A4 =>
        if y3 = y4 then
          q_X12_storm_99 z1 z2 z3 z4 z5 0 (z8 + 1) A4
        else
          q_X12_storm_99 z1 z2 z3 z4 z5 1 (z8 + 1) A4)))) := by
  show tz_Go 183 99 [some (.ref 157), some (.int z1), some (.int z2), some (.int z3), some (.int z4), some (.int z5), none, some (.int z7), some (.int z8)] [] A = _
  refine (tz_g_iload rfl (tz_inM rfl rfl rfl)).trans ?_
  refine (tz_g_iload_n rfl (tz_in0 rfl)).trans ?_
  refine (tz_g_ic_ge (t := 167) (by decide) (tz_in0 rfl)).trans ?_
  refine tz_cg ?_ ?_
  · skip
    refine (tz_g_iload rfl (tz_in0 rfl)).trans ?_
    refine (tz_g_if_ne (t := 179) (by decide) (tz_in0 rfl)).trans ?_
    refine tz_cg ?_ ?_
    · skip
      refine (tz_g_aload_n rfl (tz_in0 rfl)).trans ?_
      refine (tz_g_geti rfl rfl rfl (tz_in0 rfl)).trans ?_
      refine (tz_g_iconst (v := 4) rfl (tz_in0 rfl)).trans ?_
      refine (tz_g_ic_ne (t := 194) (by decide) (tz_in0 rfl)).trans ?_
      refine tz_cg ?_ ?_
      · skip
        refine (tz_g_aload_n rfl (tz_in0 rfl)).trans ?_
        refine (tz_g_getr (j := 165) rfl rfl rfl rfl rfl (tz_in0 rfl)).trans ?_
        refine (tz_g_aload_n rfl (tz_in0 rfl)).trans ?_
        refine (tz_g_geti rfl rfl rfl (tz_in0 rfl)).trans ?_
        refine (tz_g_iload_n rfl (tz_in0 rfl)).trans ?_
        refine (tz_g_iast (n := 4) rfl rfl rfl (tz_in0 rfl)).trans ?_
        refine tz_cn1 ?_
        refine (tz_g_iconst (v := 0) rfl (tz_in0 rfl)).trans ?_
        refine (tz_g_istore (L2 := [some (.ref 157), some (.int z1), some (.int z2), some (.int z3), some (.int z4), some (.int z5), none, some (.int z7), some (.int 0)]) rfl rfl (tz_in0 rfl)).trans ?_
        exact tz_Gm (L2 := [some (.ref 157), some (.int z1), some (.int z2), some (.int z3), some (.int z4), some (.int z5), none, none, some (.int 0)]) rfl rfl rfl rfl
      · skip
        refine (tz_g_aload_n rfl (tz_in0 rfl)).trans ?_
        refine (tz_g_bipush (v := (-7)) rfl (tz_in0 rfl)).trans ?_
        refine (tz_g_cv1I (m2 := 166) (rc := 1) rfl rfl rfl rfl rfl rfl (by decide) (tz_in0 rfl)).trans ?_
        refine tz_jI (fun y1 A1 => ?_)
        exact tz_g_ret1 (tz_in0 rfl) rfl
    · skip
      refine (tz_g_aload_n rfl (tz_in0 rfl)).trans ?_
      refine (tz_g_bipush (v := (-6)) rfl (tz_in0 rfl)).trans ?_
      refine (tz_g_cv1I (m2 := 166) (rc := 1) rfl rfl rfl rfl rfl rfl (by decide) (tz_in0 rfl)).trans ?_
      refine tz_jI (fun y1 A1 => ?_)
      exact tz_g_ret1 (tz_in0 rfl) rfl
  · skip
    refine (tz_g_iload rfl (tz_in0 rfl)).trans ?_
    refine (tz_g_if_eq (t := 167) (by decide) (tz_in0 rfl)).trans ?_
    refine tz_cg ?_ ?_
    · skip
      refine (tz_g_iload rfl (tz_in0 rfl)).trans ?_
      refine (tz_g_if_ne (t := 179) (by decide) (tz_in0 rfl)).trans ?_
      refine tz_cg ?_ ?_
      · skip
        refine (tz_g_aload_n rfl (tz_in0 rfl)).trans ?_
        refine (tz_g_geti rfl rfl rfl (tz_in0 rfl)).trans ?_
        refine (tz_g_iconst (v := 4) rfl (tz_in0 rfl)).trans ?_
        refine (tz_g_ic_ne (t := 194) (by decide) (tz_in0 rfl)).trans ?_
        refine tz_cg ?_ ?_
        · skip
          refine (tz_g_aload_n rfl (tz_in0 rfl)).trans ?_
          refine (tz_g_getr (j := 165) rfl rfl rfl rfl rfl (tz_in0 rfl)).trans ?_
          refine (tz_g_aload_n rfl (tz_in0 rfl)).trans ?_
          refine (tz_g_geti rfl rfl rfl (tz_in0 rfl)).trans ?_
          refine (tz_g_iload_n rfl (tz_in0 rfl)).trans ?_
          refine (tz_g_iast (n := 4) rfl rfl rfl (tz_in0 rfl)).trans ?_
          refine tz_cn1 ?_
          refine (tz_g_iconst (v := 0) rfl (tz_in0 rfl)).trans ?_
          refine (tz_g_istore (L2 := [some (.ref 157), some (.int z1), some (.int z2), some (.int z3), some (.int z4), some (.int z5), none, some (.int z7), some (.int 0)]) rfl rfl (tz_in0 rfl)).trans ?_
          exact tz_Gm (L2 := [some (.ref 157), some (.int z1), some (.int z2), some (.int z3), some (.int z4), some (.int z5), none, none, some (.int 0)]) rfl rfl rfl rfl
        · skip
          refine (tz_g_aload_n rfl (tz_in0 rfl)).trans ?_
          refine (tz_g_bipush (v := (-7)) rfl (tz_in0 rfl)).trans ?_
          refine (tz_g_cv1I (m2 := 166) (rc := 1) rfl rfl rfl rfl rfl rfl (by decide) (tz_in0 rfl)).trans ?_
          refine tz_jI (fun y1 A1 => ?_)
          exact tz_g_ret1 (tz_in0 rfl) rfl
      · skip
        refine (tz_g_aload_n rfl (tz_in0 rfl)).trans ?_
        refine (tz_g_bipush (v := (-6)) rfl (tz_in0 rfl)).trans ?_
        refine (tz_g_cv1I (m2 := 166) (rc := 1) rfl rfl rfl rfl rfl rfl (by decide) (tz_in0 rfl)).trans ?_
        refine tz_jI (fun y1 A1 => ?_)
        exact tz_g_ret1 (tz_in0 rfl) rfl
    · skip
      refine (tz_g_aload_n rfl (tz_in0 rfl)).trans ?_
      refine (tz_g_aload_n rfl (tz_in0 rfl)).trans ?_
      refine (tz_g_iload_n rfl (tz_in0 rfl)).trans ?_
      refine (tz_g_iload rfl (tz_in0 rfl)).trans ?_
      refine (tz_g_cv2I (m2 := 184) (rc := 1) rfl rfl rfl rfl rfl rfl (by decide) (tz_in0 rfl)).trans ?_
      refine tz_jI (fun y1 A1 => ?_)
      refine (tz_g_cv1I (m2 := 173) (rc := 4) rfl rfl rfl rfl rfl rfl (by decide) (tz_in0 rfl)).trans ?_
      refine tz_jI (fun y2 A2 => ?_)
      refine (tz_g_if_eq (t := 158) (by decide) (tz_in0 rfl)).trans ?_
      refine tz_cg ?_ ?_
      · skip
        refine (tz_g_iconst (v := 0) rfl (tz_in0 rfl)).trans ?_
        refine (tz_g_istore (L2 := [some (.ref 157), some (.int z1), some (.int z2), some (.int z3), some (.int z4), some (.int z5), none, some (.int 0), some (.int z8)]) rfl rfl (tz_in0 rfl)).trans ?_
        refine (tz_g_iinc (v := 1) (L2 := [some (.ref 157), some (.int z1), some (.int z2), some (.int z3), some (.int z4), some (.int z5), none, some (.int 0), some (.int (z8 + 1))]) rfl rfl rfl rfl (tz_in0 rfl)).trans ?_
        refine (tz_g_goto (t := 99) (by decide) (tz_in0 rfl)).trans ?_
        exact tz_Gm (L2 := [some (.ref 157), some (.int z1), some (.int z2), some (.int z3), some (.int z4), some (.int z5), none, some (.int 0), some (.int (z8 + 1))]) rfl rfl rfl rfl
      · skip
        refine (tz_g_aload_n rfl (tz_in0 rfl)).trans ?_
        refine (tz_g_iload_n rfl (tz_in0 rfl)).trans ?_
        refine (tz_g_iload rfl (tz_in0 rfl)).trans ?_
        refine (tz_g_cv2I (m2 := 184) (rc := 1) rfl rfl rfl rfl rfl rfl (by decide) (tz_in0 rfl)).trans ?_
        refine tz_jI (fun y3 A3 => ?_)
        refine (tz_g_aload_n rfl (tz_in0 rfl)).trans ?_
        refine (tz_g_iload_n rfl (tz_in0 rfl)).trans ?_
        refine (tz_g_iload rfl (tz_in0 rfl)).trans ?_
        refine (tz_g_if_ne (t := 144) (by decide) (tz_in0 rfl)).trans ?_
        refine tz_cg ?_ ?_
        · skip
          refine (tz_g_iload rfl (tz_in0 rfl)).trans ?_
          refine (tz_g_iconst (v := 1) rfl (tz_in0 rfl)).trans ?_
          refine (tz_g_isub (tz_in0 rfl)).trans ?_
          refine (tz_g_cv2I (m2 := 184) (rc := 1) rfl rfl rfl rfl rfl rfl (by decide) (tz_in0 rfl)).trans ?_
          refine tz_jI (fun y4 A4 => ?_)
          refine (tz_g_ic_eq (t := 158) (by decide) (tz_in0 rfl)).trans ?_
          refine tz_cg ?_ ?_
          · skip
            refine (tz_g_iconst (v := 0) rfl (tz_in0 rfl)).trans ?_
            refine (tz_g_istore (L2 := [some (.ref 157), some (.int z1), some (.int z2), some (.int z3), some (.int z4), some (.int z5), none, some (.int 0), some (.int z8)]) rfl rfl (tz_in0 rfl)).trans ?_
            refine (tz_g_iinc (v := 1) (L2 := [some (.ref 157), some (.int z1), some (.int z2), some (.int z3), some (.int z4), some (.int z5), none, some (.int 0), some (.int (z8 + 1))]) rfl rfl rfl rfl (tz_in0 rfl)).trans ?_
            refine (tz_g_goto (t := 99) (by decide) (tz_in0 rfl)).trans ?_
            exact tz_Gm (L2 := [some (.ref 157), some (.int z1), some (.int z2), some (.int z3), some (.int z4), some (.int z5), none, some (.int 0), some (.int (z8 + 1))]) rfl rfl rfl rfl
          · skip
            refine (tz_g_iconst (v := 1) rfl (tz_in0 rfl)).trans ?_
            refine (tz_g_goto (t := 159) (by decide) (tz_in0 rfl)).trans ?_
            refine (tz_g_istore (L2 := [some (.ref 157), some (.int z1), some (.int z2), some (.int z3), some (.int z4), some (.int z5), none, some (.int 1), some (.int z8)]) rfl rfl (tz_in0 rfl)).trans ?_
            refine (tz_g_iinc (v := 1) (L2 := [some (.ref 157), some (.int z1), some (.int z2), some (.int z3), some (.int z4), some (.int z5), none, some (.int 1), some (.int (z8 + 1))]) rfl rfl rfl rfl (tz_in0 rfl)).trans ?_
            refine (tz_g_goto (t := 99) (by decide) (tz_in0 rfl)).trans ?_
            exact tz_Gm (L2 := [some (.ref 157), some (.int z1), some (.int z2), some (.int z3), some (.int z4), some (.int z5), none, some (.int 1), some (.int (z8 + 1))]) rfl rfl rfl rfl
        · skip
          refine (tz_g_iload_n rfl (tz_in0 rfl)).trans ?_
          refine (tz_g_iconst (v := 1) rfl (tz_in0 rfl)).trans ?_
          refine (tz_g_isub (tz_in0 rfl)).trans ?_
          refine (tz_g_goto (t := 148) (by decide) (tz_in0 rfl)).trans ?_
          refine (tz_g_cv2I (m2 := 184) (rc := 1) rfl rfl rfl rfl rfl rfl (by decide) (tz_in0 rfl)).trans ?_
          refine tz_jI (fun y4 A4 => ?_)
          refine (tz_g_ic_eq (t := 158) (by decide) (tz_in0 rfl)).trans ?_
          refine tz_cg ?_ ?_
          · skip
            refine (tz_g_iconst (v := 0) rfl (tz_in0 rfl)).trans ?_
            refine (tz_g_istore (L2 := [some (.ref 157), some (.int z1), some (.int z2), some (.int z3), some (.int z4), some (.int z5), none, some (.int 0), some (.int z8)]) rfl rfl (tz_in0 rfl)).trans ?_
            refine (tz_g_iinc (v := 1) (L2 := [some (.ref 157), some (.int z1), some (.int z2), some (.int z3), some (.int z4), some (.int z5), none, some (.int 0), some (.int (z8 + 1))]) rfl rfl rfl rfl (tz_in0 rfl)).trans ?_
            refine (tz_g_goto (t := 99) (by decide) (tz_in0 rfl)).trans ?_
            exact tz_Gm (L2 := [some (.ref 157), some (.int z1), some (.int z2), some (.int z3), some (.int z4), some (.int z5), none, some (.int 0), some (.int (z8 + 1))]) rfl rfl rfl rfl
          · skip
            refine (tz_g_iconst (v := 1) rfl (tz_in0 rfl)).trans ?_
            refine (tz_g_goto (t := 159) (by decide) (tz_in0 rfl)).trans ?_
            refine (tz_g_istore (L2 := [some (.ref 157), some (.int z1), some (.int z2), some (.int z3), some (.int z4), some (.int z5), none, some (.int 1), some (.int z8)]) rfl rfl (tz_in0 rfl)).trans ?_
            refine (tz_g_iinc (v := 1) (L2 := [some (.ref 157), some (.int z1), some (.int z2), some (.int z3), some (.int z4), some (.int z5), none, some (.int 1), some (.int (z8 + 1))]) rfl rfl rfl rfl (tz_in0 rfl)).trans ?_
            refine (tz_g_goto (t := 99) (by decide) (tz_in0 rfl)).trans ?_
            exact tz_Gm (L2 := [some (.ref 157), some (.int z1), some (.int z2), some (.int z3), some (.int z4), some (.int z5), none, some (.int 1), some (.int (z8 + 1))]) rfl rfl rfl rfl

theorem e_X12_storm_207 (z1 : Int32) (z2 : Int32) (z3 : Int32) (z4 : Int32) (z5 : Int32) (z8 : Int32) (A : tz_Mem) : q_X12_storm_207 z1 z2 z3 z4 z5 z8 A =
  if z2 ≤ z8 then
  tz_bI (f_X12_newStorm z3 z4 z5 A) (fun y1 A1 =>
  some (some (.int y1), A1))
else
  tz_bI (f_X12_told z1 z8 A) (fun y1 A1 =>
  if ((6 * (tz_g A 157 8)) + z8) < 0 ∨ 24 ≤ (Int32.toNatClampNeg ((6 * (tz_g A 157 8)) + z8)) then none else
  q_X12_storm_207 z1 z2 z3 z4 z5 (z8 + 1) (tz_s A1 166 (Int32.toNatClampNeg ((6 * (tz_g A 157 8)) + z8)) y1)) := by
  show tz_Go 183 207 [some (.ref 157), some (.int z1), some (.int z2), some (.int z3), some (.int z4), some (.int z5), none, none, some (.int z8)] [] A = _
  refine (tz_g_iload rfl (tz_inM rfl rfl rfl)).trans ?_
  refine (tz_g_iload_n rfl (tz_in0 rfl)).trans ?_
  refine (tz_g_ic_ge (t := 241) (by decide) (tz_in0 rfl)).trans ?_
  refine tz_cg ?_ ?_
  · skip
    refine (tz_g_aload_n rfl (tz_in0 rfl)).trans ?_
    refine (tz_g_iload_n rfl (tz_in0 rfl)).trans ?_
    refine (tz_g_iload rfl (tz_in0 rfl)).trans ?_
    refine (tz_g_iload rfl (tz_in0 rfl)).trans ?_
    refine (tz_g_cv3I (m2 := 185) (rc := 1) rfl rfl rfl rfl rfl rfl (by decide) (tz_in0 rfl)).trans ?_
    refine tz_jI (fun y1 A1 => ?_)
    exact tz_g_ret1 (tz_in0 rfl) rfl
  · skip
    refine (tz_g_aload_n rfl (tz_in0 rfl)).trans ?_
    refine (tz_g_getr (j := 166) rfl rfl rfl rfl rfl (tz_in0 rfl)).trans ?_
    refine (tz_g_bipush (v := 6) rfl (tz_in0 rfl)).trans ?_
    refine (tz_g_aload_n rfl (tz_in0 rfl)).trans ?_
    refine (tz_g_geti rfl rfl rfl (tz_in0 rfl)).trans ?_
    refine (tz_g_imul (tz_in0 rfl)).trans ?_
    refine (tz_g_iload rfl (tz_in0 rfl)).trans ?_
    refine (tz_g_iadd (tz_in0 rfl)).trans ?_
    refine (tz_g_aload_n rfl (tz_in0 rfl)).trans ?_
    refine (tz_g_iload_n rfl (tz_in0 rfl)).trans ?_
    refine (tz_g_iload rfl (tz_in0 rfl)).trans ?_
    refine (tz_g_cv2I (m2 := 184) (rc := 1) rfl rfl rfl rfl rfl rfl (by decide) (tz_in0 rfl)).trans ?_
    refine tz_jI (fun y1 A1 => ?_)
    refine (tz_g_iast (n := 24) rfl rfl rfl (tz_in0 rfl)).trans ?_
    refine tz_cn1 ?_
    refine (tz_g_iinc (v := 1) (L2 := [some (.ref 157), some (.int z1), some (.int z2), some (.int z3), some (.int z4), some (.int z5), none, none, some (.int (z8 + 1))]) rfl rfl rfl rfl (tz_in0 rfl)).trans ?_
    refine (tz_g_goto (t := 207) (by decide) (tz_in0 rfl)).trans ?_
    exact tz_Gm (L2 := [some (.ref 157), some (.int z1), some (.int z2), some (.int z3), some (.int z4), some (.int z5), none, none, some (.int (z8 + 1))]) rfl rfl rfl rfl

theorem e_X12_letter (x1 : Int32) (x2 : Int32) (x3 : Int32) (x4 : Int32) (A : tz_Mem) : f_X12_letter x1 x2 x3 x4 A =
  tz_bI (f_X12_isHill x2 A) (fun y1 A1 =>
if y1 = 0 then
  tz_bI (f_X12_no (-1) A1) (fun y2 A2 =>
  some (some (.int y2), A2))
else
  tz_bI (f_X12_isHill x3 A1) (fun y2 A2 =>
  if ¬ y2 = 0 then
    tz_bI (f_X12_within x1 0 9999 A2) (fun y3 A3 =>
    if y3 = 0 then
      tz_bI (f_X12_no (-6) A3) (fun y4 A4 =>
      some (some (.int y4), A4))
    else
      if x2 = x3 then
        tz_bI (f_X12_no (-6) A3) (fun y4 A4 =>
        some (some (.int y4), A4))
      else
        tz_bI (f_X12_within x4 1 99 A3) (fun y4 A4 =>
        if ¬ y4 = 0 then
          if ¬ (tz_g A4 157 15) = 12 then
            tz_bI (f_X12_newLetter x1 x2 x3 x4 A4) (fun y5 A5 =>
            some (some (.int y5), A5))
          else
            tz_bI (f_X12_no (-7) A4) (fun y5 A5 =>
            some (some (.int y5), A5))
        else
          tz_bI (f_X12_no (-6) A4) (fun y5 A5 =>
          some (some (.int y5), A5))))
  else
    tz_bI (f_X12_no (-1) A2) (fun y3 A3 =>
    some (some (.int y3), A3)))) := by
  refine (tz_Fe (L := [some (.ref 157), some (.int x1), some (.int x2), some (.int x3), some (.int x4)]) rfl).trans ?_
  refine (tz_g_aload_n rfl (tz_in0 rfl)).trans ?_
  refine (tz_g_iload_n rfl (tz_in0 rfl)).trans ?_
  refine (tz_g_cv1I (m2 := 173) (rc := 4) rfl rfl rfl rfl rfl rfl (by decide) (tz_in0 rfl)).trans ?_
  refine tz_jI (fun y1 A1 => ?_)
  refine (tz_g_if_eq (t := 16) (by decide) (tz_in0 rfl)).trans ?_
  refine tz_cg ?_ ?_
  · skip
    refine (tz_g_aload_n rfl (tz_in0 rfl)).trans ?_
    refine (tz_g_iconst (v := (-1)) rfl (tz_in0 rfl)).trans ?_
    refine (tz_g_cv1I (m2 := 166) (rc := 1) rfl rfl rfl rfl rfl rfl (by decide) (tz_in0 rfl)).trans ?_
    refine tz_jI (fun y2 A2 => ?_)
    exact tz_g_ret1 (tz_in0 rfl) rfl
  · skip
    refine (tz_g_aload_n rfl (tz_in0 rfl)).trans ?_
    refine (tz_g_iload_n rfl (tz_in0 rfl)).trans ?_
    refine (tz_g_cv1I (m2 := 173) (rc := 4) rfl rfl rfl rfl rfl rfl (by decide) (tz_in0 rfl)).trans ?_
    refine tz_jI (fun y2 A2 => ?_)
    refine (tz_g_if_ne (t := 22) (by decide) (tz_in0 rfl)).trans ?_
    refine tz_cg ?_ ?_
    · skip
      refine (tz_g_iload_n rfl (tz_in0 rfl)).trans ?_
      refine (tz_g_iconst (v := 0) rfl (tz_in0 rfl)).trans ?_
      refine (tz_g_sipush (v := 9999) rfl (tz_in0 rfl)).trans ?_
      refine (tz_g_cs3I (m2 := 165) (rc := 4) rfl rfl rfl rfl rfl rfl (by decide) (tz_in0 rfl)).trans ?_
      refine tz_jI (fun y3 A3 => ?_)
      refine (tz_g_if_eq (t := 49) (by decide) (tz_in0 rfl)).trans ?_
      refine tz_cg ?_ ?_
      · skip
        refine (tz_g_aload_n rfl (tz_in0 rfl)).trans ?_
        refine (tz_g_bipush (v := (-6)) rfl (tz_in0 rfl)).trans ?_
        refine (tz_g_cv1I (m2 := 166) (rc := 1) rfl rfl rfl rfl rfl rfl (by decide) (tz_in0 rfl)).trans ?_
        refine tz_jI (fun y4 A4 => ?_)
        exact tz_g_ret1 (tz_in0 rfl) rfl
      · skip
        refine (tz_g_iload_n rfl (tz_in0 rfl)).trans ?_
        refine (tz_g_iload_n rfl (tz_in0 rfl)).trans ?_
        refine (tz_g_ic_eq (t := 49) (by decide) (tz_in0 rfl)).trans ?_
        refine tz_cg ?_ ?_
        · skip
          refine (tz_g_aload_n rfl (tz_in0 rfl)).trans ?_
          refine (tz_g_bipush (v := (-6)) rfl (tz_in0 rfl)).trans ?_
          refine (tz_g_cv1I (m2 := 166) (rc := 1) rfl rfl rfl rfl rfl rfl (by decide) (tz_in0 rfl)).trans ?_
          refine tz_jI (fun y4 A4 => ?_)
          exact tz_g_ret1 (tz_in0 rfl) rfl
        · skip
          refine (tz_g_iload rfl (tz_in0 rfl)).trans ?_
          refine (tz_g_iconst (v := 1) rfl (tz_in0 rfl)).trans ?_
          refine (tz_g_bipush (v := 99) rfl (tz_in0 rfl)).trans ?_
          refine (tz_g_cs3I (m2 := 165) (rc := 4) rfl rfl rfl rfl rfl rfl (by decide) (tz_in0 rfl)).trans ?_
          refine tz_jI (fun y4 A4 => ?_)
          refine (tz_g_if_ne (t := 56) (by decide) (tz_in0 rfl)).trans ?_
          refine tz_cg ?_ ?_
          · skip
            refine (tz_g_aload_n rfl (tz_in0 rfl)).trans ?_
            refine (tz_g_geti rfl rfl rfl (tz_in0 rfl)).trans ?_
            refine (tz_g_bipush (v := 12) rfl (tz_in0 rfl)).trans ?_
            refine (tz_g_ic_ne (t := 74) (by decide) (tz_in0 rfl)).trans ?_
            refine tz_cg ?_ ?_
            · skip
              refine (tz_g_aload_n rfl (tz_in0 rfl)).trans ?_
              refine (tz_g_iload_n rfl (tz_in0 rfl)).trans ?_
              refine (tz_g_iload_n rfl (tz_in0 rfl)).trans ?_
              refine (tz_g_iload_n rfl (tz_in0 rfl)).trans ?_
              refine (tz_g_iload rfl (tz_in0 rfl)).trans ?_
              refine (tz_g_cv4I (m2 := 187) (rc := 1) rfl rfl rfl rfl rfl rfl (by decide) (tz_in0 rfl)).trans ?_
              refine tz_jI (fun y5 A5 => ?_)
              exact tz_g_ret1 (tz_in0 rfl) rfl
            · skip
              refine (tz_g_aload_n rfl (tz_in0 rfl)).trans ?_
              refine (tz_g_bipush (v := (-7)) rfl (tz_in0 rfl)).trans ?_
              refine (tz_g_cv1I (m2 := 166) (rc := 1) rfl rfl rfl rfl rfl rfl (by decide) (tz_in0 rfl)).trans ?_
              refine tz_jI (fun y5 A5 => ?_)
              refine (tz_g_goto (t := 83) (by decide) (tz_in0 rfl)).trans ?_
              exact tz_g_ret1 (tz_in0 rfl) rfl
          · skip
            refine (tz_g_aload_n rfl (tz_in0 rfl)).trans ?_
            refine (tz_g_bipush (v := (-6)) rfl (tz_in0 rfl)).trans ?_
            refine (tz_g_cv1I (m2 := 166) (rc := 1) rfl rfl rfl rfl rfl rfl (by decide) (tz_in0 rfl)).trans ?_
            refine tz_jI (fun y5 A5 => ?_)
            exact tz_g_ret1 (tz_in0 rfl) rfl
    · skip
      refine (tz_g_aload_n rfl (tz_in0 rfl)).trans ?_
      refine (tz_g_iconst (v := (-1)) rfl (tz_in0 rfl)).trans ?_
      refine (tz_g_cv1I (m2 := 166) (rc := 1) rfl rfl rfl rfl rfl rfl (by decide) (tz_in0 rfl)).trans ?_
      refine tz_jI (fun y3 A3 => ?_)
      exact tz_g_ret1 (tz_in0 rfl) rfl

theorem e_X12_hillOf (x1 : Int32) (x2 : Int32) (A : tz_Mem) : f_X12_hillOf x1 x2 A =
  tz_bI (f_X12_isHill x1 A) (fun y1 A1 =>
if y1 = 0 then
  tz_bI (f_X12_no (-5) A1) (fun y2 A2 =>
  some (some (.int y2), A2))
else
  tz_bI (f_X12_within x2 0 3 A1) (fun y2 A2 =>
  if ¬ y2 = 0 then
    if x2 = 0 then
      if x1 < 0 ∨ 8 ≤ (Int32.toNatClampNeg x1) then none else
      some (some (.int (tz_g A2 161 (Int32.toNatClampNeg x1))), A2)
    else if x2 = 1 then
      if x1 < 0 ∨ 8 ≤ (Int32.toNatClampNeg x1) then none else
      some (some (.int (tz_g A2 162 (Int32.toNatClampNeg x1))), A2)
    else if x2 = 2 then
      tz_bI (f_X12_lying x1 A2) (fun y3 A3 =>
      some (some (.int y3), A3))
    else q_X12_hillOf_75 x1 0 0 A2
  else
    tz_bI (f_X12_no (-5) A2) (fun y3 A3 =>
    some (some (.int y3), A3)))) := by
  refine (tz_Fe (L := [some (.ref 157), some (.int x1), some (.int x2), none, none]) rfl).trans ?_
  refine (tz_g_aload_n rfl (tz_in0 rfl)).trans ?_
  refine (tz_g_iload_n rfl (tz_in0 rfl)).trans ?_
  refine (tz_g_cv1I (m2 := 173) (rc := 4) rfl rfl rfl rfl rfl rfl (by decide) (tz_in0 rfl)).trans ?_
  refine tz_jI (fun y1 A1 => ?_)
  refine (tz_g_if_eq (t := 17) (by decide) (tz_in0 rfl)).trans ?_
  refine tz_cg ?_ ?_
  · skip
    refine (tz_g_aload_n rfl (tz_in0 rfl)).trans ?_
    refine (tz_g_bipush (v := (-5)) rfl (tz_in0 rfl)).trans ?_
    refine (tz_g_cv1I (m2 := 166) (rc := 1) rfl rfl rfl rfl rfl rfl (by decide) (tz_in0 rfl)).trans ?_
    refine tz_jI (fun y2 A2 => ?_)
    exact tz_g_ret1 (tz_in0 rfl) rfl
  · skip
    refine (tz_g_iload_n rfl (tz_in0 rfl)).trans ?_
    refine (tz_g_iconst (v := 0) rfl (tz_in0 rfl)).trans ?_
    refine (tz_g_iconst (v := 3) rfl (tz_in0 rfl)).trans ?_
    refine (tz_g_cs3I (m2 := 165) (rc := 4) rfl rfl rfl rfl rfl rfl (by decide) (tz_in0 rfl)).trans ?_
    refine tz_jI (fun y2 A2 => ?_)
    refine (tz_g_if_ne (t := 24) (by decide) (tz_in0 rfl)).trans ?_
    refine tz_cg ?_ ?_
    · skip
      refine (tz_g_iconst (v := 0) rfl (tz_in0 rfl)).trans ?_
      refine (tz_g_istore_n (L2 := [some (.ref 157), some (.int x1), some (.int x2), some (.int 0), none]) rfl rfl (tz_in0 rfl)).trans ?_
      refine (tz_g_iload_n rfl (tz_in0 rfl)).trans ?_
      refine (tz_g_tsw (by decide) (tz_in0 rfl)).trans ?_
      refine tz_swc (v := 0) (by decide) ?_ ?_
      · refine (tz_tg (t := 52) (by decide)).trans ?_
        refine (tz_g_aload_n rfl (tz_in0 rfl)).trans ?_
        refine (tz_g_getr (j := 161) rfl rfl rfl rfl rfl (tz_in0 rfl)).trans ?_
        refine (tz_g_iload_n rfl (tz_in0 rfl)).trans ?_
        refine (tz_g_iald (n := 8) rfl rfl rfl (tz_in0 rfl)).trans ?_
        refine tz_cn1 ?_
        exact tz_g_ret1 (tz_in0 rfl) rfl
      refine tz_swc (v := 1) (by decide) ?_ ?_
      · refine (tz_tg (t := 59) (by decide)).trans ?_
        refine (tz_g_aload_n rfl (tz_in0 rfl)).trans ?_
        refine (tz_g_getr (j := 162) rfl rfl rfl rfl rfl (tz_in0 rfl)).trans ?_
        refine (tz_g_iload_n rfl (tz_in0 rfl)).trans ?_
        refine (tz_g_iald (n := 8) rfl rfl rfl (tz_in0 rfl)).trans ?_
        refine tz_cn1 ?_
        exact tz_g_ret1 (tz_in0 rfl) rfl
      refine tz_swc (v := 2) (by decide) ?_ ?_
      · refine (tz_tg (t := 66) (by decide)).trans ?_
        refine (tz_g_aload_n rfl (tz_in0 rfl)).trans ?_
        refine (tz_g_iload_n rfl (tz_in0 rfl)).trans ?_
        refine (tz_g_cv1I (m2 := 178) (rc := 1) rfl rfl rfl rfl rfl rfl (by decide) (tz_in0 rfl)).trans ?_
        refine tz_jI (fun y3 A3 => ?_)
        exact tz_g_ret1 (tz_in0 rfl) rfl
      refine tz_swd ?_
      refine (tz_tg (t := 72) (by decide)).trans ?_
      refine (tz_g_iconst (v := 0) rfl (tz_in0 rfl)).trans ?_
      refine (tz_g_istore (L2 := [some (.ref 157), some (.int x1), some (.int x2), some (.int 0), some (.int 0)]) rfl rfl (tz_in0 rfl)).trans ?_
      exact tz_Gm (L2 := [some (.ref 157), some (.int x1), none, some (.int 0), some (.int 0)]) rfl rfl rfl rfl
    · skip
      refine (tz_g_aload_n rfl (tz_in0 rfl)).trans ?_
      refine (tz_g_bipush (v := (-5)) rfl (tz_in0 rfl)).trans ?_
      refine (tz_g_cv1I (m2 := 166) (rc := 1) rfl rfl rfl rfl rfl rfl (by decide) (tz_in0 rfl)).trans ?_
      refine tz_jI (fun y3 A3 => ?_)
      exact tz_g_ret1 (tz_in0 rfl) rfl

theorem e_X12_hillOf_75 (z1 : Int32) (z3 : Int32) (z4 : Int32) (A : tz_Mem) : q_X12_hillOf_75 z1 z3 z4 A =
  if (tz_g A 157 8) ≤ z4 then
  some (some (.int z3), A)
else
  tz_bI (f_X12_storedAt z4 A) (fun y1 A1 =>
  if ¬ y1 = z1 then
    q_X12_hillOf_75 z1 z3 (z4 + 1) A1
  else
    q_X12_hillOf_75 z1 (z3 ||| (1 <<< (z4 &&& 31))) (z4 + 1) A1) := by
  show tz_Go 188 75 [some (.ref 157), some (.int z1), none, some (.int z3), some (.int z4)] [] A = _
  refine (tz_g_iload rfl (tz_inM rfl rfl rfl)).trans ?_
  refine (tz_g_aload_n rfl (tz_in0 rfl)).trans ?_
  refine (tz_g_geti rfl rfl rfl (tz_in0 rfl)).trans ?_
  refine (tz_g_ic_ge (t := 107) (by decide) (tz_in0 rfl)).trans ?_
  refine tz_cg ?_ ?_
  · skip
    refine (tz_g_iload_n rfl (tz_in0 rfl)).trans ?_
    exact tz_g_ret1 (tz_in0 rfl) rfl
  · skip
    refine (tz_g_aload_n rfl (tz_in0 rfl)).trans ?_
    refine (tz_g_iload rfl (tz_in0 rfl)).trans ?_
    refine (tz_g_cv1I (m2 := 189) (rc := 1) rfl rfl rfl rfl rfl rfl (by decide) (tz_in0 rfl)).trans ?_
    refine tz_jI (fun y1 A1 => ?_)
    refine (tz_g_iload_n rfl (tz_in0 rfl)).trans ?_
    refine (tz_g_ic_ne (t := 101) (by decide) (tz_in0 rfl)).trans ?_
    refine tz_cg ?_ ?_
    · skip
      refine (tz_g_iinc (v := 1) (L2 := [some (.ref 157), some (.int z1), none, some (.int z3), some (.int (z4 + 1))]) rfl rfl rfl rfl (tz_in0 rfl)).trans ?_
      refine (tz_g_goto (t := 75) (by decide) (tz_in0 rfl)).trans ?_
      exact tz_Gm (L2 := [some (.ref 157), some (.int z1), none, some (.int z3), some (.int (z4 + 1))]) rfl rfl rfl rfl
    · skip
      refine (tz_g_iload_n rfl (tz_in0 rfl)).trans ?_
      refine (tz_g_iconst (v := 1) rfl (tz_in0 rfl)).trans ?_
      refine (tz_g_iload rfl (tz_in0 rfl)).trans ?_
      refine (tz_g_ishl (tz_in0 rfl)).trans ?_
      refine (tz_g_ior (tz_in0 rfl)).trans ?_
      refine (tz_g_istore_n (L2 := [some (.ref 157), some (.int z1), none, some (.int (z3 ||| (1 <<< (z4 &&& 31)))), some (.int z4)]) rfl rfl (tz_in0 rfl)).trans ?_
      refine (tz_g_iinc (v := 1) (L2 := [some (.ref 157), some (.int z1), none, some (.int (z3 ||| (1 <<< (z4 &&& 31)))), some (.int (z4 + 1))]) rfl rfl rfl rfl (tz_in0 rfl)).trans ?_
      refine (tz_g_goto (t := 75) (by decide) (tz_in0 rfl)).trans ?_
      exact tz_Gm (L2 := [some (.ref 157), some (.int z1), none, some (.int (z3 ||| (1 <<< (z4 &&& 31)))), some (.int (z4 + 1))]) rfl rfl rfl rfl

theorem e_X12_stormOf (x1 : Int32) (x2 : Int32) (A : tz_Mem) : f_X12_stormOf x1 x2 A =
  tz_bI (f_X12_isStorm x1 A) (fun y1 A1 =>
if ¬ y1 = 0 then
  if x2 = 0 then
    tz_bI (f_X12_storedAt x1 A1) (fun y2 A2 =>
    some (some (.int y2), A2))
  else if x2 = 1 then
    if x1 < 0 ∨ 4 ≤ (Int32.toNatClampNeg x1) then none else
    some (some (.int (tz_g A1 168 (Int32.toNatClampNeg x1))), A1)
  else if x2 = 2 then
    if x1 < 0 ∨ 4 ≤ (Int32.toNatClampNeg x1) then none else
    some (some (.int (tz_g A1 169 (Int32.toNatClampNeg x1))), A1)
  else if x2 = 3 then
    if x1 < 0 ∨ 4 ≤ (Int32.toNatClampNeg x1) then none else
    some (some (.int (tz_g A1 170 (Int32.toNatClampNeg x1))), A1)
  else if x2 = 4 then
    tz_bI (f_X12_lying (100 + x1) A1) (fun y2 A2 =>
    some (some (.int y2), A2))
  else if x2 = 5 then
    if x1 < 0 ∨ 4 ≤ (Int32.toNatClampNeg x1) then none else
    some (some (.int (tz_g A1 165 (Int32.toNatClampNeg x1))), A1)
  else if x1 < 0 ∨ 4 ≤ (Int32.toNatClampNeg x1) then none else
  tz_bI (f_X12_within x2 10 (9 + (tz_g A1 165 (Int32.toNatClampNeg x1))) A1) (fun y2 A2 =>
  if y2 = 0 then
    tz_bI (f_X12_no (-5) A2) (fun y3 A3 =>
    some (some (.int y3), A3))
  else
    if (((6 * x1) + x2) - 10) < 0 ∨ 24 ≤ (Int32.toNatClampNeg (((6 * x1) + x2) - 10)) then none else
    some (some (.int (tz_g A2 166 (Int32.toNatClampNeg (((6 * x1) + x2) - 10)))), A2))
else
  tz_bI (f_X12_no (-5) A1) (fun y2 A2 =>
  some (some (.int y2), A2))) := by
  refine (tz_Fe (L := [some (.ref 157), some (.int x1), some (.int x2)]) rfl).trans ?_
  refine (tz_g_aload_n rfl (tz_in0 rfl)).trans ?_
  refine (tz_g_iload_n rfl (tz_in0 rfl)).trans ?_
  refine (tz_g_cv1I (m2 := 191) (rc := 4) rfl rfl rfl rfl rfl rfl (by decide) (tz_in0 rfl)).trans ?_
  refine tz_jI (fun y1 A1 => ?_)
  refine (tz_g_if_ne (t := 15) (by decide) (tz_in0 rfl)).trans ?_
  refine tz_cg ?_ ?_
  · skip
    refine (tz_g_iload_n rfl (tz_in0 rfl)).trans ?_
    refine (tz_g_tsw (by decide) (tz_in0 rfl)).trans ?_
    refine tz_swc (v := 0) (by decide) ?_ ?_
    · refine (tz_tg (t := 56) (by decide)).trans ?_
      refine (tz_g_aload_n rfl (tz_in0 rfl)).trans ?_
      refine (tz_g_iload_n rfl (tz_in0 rfl)).trans ?_
      refine (tz_g_cv1I (m2 := 189) (rc := 1) rfl rfl rfl rfl rfl rfl (by decide) (tz_in0 rfl)).trans ?_
      refine tz_jI (fun y2 A2 => ?_)
      exact tz_g_ret1 (tz_in0 rfl) rfl
    refine tz_swc (v := 1) (by decide) ?_ ?_
    · refine (tz_tg (t := 62) (by decide)).trans ?_
      refine (tz_g_aload_n rfl (tz_in0 rfl)).trans ?_
      refine (tz_g_getr (j := 168) rfl rfl rfl rfl rfl (tz_in0 rfl)).trans ?_
      refine (tz_g_iload_n rfl (tz_in0 rfl)).trans ?_
      refine (tz_g_iald (n := 4) rfl rfl rfl (tz_in0 rfl)).trans ?_
      refine tz_cn1 ?_
      exact tz_g_ret1 (tz_in0 rfl) rfl
    refine tz_swc (v := 2) (by decide) ?_ ?_
    · refine (tz_tg (t := 69) (by decide)).trans ?_
      refine (tz_g_aload_n rfl (tz_in0 rfl)).trans ?_
      refine (tz_g_getr (j := 169) rfl rfl rfl rfl rfl (tz_in0 rfl)).trans ?_
      refine (tz_g_iload_n rfl (tz_in0 rfl)).trans ?_
      refine (tz_g_iald (n := 4) rfl rfl rfl (tz_in0 rfl)).trans ?_
      refine tz_cn1 ?_
      exact tz_g_ret1 (tz_in0 rfl) rfl
    refine tz_swc (v := 3) (by decide) ?_ ?_
    · refine (tz_tg (t := 76) (by decide)).trans ?_
      refine (tz_g_aload_n rfl (tz_in0 rfl)).trans ?_
      refine (tz_g_getr (j := 170) rfl rfl rfl rfl rfl (tz_in0 rfl)).trans ?_
      refine (tz_g_iload_n rfl (tz_in0 rfl)).trans ?_
      refine (tz_g_iald (n := 4) rfl rfl rfl (tz_in0 rfl)).trans ?_
      refine tz_cn1 ?_
      exact tz_g_ret1 (tz_in0 rfl) rfl
    refine tz_swc (v := 4) (by decide) ?_ ?_
    · refine (tz_tg (t := 83) (by decide)).trans ?_
      refine (tz_g_aload_n rfl (tz_in0 rfl)).trans ?_
      refine (tz_g_bipush (v := 100) rfl (tz_in0 rfl)).trans ?_
      refine (tz_g_iload_n rfl (tz_in0 rfl)).trans ?_
      refine (tz_g_iadd (tz_in0 rfl)).trans ?_
      refine (tz_g_cv1I (m2 := 178) (rc := 1) rfl rfl rfl rfl rfl rfl (by decide) (tz_in0 rfl)).trans ?_
      refine tz_jI (fun y2 A2 => ?_)
      exact tz_g_ret1 (tz_in0 rfl) rfl
    refine tz_swc (v := 5) (by decide) ?_ ?_
    · refine (tz_tg (t := 92) (by decide)).trans ?_
      refine (tz_g_aload_n rfl (tz_in0 rfl)).trans ?_
      refine (tz_g_getr (j := 165) rfl rfl rfl rfl rfl (tz_in0 rfl)).trans ?_
      refine (tz_g_iload_n rfl (tz_in0 rfl)).trans ?_
      refine (tz_g_iald (n := 4) rfl rfl rfl (tz_in0 rfl)).trans ?_
      refine tz_cn1 ?_
      exact tz_g_ret1 (tz_in0 rfl) rfl
    refine tz_swd ?_
    refine (tz_tg (t := 99) (by decide)).trans ?_
    refine (tz_g_iload_n rfl (tz_in0 rfl)).trans ?_
    refine (tz_g_bipush (v := 10) rfl (tz_in0 rfl)).trans ?_
    refine (tz_g_bipush (v := 9) rfl (tz_in0 rfl)).trans ?_
    refine (tz_g_aload_n rfl (tz_in0 rfl)).trans ?_
    refine (tz_g_getr (j := 165) rfl rfl rfl rfl rfl (tz_in0 rfl)).trans ?_
    refine (tz_g_iload_n rfl (tz_in0 rfl)).trans ?_
    refine (tz_g_iald (n := 4) rfl rfl rfl (tz_in0 rfl)).trans ?_
    refine tz_cn1 ?_
    refine (tz_g_iadd (tz_in0 rfl)).trans ?_
    refine (tz_g_cs3I (m2 := 165) (rc := 4) rfl rfl rfl rfl rfl rfl (by decide) (tz_in0 rfl)).trans ?_
    refine tz_jI (fun y2 A2 => ?_)
    refine (tz_g_if_eq (t := 134) (by decide) (tz_in0 rfl)).trans ?_
    refine tz_cg ?_ ?_
    · skip
      refine (tz_g_aload_n rfl (tz_in0 rfl)).trans ?_
      refine (tz_g_bipush (v := (-5)) rfl (tz_in0 rfl)).trans ?_
      refine (tz_g_cv1I (m2 := 166) (rc := 1) rfl rfl rfl rfl rfl rfl (by decide) (tz_in0 rfl)).trans ?_
      refine tz_jI (fun y3 A3 => ?_)
      exact tz_g_ret1 (tz_in0 rfl) rfl
    · skip
      refine (tz_g_aload_n rfl (tz_in0 rfl)).trans ?_
      refine (tz_g_getr (j := 166) rfl rfl rfl rfl rfl (tz_in0 rfl)).trans ?_
      refine (tz_g_bipush (v := 6) rfl (tz_in0 rfl)).trans ?_
      refine (tz_g_iload_n rfl (tz_in0 rfl)).trans ?_
      refine (tz_g_imul (tz_in0 rfl)).trans ?_
      refine (tz_g_iload_n rfl (tz_in0 rfl)).trans ?_
      refine (tz_g_iadd (tz_in0 rfl)).trans ?_
      refine (tz_g_bipush (v := 10) rfl (tz_in0 rfl)).trans ?_
      refine (tz_g_isub (tz_in0 rfl)).trans ?_
      refine (tz_g_iald (n := 24) rfl rfl rfl (tz_in0 rfl)).trans ?_
      refine tz_cn1 ?_
      refine (tz_g_goto (t := 140) (by decide) (tz_in0 rfl)).trans ?_
      exact tz_g_ret1 (tz_in0 rfl) rfl
  · skip
    refine (tz_g_aload_n rfl (tz_in0 rfl)).trans ?_
    refine (tz_g_bipush (v := (-5)) rfl (tz_in0 rfl)).trans ?_
    refine (tz_g_cv1I (m2 := 166) (rc := 1) rfl rfl rfl rfl rfl rfl (by decide) (tz_in0 rfl)).trans ?_
    refine tz_jI (fun y2 A2 => ?_)
    exact tz_g_ret1 (tz_in0 rfl) rfl

theorem e_X12_letterOf (x1 : Int32) (x2 : Int32) (A : tz_Mem) : f_X12_letterOf x1 x2 A =
  tz_bI (f_X12_isLetter x1 A) (fun y1 A1 =>
if ¬ y1 = 0 then
  if x2 = 0 then
    if x1 < 0 ∨ 12 ≤ (Int32.toNatClampNeg x1) then none else
    some (some (.int (tz_g A1 171 (Int32.toNatClampNeg x1))), A1)
  else if x2 = 1 then
    if x1 < 0 ∨ 12 ≤ (Int32.toNatClampNeg x1) then none else
    some (some (.int (tz_g A1 172 (Int32.toNatClampNeg x1))), A1)
  else if x2 = 2 then
    if x1 < 0 ∨ 12 ≤ (Int32.toNatClampNeg x1) then none else
    some (some (.int (tz_g A1 173 (Int32.toNatClampNeg x1))), A1)
  else if x2 = 3 then
    if x1 < 0 ∨ 12 ≤ (Int32.toNatClampNeg x1) then none else
    some (some (.int (tz_g A1 174 (Int32.toNatClampNeg x1))), A1)
  else if x2 = 4 then
    if x1 < 0 ∨ 12 ≤ (Int32.toNatClampNeg x1) then none else
    some (some (.int (tz_g A1 175 (Int32.toNatClampNeg x1))), A1)
  else if x2 = 5 then
    if x1 < 0 ∨ 12 ≤ (Int32.toNatClampNeg x1) then none else
    some (some (.int (tz_g A1 176 (Int32.toNatClampNeg x1))), A1)
  else tz_bI (f_X12_no (-5) A1) (fun y2 A2 =>
  some (some (.int y2), A2))
else
  tz_bI (f_X12_no (-5) A1) (fun y2 A2 =>
  some (some (.int y2), A2))) := by
  refine (tz_Fe (L := [some (.ref 157), some (.int x1), some (.int x2)]) rfl).trans ?_
  refine (tz_g_aload_n rfl (tz_in0 rfl)).trans ?_
  refine (tz_g_iload_n rfl (tz_in0 rfl)).trans ?_
  refine (tz_g_cv1I (m2 := 193) (rc := 4) rfl rfl rfl rfl rfl rfl (by decide) (tz_in0 rfl)).trans ?_
  refine tz_jI (fun y1 A1 => ?_)
  refine (tz_g_if_ne (t := 15) (by decide) (tz_in0 rfl)).trans ?_
  refine tz_cg ?_ ?_
  · skip
    refine (tz_g_iload_n rfl (tz_in0 rfl)).trans ?_
    refine (tz_g_tsw (by decide) (tz_in0 rfl)).trans ?_
    refine tz_swc (v := 0) (by decide) ?_ ?_
    · refine (tz_tg (t := 56) (by decide)).trans ?_
      refine (tz_g_aload_n rfl (tz_in0 rfl)).trans ?_
      refine (tz_g_getr (j := 171) rfl rfl rfl rfl rfl (tz_in0 rfl)).trans ?_
      refine (tz_g_iload_n rfl (tz_in0 rfl)).trans ?_
      refine (tz_g_iald (n := 12) rfl rfl rfl (tz_in0 rfl)).trans ?_
      refine tz_cn1 ?_
      exact tz_g_ret1 (tz_in0 rfl) rfl
    refine tz_swc (v := 1) (by decide) ?_ ?_
    · refine (tz_tg (t := 63) (by decide)).trans ?_
      refine (tz_g_aload_n rfl (tz_in0 rfl)).trans ?_
      refine (tz_g_getr (j := 172) rfl rfl rfl rfl rfl (tz_in0 rfl)).trans ?_
      refine (tz_g_iload_n rfl (tz_in0 rfl)).trans ?_
      refine (tz_g_iald (n := 12) rfl rfl rfl (tz_in0 rfl)).trans ?_
      refine tz_cn1 ?_
      exact tz_g_ret1 (tz_in0 rfl) rfl
    refine tz_swc (v := 2) (by decide) ?_ ?_
    · refine (tz_tg (t := 70) (by decide)).trans ?_
      refine (tz_g_aload_n rfl (tz_in0 rfl)).trans ?_
      refine (tz_g_getr (j := 173) rfl rfl rfl rfl rfl (tz_in0 rfl)).trans ?_
      refine (tz_g_iload_n rfl (tz_in0 rfl)).trans ?_
      refine (tz_g_iald (n := 12) rfl rfl rfl (tz_in0 rfl)).trans ?_
      refine tz_cn1 ?_
      exact tz_g_ret1 (tz_in0 rfl) rfl
    refine tz_swc (v := 3) (by decide) ?_ ?_
    · refine (tz_tg (t := 77) (by decide)).trans ?_
      refine (tz_g_aload_n rfl (tz_in0 rfl)).trans ?_
      refine (tz_g_getr (j := 174) rfl rfl rfl rfl rfl (tz_in0 rfl)).trans ?_
      refine (tz_g_iload_n rfl (tz_in0 rfl)).trans ?_
      refine (tz_g_iald (n := 12) rfl rfl rfl (tz_in0 rfl)).trans ?_
      refine tz_cn1 ?_
      exact tz_g_ret1 (tz_in0 rfl) rfl
    refine tz_swc (v := 4) (by decide) ?_ ?_
    · refine (tz_tg (t := 84) (by decide)).trans ?_
      refine (tz_g_aload_n rfl (tz_in0 rfl)).trans ?_
      refine (tz_g_getr (j := 175) rfl rfl rfl rfl rfl (tz_in0 rfl)).trans ?_
      refine (tz_g_iload_n rfl (tz_in0 rfl)).trans ?_
      refine (tz_g_iald (n := 12) rfl rfl rfl (tz_in0 rfl)).trans ?_
      refine tz_cn1 ?_
      exact tz_g_ret1 (tz_in0 rfl) rfl
    refine tz_swc (v := 5) (by decide) ?_ ?_
    · refine (tz_tg (t := 91) (by decide)).trans ?_
      refine (tz_g_aload_n rfl (tz_in0 rfl)).trans ?_
      refine (tz_g_getr (j := 176) rfl rfl rfl rfl rfl (tz_in0 rfl)).trans ?_
      refine (tz_g_iload_n rfl (tz_in0 rfl)).trans ?_
      refine (tz_g_iald (n := 12) rfl rfl rfl (tz_in0 rfl)).trans ?_
      refine tz_cn1 ?_
      exact tz_g_ret1 (tz_in0 rfl) rfl
    refine tz_swd ?_
    refine (tz_tg (t := 98) (by decide)).trans ?_
    refine (tz_g_aload_n rfl (tz_in0 rfl)).trans ?_
    refine (tz_g_bipush (v := (-5)) rfl (tz_in0 rfl)).trans ?_
    refine (tz_g_cv1I (m2 := 166) (rc := 1) rfl rfl rfl rfl rfl rfl (by decide) (tz_in0 rfl)).trans ?_
    refine tz_jI (fun y2 A2 => ?_)
    exact tz_g_ret1 (tz_in0 rfl) rfl
  · skip
    refine (tz_g_aload_n rfl (tz_in0 rfl)).trans ?_
    refine (tz_g_bipush (v := (-5)) rfl (tz_in0 rfl)).trans ?_
    refine (tz_g_cv1I (m2 := 166) (rc := 1) rfl rfl rfl rfl rfl rfl (by decide) (tz_in0 rfl)).trans ?_
    refine tz_jI (fun y2 A2 => ?_)
    exact tz_g_ret1 (tz_in0 rfl) rfl

theorem e_X12_heard (x1 : Int32) (x2 : Int32) (A : tz_Mem) : f_X12_heard x1 x2 A =
  tz_bI (f_X12_isHill x1 A) (fun y1 A1 =>
if ¬ y1 = 0 then
  if ¬ x2 = (-1) then
    if x1 < 0 ∨ 8 ≤ (Int32.toNatClampNeg x1) then none else
    tz_bI (f_X12_within x2 0 ((tz_g A1 163 (Int32.toNatClampNeg x1)) - 1) A1) (fun y2 A2 =>
    if y2 = 0 then
      tz_bI (f_X12_no (-5) A2) (fun y3 A3 =>
      some (some (.int y3), A3))
    else
      if ((8 * x1) + x2) < 0 ∨ 64 ≤ (Int32.toNatClampNeg ((8 * x1) + x2)) then none else
      some (some (.int (tz_g A2 164 (Int32.toNatClampNeg ((8 * x1) + x2)))), A2))
  else
    if x1 < 0 ∨ 8 ≤ (Int32.toNatClampNeg x1) then none else
    some (some (.int (tz_g A1 163 (Int32.toNatClampNeg x1))), A1)
else
  tz_bI (f_X12_no (-1) A1) (fun y2 A2 =>
  some (some (.int y2), A2))) := by
  refine (tz_Fe (L := [some (.ref 157), some (.int x1), some (.int x2)]) rfl).trans ?_
  refine (tz_g_aload_n rfl (tz_in0 rfl)).trans ?_
  refine (tz_g_iload_n rfl (tz_in0 rfl)).trans ?_
  refine (tz_g_cv1I (m2 := 173) (rc := 4) rfl rfl rfl rfl rfl rfl (by decide) (tz_in0 rfl)).trans ?_
  refine tz_jI (fun y1 A1 => ?_)
  refine (tz_g_if_ne (t := 14) (by decide) (tz_in0 rfl)).trans ?_
  refine tz_cg ?_ ?_
  · skip
    refine (tz_g_iload_n rfl (tz_in0 rfl)).trans ?_
    refine (tz_g_iconst (v := (-1)) rfl (tz_in0 rfl)).trans ?_
    refine (tz_g_ic_ne (t := 26) (by decide) (tz_in0 rfl)).trans ?_
    refine tz_cg ?_ ?_
    · skip
      refine (tz_g_iload_n rfl (tz_in0 rfl)).trans ?_
      refine (tz_g_iconst (v := 0) rfl (tz_in0 rfl)).trans ?_
      refine (tz_g_aload_n rfl (tz_in0 rfl)).trans ?_
      refine (tz_g_getr (j := 163) rfl rfl rfl rfl rfl (tz_in0 rfl)).trans ?_
      refine (tz_g_iload_n rfl (tz_in0 rfl)).trans ?_
      refine (tz_g_iald (n := 8) rfl rfl rfl (tz_in0 rfl)).trans ?_
      refine tz_cn1 ?_
      refine (tz_g_iconst (v := 1) rfl (tz_in0 rfl)).trans ?_
      refine (tz_g_isub (tz_in0 rfl)).trans ?_
      refine (tz_g_cs3I (m2 := 165) (rc := 4) rfl rfl rfl rfl rfl rfl (by decide) (tz_in0 rfl)).trans ?_
      refine tz_jI (fun y2 A2 => ?_)
      refine (tz_g_if_eq (t := 56) (by decide) (tz_in0 rfl)).trans ?_
      refine tz_cg ?_ ?_
      · skip
        refine (tz_g_aload_n rfl (tz_in0 rfl)).trans ?_
        refine (tz_g_bipush (v := (-5)) rfl (tz_in0 rfl)).trans ?_
        refine (tz_g_cv1I (m2 := 166) (rc := 1) rfl rfl rfl rfl rfl rfl (by decide) (tz_in0 rfl)).trans ?_
        refine tz_jI (fun y3 A3 => ?_)
        exact tz_g_ret1 (tz_in0 rfl) rfl
      · skip
        refine (tz_g_aload_n rfl (tz_in0 rfl)).trans ?_
        refine (tz_g_getr (j := 164) rfl rfl rfl rfl rfl (tz_in0 rfl)).trans ?_
        refine (tz_g_bipush (v := 8) rfl (tz_in0 rfl)).trans ?_
        refine (tz_g_iload_n rfl (tz_in0 rfl)).trans ?_
        refine (tz_g_imul (tz_in0 rfl)).trans ?_
        refine (tz_g_iload_n rfl (tz_in0 rfl)).trans ?_
        refine (tz_g_iadd (tz_in0 rfl)).trans ?_
        refine (tz_g_iald (n := 64) rfl rfl rfl (tz_in0 rfl)).trans ?_
        refine tz_cn1 ?_
        refine (tz_g_goto (t := 62) (by decide) (tz_in0 rfl)).trans ?_
        exact tz_g_ret1 (tz_in0 rfl) rfl
    · skip
      refine (tz_g_aload_n rfl (tz_in0 rfl)).trans ?_
      refine (tz_g_getr (j := 163) rfl rfl rfl rfl rfl (tz_in0 rfl)).trans ?_
      refine (tz_g_iload_n rfl (tz_in0 rfl)).trans ?_
      refine (tz_g_iald (n := 8) rfl rfl rfl (tz_in0 rfl)).trans ?_
      refine tz_cn1 ?_
      exact tz_g_ret1 (tz_in0 rfl) rfl
  · skip
    refine (tz_g_aload_n rfl (tz_in0 rfl)).trans ?_
    refine (tz_g_iconst (v := (-1)) rfl (tz_in0 rfl)).trans ?_
    refine (tz_g_cv1I (m2 := 166) (rc := 1) rfl rfl rfl rfl rfl rfl (by decide) (tz_in0 rfl)).trans ?_
    refine tz_jI (fun y2 A2 => ?_)
    exact tz_g_ret1 (tz_in0 rfl) rfl

theorem e_X12_number (x1 : Int32) (x2 : Int32) (x3 : Int32) (A : tz_Mem) : f_X12_number x1 x2 x3 A =
  tz_bI (f_X12_is 32 A) (fun y1 A1 =>
if ¬ y1 = 0 then
  q_X12_number_20 x1 x2 x3 (tz_g A1 157 40) 0 A1
else
  some (some (.int 0), A1)) := by
  refine (tz_Fe (L := [some (.ref 157), some (.int x1), some (.int x2), some (.int x3), none, none, none]) rfl).trans ?_
  refine (tz_g_aload_n rfl (tz_in0 rfl)).trans ?_
  refine (tz_g_bipush (v := 32) rfl (tz_in0 rfl)).trans ?_
  refine (tz_g_cv1I (m2 := 200) (rc := 4) rfl rfl rfl rfl rfl rfl (by decide) (tz_in0 rfl)).trans ?_
  refine tz_jI (fun y1 A1 => ?_)
  refine (tz_g_if_ne (t := 11) (by decide) (tz_in0 rfl)).trans ?_
  refine tz_cg ?_ ?_
  · skip
    refine (tz_g_aload_n rfl (tz_in0 rfl)).trans ?_
    refine (tz_g_geti rfl rfl rfl (tz_in0 rfl)).trans ?_
    refine (tz_g_istore (L2 := [some (.ref 157), some (.int x1), some (.int x2), some (.int x3), some (.int (tz_g A1 157 40)), none, none]) rfl rfl (tz_in0 rfl)).trans ?_
    refine (tz_g_iconst (v := 0) rfl (tz_in0 rfl)).trans ?_
    refine (tz_g_istore (L2 := [some (.ref 157), some (.int x1), some (.int x2), some (.int x3), some (.int (tz_g A1 157 40)), some (.int 0), none]) rfl rfl (tz_in0 rfl)).trans ?_
    exact tz_Gm (L2 := [some (.ref 157), some (.int x1), some (.int x2), some (.int x3), some (.int (tz_g A1 157 40)), some (.int 0), none]) rfl rfl rfl rfl
  · skip
    refine (tz_g_iconst (v := 0) rfl (tz_in0 rfl)).trans ?_
    exact tz_g_ret4K (by decide) (tz_in0 rfl) rfl

theorem e_X12_number_20 (z1 : Int32) (z2 : Int32) (z3 : Int32) (z4 : Int32) (z5 : Int32) (A : tz_Mem) : q_X12_number_20 z1 z2 z3 z4 z5 A =
  if 4 ≤ ((tz_g A 157 40) - z4) then
  if ¬ (tz_g A 157 40) = z4 then
    if z1 < 0 ∨ 10 ≤ (Int32.toNatClampNeg z1) then none else
    tz_bI (f_X12_within z5 z2 z3 (tz_s A 183 (Int32.toNatClampNeg z1) z5)) (fun y1 A1 =>
    if ¬ y1 = 0 then
      if y1 = 0 ∨ y1 = 1 then some (some (.int y1), A1) else none
    else
      if y1 = 0 ∨ y1 = 1 then some (some (.int y1), (tz_s A1 157 40 z4)) else none)
  else
    some (some (.int 0), A)
else
  tz_bI (f_X12_sign A) (fun y1 A1 =>
  if y1 < 48 then
    if ¬ (tz_g A1 157 40) = z4 then
      if z1 < 0 ∨ 10 ≤ (Int32.toNatClampNeg z1) then none else
      tz_bI (f_X12_within z5 z2 z3 (tz_s A1 183 (Int32.toNatClampNeg z1) z5)) (fun y2 A2 =>
      if ¬ y2 = 0 then
        if y2 = 0 ∨ y2 = 1 then some (some (.int y2), A2) else none
      else
        if y2 = 0 ∨ y2 = 1 then some (some (.int y2), (tz_s A2 157 40 z4)) else none)
    else
      some (some (.int 0), A1)
  else
    tz_bI (f_X12_sign A1) (fun y2 A2 =>
    if 57 < y2 then
      if ¬ (tz_g A2 157 40) = z4 then
        if z1 < 0 ∨ 10 ≤ (Int32.toNatClampNeg z1) then none else
        tz_bI (f_X12_within z5 z2 z3 (tz_s A2 183 (Int32.toNatClampNeg z1) z5)) (fun y3 A3 =>
        if ¬ y3 = 0 then
          if y3 = 0 ∨ y3 = 1 then some (some (.int y3), A3) else none
        else
          if y3 = 0 ∨ y3 = 1 then some (some (.int y3), (tz_s A3 157 40 z4)) else none)
      else
        some (some (.int 0), A2)
    else
      tz_bI (f_X12_sign A2) (fun y3 A3 =>
      q_X12_number_20 z1 z2 z3 z4 (((10 * z5) + y3) - 48) (tz_s A3 157 40 ((tz_g A3 157 40) + 1))))) := by
  show tz_Go 201 20 [some (.ref 157), some (.int z1), some (.int z2), some (.int z3), some (.int z4), some (.int z5), none] [] A = _
  refine (tz_g_aload_n rfl (tz_inM rfl rfl rfl)).trans ?_
  refine (tz_g_geti rfl rfl rfl (tz_in0 rfl)).trans ?_
  refine (tz_g_iload rfl (tz_in0 rfl)).trans ?_
  refine (tz_g_isub (tz_in0 rfl)).trans ?_
  refine (tz_g_iconst (v := 4) rfl (tz_in0 rfl)).trans ?_
  refine (tz_g_ic_ge (t := 77) (by decide) (tz_in0 rfl)).trans ?_
  refine tz_cg ?_ ?_
  · skip
    refine (tz_g_aload_n rfl (tz_in0 rfl)).trans ?_
    refine (tz_g_geti rfl rfl rfl (tz_in0 rfl)).trans ?_
    refine (tz_g_iload rfl (tz_in0 rfl)).trans ?_
    refine (tz_g_ic_ne (t := 88) (by decide) (tz_in0 rfl)).trans ?_
    refine tz_cg ?_ ?_
    · skip
      refine (tz_g_aload_n rfl (tz_in0 rfl)).trans ?_
      refine (tz_g_getr (j := 183) rfl rfl rfl rfl rfl (tz_in0 rfl)).trans ?_
      refine (tz_g_iload_n rfl (tz_in0 rfl)).trans ?_
      refine (tz_g_iload rfl (tz_in0 rfl)).trans ?_
      refine (tz_g_iast (n := 10) rfl rfl rfl (tz_in0 rfl)).trans ?_
      refine tz_cn1 ?_
      refine (tz_g_iload rfl (tz_in0 rfl)).trans ?_
      refine (tz_g_iload_n rfl (tz_in0 rfl)).trans ?_
      refine (tz_g_iload_n rfl (tz_in0 rfl)).trans ?_
      refine (tz_g_cs3I (m2 := 165) (rc := 4) rfl rfl rfl rfl rfl rfl (by decide) (tz_in0 rfl)).trans ?_
      refine tz_jI (fun y1 A1 => ?_)
      refine (tz_g_istore (L2 := [some (.ref 157), some (.int z1), some (.int z2), some (.int z3), some (.int z4), some (.int z5), some (.int y1)]) rfl rfl (tz_in0 rfl)).trans ?_
      refine (tz_g_iload rfl (tz_in0 rfl)).trans ?_
      refine (tz_g_if_ne (t := 116) (by decide) (tz_in0 rfl)).trans ?_
      refine tz_cg ?_ ?_
      · skip
        refine (tz_g_iload rfl (tz_in0 rfl)).trans ?_
        exact tz_g_ret4 (tz_in0 rfl) rfl
      · skip
        refine (tz_g_aload_n rfl (tz_in0 rfl)).trans ?_
        refine (tz_g_iload rfl (tz_in0 rfl)).trans ?_
        refine (tz_g_puti rfl rfl rfl (tz_in0 rfl)).trans ?_
        refine (tz_g_iload rfl (tz_in0 rfl)).trans ?_
        exact tz_g_ret4 (tz_in0 rfl) rfl
    · skip
      refine (tz_g_iconst (v := 0) rfl (tz_in0 rfl)).trans ?_
      exact tz_g_ret4K (by decide) (tz_in0 rfl) rfl
  · skip
    refine (tz_g_aload_n rfl (tz_in0 rfl)).trans ?_
    refine (tz_g_cv0I (m2 := 198) (rc := 1) rfl rfl rfl rfl rfl rfl (by decide) (tz_in0 rfl)).trans ?_
    refine tz_jI (fun y1 A1 => ?_)
    refine (tz_g_bipush (v := 48) rfl (tz_in0 rfl)).trans ?_
    refine (tz_g_ic_lt (t := 77) (by decide) (tz_in0 rfl)).trans ?_
    refine tz_cg ?_ ?_
    · skip
      refine (tz_g_aload_n rfl (tz_in0 rfl)).trans ?_
      refine (tz_g_geti rfl rfl rfl (tz_in0 rfl)).trans ?_
      refine (tz_g_iload rfl (tz_in0 rfl)).trans ?_
      refine (tz_g_ic_ne (t := 88) (by decide) (tz_in0 rfl)).trans ?_
      refine tz_cg ?_ ?_
      · skip
        refine (tz_g_aload_n rfl (tz_in0 rfl)).trans ?_
        refine (tz_g_getr (j := 183) rfl rfl rfl rfl rfl (tz_in0 rfl)).trans ?_
        refine (tz_g_iload_n rfl (tz_in0 rfl)).trans ?_
        refine (tz_g_iload rfl (tz_in0 rfl)).trans ?_
        refine (tz_g_iast (n := 10) rfl rfl rfl (tz_in0 rfl)).trans ?_
        refine tz_cn1 ?_
        refine (tz_g_iload rfl (tz_in0 rfl)).trans ?_
        refine (tz_g_iload_n rfl (tz_in0 rfl)).trans ?_
        refine (tz_g_iload_n rfl (tz_in0 rfl)).trans ?_
        refine (tz_g_cs3I (m2 := 165) (rc := 4) rfl rfl rfl rfl rfl rfl (by decide) (tz_in0 rfl)).trans ?_
        refine tz_jI (fun y2 A2 => ?_)
        refine (tz_g_istore (L2 := [some (.ref 157), some (.int z1), some (.int z2), some (.int z3), some (.int z4), some (.int z5), some (.int y2)]) rfl rfl (tz_in0 rfl)).trans ?_
        refine (tz_g_iload rfl (tz_in0 rfl)).trans ?_
        refine (tz_g_if_ne (t := 116) (by decide) (tz_in0 rfl)).trans ?_
        refine tz_cg ?_ ?_
        · skip
          refine (tz_g_iload rfl (tz_in0 rfl)).trans ?_
          exact tz_g_ret4 (tz_in0 rfl) rfl
        · skip
          refine (tz_g_aload_n rfl (tz_in0 rfl)).trans ?_
          refine (tz_g_iload rfl (tz_in0 rfl)).trans ?_
          refine (tz_g_puti rfl rfl rfl (tz_in0 rfl)).trans ?_
          refine (tz_g_iload rfl (tz_in0 rfl)).trans ?_
          exact tz_g_ret4 (tz_in0 rfl) rfl
      · skip
        refine (tz_g_iconst (v := 0) rfl (tz_in0 rfl)).trans ?_
        exact tz_g_ret4K (by decide) (tz_in0 rfl) rfl
    · skip
      refine (tz_g_aload_n rfl (tz_in0 rfl)).trans ?_
      refine (tz_g_cv0I (m2 := 198) (rc := 1) rfl rfl rfl rfl rfl rfl (by decide) (tz_in0 rfl)).trans ?_
      refine tz_jI (fun y2 A2 => ?_)
      refine (tz_g_bipush (v := 57) rfl (tz_in0 rfl)).trans ?_
      refine (tz_g_ic_gt (t := 77) (by decide) (tz_in0 rfl)).trans ?_
      refine tz_cg ?_ ?_
      · skip
        refine (tz_g_aload_n rfl (tz_in0 rfl)).trans ?_
        refine (tz_g_geti rfl rfl rfl (tz_in0 rfl)).trans ?_
        refine (tz_g_iload rfl (tz_in0 rfl)).trans ?_
        refine (tz_g_ic_ne (t := 88) (by decide) (tz_in0 rfl)).trans ?_
        refine tz_cg ?_ ?_
        · skip
          refine (tz_g_aload_n rfl (tz_in0 rfl)).trans ?_
          refine (tz_g_getr (j := 183) rfl rfl rfl rfl rfl (tz_in0 rfl)).trans ?_
          refine (tz_g_iload_n rfl (tz_in0 rfl)).trans ?_
          refine (tz_g_iload rfl (tz_in0 rfl)).trans ?_
          refine (tz_g_iast (n := 10) rfl rfl rfl (tz_in0 rfl)).trans ?_
          refine tz_cn1 ?_
          refine (tz_g_iload rfl (tz_in0 rfl)).trans ?_
          refine (tz_g_iload_n rfl (tz_in0 rfl)).trans ?_
          refine (tz_g_iload_n rfl (tz_in0 rfl)).trans ?_
          refine (tz_g_cs3I (m2 := 165) (rc := 4) rfl rfl rfl rfl rfl rfl (by decide) (tz_in0 rfl)).trans ?_
          refine tz_jI (fun y3 A3 => ?_)
          refine (tz_g_istore (L2 := [some (.ref 157), some (.int z1), some (.int z2), some (.int z3), some (.int z4), some (.int z5), some (.int y3)]) rfl rfl (tz_in0 rfl)).trans ?_
          refine (tz_g_iload rfl (tz_in0 rfl)).trans ?_
          refine (tz_g_if_ne (t := 116) (by decide) (tz_in0 rfl)).trans ?_
          refine tz_cg ?_ ?_
          · skip
            refine (tz_g_iload rfl (tz_in0 rfl)).trans ?_
            exact tz_g_ret4 (tz_in0 rfl) rfl
          · skip
            refine (tz_g_aload_n rfl (tz_in0 rfl)).trans ?_
            refine (tz_g_iload rfl (tz_in0 rfl)).trans ?_
            refine (tz_g_puti rfl rfl rfl (tz_in0 rfl)).trans ?_
            refine (tz_g_iload rfl (tz_in0 rfl)).trans ?_
            exact tz_g_ret4 (tz_in0 rfl) rfl
        · skip
          refine (tz_g_iconst (v := 0) rfl (tz_in0 rfl)).trans ?_
          exact tz_g_ret4K (by decide) (tz_in0 rfl) rfl
      · skip
        refine (tz_g_bipush (v := 10) rfl (tz_in0 rfl)).trans ?_
        refine (tz_g_iload rfl (tz_in0 rfl)).trans ?_
        refine (tz_g_imul (tz_in0 rfl)).trans ?_
        refine (tz_g_aload_n rfl (tz_in0 rfl)).trans ?_
        refine (tz_g_cv0I (m2 := 198) (rc := 1) rfl rfl rfl rfl rfl rfl (by decide) (tz_in0 rfl)).trans ?_
        refine tz_jI (fun y3 A3 => ?_)
        refine (tz_g_iadd (tz_in0 rfl)).trans ?_
        refine (tz_g_bipush (v := 48) rfl (tz_in0 rfl)).trans ?_
        refine (tz_g_isub (tz_in0 rfl)).trans ?_
        refine (tz_g_istore (L2 := [some (.ref 157), some (.int z1), some (.int z2), some (.int z3), some (.int z4), some (.int (((10 * z5) + y3) - 48)), none]) rfl rfl (tz_in0 rfl)).trans ?_
        refine (tz_g_aload_n rfl (tz_in0 rfl)).trans ?_
        refine (tz_g_dup rfl (tz_in0 rfl)).trans ?_
        refine (tz_g_geti rfl rfl rfl (tz_in0 rfl)).trans ?_
        refine (tz_g_iconst (v := 1) rfl (tz_in0 rfl)).trans ?_
        refine (tz_g_iadd (tz_in0 rfl)).trans ?_
        refine (tz_g_puti rfl rfl rfl (tz_in0 rfl)).trans ?_
        refine (tz_g_goto (t := 20) (by decide) (tz_in0 rfl)).trans ?_
        exact tz_Gm (L2 := [some (.ref 157), some (.int z1), some (.int z2), some (.int z3), some (.int z4), some (.int (((10 * z5) + y3) - 48)), none]) rfl rfl rfl rfl

theorem e_X12_noHanding (x1 : Int32) (x2 : Int32) (x3 : Int32) (A : tz_Mem) : f_X12_noHanding x1 x2 x3 A =
  tz_bI (f_X12_isHill x1 A) (fun y1 A1 =>
if y1 = 0 then
  some (some (.int (-1)), A1)
else
  tz_bI (f_X12_isHill x2 A1) (fun y2 A2 =>
  if ¬ y2 = 0 then
    if x1 = x2 then
      some (some (.int (-6)), A2)
    else
      if ¬ x3 = 0 then
        if ¬ (tz_g A2 157 15) = 12 then
          some (some (.int 0), A2)
        else
          some (some (.int (-7)), A2)
      else
        some (some (.int (-6)), A2)
  else
    some (some (.int (-1)), A2))) := by
  refine (tz_Fe (L := [some (.ref 157), some (.int x1), some (.int x2), some (.int x3)]) rfl).trans ?_
  refine (tz_g_aload_n rfl (tz_in0 rfl)).trans ?_
  refine (tz_g_iload_n rfl (tz_in0 rfl)).trans ?_
  refine (tz_g_cv1I (m2 := 173) (rc := 4) rfl rfl rfl rfl rfl rfl (by decide) (tz_in0 rfl)).trans ?_
  refine tz_jI (fun y1 A1 => ?_)
  refine (tz_g_if_eq (t := 16) (by decide) (tz_in0 rfl)).trans ?_
  refine tz_cg ?_ ?_
  · skip
    refine (tz_g_iconst (v := (-1)) rfl (tz_in0 rfl)).trans ?_
    exact tz_g_ret1 (tz_in0 rfl) rfl
  · skip
    refine (tz_g_aload_n rfl (tz_in0 rfl)).trans ?_
    refine (tz_g_iload_n rfl (tz_in0 rfl)).trans ?_
    refine (tz_g_cv1I (m2 := 173) (rc := 4) rfl rfl rfl rfl rfl rfl (by decide) (tz_in0 rfl)).trans ?_
    refine tz_jI (fun y2 A2 => ?_)
    refine (tz_g_if_ne (t := 18) (by decide) (tz_in0 rfl)).trans ?_
    refine tz_cg ?_ ?_
    · skip
      refine (tz_g_iload_n rfl (tz_in0 rfl)).trans ?_
      refine (tz_g_iload_n rfl (tz_in0 rfl)).trans ?_
      refine (tz_g_ic_eq (t := 27) (by decide) (tz_in0 rfl)).trans ?_
      refine tz_cg ?_ ?_
      · skip
        refine (tz_g_bipush (v := (-6)) rfl (tz_in0 rfl)).trans ?_
        exact tz_g_ret1 (tz_in0 rfl) rfl
      · skip
        refine (tz_g_iload_n rfl (tz_in0 rfl)).trans ?_
        refine (tz_g_if_ne (t := 30) (by decide) (tz_in0 rfl)).trans ?_
        refine tz_cg ?_ ?_
        · skip
          refine (tz_g_aload_n rfl (tz_in0 rfl)).trans ?_
          refine (tz_g_geti rfl rfl rfl (tz_in0 rfl)).trans ?_
          refine (tz_g_bipush (v := 12) rfl (tz_in0 rfl)).trans ?_
          refine (tz_g_ic_ne (t := 44) (by decide) (tz_in0 rfl)).trans ?_
          refine tz_cg ?_ ?_
          · skip
            refine (tz_g_iconst (v := 0) rfl (tz_in0 rfl)).trans ?_
            exact tz_g_ret1 (tz_in0 rfl) rfl
          · skip
            refine (tz_g_bipush (v := (-7)) rfl (tz_in0 rfl)).trans ?_
            refine (tz_g_goto (t := 45) (by decide) (tz_in0 rfl)).trans ?_
            exact tz_g_ret1 (tz_in0 rfl) rfl
        · skip
          refine (tz_g_bipush (v := (-6)) rfl (tz_in0 rfl)).trans ?_
          exact tz_g_ret1 (tz_in0 rfl) rfl
    · skip
      refine (tz_g_iconst (v := (-1)) rfl (tz_in0 rfl)).trans ?_
      exact tz_g_ret1 (tz_in0 rfl) rfl

theorem e_X12_reach (x1 : Int32) (x2 : Int32) (A : tz_Mem) : f_X12_reach x1 x2 A =
  tz_bI (f_X12_isHill x1 A) (fun y1 A1 =>
if ¬ y1 = 0 then
  tz_bI (f_X12_within x2 1 99 A1) (fun y2 A2 =>
  if ¬ y2 = 0 then
    q_X12_reach_38 x2 (1 <<< (x1 &&& 31)) 0 A2
  else
    tz_bI (f_X12_no (-6) A2) (fun y3 A3 =>
    some (some (.int y3), A3)))
else
  tz_bI (f_X12_no (-1) A1) (fun y2 A2 =>
  some (some (.int y2), A2))) := by
  refine (tz_Fe (L := [some (.ref 157), some (.int x1), some (.int x2), none, none, none, none]) rfl).trans ?_
  refine (tz_g_aload_n rfl (tz_in0 rfl)).trans ?_
  refine (tz_g_iload_n rfl (tz_in0 rfl)).trans ?_
  refine (tz_g_cv1I (m2 := 173) (rc := 4) rfl rfl rfl rfl rfl rfl (by decide) (tz_in0 rfl)).trans ?_
  refine tz_jI (fun y1 A1 => ?_)
  refine (tz_g_if_ne (t := 14) (by decide) (tz_in0 rfl)).trans ?_
  refine tz_cg ?_ ?_
  · skip
    refine (tz_g_iload_n rfl (tz_in0 rfl)).trans ?_
    refine (tz_g_iconst (v := 1) rfl (tz_in0 rfl)).trans ?_
    refine (tz_g_bipush (v := 99) rfl (tz_in0 rfl)).trans ?_
    refine (tz_g_cs3I (m2 := 165) (rc := 4) rfl rfl rfl rfl rfl rfl (by decide) (tz_in0 rfl)).trans ?_
    refine tz_jI (fun y2 A2 => ?_)
    refine (tz_g_if_ne (t := 31) (by decide) (tz_in0 rfl)).trans ?_
    refine tz_cg ?_ ?_
    · skip
      refine (tz_g_iconst (v := 1) rfl (tz_in0 rfl)).trans ?_
      refine (tz_g_iload_n rfl (tz_in0 rfl)).trans ?_
      refine (tz_g_ishl (tz_in0 rfl)).trans ?_
      refine (tz_g_istore_n (L2 := [some (.ref 157), some (.int x1), some (.int x2), some (.int (1 <<< (x1 &&& 31))), none, none, none]) rfl rfl (tz_in0 rfl)).trans ?_
      refine (tz_g_iconst (v := 0) rfl (tz_in0 rfl)).trans ?_
      refine (tz_g_istore (L2 := [some (.ref 157), some (.int x1), some (.int x2), some (.int (1 <<< (x1 &&& 31))), some (.int 0), none, none]) rfl rfl (tz_in0 rfl)).trans ?_
      exact tz_Gm (L2 := [some (.ref 157), none, some (.int x2), some (.int (1 <<< (x1 &&& 31))), some (.int 0), none, none]) rfl rfl rfl rfl
    · skip
      refine (tz_g_aload_n rfl (tz_in0 rfl)).trans ?_
      refine (tz_g_bipush (v := (-6)) rfl (tz_in0 rfl)).trans ?_
      refine (tz_g_cv1I (m2 := 166) (rc := 1) rfl rfl rfl rfl rfl rfl (by decide) (tz_in0 rfl)).trans ?_
      refine tz_jI (fun y3 A3 => ?_)
      exact tz_g_ret1 (tz_in0 rfl) rfl
  · skip
    refine (tz_g_aload_n rfl (tz_in0 rfl)).trans ?_
    refine (tz_g_iconst (v := (-1)) rfl (tz_in0 rfl)).trans ?_
    refine (tz_g_cv1I (m2 := 166) (rc := 1) rfl rfl rfl rfl rfl rfl (by decide) (tz_in0 rfl)).trans ?_
    refine tz_jI (fun y2 A2 => ?_)
    exact tz_g_ret1 (tz_in0 rfl) rfl

theorem e_X12_reach_38 (z2 : Int32) (z3 : Int32) (z4 : Int32) (A : tz_Mem) : q_X12_reach_38 z2 z3 z4 A =
  if 8 ≤ z4 then
  some (some (.int z3), A)
else
  q_X12_reach_48 z2 z3 z4 0 A := by
  show tz_Go 226 38 [some (.ref 157), none, some (.int z2), some (.int z3), some (.int z4), none, none] [] A = _
  refine (tz_g_iload rfl (tz_inM rfl rfl rfl)).trans ?_
  refine (tz_g_bipush (v := 8) rfl (tz_in0 rfl)).trans ?_
  refine (tz_g_ic_ge (t := 152) (by decide) (tz_in0 rfl)).trans ?_
  refine tz_cg ?_ ?_
  · skip
    refine (tz_g_iload_n rfl (tz_in0 rfl)).trans ?_
    exact tz_g_ret1 (tz_in0 rfl) rfl
  · skip
    refine (tz_g_iconst (v := 0) rfl (tz_in0 rfl)).trans ?_
    refine (tz_g_istore (L2 := [some (.ref 157), none, some (.int z2), some (.int z3), some (.int z4), some (.int 0), none]) rfl rfl (tz_in0 rfl)).trans ?_
    exact tz_Gm (L2 := [some (.ref 157), none, some (.int z2), some (.int z3), some (.int z4), some (.int 0), none]) rfl rfl rfl rfl

theorem e_X12_reach_48 (z2 : Int32) (z3 : Int32) (z4 : Int32) (z5 : Int32) (A : tz_Mem) : q_X12_reach_48 z2 z3 z4 z5 A =
  if (tz_g A 157 8) ≤ z5 then
  q_X12_reach_38 z2 z3 (z4 + 1) A
else
  if z5 < 0 ∨ 4 ≤ (Int32.toNatClampNeg z5) then none else
  if z2 ≤ (tz_g A 169 (Int32.toNatClampNeg z5)) then
    q_X12_reach_74 z2 z3 z4 z5 0 A
  else
    q_X12_reach_48 z2 z3 z4 (z5 + 1) A := by
  show tz_Go 226 48 [some (.ref 157), none, some (.int z2), some (.int z3), some (.int z4), some (.int z5), none] [] A = _
  refine (tz_g_iload rfl (tz_inM rfl rfl rfl)).trans ?_
  refine (tz_g_aload_n rfl (tz_in0 rfl)).trans ?_
  refine (tz_g_geti rfl rfl rfl (tz_in0 rfl)).trans ?_
  refine (tz_g_ic_ge (t := 146) (by decide) (tz_in0 rfl)).trans ?_
  refine tz_cg ?_ ?_
  · skip
    refine (tz_g_iinc (v := 1) (L2 := [some (.ref 157), none, some (.int z2), some (.int z3), some (.int (z4 + 1)), some (.int z5), none]) rfl rfl rfl rfl (tz_in0 rfl)).trans ?_
    refine (tz_g_goto (t := 38) (by decide) (tz_in0 rfl)).trans ?_
    exact tz_Gm (L2 := [some (.ref 157), none, some (.int z2), some (.int z3), some (.int (z4 + 1)), none, none]) rfl rfl rfl rfl
  · skip
    refine (tz_g_aload_n rfl (tz_in0 rfl)).trans ?_
    refine (tz_g_getr (j := 169) rfl rfl rfl rfl rfl (tz_in0 rfl)).trans ?_
    refine (tz_g_iload rfl (tz_in0 rfl)).trans ?_
    refine (tz_g_iald (n := 4) rfl rfl rfl (tz_in0 rfl)).trans ?_
    refine tz_cn1 ?_
    refine (tz_g_iload_n rfl (tz_in0 rfl)).trans ?_
    refine (tz_g_ic_ge (t := 71) (by decide) (tz_in0 rfl)).trans ?_
    refine tz_cg ?_ ?_
    · skip
      refine (tz_g_iconst (v := 0) rfl (tz_in0 rfl)).trans ?_
      refine (tz_g_istore (L2 := [some (.ref 157), none, some (.int z2), some (.int z3), some (.int z4), some (.int z5), some (.int 0)]) rfl rfl (tz_in0 rfl)).trans ?_
      exact tz_Gm (L2 := [some (.ref 157), none, some (.int z2), some (.int z3), some (.int z4), some (.int z5), some (.int 0)]) rfl rfl rfl rfl
    · skip
      refine (tz_g_goto (t := 140) (by decide) (tz_in0 rfl)).trans ?_
      refine (tz_g_iinc (v := 1) (L2 := [some (.ref 157), none, some (.int z2), some (.int z3), some (.int z4), some (.int (z5 + 1)), none]) rfl rfl rfl rfl (tz_in0 rfl)).trans ?_
      refine (tz_g_goto (t := 48) (by decide) (tz_in0 rfl)).trans ?_
      exact tz_Gm (L2 := [some (.ref 157), none, some (.int z2), some (.int z3), some (.int z4), some (.int (z5 + 1)), none]) rfl rfl rfl rfl

theorem e_X12_reach_74 (z2 : Int32) (z3 : Int32) (z4 : Int32) (z5 : Int32) (z6 : Int32) (A : tz_Mem) : q_X12_reach_74 z2 z3 z4 z5 z6 A =
  if z5 < 0 ∨ 4 ≤ (Int32.toNatClampNeg z5) then none else
if (tz_g A 165 (Int32.toNatClampNeg z5)) ≤ z6 then
  q_X12_reach_48 z2 z3 z4 (z5 + 1) A
else
  if ((6 * z5) + z6) < 0 ∨ 24 ≤ (Int32.toNatClampNeg ((6 * z5) + z6)) then none else
  tz_bI (f_X12_has z3 (tz_g A 166 (Int32.toNatClampNeg ((6 * z5) + z6))) A) (fun y1 A1 =>
  if y1 = 0 then
    q_X12_reach_74 z2 z3 z4 z5 (z6 + 1) A1
  else
    if z5 < 0 ∨ 4 ≤ (Int32.toNatClampNeg z5) then none else
    if (tz_g A1 165 (Int32.toNatClampNeg z5)) = 0 then none else
    if ((6 * z5) + ((z6 + 1) - (z6 + 1) / (tz_g A1 165 (Int32.toNatClampNeg z5)) * (tz_g A1 165 (Int32.toNatClampNeg z5)))) < 0 ∨ 24 ≤ (Int32.toNatClampNeg ((6 * z5) + ((z6 + 1) - (z6 + 1) / (tz_g A1 165 (Int32.toNatClampNeg z5)) * (tz_g A1 165 (Int32.toNatClampNeg z5))))) then none else
    q_X12_reach_74 z2 (z3 ||| (1 <<< ((tz_g A1 166 (Int32.toNatClampNeg ((6 * z5) + ((z6 + 1) - (z6 + 1) / (tz_g A1 165 (Int32.toNatClampNeg z5)) * (tz_g A1 165 (Int32.toNatClampNeg z5)))))) &&& 31))) z4 z5 (z6 + 1) A1) := by
  show tz_Go 226 74 [some (.ref 157), none, some (.int z2), some (.int z3), some (.int z4), some (.int z5), some (.int z6)] [] A = _
  refine (tz_g_iload rfl (tz_inM rfl rfl rfl)).trans ?_
  refine (tz_g_aload_n rfl (tz_in0 rfl)).trans ?_
  refine (tz_g_getr (j := 165) rfl rfl rfl rfl rfl (tz_in0 rfl)).trans ?_
  refine (tz_g_iload rfl (tz_in0 rfl)).trans ?_
  refine (tz_g_iald (n := 4) rfl rfl rfl (tz_in0 rfl)).trans ?_
  refine tz_cn1 ?_
  refine (tz_g_ic_ge (t := 140) (by decide) (tz_in0 rfl)).trans ?_
  refine tz_cg ?_ ?_
  · skip
    refine (tz_g_iinc (v := 1) (L2 := [some (.ref 157), none, some (.int z2), some (.int z3), some (.int z4), some (.int (z5 + 1)), some (.int z6)]) rfl rfl rfl rfl (tz_in0 rfl)).trans ?_
    refine (tz_g_goto (t := 48) (by decide) (tz_in0 rfl)).trans ?_
    exact tz_Gm (L2 := [some (.ref 157), none, some (.int z2), some (.int z3), some (.int z4), some (.int (z5 + 1)), none]) rfl rfl rfl rfl
  · skip
    refine (tz_g_iload_n rfl (tz_in0 rfl)).trans ?_
    refine (tz_g_aload_n rfl (tz_in0 rfl)).trans ?_
    refine (tz_g_getr (j := 166) rfl rfl rfl rfl rfl (tz_in0 rfl)).trans ?_
    refine (tz_g_bipush (v := 6) rfl (tz_in0 rfl)).trans ?_
    refine (tz_g_iload rfl (tz_in0 rfl)).trans ?_
    refine (tz_g_imul (tz_in0 rfl)).trans ?_
    refine (tz_g_iload rfl (tz_in0 rfl)).trans ?_
    refine (tz_g_iadd (tz_in0 rfl)).trans ?_
    refine (tz_g_iald (n := 24) rfl rfl rfl (tz_in0 rfl)).trans ?_
    refine tz_cn1 ?_
    refine (tz_g_cs2I (m2 := 203) (rc := 4) rfl rfl rfl rfl rfl rfl (by decide) (tz_in0 rfl)).trans ?_
    refine tz_jI (fun y1 A1 => ?_)
    refine (tz_g_if_eq (t := 134) (by decide) (tz_in0 rfl)).trans ?_
    refine tz_cg ?_ ?_
    · skip
      refine (tz_g_iinc (v := 1) (L2 := [some (.ref 157), none, some (.int z2), some (.int z3), some (.int z4), some (.int z5), some (.int (z6 + 1))]) rfl rfl rfl rfl (tz_in0 rfl)).trans ?_
      refine (tz_g_goto (t := 74) (by decide) (tz_in0 rfl)).trans ?_
      exact tz_Gm (L2 := [some (.ref 157), none, some (.int z2), some (.int z3), some (.int z4), some (.int z5), some (.int (z6 + 1))]) rfl rfl rfl rfl
    · skip
      refine (tz_g_iload_n rfl (tz_in0 rfl)).trans ?_
      refine (tz_g_iconst (v := 1) rfl (tz_in0 rfl)).trans ?_
      refine (tz_g_aload_n rfl (tz_in0 rfl)).trans ?_
      refine (tz_g_getr (j := 166) rfl rfl rfl rfl rfl (tz_in0 rfl)).trans ?_
      refine (tz_g_bipush (v := 6) rfl (tz_in0 rfl)).trans ?_
      refine (tz_g_iload rfl (tz_in0 rfl)).trans ?_
      refine (tz_g_imul (tz_in0 rfl)).trans ?_
      refine (tz_g_iload rfl (tz_in0 rfl)).trans ?_
      refine (tz_g_iconst (v := 1) rfl (tz_in0 rfl)).trans ?_
      refine (tz_g_iadd (tz_in0 rfl)).trans ?_
      refine (tz_g_aload_n rfl (tz_in0 rfl)).trans ?_
      refine (tz_g_getr (j := 165) rfl rfl rfl rfl rfl (tz_in0 rfl)).trans ?_
      refine (tz_g_iload rfl (tz_in0 rfl)).trans ?_
      refine (tz_g_iald (n := 4) rfl rfl rfl (tz_in0 rfl)).trans ?_
      refine tz_cn1 ?_
      refine (tz_g_irem (tz_in0 rfl)).trans ?_
      refine tz_cn1 ?_
      refine (tz_g_iadd (tz_in0 rfl)).trans ?_
      refine (tz_g_iald (n := 24) rfl rfl rfl (tz_in0 rfl)).trans ?_
      refine tz_cn1 ?_
      refine (tz_g_ishl (tz_in0 rfl)).trans ?_
      refine (tz_g_ior (tz_in0 rfl)).trans ?_
      refine (tz_g_istore_n (L2 := [some (.ref 157), none, some (.int z2), some (.int (z3 ||| (1 <<< ((tz_g A1 166 (Int32.toNatClampNeg ((6 * z5) + ((z6 + 1) - (z6 + 1) / (tz_g A1 165 (Int32.toNatClampNeg z5)) * (tz_g A1 165 (Int32.toNatClampNeg z5)))))) &&& 31)))), some (.int z4), some (.int z5), some (.int z6)]) rfl rfl (tz_in0 rfl)).trans ?_
      refine (tz_g_iinc (v := 1) (L2 := [some (.ref 157), none, some (.int z2), some (.int (z3 ||| (1 <<< ((tz_g A1 166 (Int32.toNatClampNeg ((6 * z5) + ((z6 + 1) - (z6 + 1) / (tz_g A1 165 (Int32.toNatClampNeg z5)) * (tz_g A1 165 (Int32.toNatClampNeg z5)))))) &&& 31)))), some (.int z4), some (.int z5), some (.int (z6 + 1))]) rfl rfl rfl rfl (tz_in0 rfl)).trans ?_
      refine (tz_g_goto (t := 74) (by decide) (tz_in0 rfl)).trans ?_
      exact tz_Gm (L2 := [some (.ref 157), none, some (.int z2), some (.int (z3 ||| (1 <<< ((tz_g A1 166 (Int32.toNatClampNeg ((6 * z5) + ((z6 + 1) - (z6 + 1) / (tz_g A1 165 (Int32.toNatClampNeg z5)) * (tz_g A1 165 (Int32.toNatClampNeg z5)))))) &&& 31)))), some (.int z4), some (.int z5), some (.int (z6 + 1))]) rfl rfl rfl rfl

theorem e_X12_burn (x1 : Int32) (A : tz_Mem) : f_X12_burn x1 A =
  tz_bI (f_X12_isLetter x1 A) (fun y1 A1 =>
if y1 = 0 then
  tz_bI (f_X12_no (-5) A1) (fun y2 A2 =>
  some (some (.int y2), A2))
else
  tz_bI (f_X12_burns x1 A1) (fun y2 A2 =>
  some (some (.int y2), A2))) := by
  refine (tz_Fe (L := [some (.ref 157), some (.int x1)]) rfl).trans ?_
  refine (tz_g_aload_n rfl (tz_in0 rfl)).trans ?_
  refine (tz_g_iload_n rfl (tz_in0 rfl)).trans ?_
  refine (tz_g_cv1I (m2 := 193) (rc := 4) rfl rfl rfl rfl rfl rfl (by decide) (tz_in0 rfl)).trans ?_
  refine tz_jI (fun y1 A1 => ?_)
  refine (tz_g_if_eq (t := 16) (by decide) (tz_in0 rfl)).trans ?_
  refine tz_cg ?_ ?_
  · skip
    refine (tz_g_aload_n rfl (tz_in0 rfl)).trans ?_
    refine (tz_g_bipush (v := (-5)) rfl (tz_in0 rfl)).trans ?_
    refine (tz_g_cv1I (m2 := 166) (rc := 1) rfl rfl rfl rfl rfl rfl (by decide) (tz_in0 rfl)).trans ?_
    refine tz_jI (fun y2 A2 => ?_)
    exact tz_g_ret1 (tz_in0 rfl) rfl
  · skip
    refine (tz_g_aload_n rfl (tz_in0 rfl)).trans ?_
    refine (tz_g_iload_n rfl (tz_in0 rfl)).trans ?_
    refine (tz_g_cv1I (m2 := 210) (rc := 1) rfl rfl rfl rfl rfl rfl (by decide) (tz_in0 rfl)).trans ?_
    refine tz_jI (fun y2 A2 => ?_)
    refine (tz_g_goto (t := 22) (by decide) (tz_in0 rfl)).trans ?_
    exact tz_g_ret1 (tz_in0 rfl) rfl

theorem e_X12_rollsBy (x1 : Int32) (x2 : Int32) (A : tz_Mem) : f_X12_rollsBy x1 x2 A =
  if x1 < 0 ∨ 8 ≤ (Int32.toNatClampNeg x1) then none else
if ¬ (tz_g A 161 (Int32.toNatClampNeg x1)) = 6 then
  if ¬ (tz_g A 161 (Int32.toNatClampNeg x1)) = 3 then
    if (tz_g A 161 (Int32.toNatClampNeg x1)) = 2 then
      tz_bV (f_X12_ran 30 A) (fun A1 =>
      tz_bV (f_X12_ran 11 A1) (fun A2 =>
      tz_bI (f_X12_saysBy x1 x2 A2) (fun y3 A3 =>
      if (tz_g A 161 (Int32.toNatClampNeg x1)) = 2 then
        some (some (.int ((y3 * 2) * 3)), A3)
      else
        if ¬ (tz_g A 161 (Int32.toNatClampNeg x1)) = 5 then
          some (some (.int (y3 * 2)), A3)
        else
          some (some (.int ((y3 * 2) * 3)), A3))))
    else
      if ¬ (tz_g A 161 (Int32.toNatClampNeg x1)) = 5 then
        tz_bV (f_X12_ran 11 A) (fun A1 =>
        tz_bI (f_X12_saysBy x1 x2 A1) (fun y2 A2 =>
        if (tz_g A 161 (Int32.toNatClampNeg x1)) = 2 then
          some (some (.int ((y2 * 2) * 3)), A2)
        else
          if ¬ (tz_g A 161 (Int32.toNatClampNeg x1)) = 5 then
            some (some (.int (y2 * 2)), A2)
          else
            some (some (.int ((y2 * 2) * 3)), A2)))
      else
        tz_bV (f_X12_ran 30 A) (fun A1 =>
        tz_bV (f_X12_ran 11 A1) (fun A2 =>
        tz_bI (f_X12_saysBy x1 x2 A2) (fun y3 A3 =>
        if (tz_g A 161 (Int32.toNatClampNeg x1)) = 2 then
          some (some (.int ((y3 * 2) * 3)), A3)
        else
          if ¬ (tz_g A 161 (Int32.toNatClampNeg x1)) = 5 then
            some (some (.int (y3 * 2)), A3)
          else
            some (some (.int ((y3 * 2) * 3)), A3))))
  else
    tz_bV (f_X12_ran 40 A) (fun A1 =>
    if (tz_g A 161 (Int32.toNatClampNeg x1)) = 2 then
      tz_bV (f_X12_ran 30 A1) (fun A2 =>
      tz_bV (f_X12_ran 11 A2) (fun A3 =>
      tz_bI (f_X12_saysBy x1 (x2 + 1) A3) (fun y4 A4 =>
      if (tz_g A 161 (Int32.toNatClampNeg x1)) = 2 then
        some (some (.int ((y4 * 2) * 3)), A4)
      else
        if ¬ (tz_g A 161 (Int32.toNatClampNeg x1)) = 5 then
          some (some (.int (y4 * 2)), A4)
        else
          some (some (.int ((y4 * 2) * 3)), A4))))
    else
      if ¬ (tz_g A 161 (Int32.toNatClampNeg x1)) = 5 then
        tz_bV (f_X12_ran 11 A1) (fun A2 =>
        tz_bI (f_X12_saysBy x1 (x2 + 1) A2) (fun y3 A3 =>
        if (tz_g A 161 (Int32.toNatClampNeg x1)) = 2 then
          some (some (.int ((y3 * 2) * 3)), A3)
        else
          if ¬ (tz_g A 161 (Int32.toNatClampNeg x1)) = 5 then
            some (some (.int (y3 * 2)), A3)
          else
            some (some (.int ((y3 * 2) * 3)), A3)))
      else
        tz_bV (f_X12_ran 30 A1) (fun A2 =>
        tz_bV (f_X12_ran 11 A2) (fun A3 =>
        tz_bI (f_X12_saysBy x1 (x2 + 1) A3) (fun y4 A4 =>
        if (tz_g A 161 (Int32.toNatClampNeg x1)) = 2 then
          some (some (.int ((y4 * 2) * 3)), A4)
        else
          if ¬ (tz_g A 161 (Int32.toNatClampNeg x1)) = 5 then
            some (some (.int (y4 * 2)), A4)
          else
            some (some (.int ((y4 * 2) * 3)), A4)))))
else
  tz_bV (f_X12_ran 71 A) (fun A1 =>
  if x1 < 0 ∨ 8 ≤ (Int32.toNatClampNeg x1) then none else
  if ¬ (tz_g A 161 (Int32.toNatClampNeg x1)) = 3 then
    if (tz_g A 161 (Int32.toNatClampNeg x1)) = 2 then
      tz_bV (f_X12_ran 30 A1) (fun A2 =>
      tz_bV (f_X12_ran 11 A2) (fun A3 =>
      tz_bI (f_X12_saysBy x1 (x2 - (tz_g A1 162 (Int32.toNatClampNeg x1))) A3) (fun y4 A4 =>
      if (tz_g A 161 (Int32.toNatClampNeg x1)) = 2 then
        some (some (.int ((y4 * 2) * 3)), A4)
      else
        if ¬ (tz_g A 161 (Int32.toNatClampNeg x1)) = 5 then
          some (some (.int (y4 * 2)), A4)
        else
          some (some (.int ((y4 * 2) * 3)), A4))))
    else
      if ¬ (tz_g A 161 (Int32.toNatClampNeg x1)) = 5 then
        tz_bV (f_X12_ran 11 A1) (fun A2 =>
        tz_bI (f_X12_saysBy x1 (x2 - (tz_g A1 162 (Int32.toNatClampNeg x1))) A2) (fun y3 A3 =>
        if (tz_g A 161 (Int32.toNatClampNeg x1)) = 2 then
          some (some (.int ((y3 * 2) * 3)), A3)
        else
          if ¬ (tz_g A 161 (Int32.toNatClampNeg x1)) = 5 then
            some (some (.int (y3 * 2)), A3)
          else
            some (some (.int ((y3 * 2) * 3)), A3)))
      else
        tz_bV (f_X12_ran 30 A1) (fun A2 =>
        tz_bV (f_X12_ran 11 A2) (fun A3 =>
        tz_bI (f_X12_saysBy x1 (x2 - (tz_g A1 162 (Int32.toNatClampNeg x1))) A3) (fun y4 A4 =>
        if (tz_g A 161 (Int32.toNatClampNeg x1)) = 2 then
          some (some (.int ((y4 * 2) * 3)), A4)
        else
          if ¬ (tz_g A 161 (Int32.toNatClampNeg x1)) = 5 then
            some (some (.int (y4 * 2)), A4)
          else
            some (some (.int ((y4 * 2) * 3)), A4))))
  else
    tz_bV (f_X12_ran 40 A1) (fun A2 =>
    if (tz_g A 161 (Int32.toNatClampNeg x1)) = 2 then
      tz_bV (f_X12_ran 30 A2) (fun A3 =>
      tz_bV (f_X12_ran 11 A3) (fun A4 =>
      tz_bI (f_X12_saysBy x1 (x2 + 1) A4) (fun y5 A5 =>
      if (tz_g A 161 (Int32.toNatClampNeg x1)) = 2 then
        some (some (.int ((y5 * 2) * 3)), A5)
      else
        if ¬ (tz_g A 161 (Int32.toNatClampNeg x1)) = 5 then
          some (some (.int (y5 * 2)), A5)
        else
          some (some (.int ((y5 * 2) * 3)), A5))))
    else
      if ¬ (tz_g A 161 (Int32.toNatClampNeg x1)) = 5 then
        tz_bV (f_X12_ran 11 A2) (fun A3 =>
        tz_bI (f_X12_saysBy x1 (x2 + 1) A3) (fun y4 A4 =>
        if (tz_g A 161 (Int32.toNatClampNeg x1)) = 2 then
          some (some (.int ((y4 * 2) * 3)), A4)
        else
          if ¬ (tz_g A 161 (Int32.toNatClampNeg x1)) = 5 then
            some (some (.int (y4 * 2)), A4)
          else
            some (some (.int ((y4 * 2) * 3)), A4)))
      else
        tz_bV (f_X12_ran 30 A2) (fun A3 =>
        tz_bV (f_X12_ran 11 A3) (fun A4 =>
        tz_bI (f_X12_saysBy x1 (x2 + 1) A4) (fun y5 A5 =>
        if (tz_g A 161 (Int32.toNatClampNeg x1)) = 2 then
          some (some (.int ((y5 * 2) * 3)), A5)
        else
          if ¬ (tz_g A 161 (Int32.toNatClampNeg x1)) = 5 then
            some (some (.int (y5 * 2)), A5)
          else
            some (some (.int ((y5 * 2) * 3)), A5)))))) := by
  refine (tz_Fe (L := [some (.ref 157), some (.int x1), some (.int x2), none, none, none]) rfl).trans ?_
  refine (tz_g_aload_n rfl (tz_in0 rfl)).trans ?_
  refine (tz_g_getr (j := 161) rfl rfl rfl rfl rfl (tz_in0 rfl)).trans ?_
  refine (tz_g_iload_n rfl (tz_in0 rfl)).trans ?_
  refine (tz_g_iald (n := 8) rfl rfl rfl (tz_in0 rfl)).trans ?_
  refine tz_cn1 ?_
  refine (tz_g_istore_n (L2 := [some (.ref 157), some (.int x1), some (.int x2), some (.int (tz_g A 161 (Int32.toNatClampNeg x1))), none, none]) rfl rfl (tz_in0 rfl)).trans ?_
  refine (tz_g_iload_n rfl (tz_in0 rfl)).trans ?_
  refine (tz_g_istore (L2 := [some (.ref 157), some (.int x1), some (.int x2), some (.int (tz_g A 161 (Int32.toNatClampNeg x1))), some (.int x2), none]) rfl rfl (tz_in0 rfl)).trans ?_
  refine (tz_g_iload_n rfl (tz_in0 rfl)).trans ?_
  refine (tz_g_bipush (v := 6) rfl (tz_in0 rfl)).trans ?_
  refine (tz_g_ic_ne (t := 32) (by decide) (tz_in0 rfl)).trans ?_
  refine tz_cg ?_ ?_
  · skip
    refine (tz_g_iload_n rfl (tz_in0 rfl)).trans ?_
    refine (tz_g_iconst (v := 3) rfl (tz_in0 rfl)).trans ?_
    refine (tz_g_ic_ne (t := 48) (by decide) (tz_in0 rfl)).trans ?_
    refine tz_cg ?_ ?_
    · skip
      refine (tz_g_iload_n rfl (tz_in0 rfl)).trans ?_
      refine (tz_g_iconst (v := 2) rfl (tz_in0 rfl)).trans ?_
      refine (tz_g_ic_eq (t := 58) (by decide) (tz_in0 rfl)).trans ?_
      refine tz_cg ?_ ?_
      · skip
        refine (tz_g_aload_n rfl (tz_in0 rfl)).trans ?_
        refine (tz_g_bipush (v := 30) rfl (tz_in0 rfl)).trans ?_
        refine (tz_g_cv1V (m2 := 242) (rc := 0) rfl rfl rfl rfl rfl rfl (by decide) (tz_in0 rfl)).trans ?_
        refine tz_jV (fun A1 => ?_)
        refine (tz_g_aload_n rfl (tz_in0 rfl)).trans ?_
        refine (tz_g_bipush (v := 11) rfl (tz_in0 rfl)).trans ?_
        refine (tz_g_cv1V (m2 := 242) (rc := 0) rfl rfl rfl rfl rfl rfl (by decide) (tz_in0 rfl)).trans ?_
        refine tz_jV (fun A2 => ?_)
        refine (tz_g_aload_n rfl (tz_in0 rfl)).trans ?_
        refine (tz_g_iload_n rfl (tz_in0 rfl)).trans ?_
        refine (tz_g_iload rfl (tz_in0 rfl)).trans ?_
        refine (tz_g_cv2I (m2 := 241) (rc := 1) rfl rfl rfl rfl rfl rfl (by decide) (tz_in0 rfl)).trans ?_
        refine tz_jI (fun y3 A3 => ?_)
        refine (tz_g_iconst (v := 2) rfl (tz_in0 rfl)).trans ?_
        refine (tz_g_imul (tz_in0 rfl)).trans ?_
        refine (tz_g_istore (L2 := [some (.ref 157), some (.int x1), some (.int x2), some (.int (tz_g A 161 (Int32.toNatClampNeg x1))), some (.int x2), some (.int (y3 * 2))]) rfl rfl (tz_in0 rfl)).trans ?_
        refine (tz_g_iload_n rfl (tz_in0 rfl)).trans ?_
        refine (tz_g_iconst (v := 2) rfl (tz_in0 rfl)).trans ?_
        refine (tz_g_ic_eq (t := 91) (by decide) (tz_in0 rfl)).trans ?_
        refine tz_cg ?_ ?_
        · skip
          refine (tz_g_iload rfl (tz_in0 rfl)).trans ?_
          refine (tz_g_iconst (v := 3) rfl (tz_in0 rfl)).trans ?_
          refine (tz_g_imul (tz_in0 rfl)).trans ?_
          refine (tz_g_goto (t := 100) (by decide) (tz_in0 rfl)).trans ?_
          exact tz_g_ret1 (tz_in0 rfl) rfl
        · skip
          refine (tz_g_iload_n rfl (tz_in0 rfl)).trans ?_
          refine (tz_g_iconst (v := 5) rfl (tz_in0 rfl)).trans ?_
          refine (tz_g_ic_ne (t := 98) (by decide) (tz_in0 rfl)).trans ?_
          refine tz_cg ?_ ?_
          · skip
            refine (tz_g_iload rfl (tz_in0 rfl)).trans ?_
            exact tz_g_ret1 (tz_in0 rfl) rfl
          · skip
            refine (tz_g_iload rfl (tz_in0 rfl)).trans ?_
            refine (tz_g_iconst (v := 3) rfl (tz_in0 rfl)).trans ?_
            refine (tz_g_imul (tz_in0 rfl)).trans ?_
            refine (tz_g_goto (t := 100) (by decide) (tz_in0 rfl)).trans ?_
            exact tz_g_ret1 (tz_in0 rfl) rfl
      · skip
        refine (tz_g_iload_n rfl (tz_in0 rfl)).trans ?_
        refine (tz_g_iconst (v := 5) rfl (tz_in0 rfl)).trans ?_
        refine (tz_g_ic_ne (t := 64) (by decide) (tz_in0 rfl)).trans ?_
        refine tz_cg ?_ ?_
        · skip
          refine (tz_g_aload_n rfl (tz_in0 rfl)).trans ?_
          refine (tz_g_bipush (v := 11) rfl (tz_in0 rfl)).trans ?_
          refine (tz_g_cv1V (m2 := 242) (rc := 0) rfl rfl rfl rfl rfl rfl (by decide) (tz_in0 rfl)).trans ?_
          refine tz_jV (fun A1 => ?_)
          refine (tz_g_aload_n rfl (tz_in0 rfl)).trans ?_
          refine (tz_g_iload_n rfl (tz_in0 rfl)).trans ?_
          refine (tz_g_iload rfl (tz_in0 rfl)).trans ?_
          refine (tz_g_cv2I (m2 := 241) (rc := 1) rfl rfl rfl rfl rfl rfl (by decide) (tz_in0 rfl)).trans ?_
          refine tz_jI (fun y2 A2 => ?_)
          refine (tz_g_iconst (v := 2) rfl (tz_in0 rfl)).trans ?_
          refine (tz_g_imul (tz_in0 rfl)).trans ?_
          refine (tz_g_istore (L2 := [some (.ref 157), some (.int x1), some (.int x2), some (.int (tz_g A 161 (Int32.toNatClampNeg x1))), some (.int x2), some (.int (y2 * 2))]) rfl rfl (tz_in0 rfl)).trans ?_
          refine (tz_g_iload_n rfl (tz_in0 rfl)).trans ?_
          refine (tz_g_iconst (v := 2) rfl (tz_in0 rfl)).trans ?_
          refine (tz_g_ic_eq (t := 91) (by decide) (tz_in0 rfl)).trans ?_
          refine tz_cg ?_ ?_
          · skip
            refine (tz_g_iload rfl (tz_in0 rfl)).trans ?_
            refine (tz_g_iconst (v := 3) rfl (tz_in0 rfl)).trans ?_
            refine (tz_g_imul (tz_in0 rfl)).trans ?_
            refine (tz_g_goto (t := 100) (by decide) (tz_in0 rfl)).trans ?_
            exact tz_g_ret1 (tz_in0 rfl) rfl
          · skip
            refine (tz_g_iload_n rfl (tz_in0 rfl)).trans ?_
            refine (tz_g_iconst (v := 5) rfl (tz_in0 rfl)).trans ?_
            refine (tz_g_ic_ne (t := 98) (by decide) (tz_in0 rfl)).trans ?_
            refine tz_cg ?_ ?_
            · skip
              refine (tz_g_iload rfl (tz_in0 rfl)).trans ?_
              exact tz_g_ret1 (tz_in0 rfl) rfl
            · skip
              refine (tz_g_iload rfl (tz_in0 rfl)).trans ?_
              refine (tz_g_iconst (v := 3) rfl (tz_in0 rfl)).trans ?_
              refine (tz_g_imul (tz_in0 rfl)).trans ?_
              refine (tz_g_goto (t := 100) (by decide) (tz_in0 rfl)).trans ?_
              exact tz_g_ret1 (tz_in0 rfl) rfl
        · skip
          refine (tz_g_aload_n rfl (tz_in0 rfl)).trans ?_
          refine (tz_g_bipush (v := 30) rfl (tz_in0 rfl)).trans ?_
          refine (tz_g_cv1V (m2 := 242) (rc := 0) rfl rfl rfl rfl rfl rfl (by decide) (tz_in0 rfl)).trans ?_
          refine tz_jV (fun A1 => ?_)
          refine (tz_g_aload_n rfl (tz_in0 rfl)).trans ?_
          refine (tz_g_bipush (v := 11) rfl (tz_in0 rfl)).trans ?_
          refine (tz_g_cv1V (m2 := 242) (rc := 0) rfl rfl rfl rfl rfl rfl (by decide) (tz_in0 rfl)).trans ?_
          refine tz_jV (fun A2 => ?_)
          refine (tz_g_aload_n rfl (tz_in0 rfl)).trans ?_
          refine (tz_g_iload_n rfl (tz_in0 rfl)).trans ?_
          refine (tz_g_iload rfl (tz_in0 rfl)).trans ?_
          refine (tz_g_cv2I (m2 := 241) (rc := 1) rfl rfl rfl rfl rfl rfl (by decide) (tz_in0 rfl)).trans ?_
          refine tz_jI (fun y3 A3 => ?_)
          refine (tz_g_iconst (v := 2) rfl (tz_in0 rfl)).trans ?_
          refine (tz_g_imul (tz_in0 rfl)).trans ?_
          refine (tz_g_istore (L2 := [some (.ref 157), some (.int x1), some (.int x2), some (.int (tz_g A 161 (Int32.toNatClampNeg x1))), some (.int x2), some (.int (y3 * 2))]) rfl rfl (tz_in0 rfl)).trans ?_
          refine (tz_g_iload_n rfl (tz_in0 rfl)).trans ?_
          refine (tz_g_iconst (v := 2) rfl (tz_in0 rfl)).trans ?_
          refine (tz_g_ic_eq (t := 91) (by decide) (tz_in0 rfl)).trans ?_
          refine tz_cg ?_ ?_
          · skip
            refine (tz_g_iload rfl (tz_in0 rfl)).trans ?_
            refine (tz_g_iconst (v := 3) rfl (tz_in0 rfl)).trans ?_
            refine (tz_g_imul (tz_in0 rfl)).trans ?_
            refine (tz_g_goto (t := 100) (by decide) (tz_in0 rfl)).trans ?_
            exact tz_g_ret1 (tz_in0 rfl) rfl
          · skip
            refine (tz_g_iload_n rfl (tz_in0 rfl)).trans ?_
            refine (tz_g_iconst (v := 5) rfl (tz_in0 rfl)).trans ?_
            refine (tz_g_ic_ne (t := 98) (by decide) (tz_in0 rfl)).trans ?_
            refine tz_cg ?_ ?_
            · skip
              refine (tz_g_iload rfl (tz_in0 rfl)).trans ?_
              exact tz_g_ret1 (tz_in0 rfl) rfl
            · skip
              refine (tz_g_iload rfl (tz_in0 rfl)).trans ?_
              refine (tz_g_iconst (v := 3) rfl (tz_in0 rfl)).trans ?_
              refine (tz_g_imul (tz_in0 rfl)).trans ?_
              refine (tz_g_goto (t := 100) (by decide) (tz_in0 rfl)).trans ?_
              exact tz_g_ret1 (tz_in0 rfl) rfl
    · skip
      refine (tz_g_aload_n rfl (tz_in0 rfl)).trans ?_
      refine (tz_g_bipush (v := 40) rfl (tz_in0 rfl)).trans ?_
      refine (tz_g_cv1V (m2 := 242) (rc := 0) rfl rfl rfl rfl rfl rfl (by decide) (tz_in0 rfl)).trans ?_
      refine tz_jV (fun A1 => ?_)
      refine (tz_g_iload_n rfl (tz_in0 rfl)).trans ?_
      refine (tz_g_iconst (v := 1) rfl (tz_in0 rfl)).trans ?_
      refine (tz_g_iadd (tz_in0 rfl)).trans ?_
      refine (tz_g_istore (L2 := [some (.ref 157), some (.int x1), some (.int x2), some (.int (tz_g A 161 (Int32.toNatClampNeg x1))), some (.int (x2 + 1)), none]) rfl rfl (tz_in0 rfl)).trans ?_
      refine (tz_g_iload_n rfl (tz_in0 rfl)).trans ?_
      refine (tz_g_iconst (v := 2) rfl (tz_in0 rfl)).trans ?_
      refine (tz_g_ic_eq (t := 58) (by decide) (tz_in0 rfl)).trans ?_
      refine tz_cg ?_ ?_
      · skip
        refine (tz_g_aload_n rfl (tz_in0 rfl)).trans ?_
        refine (tz_g_bipush (v := 30) rfl (tz_in0 rfl)).trans ?_
        refine (tz_g_cv1V (m2 := 242) (rc := 0) rfl rfl rfl rfl rfl rfl (by decide) (tz_in0 rfl)).trans ?_
        refine tz_jV (fun A2 => ?_)
        refine (tz_g_aload_n rfl (tz_in0 rfl)).trans ?_
        refine (tz_g_bipush (v := 11) rfl (tz_in0 rfl)).trans ?_
        refine (tz_g_cv1V (m2 := 242) (rc := 0) rfl rfl rfl rfl rfl rfl (by decide) (tz_in0 rfl)).trans ?_
        refine tz_jV (fun A3 => ?_)
        refine (tz_g_aload_n rfl (tz_in0 rfl)).trans ?_
        refine (tz_g_iload_n rfl (tz_in0 rfl)).trans ?_
        refine (tz_g_iload rfl (tz_in0 rfl)).trans ?_
        refine (tz_g_cv2I (m2 := 241) (rc := 1) rfl rfl rfl rfl rfl rfl (by decide) (tz_in0 rfl)).trans ?_
        refine tz_jI (fun y4 A4 => ?_)
        refine (tz_g_iconst (v := 2) rfl (tz_in0 rfl)).trans ?_
        refine (tz_g_imul (tz_in0 rfl)).trans ?_
        refine (tz_g_istore (L2 := [some (.ref 157), some (.int x1), some (.int x2), some (.int (tz_g A 161 (Int32.toNatClampNeg x1))), some (.int (x2 + 1)), some (.int (y4 * 2))]) rfl rfl (tz_in0 rfl)).trans ?_
        refine (tz_g_iload_n rfl (tz_in0 rfl)).trans ?_
        refine (tz_g_iconst (v := 2) rfl (tz_in0 rfl)).trans ?_
        refine (tz_g_ic_eq (t := 91) (by decide) (tz_in0 rfl)).trans ?_
        refine tz_cg ?_ ?_
        · skip
          refine (tz_g_iload rfl (tz_in0 rfl)).trans ?_
          refine (tz_g_iconst (v := 3) rfl (tz_in0 rfl)).trans ?_
          refine (tz_g_imul (tz_in0 rfl)).trans ?_
          refine (tz_g_goto (t := 100) (by decide) (tz_in0 rfl)).trans ?_
          exact tz_g_ret1 (tz_in0 rfl) rfl
        · skip
          refine (tz_g_iload_n rfl (tz_in0 rfl)).trans ?_
          refine (tz_g_iconst (v := 5) rfl (tz_in0 rfl)).trans ?_
          refine (tz_g_ic_ne (t := 98) (by decide) (tz_in0 rfl)).trans ?_
          refine tz_cg ?_ ?_
          · skip
            refine (tz_g_iload rfl (tz_in0 rfl)).trans ?_
            exact tz_g_ret1 (tz_in0 rfl) rfl
          · skip
            refine (tz_g_iload rfl (tz_in0 rfl)).trans ?_
            refine (tz_g_iconst (v := 3) rfl (tz_in0 rfl)).trans ?_
            refine (tz_g_imul (tz_in0 rfl)).trans ?_
            refine (tz_g_goto (t := 100) (by decide) (tz_in0 rfl)).trans ?_
            exact tz_g_ret1 (tz_in0 rfl) rfl
      · skip
        refine (tz_g_iload_n rfl (tz_in0 rfl)).trans ?_
        refine (tz_g_iconst (v := 5) rfl (tz_in0 rfl)).trans ?_
        refine (tz_g_ic_ne (t := 64) (by decide) (tz_in0 rfl)).trans ?_
        refine tz_cg ?_ ?_
        · skip
          refine (tz_g_aload_n rfl (tz_in0 rfl)).trans ?_
          refine (tz_g_bipush (v := 11) rfl (tz_in0 rfl)).trans ?_
          refine (tz_g_cv1V (m2 := 242) (rc := 0) rfl rfl rfl rfl rfl rfl (by decide) (tz_in0 rfl)).trans ?_
          refine tz_jV (fun A2 => ?_)
          refine (tz_g_aload_n rfl (tz_in0 rfl)).trans ?_
          refine (tz_g_iload_n rfl (tz_in0 rfl)).trans ?_
          refine (tz_g_iload rfl (tz_in0 rfl)).trans ?_
          refine (tz_g_cv2I (m2 := 241) (rc := 1) rfl rfl rfl rfl rfl rfl (by decide) (tz_in0 rfl)).trans ?_
          refine tz_jI (fun y3 A3 => ?_)
          refine (tz_g_iconst (v := 2) rfl (tz_in0 rfl)).trans ?_
          refine (tz_g_imul (tz_in0 rfl)).trans ?_
          refine (tz_g_istore (L2 := [some (.ref 157), some (.int x1), some (.int x2), some (.int (tz_g A 161 (Int32.toNatClampNeg x1))), some (.int (x2 + 1)), some (.int (y3 * 2))]) rfl rfl (tz_in0 rfl)).trans ?_
          refine (tz_g_iload_n rfl (tz_in0 rfl)).trans ?_
          refine (tz_g_iconst (v := 2) rfl (tz_in0 rfl)).trans ?_
          refine (tz_g_ic_eq (t := 91) (by decide) (tz_in0 rfl)).trans ?_
          refine tz_cg ?_ ?_
          · skip
            refine (tz_g_iload rfl (tz_in0 rfl)).trans ?_
            refine (tz_g_iconst (v := 3) rfl (tz_in0 rfl)).trans ?_
            refine (tz_g_imul (tz_in0 rfl)).trans ?_
            refine (tz_g_goto (t := 100) (by decide) (tz_in0 rfl)).trans ?_
            exact tz_g_ret1 (tz_in0 rfl) rfl
          · skip
            refine (tz_g_iload_n rfl (tz_in0 rfl)).trans ?_
            refine (tz_g_iconst (v := 5) rfl (tz_in0 rfl)).trans ?_
            refine (tz_g_ic_ne (t := 98) (by decide) (tz_in0 rfl)).trans ?_
            refine tz_cg ?_ ?_
            · skip
              refine (tz_g_iload rfl (tz_in0 rfl)).trans ?_
              exact tz_g_ret1 (tz_in0 rfl) rfl
            · skip
              refine (tz_g_iload rfl (tz_in0 rfl)).trans ?_
              refine (tz_g_iconst (v := 3) rfl (tz_in0 rfl)).trans ?_
              refine (tz_g_imul (tz_in0 rfl)).trans ?_
              refine (tz_g_goto (t := 100) (by decide) (tz_in0 rfl)).trans ?_
              exact tz_g_ret1 (tz_in0 rfl) rfl
        · skip
          refine (tz_g_aload_n rfl (tz_in0 rfl)).trans ?_
          refine (tz_g_bipush (v := 30) rfl (tz_in0 rfl)).trans ?_
          refine (tz_g_cv1V (m2 := 242) (rc := 0) rfl rfl rfl rfl rfl rfl (by decide) (tz_in0 rfl)).trans ?_
          refine tz_jV (fun A2 => ?_)
          refine (tz_g_aload_n rfl (tz_in0 rfl)).trans ?_
          refine (tz_g_bipush (v := 11) rfl (tz_in0 rfl)).trans ?_
          refine (tz_g_cv1V (m2 := 242) (rc := 0) rfl rfl rfl rfl rfl rfl (by decide) (tz_in0 rfl)).trans ?_
          refine tz_jV (fun A3 => ?_)
          refine (tz_g_aload_n rfl (tz_in0 rfl)).trans ?_
          refine (tz_g_iload_n rfl (tz_in0 rfl)).trans ?_
          refine (tz_g_iload rfl (tz_in0 rfl)).trans ?_
          refine (tz_g_cv2I (m2 := 241) (rc := 1) rfl rfl rfl rfl rfl rfl (by decide) (tz_in0 rfl)).trans ?_
          refine tz_jI (fun y4 A4 => ?_)
          refine (tz_g_iconst (v := 2) rfl (tz_in0 rfl)).trans ?_
          refine (tz_g_imul (tz_in0 rfl)).trans ?_
          refine (tz_g_istore (L2 := [some (.ref 157), some (.int x1), some (.int x2), some (.int (tz_g A 161 (Int32.toNatClampNeg x1))), some (.int (x2 + 1)), some (.int (y4 * 2))]) rfl rfl (tz_in0 rfl)).trans ?_
          refine (tz_g_iload_n rfl (tz_in0 rfl)).trans ?_
          refine (tz_g_iconst (v := 2) rfl (tz_in0 rfl)).trans ?_
          refine (tz_g_ic_eq (t := 91) (by decide) (tz_in0 rfl)).trans ?_
          refine tz_cg ?_ ?_
          · skip
            refine (tz_g_iload rfl (tz_in0 rfl)).trans ?_
            refine (tz_g_iconst (v := 3) rfl (tz_in0 rfl)).trans ?_
            refine (tz_g_imul (tz_in0 rfl)).trans ?_
            refine (tz_g_goto (t := 100) (by decide) (tz_in0 rfl)).trans ?_
            exact tz_g_ret1 (tz_in0 rfl) rfl
          · skip
            refine (tz_g_iload_n rfl (tz_in0 rfl)).trans ?_
            refine (tz_g_iconst (v := 5) rfl (tz_in0 rfl)).trans ?_
            refine (tz_g_ic_ne (t := 98) (by decide) (tz_in0 rfl)).trans ?_
            refine tz_cg ?_ ?_
            · skip
              refine (tz_g_iload rfl (tz_in0 rfl)).trans ?_
              exact tz_g_ret1 (tz_in0 rfl) rfl
            · skip
              refine (tz_g_iload rfl (tz_in0 rfl)).trans ?_
              refine (tz_g_iconst (v := 3) rfl (tz_in0 rfl)).trans ?_
              refine (tz_g_imul (tz_in0 rfl)).trans ?_
              refine (tz_g_goto (t := 100) (by decide) (tz_in0 rfl)).trans ?_
              exact tz_g_ret1 (tz_in0 rfl) rfl
  · skip
    refine (tz_g_aload_n rfl (tz_in0 rfl)).trans ?_
    refine (tz_g_bipush (v := 71) rfl (tz_in0 rfl)).trans ?_
    refine (tz_g_cv1V (m2 := 242) (rc := 0) rfl rfl rfl rfl rfl rfl (by decide) (tz_in0 rfl)).trans ?_
    refine tz_jV (fun A1 => ?_)
    refine (tz_g_iload_n rfl (tz_in0 rfl)).trans ?_
    refine (tz_g_aload_n rfl (tz_in0 rfl)).trans ?_
    refine (tz_g_getr (j := 162) rfl rfl rfl rfl rfl (tz_in0 rfl)).trans ?_
    refine (tz_g_iload_n rfl (tz_in0 rfl)).trans ?_
    refine (tz_g_iald (n := 8) rfl rfl rfl (tz_in0 rfl)).trans ?_
    refine tz_cn1 ?_
    refine (tz_g_isub (tz_in0 rfl)).trans ?_
    refine (tz_g_istore (L2 := [some (.ref 157), some (.int x1), some (.int x2), some (.int (tz_g A 161 (Int32.toNatClampNeg x1))), some (.int (x2 - (tz_g A1 162 (Int32.toNatClampNeg x1)))), none]) rfl rfl (tz_in0 rfl)).trans ?_
    refine (tz_g_iload_n rfl (tz_in0 rfl)).trans ?_
    refine (tz_g_iconst (v := 3) rfl (tz_in0 rfl)).trans ?_
    refine (tz_g_ic_ne (t := 48) (by decide) (tz_in0 rfl)).trans ?_
    refine tz_cg ?_ ?_
    · skip
      refine (tz_g_iload_n rfl (tz_in0 rfl)).trans ?_
      refine (tz_g_iconst (v := 2) rfl (tz_in0 rfl)).trans ?_
      refine (tz_g_ic_eq (t := 58) (by decide) (tz_in0 rfl)).trans ?_
      refine tz_cg ?_ ?_
      · skip
        refine (tz_g_aload_n rfl (tz_in0 rfl)).trans ?_
        refine (tz_g_bipush (v := 30) rfl (tz_in0 rfl)).trans ?_
        refine (tz_g_cv1V (m2 := 242) (rc := 0) rfl rfl rfl rfl rfl rfl (by decide) (tz_in0 rfl)).trans ?_
        refine tz_jV (fun A2 => ?_)
        refine (tz_g_aload_n rfl (tz_in0 rfl)).trans ?_
        refine (tz_g_bipush (v := 11) rfl (tz_in0 rfl)).trans ?_
        refine (tz_g_cv1V (m2 := 242) (rc := 0) rfl rfl rfl rfl rfl rfl (by decide) (tz_in0 rfl)).trans ?_
        refine tz_jV (fun A3 => ?_)
        refine (tz_g_aload_n rfl (tz_in0 rfl)).trans ?_
        refine (tz_g_iload_n rfl (tz_in0 rfl)).trans ?_
        refine (tz_g_iload rfl (tz_in0 rfl)).trans ?_
        refine (tz_g_cv2I (m2 := 241) (rc := 1) rfl rfl rfl rfl rfl rfl (by decide) (tz_in0 rfl)).trans ?_
        refine tz_jI (fun y4 A4 => ?_)
        refine (tz_g_iconst (v := 2) rfl (tz_in0 rfl)).trans ?_
        refine (tz_g_imul (tz_in0 rfl)).trans ?_
        refine (tz_g_istore (L2 := [some (.ref 157), some (.int x1), some (.int x2), some (.int (tz_g A 161 (Int32.toNatClampNeg x1))), some (.int (x2 - (tz_g A1 162 (Int32.toNatClampNeg x1)))), some (.int (y4 * 2))]) rfl rfl (tz_in0 rfl)).trans ?_
        refine (tz_g_iload_n rfl (tz_in0 rfl)).trans ?_
        refine (tz_g_iconst (v := 2) rfl (tz_in0 rfl)).trans ?_
        refine (tz_g_ic_eq (t := 91) (by decide) (tz_in0 rfl)).trans ?_
        refine tz_cg ?_ ?_
        · skip
          refine (tz_g_iload rfl (tz_in0 rfl)).trans ?_
          refine (tz_g_iconst (v := 3) rfl (tz_in0 rfl)).trans ?_
          refine (tz_g_imul (tz_in0 rfl)).trans ?_
          refine (tz_g_goto (t := 100) (by decide) (tz_in0 rfl)).trans ?_
          exact tz_g_ret1 (tz_in0 rfl) rfl
        · skip
          refine (tz_g_iload_n rfl (tz_in0 rfl)).trans ?_
          refine (tz_g_iconst (v := 5) rfl (tz_in0 rfl)).trans ?_
          refine (tz_g_ic_ne (t := 98) (by decide) (tz_in0 rfl)).trans ?_
          refine tz_cg ?_ ?_
          · skip
            refine (tz_g_iload rfl (tz_in0 rfl)).trans ?_
            exact tz_g_ret1 (tz_in0 rfl) rfl
          · skip
            refine (tz_g_iload rfl (tz_in0 rfl)).trans ?_
            refine (tz_g_iconst (v := 3) rfl (tz_in0 rfl)).trans ?_
            refine (tz_g_imul (tz_in0 rfl)).trans ?_
            refine (tz_g_goto (t := 100) (by decide) (tz_in0 rfl)).trans ?_
            exact tz_g_ret1 (tz_in0 rfl) rfl
      · skip
        refine (tz_g_iload_n rfl (tz_in0 rfl)).trans ?_
        refine (tz_g_iconst (v := 5) rfl (tz_in0 rfl)).trans ?_
        refine (tz_g_ic_ne (t := 64) (by decide) (tz_in0 rfl)).trans ?_
        refine tz_cg ?_ ?_
        · skip
          refine (tz_g_aload_n rfl (tz_in0 rfl)).trans ?_
          refine (tz_g_bipush (v := 11) rfl (tz_in0 rfl)).trans ?_
          refine (tz_g_cv1V (m2 := 242) (rc := 0) rfl rfl rfl rfl rfl rfl (by decide) (tz_in0 rfl)).trans ?_
          refine tz_jV (fun A2 => ?_)
          refine (tz_g_aload_n rfl (tz_in0 rfl)).trans ?_
          refine (tz_g_iload_n rfl (tz_in0 rfl)).trans ?_
          refine (tz_g_iload rfl (tz_in0 rfl)).trans ?_
          refine (tz_g_cv2I (m2 := 241) (rc := 1) rfl rfl rfl rfl rfl rfl (by decide) (tz_in0 rfl)).trans ?_
          refine tz_jI (fun y3 A3 => ?_)
          refine (tz_g_iconst (v := 2) rfl (tz_in0 rfl)).trans ?_
          refine (tz_g_imul (tz_in0 rfl)).trans ?_
          refine (tz_g_istore (L2 := [some (.ref 157), some (.int x1), some (.int x2), some (.int (tz_g A 161 (Int32.toNatClampNeg x1))), some (.int (x2 - (tz_g A1 162 (Int32.toNatClampNeg x1)))), some (.int (y3 * 2))]) rfl rfl (tz_in0 rfl)).trans ?_
          refine (tz_g_iload_n rfl (tz_in0 rfl)).trans ?_
          refine (tz_g_iconst (v := 2) rfl (tz_in0 rfl)).trans ?_
          refine (tz_g_ic_eq (t := 91) (by decide) (tz_in0 rfl)).trans ?_
          refine tz_cg ?_ ?_
          · skip
            refine (tz_g_iload rfl (tz_in0 rfl)).trans ?_
            refine (tz_g_iconst (v := 3) rfl (tz_in0 rfl)).trans ?_
            refine (tz_g_imul (tz_in0 rfl)).trans ?_
            refine (tz_g_goto (t := 100) (by decide) (tz_in0 rfl)).trans ?_
            exact tz_g_ret1 (tz_in0 rfl) rfl
          · skip
            refine (tz_g_iload_n rfl (tz_in0 rfl)).trans ?_
            refine (tz_g_iconst (v := 5) rfl (tz_in0 rfl)).trans ?_
            refine (tz_g_ic_ne (t := 98) (by decide) (tz_in0 rfl)).trans ?_
            refine tz_cg ?_ ?_
            · skip
              refine (tz_g_iload rfl (tz_in0 rfl)).trans ?_
              exact tz_g_ret1 (tz_in0 rfl) rfl
            · skip
              refine (tz_g_iload rfl (tz_in0 rfl)).trans ?_
              refine (tz_g_iconst (v := 3) rfl (tz_in0 rfl)).trans ?_
              refine (tz_g_imul (tz_in0 rfl)).trans ?_
              refine (tz_g_goto (t := 100) (by decide) (tz_in0 rfl)).trans ?_
              exact tz_g_ret1 (tz_in0 rfl) rfl
        · skip
          refine (tz_g_aload_n rfl (tz_in0 rfl)).trans ?_
          refine (tz_g_bipush (v := 30) rfl (tz_in0 rfl)).trans ?_
          refine (tz_g_cv1V (m2 := 242) (rc := 0) rfl rfl rfl rfl rfl rfl (by decide) (tz_in0 rfl)).trans ?_
          refine tz_jV (fun A2 => ?_)
          refine (tz_g_aload_n rfl (tz_in0 rfl)).trans ?_
          refine (tz_g_bipush (v := 11) rfl (tz_in0 rfl)).trans ?_
          refine (tz_g_cv1V (m2 := 242) (rc := 0) rfl rfl rfl rfl rfl rfl (by decide) (tz_in0 rfl)).trans ?_
          refine tz_jV (fun A3 => ?_)
          refine (tz_g_aload_n rfl (tz_in0 rfl)).trans ?_
          refine (tz_g_iload_n rfl (tz_in0 rfl)).trans ?_
          refine (tz_g_iload rfl (tz_in0 rfl)).trans ?_
          refine (tz_g_cv2I (m2 := 241) (rc := 1) rfl rfl rfl rfl rfl rfl (by decide) (tz_in0 rfl)).trans ?_
          refine tz_jI (fun y4 A4 => ?_)
          refine (tz_g_iconst (v := 2) rfl (tz_in0 rfl)).trans ?_
          refine (tz_g_imul (tz_in0 rfl)).trans ?_
          refine (tz_g_istore (L2 := [some (.ref 157), some (.int x1), some (.int x2), some (.int (tz_g A 161 (Int32.toNatClampNeg x1))), some (.int (x2 - (tz_g A1 162 (Int32.toNatClampNeg x1)))), some (.int (y4 * 2))]) rfl rfl (tz_in0 rfl)).trans ?_
          refine (tz_g_iload_n rfl (tz_in0 rfl)).trans ?_
          refine (tz_g_iconst (v := 2) rfl (tz_in0 rfl)).trans ?_
          refine (tz_g_ic_eq (t := 91) (by decide) (tz_in0 rfl)).trans ?_
          refine tz_cg ?_ ?_
          · skip
            refine (tz_g_iload rfl (tz_in0 rfl)).trans ?_
            refine (tz_g_iconst (v := 3) rfl (tz_in0 rfl)).trans ?_
            refine (tz_g_imul (tz_in0 rfl)).trans ?_
            refine (tz_g_goto (t := 100) (by decide) (tz_in0 rfl)).trans ?_
            exact tz_g_ret1 (tz_in0 rfl) rfl
          · skip
            refine (tz_g_iload_n rfl (tz_in0 rfl)).trans ?_
            refine (tz_g_iconst (v := 5) rfl (tz_in0 rfl)).trans ?_
            refine (tz_g_ic_ne (t := 98) (by decide) (tz_in0 rfl)).trans ?_
            refine tz_cg ?_ ?_
            · skip
              refine (tz_g_iload rfl (tz_in0 rfl)).trans ?_
              exact tz_g_ret1 (tz_in0 rfl) rfl
            · skip
              refine (tz_g_iload rfl (tz_in0 rfl)).trans ?_
              refine (tz_g_iconst (v := 3) rfl (tz_in0 rfl)).trans ?_
              refine (tz_g_imul (tz_in0 rfl)).trans ?_
              refine (tz_g_goto (t := 100) (by decide) (tz_in0 rfl)).trans ?_
              exact tz_g_ret1 (tz_in0 rfl) rfl
    · skip
      refine (tz_g_aload_n rfl (tz_in0 rfl)).trans ?_
      refine (tz_g_bipush (v := 40) rfl (tz_in0 rfl)).trans ?_
      refine (tz_g_cv1V (m2 := 242) (rc := 0) rfl rfl rfl rfl rfl rfl (by decide) (tz_in0 rfl)).trans ?_
      refine tz_jV (fun A2 => ?_)
      refine (tz_g_iload_n rfl (tz_in0 rfl)).trans ?_
      refine (tz_g_iconst (v := 1) rfl (tz_in0 rfl)).trans ?_
      refine (tz_g_iadd (tz_in0 rfl)).trans ?_
      refine (tz_g_istore (L2 := [some (.ref 157), some (.int x1), some (.int x2), some (.int (tz_g A 161 (Int32.toNatClampNeg x1))), some (.int (x2 + 1)), none]) rfl rfl (tz_in0 rfl)).trans ?_
      refine (tz_g_iload_n rfl (tz_in0 rfl)).trans ?_
      refine (tz_g_iconst (v := 2) rfl (tz_in0 rfl)).trans ?_
      refine (tz_g_ic_eq (t := 58) (by decide) (tz_in0 rfl)).trans ?_
      refine tz_cg ?_ ?_
      · skip
        refine (tz_g_aload_n rfl (tz_in0 rfl)).trans ?_
        refine (tz_g_bipush (v := 30) rfl (tz_in0 rfl)).trans ?_
        refine (tz_g_cv1V (m2 := 242) (rc := 0) rfl rfl rfl rfl rfl rfl (by decide) (tz_in0 rfl)).trans ?_
        refine tz_jV (fun A3 => ?_)
        refine (tz_g_aload_n rfl (tz_in0 rfl)).trans ?_
        refine (tz_g_bipush (v := 11) rfl (tz_in0 rfl)).trans ?_
        refine (tz_g_cv1V (m2 := 242) (rc := 0) rfl rfl rfl rfl rfl rfl (by decide) (tz_in0 rfl)).trans ?_
        refine tz_jV (fun A4 => ?_)
        refine (tz_g_aload_n rfl (tz_in0 rfl)).trans ?_
        refine (tz_g_iload_n rfl (tz_in0 rfl)).trans ?_
        refine (tz_g_iload rfl (tz_in0 rfl)).trans ?_
        refine (tz_g_cv2I (m2 := 241) (rc := 1) rfl rfl rfl rfl rfl rfl (by decide) (tz_in0 rfl)).trans ?_
        refine tz_jI (fun y5 A5 => ?_)
        refine (tz_g_iconst (v := 2) rfl (tz_in0 rfl)).trans ?_
        refine (tz_g_imul (tz_in0 rfl)).trans ?_
        refine (tz_g_istore (L2 := [some (.ref 157), some (.int x1), some (.int x2), some (.int (tz_g A 161 (Int32.toNatClampNeg x1))), some (.int (x2 + 1)), some (.int (y5 * 2))]) rfl rfl (tz_in0 rfl)).trans ?_
        refine (tz_g_iload_n rfl (tz_in0 rfl)).trans ?_
        refine (tz_g_iconst (v := 2) rfl (tz_in0 rfl)).trans ?_
        refine (tz_g_ic_eq (t := 91) (by decide) (tz_in0 rfl)).trans ?_
        refine tz_cg ?_ ?_
        · skip
          refine (tz_g_iload rfl (tz_in0 rfl)).trans ?_
          refine (tz_g_iconst (v := 3) rfl (tz_in0 rfl)).trans ?_
          refine (tz_g_imul (tz_in0 rfl)).trans ?_
          refine (tz_g_goto (t := 100) (by decide) (tz_in0 rfl)).trans ?_
          exact tz_g_ret1 (tz_in0 rfl) rfl
        · skip
          refine (tz_g_iload_n rfl (tz_in0 rfl)).trans ?_
          refine (tz_g_iconst (v := 5) rfl (tz_in0 rfl)).trans ?_
          refine (tz_g_ic_ne (t := 98) (by decide) (tz_in0 rfl)).trans ?_
          refine tz_cg ?_ ?_
          · skip
            refine (tz_g_iload rfl (tz_in0 rfl)).trans ?_
            exact tz_g_ret1 (tz_in0 rfl) rfl
          · skip
            refine (tz_g_iload rfl (tz_in0 rfl)).trans ?_
            refine (tz_g_iconst (v := 3) rfl (tz_in0 rfl)).trans ?_
            refine (tz_g_imul (tz_in0 rfl)).trans ?_
            refine (tz_g_goto (t := 100) (by decide) (tz_in0 rfl)).trans ?_
            exact tz_g_ret1 (tz_in0 rfl) rfl
      · skip
        refine (tz_g_iload_n rfl (tz_in0 rfl)).trans ?_
        refine (tz_g_iconst (v := 5) rfl (tz_in0 rfl)).trans ?_
        refine (tz_g_ic_ne (t := 64) (by decide) (tz_in0 rfl)).trans ?_
        refine tz_cg ?_ ?_
        · skip
          refine (tz_g_aload_n rfl (tz_in0 rfl)).trans ?_
          refine (tz_g_bipush (v := 11) rfl (tz_in0 rfl)).trans ?_
          refine (tz_g_cv1V (m2 := 242) (rc := 0) rfl rfl rfl rfl rfl rfl (by decide) (tz_in0 rfl)).trans ?_
          refine tz_jV (fun A3 => ?_)
          refine (tz_g_aload_n rfl (tz_in0 rfl)).trans ?_
          refine (tz_g_iload_n rfl (tz_in0 rfl)).trans ?_
          refine (tz_g_iload rfl (tz_in0 rfl)).trans ?_
          refine (tz_g_cv2I (m2 := 241) (rc := 1) rfl rfl rfl rfl rfl rfl (by decide) (tz_in0 rfl)).trans ?_
          refine tz_jI (fun y4 A4 => ?_)
          refine (tz_g_iconst (v := 2) rfl (tz_in0 rfl)).trans ?_
          refine (tz_g_imul (tz_in0 rfl)).trans ?_
          refine (tz_g_istore (L2 := [some (.ref 157), some (.int x1), some (.int x2), some (.int (tz_g A 161 (Int32.toNatClampNeg x1))), some (.int (x2 + 1)), some (.int (y4 * 2))]) rfl rfl (tz_in0 rfl)).trans ?_
          refine (tz_g_iload_n rfl (tz_in0 rfl)).trans ?_
          refine (tz_g_iconst (v := 2) rfl (tz_in0 rfl)).trans ?_
          refine (tz_g_ic_eq (t := 91) (by decide) (tz_in0 rfl)).trans ?_
          refine tz_cg ?_ ?_
          · skip
            refine (tz_g_iload rfl (tz_in0 rfl)).trans ?_
            refine (tz_g_iconst (v := 3) rfl (tz_in0 rfl)).trans ?_
            refine (tz_g_imul (tz_in0 rfl)).trans ?_
            refine (tz_g_goto (t := 100) (by decide) (tz_in0 rfl)).trans ?_
            exact tz_g_ret1 (tz_in0 rfl) rfl
          · skip
            refine (tz_g_iload_n rfl (tz_in0 rfl)).trans ?_
            refine (tz_g_iconst (v := 5) rfl (tz_in0 rfl)).trans ?_
            refine (tz_g_ic_ne (t := 98) (by decide) (tz_in0 rfl)).trans ?_
            refine tz_cg ?_ ?_
            · skip
              refine (tz_g_iload rfl (tz_in0 rfl)).trans ?_
              exact tz_g_ret1 (tz_in0 rfl) rfl
            · skip
              refine (tz_g_iload rfl (tz_in0 rfl)).trans ?_
              refine (tz_g_iconst (v := 3) rfl (tz_in0 rfl)).trans ?_
              refine (tz_g_imul (tz_in0 rfl)).trans ?_
              refine (tz_g_goto (t := 100) (by decide) (tz_in0 rfl)).trans ?_
              exact tz_g_ret1 (tz_in0 rfl) rfl
        · skip
          refine (tz_g_aload_n rfl (tz_in0 rfl)).trans ?_
          refine (tz_g_bipush (v := 30) rfl (tz_in0 rfl)).trans ?_
          refine (tz_g_cv1V (m2 := 242) (rc := 0) rfl rfl rfl rfl rfl rfl (by decide) (tz_in0 rfl)).trans ?_
          refine tz_jV (fun A3 => ?_)
          refine (tz_g_aload_n rfl (tz_in0 rfl)).trans ?_
          refine (tz_g_bipush (v := 11) rfl (tz_in0 rfl)).trans ?_
          refine (tz_g_cv1V (m2 := 242) (rc := 0) rfl rfl rfl rfl rfl rfl (by decide) (tz_in0 rfl)).trans ?_
          refine tz_jV (fun A4 => ?_)
          refine (tz_g_aload_n rfl (tz_in0 rfl)).trans ?_
          refine (tz_g_iload_n rfl (tz_in0 rfl)).trans ?_
          refine (tz_g_iload rfl (tz_in0 rfl)).trans ?_
          refine (tz_g_cv2I (m2 := 241) (rc := 1) rfl rfl rfl rfl rfl rfl (by decide) (tz_in0 rfl)).trans ?_
          refine tz_jI (fun y5 A5 => ?_)
          refine (tz_g_iconst (v := 2) rfl (tz_in0 rfl)).trans ?_
          refine (tz_g_imul (tz_in0 rfl)).trans ?_
          refine (tz_g_istore (L2 := [some (.ref 157), some (.int x1), some (.int x2), some (.int (tz_g A 161 (Int32.toNatClampNeg x1))), some (.int (x2 + 1)), some (.int (y5 * 2))]) rfl rfl (tz_in0 rfl)).trans ?_
          refine (tz_g_iload_n rfl (tz_in0 rfl)).trans ?_
          refine (tz_g_iconst (v := 2) rfl (tz_in0 rfl)).trans ?_
          refine (tz_g_ic_eq (t := 91) (by decide) (tz_in0 rfl)).trans ?_
          refine tz_cg ?_ ?_
          · skip
            refine (tz_g_iload rfl (tz_in0 rfl)).trans ?_
            refine (tz_g_iconst (v := 3) rfl (tz_in0 rfl)).trans ?_
            refine (tz_g_imul (tz_in0 rfl)).trans ?_
            refine (tz_g_goto (t := 100) (by decide) (tz_in0 rfl)).trans ?_
            exact tz_g_ret1 (tz_in0 rfl) rfl
          · skip
            refine (tz_g_iload_n rfl (tz_in0 rfl)).trans ?_
            refine (tz_g_iconst (v := 5) rfl (tz_in0 rfl)).trans ?_
            refine (tz_g_ic_ne (t := 98) (by decide) (tz_in0 rfl)).trans ?_
            refine tz_cg ?_ ?_
            · skip
              refine (tz_g_iload rfl (tz_in0 rfl)).trans ?_
              exact tz_g_ret1 (tz_in0 rfl) rfl
            · skip
              refine (tz_g_iload rfl (tz_in0 rfl)).trans ?_
              refine (tz_g_iconst (v := 3) rfl (tz_in0 rfl)).trans ?_
              refine (tz_g_imul (tz_in0 rfl)).trans ?_
              refine (tz_g_goto (t := 100) (by decide) (tz_in0 rfl)).trans ?_
              exact tz_g_ret1 (tz_in0 rfl) rfl

theorem e_X11_copy (x1 : Int32) (x2 : Int32) (x3 : Int32) (x4 : Int32) (x5 : Int32) (A : tz_Mem) : f_X11_copy x1 x2 x3 x4 x5 A =
  tz_bI (f_X8_refusalOfRows x1 x2 A) (fun y1 A1 =>
if y1 = 0 then
  if 0 ≤ x5 then
    tz_bI (f_X8_hasElements x1 x3 x5 A1) (fun y2 A2 =>
    if y2 = 0 then
      tz_bI (f_X11_refuse (-5) A2) (fun y3 A3 =>
      some (some (.int y3), A3))
    else
      tz_bI (f_X8_hasElements x2 x4 x5 A2) (fun y3 A3 =>
      if ¬ y3 = 0 then
        if x1 < 0 ∨ 8 ≤ (Int32.toNatClampNeg x1) then none else
        if x2 < 0 ∨ 8 ≤ (Int32.toNatClampNeg x2) then none else
        if (x3 < 0 ∨ x4 < 0 ∨ x5 < 0) ∨ (160 < (Int32.toNatClampNeg x3) + (Int32.toNatClampNeg x5) ∨ 160 < (Int32.toNatClampNeg x4) + (Int32.toNatClampNeg x5)) then none else
        some (some (.int 1), (tz_cpl A3 (22 + (Int32.toNatClampNeg x1)) (Int32.toNatClampNeg x3) (22 + (Int32.toNatClampNeg x2)) (Int32.toNatClampNeg x4) (Int32.toNatClampNeg x5)))
      else
        tz_bI (f_X11_refuse (-5) A3) (fun y4 A4 =>
        some (some (.int y4), A4))))
  else
    tz_bI (f_X11_refuse (-4) A1) (fun y2 A2 =>
    some (some (.int y2), A2))
else
  tz_bI (f_X11_refuse y1 A1) (fun y2 A2 =>
  some (some (.int y2), A2))) := by
  refine (tz_Fe (L := [some (.ref 17), some (.int x1), some (.int x2), some (.int x3), some (.int x4), some (.int x5), none]) rfl).trans ?_
  refine (tz_g_aload_n rfl (tz_in0 rfl)).trans ?_
  refine (tz_g_getr (j := 18) rfl rfl rfl rfl rfl (tz_in0 rfl)).trans ?_
  refine (tz_g_iload_n rfl (tz_in0 rfl)).trans ?_
  refine (tz_g_iload_n rfl (tz_in0 rfl)).trans ?_
  refine (tz_g_cv2I (m2 := 24) (rc := 1) rfl rfl rfl rfl rfl rfl (by decide) (tz_in0 rfl)).trans ?_
  refine tz_jI (fun y1 A1 => ?_)
  refine (tz_g_istore (L2 := [some (.ref 17), some (.int x1), some (.int x2), some (.int x3), some (.int x4), some (.int x5), some (.int y1)]) rfl rfl (tz_in0 rfl)).trans ?_
  refine (tz_g_iload rfl (tz_in0 rfl)).trans ?_
  refine (tz_g_if_eq (t := 23) (by decide) (tz_in0 rfl)).trans ?_
  refine tz_cg ?_ ?_
  · skip
    refine (tz_g_iload rfl (tz_in0 rfl)).trans ?_
    refine (tz_g_if_ge (t := 35) (by decide) (tz_in0 rfl)).trans ?_
    refine tz_cg ?_ ?_
    · skip
      refine (tz_g_aload_n rfl (tz_in0 rfl)).trans ?_
      refine (tz_g_getr (j := 18) rfl rfl rfl rfl rfl (tz_in0 rfl)).trans ?_
      refine (tz_g_iload_n rfl (tz_in0 rfl)).trans ?_
      refine (tz_g_iload_n rfl (tz_in0 rfl)).trans ?_
      refine (tz_g_iload rfl (tz_in0 rfl)).trans ?_
      refine (tz_g_cv3I (m2 := 25) (rc := 4) rfl rfl rfl rfl rfl rfl (by decide) (tz_in0 rfl)).trans ?_
      refine tz_jI (fun y2 A2 => ?_)
      refine (tz_g_if_eq (t := 64) (by decide) (tz_in0 rfl)).trans ?_
      refine tz_cg ?_ ?_
      · skip
        refine (tz_g_aload_n rfl (tz_in0 rfl)).trans ?_
        refine (tz_g_bipush (v := (-5)) rfl (tz_in0 rfl)).trans ?_
        refine (tz_g_cv1I (m2 := 15) (rc := 1) rfl rfl rfl rfl rfl rfl (by decide) (tz_in0 rfl)).trans ?_
        refine tz_jI (fun y3 A3 => ?_)
        exact tz_g_ret1 (tz_in0 rfl) rfl
      · skip
        refine (tz_g_aload_n rfl (tz_in0 rfl)).trans ?_
        refine (tz_g_getr (j := 18) rfl rfl rfl rfl rfl (tz_in0 rfl)).trans ?_
        refine (tz_g_iload_n rfl (tz_in0 rfl)).trans ?_
        refine (tz_g_iload rfl (tz_in0 rfl)).trans ?_
        refine (tz_g_iload rfl (tz_in0 rfl)).trans ?_
        refine (tz_g_cv3I (m2 := 25) (rc := 4) rfl rfl rfl rfl rfl rfl (by decide) (tz_in0 rfl)).trans ?_
        refine tz_jI (fun y3 A3 => ?_)
        refine (tz_g_if_ne (t := 71) (by decide) (tz_in0 rfl)).trans ?_
        refine tz_cg ?_ ?_
        · skip
          refine (tz_g_aload_n rfl (tz_in0 rfl)).trans ?_
          refine (tz_g_getr (j := 18) rfl rfl rfl rfl rfl (tz_in0 rfl)).trans ?_
          refine (tz_g_getr (j := 21) rfl rfl rfl rfl rfl (tz_in0 rfl)).trans ?_
          refine (tz_g_iload_n rfl (tz_in0 rfl)).trans ?_
          refine (tz_g_aald (n := 8) rfl rfl (tz_in0 rfl)).trans ?_
          refine tz_cnh (fun h_0 => ?_)
          refine (tz_g_iload_n rfl (tz_in0 rfl)).trans ?_
          refine (tz_g_aload_n rfl (tz_in0 rfl)).trans ?_
          refine (tz_g_getr (j := 18) rfl rfl rfl rfl rfl (tz_in0 rfl)).trans ?_
          refine (tz_g_getr (j := 21) rfl rfl rfl rfl rfl (tz_in0 rfl)).trans ?_
          refine (tz_g_iload_n rfl (tz_in0 rfl)).trans ?_
          refine (tz_g_aald (n := 8) rfl rfl (tz_in0 rfl)).trans ?_
          refine tz_cnh (fun h_1 => ?_)
          refine (tz_g_iload rfl (tz_in0 rfl)).trans ?_
          refine (tz_g_iload rfl (tz_in0 rfl)).trans ?_
          refine (tz_g_cpl (n1 := 160) (n2 := 160) rfl rfl rfl (tz_okx2 (tz_rwi h_0) (tz_rwi h_1) rfl) (tz_kdx2 (tz_rwi h_0) (tz_rwi h_1)) (tz_lnx (tz_rwi h_0)) (tz_lnx (tz_rwi h_1)) (tz_in0 rfl)).trans ?_
          refine tz_cn1 ?_
          refine (tz_g_iconst (v := 1) rfl (tz_in0 rfl)).trans ?_
          exact tz_g_ret1 (tz_in0 rfl) rfl
        · skip
          refine (tz_g_aload_n rfl (tz_in0 rfl)).trans ?_
          refine (tz_g_bipush (v := (-5)) rfl (tz_in0 rfl)).trans ?_
          refine (tz_g_cv1I (m2 := 15) (rc := 1) rfl rfl rfl rfl rfl rfl (by decide) (tz_in0 rfl)).trans ?_
          refine tz_jI (fun y4 A4 => ?_)
          exact tz_g_ret1 (tz_in0 rfl) rfl
    · skip
      refine (tz_g_aload_n rfl (tz_in0 rfl)).trans ?_
      refine (tz_g_bipush (v := (-4)) rfl (tz_in0 rfl)).trans ?_
      refine (tz_g_cv1I (m2 := 15) (rc := 1) rfl rfl rfl rfl rfl rfl (by decide) (tz_in0 rfl)).trans ?_
      refine tz_jI (fun y2 A2 => ?_)
      exact tz_g_ret1 (tz_in0 rfl) rfl
  · skip
    refine (tz_g_aload_n rfl (tz_in0 rfl)).trans ?_
    refine (tz_g_iload rfl (tz_in0 rfl)).trans ?_
    refine (tz_g_cv1I (m2 := 15) (rc := 1) rfl rfl rfl rfl rfl rfl (by decide) (tz_in0 rfl)).trans ?_
    refine tz_jI (fun y2 A2 => ?_)
    exact tz_g_ret1 (tz_in0 rfl) rfl

theorem e_X11_storm (x1 : Int32) (x2 : Int32) (x3 : Int32) (x4 : Int32) (x5 : Int32) (A : tz_Mem) : f_X11_storm x1 x2 x3 x4 x5 A =
  tz_bI (f_X8_refusalOfElements x1 x2 A) (fun y1 A1 =>
if y1 = 0 then
  tz_bI (f_X11_areStormNumbers x3 x4 x5 A1) (fun y2 A2 =>
  if y2 = 0 then
    tz_bI (f_X11_refuse (-6) A2) (fun y3 A3 =>
    some (some (.int y3), A3))
  else
    tz_bI (f_X11_isWay x1 x2 A2) (fun y3 A3 =>
    if ¬ y3 = 0 then
      tz_bI (f_X10_isFull 30 A3) (fun y4 A4 =>
      if y4 = 0 then
        tz_bV (f_X8_copyNumbers_s155 x1 x2 A4) (fun A5 =>
        tz_bI (f_X10_add_s155 30 x2 x3 x4 x5 A5) (fun y6 A6 =>
        some (some (.int y6), A6)))
      else
        tz_bI (f_X11_refuse (-7) A4) (fun y5 A5 =>
        some (some (.int y5), A5)))
    else
      tz_bI (f_X11_refuse (-6) A3) (fun y4 A4 =>
      some (some (.int y4), A4))))
else
  tz_bI (f_X11_refuse y1 A1) (fun y2 A2 =>
  some (some (.int y2), A2))) := by
  refine (tz_Fe (L := [some (.ref 17), some (.int x1), some (.int x2), some (.int x3), some (.int x4), some (.int x5), none]) rfl).trans ?_
  refine (tz_g_aload_n rfl (tz_in0 rfl)).trans ?_
  refine (tz_g_getr (j := 18) rfl rfl rfl rfl rfl (tz_in0 rfl)).trans ?_
  refine (tz_g_iload_n rfl (tz_in0 rfl)).trans ?_
  refine (tz_g_iload_n rfl (tz_in0 rfl)).trans ?_
  refine (tz_g_cv2I (m2 := 41) (rc := 1) rfl rfl rfl rfl rfl rfl (by decide) (tz_in0 rfl)).trans ?_
  refine tz_jI (fun y1 A1 => ?_)
  refine (tz_g_istore (L2 := [some (.ref 17), some (.int x1), some (.int x2), some (.int x3), some (.int x4), some (.int x5), some (.int y1)]) rfl rfl (tz_in0 rfl)).trans ?_
  refine (tz_g_iload rfl (tz_in0 rfl)).trans ?_
  refine (tz_g_if_eq (t := 23) (by decide) (tz_in0 rfl)).trans ?_
  refine tz_cg ?_ ?_
  · skip
    refine (tz_g_iload_n rfl (tz_in0 rfl)).trans ?_
    refine (tz_g_iload rfl (tz_in0 rfl)).trans ?_
    refine (tz_g_iload rfl (tz_in0 rfl)).trans ?_
    refine (tz_g_cs3I (m2 := 42) (rc := 4) rfl rfl rfl rfl rfl rfl (by decide) (tz_in0 rfl)).trans ?_
    refine tz_jI (fun y2 A2 => ?_)
    refine (tz_g_if_eq (t := 43) (by decide) (tz_in0 rfl)).trans ?_
    refine tz_cg ?_ ?_
    · skip
      refine (tz_g_aload_n rfl (tz_in0 rfl)).trans ?_
      refine (tz_g_bipush (v := (-6)) rfl (tz_in0 rfl)).trans ?_
      refine (tz_g_cv1I (m2 := 15) (rc := 1) rfl rfl rfl rfl rfl rfl (by decide) (tz_in0 rfl)).trans ?_
      refine tz_jI (fun y3 A3 => ?_)
      exact tz_g_ret1 (tz_in0 rfl) rfl
    · skip
      refine (tz_g_aload_n rfl (tz_in0 rfl)).trans ?_
      refine (tz_g_iload_n rfl (tz_in0 rfl)).trans ?_
      refine (tz_g_iload_n rfl (tz_in0 rfl)).trans ?_
      refine (tz_g_cv2I (m2 := 43) (rc := 4) rfl rfl rfl rfl rfl rfl (by decide) (tz_in0 rfl)).trans ?_
      refine tz_jI (fun y3 A3 => ?_)
      refine (tz_g_if_ne (t := 50) (by decide) (tz_in0 rfl)).trans ?_
      refine tz_cg ?_ ?_
      · skip
        refine (tz_g_aload_n rfl (tz_in0 rfl)).trans ?_
        refine (tz_g_getr (j := 30) rfl rfl rfl rfl rfl (tz_in0 rfl)).trans ?_
        refine (tz_g_getr (j := 37) rfl rfl rfl rfl rfl (tz_in0 rfl)).trans ?_
        refine (tz_g_cv0I (m2 := 45) (rc := 4) rfl rfl rfl rfl rfl rfl (by decide) (tz_in0 rfl)).trans ?_
        refine tz_jI (fun y4 A4 => ?_)
        refine (tz_g_if_eq (t := 70) (by decide) (tz_in0 rfl)).trans ?_
        refine tz_cg ?_ ?_
        · skip
          refine (tz_g_aload_n rfl (tz_in0 rfl)).trans ?_
          refine (tz_g_getr (j := 18) rfl rfl rfl rfl rfl (tz_in0 rfl)).trans ?_
          refine (tz_g_iload_n rfl (tz_in0 rfl)).trans ?_
          refine (tz_g_iload_n rfl (tz_in0 rfl)).trans ?_
          refine (tz_g_aload_n rfl (tz_in0 rfl)).trans ?_
          refine (tz_g_getr (j := 155) rfl rfl rfl rfl rfl (tz_in0 rfl)).trans ?_
          refine (tz_g_cv3V (m2 := 46) (rc := 0) rfl rfl rfl rfl rfl rfl (by decide) (tz_in0 rfl)).trans ?_
          refine tz_jV (fun A5 => ?_)
          refine (tz_g_aload_n rfl (tz_in0 rfl)).trans ?_
          refine (tz_g_getr (j := 30) rfl rfl rfl rfl rfl (tz_in0 rfl)).trans ?_
          refine (tz_g_getr (j := 37) rfl rfl rfl rfl rfl (tz_in0 rfl)).trans ?_
          refine (tz_g_aload_n rfl (tz_in0 rfl)).trans ?_
          refine (tz_g_getr (j := 155) rfl rfl rfl rfl rfl (tz_in0 rfl)).trans ?_
          refine (tz_g_iload_n rfl (tz_in0 rfl)).trans ?_
          refine (tz_g_iload_n rfl (tz_in0 rfl)).trans ?_
          refine (tz_g_iload rfl (tz_in0 rfl)).trans ?_
          refine (tz_g_iload rfl (tz_in0 rfl)).trans ?_
          refine (tz_g_cv5I (m2 := 47) (rc := 1) rfl rfl rfl rfl rfl rfl (by decide) (tz_in0 rfl)).trans ?_
          refine tz_jI (fun y6 A6 => ?_)
          exact tz_g_ret1 (tz_in0 rfl) rfl
        · skip
          refine (tz_g_aload_n rfl (tz_in0 rfl)).trans ?_
          refine (tz_g_bipush (v := (-7)) rfl (tz_in0 rfl)).trans ?_
          refine (tz_g_cv1I (m2 := 15) (rc := 1) rfl rfl rfl rfl rfl rfl (by decide) (tz_in0 rfl)).trans ?_
          refine tz_jI (fun y5 A5 => ?_)
          exact tz_g_ret1 (tz_in0 rfl) rfl
      · skip
        refine (tz_g_aload_n rfl (tz_in0 rfl)).trans ?_
        refine (tz_g_bipush (v := (-6)) rfl (tz_in0 rfl)).trans ?_
        refine (tz_g_cv1I (m2 := 15) (rc := 1) rfl rfl rfl rfl rfl rfl (by decide) (tz_in0 rfl)).trans ?_
        refine tz_jI (fun y4 A4 => ?_)
        exact tz_g_ret1 (tz_in0 rfl) rfl
  · skip
    refine (tz_g_aload_n rfl (tz_in0 rfl)).trans ?_
    refine (tz_g_iload rfl (tz_in0 rfl)).trans ?_
    refine (tz_g_cv1I (m2 := 15) (rc := 1) rfl rfl rfl rfl rfl rfl (by decide) (tz_in0 rfl)).trans ?_
    refine tz_jI (fun y2 A2 => ?_)
    exact tz_g_ret1 (tz_in0 rfl) rfl

theorem e_X11_hillOf (x1 : Int32) (x2 : Int32) (A : tz_Mem) : f_X11_hillOf x1 x2 A =
  tz_bI (f_X3_has 30 x1 A) (fun y1 A1 =>
if ¬ y1 = 0 then
  if x2 = 0 then
    if x1 < 0 ∨ 8 ≤ (Int32.toNatClampNeg x1) then none else
    some (some (.int (tz_g A1 32 (Int32.toNatClampNeg x1))), A1)
  else if x2 = 1 then
    if x1 < 0 ∨ 8 ≤ (Int32.toNatClampNeg x1) then none else
    some (some (.int (tz_g A1 33 (Int32.toNatClampNeg x1))), A1)
  else if x2 = 2 then
    if x1 < 0 ∨ 8 ≤ (Int32.toNatClampNeg x1) then none else
    some (some (.int (tz_g A1 34 (Int32.toNatClampNeg x1))), A1)
  else if x2 = 3 then
    tz_bI (f_X10_allAt 30 x1 A1) (fun y2 A2 =>
    some (some (.int y2), A2))
  else tz_bI (f_X11_refuse (-5) A1) (fun y2 A2 =>
  some (some (.int y2), A2))
else
  tz_bI (f_X11_refuse (-5) A1) (fun y2 A2 =>
  some (some (.int y2), A2))) := by
  refine (tz_Fe (L := [some (.ref 17), some (.int x1), some (.int x2)]) rfl).trans ?_
  refine (tz_g_aload_n rfl (tz_in0 rfl)).trans ?_
  refine (tz_g_getr (j := 30) rfl rfl rfl rfl rfl (tz_in0 rfl)).trans ?_
  refine (tz_g_getr (j := 31) rfl rfl rfl rfl rfl (tz_in0 rfl)).trans ?_
  refine (tz_g_iload_n rfl (tz_in0 rfl)).trans ?_
  refine (tz_g_cv1I (m2 := 28) (rc := 4) rfl rfl rfl rfl rfl rfl (by decide) (tz_in0 rfl)).trans ?_
  refine tz_jI (fun y1 A1 => ?_)
  refine (tz_g_if_ne (t := 21) (by decide) (tz_in0 rfl)).trans ?_
  refine tz_cg ?_ ?_
  · skip
    refine (tz_g_iload_n rfl (tz_in0 rfl)).trans ?_
    refine (tz_g_tsw (by decide) (tz_in0 rfl)).trans ?_
    refine tz_swc (v := 0) (by decide) ?_ ?_
    · refine (tz_tg (t := 52) (by decide)).trans ?_
      refine (tz_g_aload_n rfl (tz_in0 rfl)).trans ?_
      refine (tz_g_getr (j := 30) rfl rfl rfl rfl rfl (tz_in0 rfl)).trans ?_
      refine (tz_g_getr (j := 31) rfl rfl rfl rfl rfl (tz_in0 rfl)).trans ?_
      refine (tz_g_getr (j := 32) rfl rfl rfl rfl rfl (tz_in0 rfl)).trans ?_
      refine (tz_g_iload_n rfl (tz_in0 rfl)).trans ?_
      refine (tz_g_iald (n := 8) rfl rfl rfl (tz_in0 rfl)).trans ?_
      refine tz_cn1 ?_
      exact tz_g_ret1 (tz_in0 rfl) rfl
    refine tz_swc (v := 1) (by decide) ?_ ?_
    · refine (tz_tg (t := 65) (by decide)).trans ?_
      refine (tz_g_aload_n rfl (tz_in0 rfl)).trans ?_
      refine (tz_g_getr (j := 30) rfl rfl rfl rfl rfl (tz_in0 rfl)).trans ?_
      refine (tz_g_getr (j := 31) rfl rfl rfl rfl rfl (tz_in0 rfl)).trans ?_
      refine (tz_g_getr (j := 33) rfl rfl rfl rfl rfl (tz_in0 rfl)).trans ?_
      refine (tz_g_iload_n rfl (tz_in0 rfl)).trans ?_
      refine (tz_g_iald (n := 8) rfl rfl rfl (tz_in0 rfl)).trans ?_
      refine tz_cn1 ?_
      exact tz_g_ret1 (tz_in0 rfl) rfl
    refine tz_swc (v := 2) (by decide) ?_ ?_
    · refine (tz_tg (t := 78) (by decide)).trans ?_
      refine (tz_g_aload_n rfl (tz_in0 rfl)).trans ?_
      refine (tz_g_getr (j := 30) rfl rfl rfl rfl rfl (tz_in0 rfl)).trans ?_
      refine (tz_g_getr (j := 31) rfl rfl rfl rfl rfl (tz_in0 rfl)).trans ?_
      refine (tz_g_getr (j := 34) rfl rfl rfl rfl rfl (tz_in0 rfl)).trans ?_
      refine (tz_g_iload_n rfl (tz_in0 rfl)).trans ?_
      refine (tz_g_iald (n := 8) rfl rfl rfl (tz_in0 rfl)).trans ?_
      refine tz_cn1 ?_
      exact tz_g_ret1 (tz_in0 rfl) rfl
    refine tz_swc (v := 3) (by decide) ?_ ?_
    · refine (tz_tg (t := 91) (by decide)).trans ?_
      refine (tz_g_aload_n rfl (tz_in0 rfl)).trans ?_
      refine (tz_g_getr (j := 30) rfl rfl rfl rfl rfl (tz_in0 rfl)).trans ?_
      refine (tz_g_getr (j := 37) rfl rfl rfl rfl rfl (tz_in0 rfl)).trans ?_
      refine (tz_g_iload_n rfl (tz_in0 rfl)).trans ?_
      refine (tz_g_cv1I (m2 := 55) (rc := 1) rfl rfl rfl rfl rfl rfl (by decide) (tz_in0 rfl)).trans ?_
      refine tz_jI (fun y2 A2 => ?_)
      exact tz_g_ret1 (tz_in0 rfl) rfl
    refine tz_swd ?_
    refine (tz_tg (t := 103) (by decide)).trans ?_
    refine (tz_g_aload_n rfl (tz_in0 rfl)).trans ?_
    refine (tz_g_bipush (v := (-5)) rfl (tz_in0 rfl)).trans ?_
    refine (tz_g_cv1I (m2 := 15) (rc := 1) rfl rfl rfl rfl rfl rfl (by decide) (tz_in0 rfl)).trans ?_
    refine tz_jI (fun y2 A2 => ?_)
    exact tz_g_ret1 (tz_in0 rfl) rfl
  · skip
    refine (tz_g_aload_n rfl (tz_in0 rfl)).trans ?_
    refine (tz_g_bipush (v := (-5)) rfl (tz_in0 rfl)).trans ?_
    refine (tz_g_cv1I (m2 := 15) (rc := 1) rfl rfl rfl rfl rfl rfl (by decide) (tz_in0 rfl)).trans ?_
    refine tz_jI (fun y2 A2 => ?_)
    exact tz_g_ret1 (tz_in0 rfl) rfl

theorem e_J0_charAt_s5 (x1 : Int32) (A : tz_Mem) : f_J0_charAt_s5 x1 A =
  tz_bI (f_J0_isLatin1_s5 A) (fun y1 A1 =>
if y1 = 0 then
  none
else
  tz_bI (f_J1_charAt_s11 x1 A1) (fun y2 A2 =>
  if (Int32.toUInt32 y2 % 65536).toInt32 = y2 then some (some (.int y2), A2) else none)) := by
  refine (tz_Fe (L := [some (.ref 5), some (.int x1)]) rfl).trans ?_
  refine (tz_g_aload_n rfl (tz_in0 rfl)).trans ?_
  refine (tz_g_cv0I (m2 := 79) (rc := 4) rfl rfl rfl rfl rfl rfl (by decide) (tz_in0 rfl)).trans ?_
  refine tz_jI (fun y1 A1 => ?_)
  refine (tz_g_if_eq (t := 16) (by decide) (tz_in0 rfl)).trans ?_
  refine tz_cg ?_ ?_
  · skip
    refine (tz_g_aload_n rfl (tz_in0 rfl)).trans ?_
    refine (tz_g_getr (j := 11) rfl rfl rfl rfl rfl (tz_in0 rfl)).trans ?_
    refine (tz_g_iload_n rfl (tz_in0 rfl)).trans ?_
    exact ((tz_in0 rfl) _ _).trans rfl
  · skip
    refine (tz_g_aload_n rfl (tz_in0 rfl)).trans ?_
    refine (tz_g_getr (j := 11) rfl rfl rfl rfl rfl (tz_in0 rfl)).trans ?_
    refine (tz_g_iload_n rfl (tz_in0 rfl)).trans ?_
    refine (tz_g_cs2I (m2 := 80) (rc := 5) rfl rfl rfl rfl rfl rfl (by decide) (tz_in0 rfl)).trans ?_
    refine tz_jI (fun y2 A2 => ?_)
    exact tz_g_ret5 (tz_in0 rfl) rfl

theorem e_J0_charAt_s6 (x1 : Int32) (A : tz_Mem) : f_J0_charAt_s6 x1 A =
  tz_bI (f_J0_isLatin1_s6 A) (fun y1 A1 =>
if y1 = 0 then
  none
else
  tz_bI (f_J1_charAt_s12 x1 A1) (fun y2 A2 =>
  if (Int32.toUInt32 y2 % 65536).toInt32 = y2 then some (some (.int y2), A2) else none)) := by
  refine (tz_Fe (L := [some (.ref 6), some (.int x1)]) rfl).trans ?_
  refine (tz_g_aload_n rfl (tz_in0 rfl)).trans ?_
  refine (tz_g_cv0I (m2 := 79) (rc := 4) rfl rfl rfl rfl rfl rfl (by decide) (tz_in0 rfl)).trans ?_
  refine tz_jI (fun y1 A1 => ?_)
  refine (tz_g_if_eq (t := 16) (by decide) (tz_in0 rfl)).trans ?_
  refine tz_cg ?_ ?_
  · skip
    refine (tz_g_aload_n rfl (tz_in0 rfl)).trans ?_
    refine (tz_g_getr (j := 12) rfl rfl rfl rfl rfl (tz_in0 rfl)).trans ?_
    refine (tz_g_iload_n rfl (tz_in0 rfl)).trans ?_
    exact ((tz_in0 rfl) _ _).trans rfl
  · skip
    refine (tz_g_aload_n rfl (tz_in0 rfl)).trans ?_
    refine (tz_g_getr (j := 12) rfl rfl rfl rfl rfl (tz_in0 rfl)).trans ?_
    refine (tz_g_iload_n rfl (tz_in0 rfl)).trans ?_
    refine (tz_g_cs2I (m2 := 80) (rc := 5) rfl rfl rfl rfl rfl rfl (by decide) (tz_in0 rfl)).trans ?_
    refine tz_jI (fun y2 A2 => ?_)
    exact tz_g_ret5 (tz_in0 rfl) rfl

theorem e_J0_charAt_s7 (x1 : Int32) (A : tz_Mem) : f_J0_charAt_s7 x1 A =
  tz_bI (f_J0_isLatin1_s7 A) (fun y1 A1 =>
if y1 = 0 then
  none
else
  tz_bI (f_J1_charAt_s13 x1 A1) (fun y2 A2 =>
  if (Int32.toUInt32 y2 % 65536).toInt32 = y2 then some (some (.int y2), A2) else none)) := by
  refine (tz_Fe (L := [some (.ref 7), some (.int x1)]) rfl).trans ?_
  refine (tz_g_aload_n rfl (tz_in0 rfl)).trans ?_
  refine (tz_g_cv0I (m2 := 79) (rc := 4) rfl rfl rfl rfl rfl rfl (by decide) (tz_in0 rfl)).trans ?_
  refine tz_jI (fun y1 A1 => ?_)
  refine (tz_g_if_eq (t := 16) (by decide) (tz_in0 rfl)).trans ?_
  refine tz_cg ?_ ?_
  · skip
    refine (tz_g_aload_n rfl (tz_in0 rfl)).trans ?_
    refine (tz_g_getr (j := 13) rfl rfl rfl rfl rfl (tz_in0 rfl)).trans ?_
    refine (tz_g_iload_n rfl (tz_in0 rfl)).trans ?_
    exact ((tz_in0 rfl) _ _).trans rfl
  · skip
    refine (tz_g_aload_n rfl (tz_in0 rfl)).trans ?_
    refine (tz_g_getr (j := 13) rfl rfl rfl rfl rfl (tz_in0 rfl)).trans ?_
    refine (tz_g_iload_n rfl (tz_in0 rfl)).trans ?_
    refine (tz_g_cs2I (m2 := 80) (rc := 5) rfl rfl rfl rfl rfl rfl (by decide) (tz_in0 rfl)).trans ?_
    refine tz_jI (fun y2 A2 => ?_)
    exact tz_g_ret5 (tz_in0 rfl) rfl

theorem e_J0_charAt_s8 (x1 : Int32) (A : tz_Mem) : f_J0_charAt_s8 x1 A =
  tz_bI (f_J0_isLatin1_s8 A) (fun y1 A1 =>
if y1 = 0 then
  none
else
  tz_bI (f_J1_charAt_s14 x1 A1) (fun y2 A2 =>
  if (Int32.toUInt32 y2 % 65536).toInt32 = y2 then some (some (.int y2), A2) else none)) := by
  refine (tz_Fe (L := [some (.ref 8), some (.int x1)]) rfl).trans ?_
  refine (tz_g_aload_n rfl (tz_in0 rfl)).trans ?_
  refine (tz_g_cv0I (m2 := 79) (rc := 4) rfl rfl rfl rfl rfl rfl (by decide) (tz_in0 rfl)).trans ?_
  refine tz_jI (fun y1 A1 => ?_)
  refine (tz_g_if_eq (t := 16) (by decide) (tz_in0 rfl)).trans ?_
  refine tz_cg ?_ ?_
  · skip
    refine (tz_g_aload_n rfl (tz_in0 rfl)).trans ?_
    refine (tz_g_getr (j := 14) rfl rfl rfl rfl rfl (tz_in0 rfl)).trans ?_
    refine (tz_g_iload_n rfl (tz_in0 rfl)).trans ?_
    exact ((tz_in0 rfl) _ _).trans rfl
  · skip
    refine (tz_g_aload_n rfl (tz_in0 rfl)).trans ?_
    refine (tz_g_getr (j := 14) rfl rfl rfl rfl rfl (tz_in0 rfl)).trans ?_
    refine (tz_g_iload_n rfl (tz_in0 rfl)).trans ?_
    refine (tz_g_cs2I (m2 := 80) (rc := 5) rfl rfl rfl rfl rfl rfl (by decide) (tz_in0 rfl)).trans ?_
    refine tz_jI (fun y2 A2 => ?_)
    exact tz_g_ret5 (tz_in0 rfl) rfl

theorem e_J0_charAt_s9 (x1 : Int32) (A : tz_Mem) : f_J0_charAt_s9 x1 A =
  tz_bI (f_J0_isLatin1_s9 A) (fun y1 A1 =>
if y1 = 0 then
  none
else
  tz_bI (f_J1_charAt_s15 x1 A1) (fun y2 A2 =>
  if (Int32.toUInt32 y2 % 65536).toInt32 = y2 then some (some (.int y2), A2) else none)) := by
  refine (tz_Fe (L := [some (.ref 9), some (.int x1)]) rfl).trans ?_
  refine (tz_g_aload_n rfl (tz_in0 rfl)).trans ?_
  refine (tz_g_cv0I (m2 := 79) (rc := 4) rfl rfl rfl rfl rfl rfl (by decide) (tz_in0 rfl)).trans ?_
  refine tz_jI (fun y1 A1 => ?_)
  refine (tz_g_if_eq (t := 16) (by decide) (tz_in0 rfl)).trans ?_
  refine tz_cg ?_ ?_
  · skip
    refine (tz_g_aload_n rfl (tz_in0 rfl)).trans ?_
    refine (tz_g_getr (j := 15) rfl rfl rfl rfl rfl (tz_in0 rfl)).trans ?_
    refine (tz_g_iload_n rfl (tz_in0 rfl)).trans ?_
    exact ((tz_in0 rfl) _ _).trans rfl
  · skip
    refine (tz_g_aload_n rfl (tz_in0 rfl)).trans ?_
    refine (tz_g_getr (j := 15) rfl rfl rfl rfl rfl (tz_in0 rfl)).trans ?_
    refine (tz_g_iload_n rfl (tz_in0 rfl)).trans ?_
    refine (tz_g_cs2I (m2 := 80) (rc := 5) rfl rfl rfl rfl rfl rfl (by decide) (tz_in0 rfl)).trans ?_
    refine tz_jI (fun y2 A2 => ?_)
    exact tz_g_ret5 (tz_in0 rfl) rfl

theorem e_J0_charAt_s10 (x1 : Int32) (A : tz_Mem) : f_J0_charAt_s10 x1 A =
  tz_bI (f_J0_isLatin1_s10 A) (fun y1 A1 =>
if y1 = 0 then
  none
else
  tz_bI (f_J1_charAt_s16 x1 A1) (fun y2 A2 =>
  if (Int32.toUInt32 y2 % 65536).toInt32 = y2 then some (some (.int y2), A2) else none)) := by
  refine (tz_Fe (L := [some (.ref 10), some (.int x1)]) rfl).trans ?_
  refine (tz_g_aload_n rfl (tz_in0 rfl)).trans ?_
  refine (tz_g_cv0I (m2 := 79) (rc := 4) rfl rfl rfl rfl rfl rfl (by decide) (tz_in0 rfl)).trans ?_
  refine tz_jI (fun y1 A1 => ?_)
  refine (tz_g_if_eq (t := 16) (by decide) (tz_in0 rfl)).trans ?_
  refine tz_cg ?_ ?_
  · skip
    refine (tz_g_aload_n rfl (tz_in0 rfl)).trans ?_
    refine (tz_g_getr (j := 16) rfl rfl rfl rfl rfl (tz_in0 rfl)).trans ?_
    refine (tz_g_iload_n rfl (tz_in0 rfl)).trans ?_
    exact ((tz_in0 rfl) _ _).trans rfl
  · skip
    refine (tz_g_aload_n rfl (tz_in0 rfl)).trans ?_
    refine (tz_g_getr (j := 16) rfl rfl rfl rfl rfl (tz_in0 rfl)).trans ?_
    refine (tz_g_iload_n rfl (tz_in0 rfl)).trans ?_
    refine (tz_g_cs2I (m2 := 80) (rc := 5) rfl rfl rfl rfl rfl rfl (by decide) (tz_in0 rfl)).trans ?_
    refine tz_jI (fun y2 A2 => ?_)
    exact tz_g_ret5 (tz_in0 rfl) rfl

theorem e_X7_readWay (A : tz_Mem) : f_X7_readWay A =
  q_X7_readWay_4 0 (-1) A := by
  refine (tz_Fe (L := [some (.ref 122), none, none, none]) rfl).trans ?_
  refine (tz_g_iconst (v := 0) rfl (tz_in0 rfl)).trans ?_
  refine (tz_g_istore_n (L2 := [some (.ref 122), some (.int 0), none, none]) rfl rfl (tz_in0 rfl)).trans ?_
  refine (tz_g_iconst (v := (-1)) rfl (tz_in0 rfl)).trans ?_
  refine (tz_g_istore_n (L2 := [some (.ref 122), some (.int 0), some (.int (-1)), none]) rfl rfl (tz_in0 rfl)).trans ?_
  exact tz_Gm (L2 := [some (.ref 122), some (.int 0), some (.int (-1)), none]) rfl rfl rfl rfl

theorem e_X7_readWay_4 (z1 : Int32) (z2 : Int32) (A : tz_Mem) : q_X7_readWay_4 z1 z2 A =
  if ¬ (tz_g A 122 0) = (-1) then
  if ¬ (tz_g A 122 0) = (-1) then
    some (some (.int z1), A)
  else
    if (0 : Int32) < 0 ∨ 6 ≤ 0 then none else
    if ¬ z2 = (tz_g A 147 0) then
      some (some (.int z1), A)
    else
      some (some (.int z1), (tz_s A 122 0 (tz_g A 122 6)))
else
  if z1 < 2 then
    tz_bI (f_X7_readHillNumber A) (fun y1 A1 =>
    if ¬ (tz_g A1 122 0) = (-1) then
      if z1 < 0 ∨ 6 ≤ (Int32.toNatClampNeg z1) then none else
      q_X7_readWay_4 (z1 + 1) y1 (tz_s A1 147 (Int32.toNatClampNeg z1) y1)
    else
      if ¬ y1 = z2 then
        if z1 < 0 ∨ 6 ≤ (Int32.toNatClampNeg z1) then none else
        q_X7_readWay_4 (z1 + 1) y1 (tz_s A1 147 (Int32.toNatClampNeg z1) y1)
      else
        if z1 < 0 ∨ 6 ≤ (Int32.toNatClampNeg z1) then none else
        q_X7_readWay_4 (z1 + 1) y1 (tz_s (tz_s A1 122 0 (tz_g A1 122 6)) 147 (Int32.toNatClampNeg z1) y1))
  else
    if 6 ≤ z1 then
      if ¬ (tz_g A 122 0) = (-1) then
        some (some (.int z1), A)
      else
        if (0 : Int32) < 0 ∨ 6 ≤ 0 then none else
        if ¬ z2 = (tz_g A 147 0) then
          some (some (.int z1), A)
        else
          some (some (.int z1), (tz_s A 122 0 (tz_g A 122 6)))
    else
      tz_bI (f_X7_stands 32 A) (fun y1 A1 =>
      if y1 = 0 then
        if ¬ (tz_g A1 122 0) = (-1) then
          some (some (.int z1), A1)
        else
          if (0 : Int32) < 0 ∨ 6 ≤ 0 then none else
          if ¬ z2 = (tz_g A1 147 0) then
            some (some (.int z1), A1)
          else
            some (some (.int z1), (tz_s A1 122 0 (tz_g A1 122 6)))
      else
        tz_bI (f_X7_readHillNumber A1) (fun y2 A2 =>
        if ¬ (tz_g A2 122 0) = (-1) then
          if z1 < 0 ∨ 6 ≤ (Int32.toNatClampNeg z1) then none else
          q_X7_readWay_4 (z1 + 1) y2 (tz_s A2 147 (Int32.toNatClampNeg z1) y2)
        else
          if ¬ y2 = z2 then
            if z1 < 0 ∨ 6 ≤ (Int32.toNatClampNeg z1) then none else
            q_X7_readWay_4 (z1 + 1) y2 (tz_s A2 147 (Int32.toNatClampNeg z1) y2)
          else
            if z1 < 0 ∨ 6 ≤ (Int32.toNatClampNeg z1) then none else
            q_X7_readWay_4 (z1 + 1) y2 (tz_s (tz_s A2 122 0 (tz_g A2 122 6)) 147 (Int32.toNatClampNeg z1) y2))) := by
  show tz_Go 89 4 [some (.ref 122), some (.int z1), some (.int z2), none] [] A = _
  refine (tz_g_aload_n rfl (tz_inM rfl rfl rfl)).trans ?_
  refine (tz_g_geti rfl rfl rfl (tz_in0 rfl)).trans ?_
  refine (tz_g_iconst (v := (-1)) rfl (tz_in0 rfl)).trans ?_
  refine (tz_g_ic_ne (t := 73) (by decide) (tz_in0 rfl)).trans ?_
  refine tz_cg ?_ ?_
  · skip
    refine (tz_g_aload_n rfl (tz_in0 rfl)).trans ?_
    refine (tz_g_geti rfl rfl rfl (tz_in0 rfl)).trans ?_
    refine (tz_g_iconst (v := (-1)) rfl (tz_in0 rfl)).trans ?_
    refine (tz_g_ic_ne (t := 99) (by decide) (tz_in0 rfl)).trans ?_
    refine tz_cg ?_ ?_
    · skip
      refine (tz_g_iload_n rfl (tz_in0 rfl)).trans ?_
      exact tz_g_ret1 (tz_in0 rfl) rfl
    · skip
      refine (tz_g_iload_n rfl (tz_in0 rfl)).trans ?_
      refine (tz_g_aload_n rfl (tz_in0 rfl)).trans ?_
      refine (tz_g_getr (j := 147) rfl rfl rfl rfl rfl (tz_in0 rfl)).trans ?_
      refine (tz_g_iconst (v := 0) rfl (tz_in0 rfl)).trans ?_
      refine (tz_g_iald (n := 6) rfl rfl rfl (tz_in0 rfl)).trans ?_
      refine tz_cn1 ?_
      refine (tz_g_ic_ne (t := 99) (by decide) (tz_in0 rfl)).trans ?_
      refine tz_cg ?_ ?_
      · skip
        refine (tz_g_iload_n rfl (tz_in0 rfl)).trans ?_
        exact tz_g_ret1 (tz_in0 rfl) rfl
      · skip
        refine (tz_g_aload_n rfl (tz_in0 rfl)).trans ?_
        refine (tz_g_aload_n rfl (tz_in0 rfl)).trans ?_
        refine (tz_g_geti rfl rfl rfl (tz_in0 rfl)).trans ?_
        refine (tz_g_puti rfl rfl rfl (tz_in0 rfl)).trans ?_
        refine (tz_g_iload_n rfl (tz_in0 rfl)).trans ?_
        exact tz_g_ret1 (tz_in0 rfl) rfl
  · skip
    refine (tz_g_iload_n rfl (tz_in0 rfl)).trans ?_
    refine (tz_g_iconst (v := 2) rfl (tz_in0 rfl)).trans ?_
    refine (tz_g_ic_lt (t := 32) (by decide) (tz_in0 rfl)).trans ?_
    refine tz_cg ?_ ?_
    · skip
      refine (tz_g_aload_n rfl (tz_in0 rfl)).trans ?_
      refine (tz_g_cv0I (m2 := 90) (rc := 1) rfl rfl rfl rfl rfl rfl (by decide) (tz_in0 rfl)).trans ?_
      refine tz_jI (fun y1 A1 => ?_)
      refine (tz_g_istore_n (L2 := [some (.ref 122), some (.int z1), some (.int z2), some (.int y1)]) rfl rfl (tz_in0 rfl)).trans ?_
      refine (tz_g_aload_n rfl (tz_in0 rfl)).trans ?_
      refine (tz_g_geti rfl rfl rfl (tz_in0 rfl)).trans ?_
      refine (tz_g_iconst (v := (-1)) rfl (tz_in0 rfl)).trans ?_
      refine (tz_g_ic_ne (t := 58) (by decide) (tz_in0 rfl)).trans ?_
      refine tz_cg ?_ ?_
      · skip
        refine (tz_g_aload_n rfl (tz_in0 rfl)).trans ?_
        refine (tz_g_getr (j := 147) rfl rfl rfl rfl rfl (tz_in0 rfl)).trans ?_
        refine (tz_g_iload_n rfl (tz_in0 rfl)).trans ?_
        refine (tz_g_iload_n rfl (tz_in0 rfl)).trans ?_
        refine (tz_g_iast (n := 6) rfl rfl rfl (tz_in0 rfl)).trans ?_
        refine tz_cn1 ?_
        refine (tz_g_iload_n rfl (tz_in0 rfl)).trans ?_
        refine (tz_g_istore_n (L2 := [some (.ref 122), some (.int z1), some (.int y1), some (.int y1)]) rfl rfl (tz_in0 rfl)).trans ?_
        refine (tz_g_iinc (v := 1) (L2 := [some (.ref 122), some (.int (z1 + 1)), some (.int y1), some (.int y1)]) rfl rfl rfl rfl (tz_in0 rfl)).trans ?_
        refine (tz_g_goto (t := 4) (by decide) (tz_in0 rfl)).trans ?_
        exact tz_Gm (L2 := [some (.ref 122), some (.int (z1 + 1)), some (.int y1), none]) rfl rfl rfl rfl
      · skip
        refine (tz_g_iload_n rfl (tz_in0 rfl)).trans ?_
        refine (tz_g_iload_n rfl (tz_in0 rfl)).trans ?_
        refine (tz_g_ic_ne (t := 58) (by decide) (tz_in0 rfl)).trans ?_
        refine tz_cg ?_ ?_
        · skip
          refine (tz_g_aload_n rfl (tz_in0 rfl)).trans ?_
          refine (tz_g_getr (j := 147) rfl rfl rfl rfl rfl (tz_in0 rfl)).trans ?_
          refine (tz_g_iload_n rfl (tz_in0 rfl)).trans ?_
          refine (tz_g_iload_n rfl (tz_in0 rfl)).trans ?_
          refine (tz_g_iast (n := 6) rfl rfl rfl (tz_in0 rfl)).trans ?_
          refine tz_cn1 ?_
          refine (tz_g_iload_n rfl (tz_in0 rfl)).trans ?_
          refine (tz_g_istore_n (L2 := [some (.ref 122), some (.int z1), some (.int y1), some (.int y1)]) rfl rfl (tz_in0 rfl)).trans ?_
          refine (tz_g_iinc (v := 1) (L2 := [some (.ref 122), some (.int (z1 + 1)), some (.int y1), some (.int y1)]) rfl rfl rfl rfl (tz_in0 rfl)).trans ?_
          refine (tz_g_goto (t := 4) (by decide) (tz_in0 rfl)).trans ?_
          exact tz_Gm (L2 := [some (.ref 122), some (.int (z1 + 1)), some (.int y1), none]) rfl rfl rfl rfl
        · skip
          refine (tz_g_aload_n rfl (tz_in0 rfl)).trans ?_
          refine (tz_g_aload_n rfl (tz_in0 rfl)).trans ?_
          refine (tz_g_geti rfl rfl rfl (tz_in0 rfl)).trans ?_
          refine (tz_g_puti rfl rfl rfl (tz_in0 rfl)).trans ?_
          refine (tz_g_aload_n rfl (tz_in0 rfl)).trans ?_
          refine (tz_g_getr (j := 147) rfl rfl rfl rfl rfl (tz_in0 rfl)).trans ?_
          refine (tz_g_iload_n rfl (tz_in0 rfl)).trans ?_
          refine (tz_g_iload_n rfl (tz_in0 rfl)).trans ?_
          refine (tz_g_iast (n := 6) rfl rfl rfl (tz_in0 rfl)).trans ?_
          refine tz_cn1 ?_
          refine (tz_g_iload_n rfl (tz_in0 rfl)).trans ?_
          refine (tz_g_istore_n (L2 := [some (.ref 122), some (.int z1), some (.int y1), some (.int y1)]) rfl rfl (tz_in0 rfl)).trans ?_
          refine (tz_g_iinc (v := 1) (L2 := [some (.ref 122), some (.int (z1 + 1)), some (.int y1), some (.int y1)]) rfl rfl rfl rfl (tz_in0 rfl)).trans ?_
          refine (tz_g_goto (t := 4) (by decide) (tz_in0 rfl)).trans ?_
          exact tz_Gm (L2 := [some (.ref 122), some (.int (z1 + 1)), some (.int y1), none]) rfl rfl rfl rfl
    · skip
      refine (tz_g_iload_n rfl (tz_in0 rfl)).trans ?_
      refine (tz_g_bipush (v := 6) rfl (tz_in0 rfl)).trans ?_
      refine (tz_g_ic_ge (t := 73) (by decide) (tz_in0 rfl)).trans ?_
      refine tz_cg ?_ ?_
      · skip
        refine (tz_g_aload_n rfl (tz_in0 rfl)).trans ?_
        refine (tz_g_geti rfl rfl rfl (tz_in0 rfl)).trans ?_
        refine (tz_g_iconst (v := (-1)) rfl (tz_in0 rfl)).trans ?_
        refine (tz_g_ic_ne (t := 99) (by decide) (tz_in0 rfl)).trans ?_
        refine tz_cg ?_ ?_
        · skip
          refine (tz_g_iload_n rfl (tz_in0 rfl)).trans ?_
          exact tz_g_ret1 (tz_in0 rfl) rfl
        · skip
          refine (tz_g_iload_n rfl (tz_in0 rfl)).trans ?_
          refine (tz_g_aload_n rfl (tz_in0 rfl)).trans ?_
          refine (tz_g_getr (j := 147) rfl rfl rfl rfl rfl (tz_in0 rfl)).trans ?_
          refine (tz_g_iconst (v := 0) rfl (tz_in0 rfl)).trans ?_
          refine (tz_g_iald (n := 6) rfl rfl rfl (tz_in0 rfl)).trans ?_
          refine tz_cn1 ?_
          refine (tz_g_ic_ne (t := 99) (by decide) (tz_in0 rfl)).trans ?_
          refine tz_cg ?_ ?_
          · skip
            refine (tz_g_iload_n rfl (tz_in0 rfl)).trans ?_
            exact tz_g_ret1 (tz_in0 rfl) rfl
          · skip
            refine (tz_g_aload_n rfl (tz_in0 rfl)).trans ?_
            refine (tz_g_aload_n rfl (tz_in0 rfl)).trans ?_
            refine (tz_g_geti rfl rfl rfl (tz_in0 rfl)).trans ?_
            refine (tz_g_puti rfl rfl rfl (tz_in0 rfl)).trans ?_
            refine (tz_g_iload_n rfl (tz_in0 rfl)).trans ?_
            exact tz_g_ret1 (tz_in0 rfl) rfl
      · skip
        refine (tz_g_aload_n rfl (tz_in0 rfl)).trans ?_
        refine (tz_g_bipush (v := 32) rfl (tz_in0 rfl)).trans ?_
        refine (tz_g_cv1I (m2 := 86) (rc := 4) rfl rfl rfl rfl rfl rfl (by decide) (tz_in0 rfl)).trans ?_
        refine tz_jI (fun y1 A1 => ?_)
        refine (tz_g_if_eq (t := 73) (by decide) (tz_in0 rfl)).trans ?_
        refine tz_cg ?_ ?_
        · skip
          refine (tz_g_aload_n rfl (tz_in0 rfl)).trans ?_
          refine (tz_g_geti rfl rfl rfl (tz_in0 rfl)).trans ?_
          refine (tz_g_iconst (v := (-1)) rfl (tz_in0 rfl)).trans ?_
          refine (tz_g_ic_ne (t := 99) (by decide) (tz_in0 rfl)).trans ?_
          refine tz_cg ?_ ?_
          · skip
            refine (tz_g_iload_n rfl (tz_in0 rfl)).trans ?_
            exact tz_g_ret1 (tz_in0 rfl) rfl
          · skip
            refine (tz_g_iload_n rfl (tz_in0 rfl)).trans ?_
            refine (tz_g_aload_n rfl (tz_in0 rfl)).trans ?_
            refine (tz_g_getr (j := 147) rfl rfl rfl rfl rfl (tz_in0 rfl)).trans ?_
            refine (tz_g_iconst (v := 0) rfl (tz_in0 rfl)).trans ?_
            refine (tz_g_iald (n := 6) rfl rfl rfl (tz_in0 rfl)).trans ?_
            refine tz_cn1 ?_
            refine (tz_g_ic_ne (t := 99) (by decide) (tz_in0 rfl)).trans ?_
            refine tz_cg ?_ ?_
            · skip
              refine (tz_g_iload_n rfl (tz_in0 rfl)).trans ?_
              exact tz_g_ret1 (tz_in0 rfl) rfl
            · skip
              refine (tz_g_aload_n rfl (tz_in0 rfl)).trans ?_
              refine (tz_g_aload_n rfl (tz_in0 rfl)).trans ?_
              refine (tz_g_geti rfl rfl rfl (tz_in0 rfl)).trans ?_
              refine (tz_g_puti rfl rfl rfl (tz_in0 rfl)).trans ?_
              refine (tz_g_iload_n rfl (tz_in0 rfl)).trans ?_
              exact tz_g_ret1 (tz_in0 rfl) rfl
        · skip
          refine (tz_g_aload_n rfl (tz_in0 rfl)).trans ?_
          refine (tz_g_cv0I (m2 := 90) (rc := 1) rfl rfl rfl rfl rfl rfl (by decide) (tz_in0 rfl)).trans ?_
          refine tz_jI (fun y2 A2 => ?_)
          refine (tz_g_istore_n (L2 := [some (.ref 122), some (.int z1), some (.int z2), some (.int y2)]) rfl rfl (tz_in0 rfl)).trans ?_
          refine (tz_g_aload_n rfl (tz_in0 rfl)).trans ?_
          refine (tz_g_geti rfl rfl rfl (tz_in0 rfl)).trans ?_
          refine (tz_g_iconst (v := (-1)) rfl (tz_in0 rfl)).trans ?_
          refine (tz_g_ic_ne (t := 58) (by decide) (tz_in0 rfl)).trans ?_
          refine tz_cg ?_ ?_
          · skip
            refine (tz_g_aload_n rfl (tz_in0 rfl)).trans ?_
            refine (tz_g_getr (j := 147) rfl rfl rfl rfl rfl (tz_in0 rfl)).trans ?_
            refine (tz_g_iload_n rfl (tz_in0 rfl)).trans ?_
            refine (tz_g_iload_n rfl (tz_in0 rfl)).trans ?_
            refine (tz_g_iast (n := 6) rfl rfl rfl (tz_in0 rfl)).trans ?_
            refine tz_cn1 ?_
            refine (tz_g_iload_n rfl (tz_in0 rfl)).trans ?_
            refine (tz_g_istore_n (L2 := [some (.ref 122), some (.int z1), some (.int y2), some (.int y2)]) rfl rfl (tz_in0 rfl)).trans ?_
            refine (tz_g_iinc (v := 1) (L2 := [some (.ref 122), some (.int (z1 + 1)), some (.int y2), some (.int y2)]) rfl rfl rfl rfl (tz_in0 rfl)).trans ?_
            refine (tz_g_goto (t := 4) (by decide) (tz_in0 rfl)).trans ?_
            exact tz_Gm (L2 := [some (.ref 122), some (.int (z1 + 1)), some (.int y2), none]) rfl rfl rfl rfl
          · skip
            refine (tz_g_iload_n rfl (tz_in0 rfl)).trans ?_
            refine (tz_g_iload_n rfl (tz_in0 rfl)).trans ?_
            refine (tz_g_ic_ne (t := 58) (by decide) (tz_in0 rfl)).trans ?_
            refine tz_cg ?_ ?_
            · skip
              refine (tz_g_aload_n rfl (tz_in0 rfl)).trans ?_
              refine (tz_g_getr (j := 147) rfl rfl rfl rfl rfl (tz_in0 rfl)).trans ?_
              refine (tz_g_iload_n rfl (tz_in0 rfl)).trans ?_
              refine (tz_g_iload_n rfl (tz_in0 rfl)).trans ?_
              refine (tz_g_iast (n := 6) rfl rfl rfl (tz_in0 rfl)).trans ?_
              refine tz_cn1 ?_
              refine (tz_g_iload_n rfl (tz_in0 rfl)).trans ?_
              refine (tz_g_istore_n (L2 := [some (.ref 122), some (.int z1), some (.int y2), some (.int y2)]) rfl rfl (tz_in0 rfl)).trans ?_
              refine (tz_g_iinc (v := 1) (L2 := [some (.ref 122), some (.int (z1 + 1)), some (.int y2), some (.int y2)]) rfl rfl rfl rfl (tz_in0 rfl)).trans ?_
              refine (tz_g_goto (t := 4) (by decide) (tz_in0 rfl)).trans ?_
              exact tz_Gm (L2 := [some (.ref 122), some (.int (z1 + 1)), some (.int y2), none]) rfl rfl rfl rfl
            · skip
              refine (tz_g_aload_n rfl (tz_in0 rfl)).trans ?_
              refine (tz_g_aload_n rfl (tz_in0 rfl)).trans ?_
              refine (tz_g_geti rfl rfl rfl (tz_in0 rfl)).trans ?_
              refine (tz_g_puti rfl rfl rfl (tz_in0 rfl)).trans ?_
              refine (tz_g_aload_n rfl (tz_in0 rfl)).trans ?_
              refine (tz_g_getr (j := 147) rfl rfl rfl rfl rfl (tz_in0 rfl)).trans ?_
              refine (tz_g_iload_n rfl (tz_in0 rfl)).trans ?_
              refine (tz_g_iload_n rfl (tz_in0 rfl)).trans ?_
              refine (tz_g_iast (n := 6) rfl rfl rfl (tz_in0 rfl)).trans ?_
              refine tz_cn1 ?_
              refine (tz_g_iload_n rfl (tz_in0 rfl)).trans ?_
              refine (tz_g_istore_n (L2 := [some (.ref 122), some (.int z1), some (.int y2), some (.int y2)]) rfl rfl (tz_in0 rfl)).trans ?_
              refine (tz_g_iinc (v := 1) (L2 := [some (.ref 122), some (.int (z1 + 1)), some (.int y2), some (.int y2)]) rfl rfl rfl rfl (tz_in0 rfl)).trans ?_
              refine (tz_g_goto (t := 4) (by decide) (tz_in0 rfl)).trans ?_
              exact tz_Gm (L2 := [some (.ref 122), some (.int (z1 + 1)), some (.int y2), none]) rfl rfl rfl rfl

theorem e_X7_readLetter (A : tz_Mem) : f_X7_readLetter A =
  tz_bI (f_X7_readNumber 0 9999 A) (fun y1 A1 =>
tz_bI (f_X7_readHillNumber A1) (fun y2 A2 =>
tz_bI (f_X7_readHillNumber A2) (fun y3 A3 =>
if ¬ (tz_g A3 122 0) = (-1) then
  tz_bI (f_X7_readNumber 1 99 A3) (fun y4 A4 =>
  if ¬ (tz_g A4 122 0) = (-1) then
    some (none, A4)
  else
    tz_bI (f_X9_addLetter 124 y1 y2 y3 y4 A4) (fun y5 A5 =>
    some (none, A5)))
else
  if ¬ y3 = y2 then
    tz_bI (f_X7_readNumber 1 99 A3) (fun y4 A4 =>
    if ¬ (tz_g A4 122 0) = (-1) then
      some (none, A4)
    else
      tz_bI (f_X9_addLetter 124 y1 y2 y3 y4 A4) (fun y5 A5 =>
      some (none, A5)))
  else
    tz_bI (f_X7_readNumber 1 99 (tz_s A3 122 0 (tz_g A3 122 6))) (fun y4 A4 =>
    if ¬ (tz_g A4 122 0) = (-1) then
      some (none, A4)
    else
      tz_bI (f_X9_addLetter 124 y1 y2 y3 y4 A4) (fun y5 A5 =>
      some (none, A5)))))) := by
  refine (tz_Fe (L := [some (.ref 122), none, none, none, none]) rfl).trans ?_
  refine (tz_g_aload_n rfl (tz_in0 rfl)).trans ?_
  refine (tz_g_iconst (v := 0) rfl (tz_in0 rfl)).trans ?_
  refine (tz_g_sipush (v := 9999) rfl (tz_in0 rfl)).trans ?_
  refine (tz_g_cv2I (m2 := 85) (rc := 1) rfl rfl rfl rfl rfl rfl (by decide) (tz_in0 rfl)).trans ?_
  refine tz_jI (fun y1 A1 => ?_)
  refine (tz_g_istore_n (L2 := [some (.ref 122), some (.int y1), none, none, none]) rfl rfl (tz_in0 rfl)).trans ?_
  refine (tz_g_aload_n rfl (tz_in0 rfl)).trans ?_
  refine (tz_g_cv0I (m2 := 90) (rc := 1) rfl rfl rfl rfl rfl rfl (by decide) (tz_in0 rfl)).trans ?_
  refine tz_jI (fun y2 A2 => ?_)
  refine (tz_g_istore_n (L2 := [some (.ref 122), some (.int y1), some (.int y2), none, none]) rfl rfl (tz_in0 rfl)).trans ?_
  refine (tz_g_aload_n rfl (tz_in0 rfl)).trans ?_
  refine (tz_g_cv0I (m2 := 90) (rc := 1) rfl rfl rfl rfl rfl rfl (by decide) (tz_in0 rfl)).trans ?_
  refine tz_jI (fun y3 A3 => ?_)
  refine (tz_g_istore_n (L2 := [some (.ref 122), some (.int y1), some (.int y2), some (.int y3), none]) rfl rfl (tz_in0 rfl)).trans ?_
  refine (tz_g_aload_n rfl (tz_in0 rfl)).trans ?_
  refine (tz_g_geti rfl rfl rfl (tz_in0 rfl)).trans ?_
  refine (tz_g_iconst (v := (-1)) rfl (tz_in0 rfl)).trans ?_
  refine (tz_g_ic_ne (t := 40) (by decide) (tz_in0 rfl)).trans ?_
  refine tz_cg ?_ ?_
  · skip
    refine (tz_g_aload_n rfl (tz_in0 rfl)).trans ?_
    refine (tz_g_iconst (v := 1) rfl (tz_in0 rfl)).trans ?_
    refine (tz_g_bipush (v := 99) rfl (tz_in0 rfl)).trans ?_
    refine (tz_g_cv2I (m2 := 85) (rc := 1) rfl rfl rfl rfl rfl rfl (by decide) (tz_in0 rfl)).trans ?_
    refine tz_jI (fun y4 A4 => ?_)
    refine (tz_g_istore (L2 := [some (.ref 122), some (.int y1), some (.int y2), some (.int y3), some (.int y4)]) rfl rfl (tz_in0 rfl)).trans ?_
    refine (tz_g_aload_n rfl (tz_in0 rfl)).trans ?_
    refine (tz_g_geti rfl rfl rfl (tz_in0 rfl)).trans ?_
    refine (tz_g_iconst (v := (-1)) rfl (tz_in0 rfl)).trans ?_
    refine (tz_g_ic_ne (t := 70) (by decide) (tz_in0 rfl)).trans ?_
    refine tz_cg ?_ ?_
    · skip
      exact tz_g_ret0 (tz_in0 rfl) rfl
    · skip
      refine (tz_g_aload_n rfl (tz_in0 rfl)).trans ?_
      refine (tz_g_getr (j := 124) rfl rfl rfl rfl rfl (tz_in0 rfl)).trans ?_
      refine (tz_g_iload_n rfl (tz_in0 rfl)).trans ?_
      refine (tz_g_iload_n rfl (tz_in0 rfl)).trans ?_
      refine (tz_g_iload_n rfl (tz_in0 rfl)).trans ?_
      refine (tz_g_iload rfl (tz_in0 rfl)).trans ?_
      refine (tz_g_cv4I (m2 := 52) (rc := 1) rfl rfl rfl rfl rfl rfl (by decide) (tz_in0 rfl)).trans ?_
      refine tz_jI (fun y5 A5 => ?_)
      refine (tz_g_pop rfl (tz_in0 rfl)).trans ?_
      exact tz_g_ret0 (tz_in0 rfl) rfl
  · skip
    refine (tz_g_iload_n rfl (tz_in0 rfl)).trans ?_
    refine (tz_g_iload_n rfl (tz_in0 rfl)).trans ?_
    refine (tz_g_ic_ne (t := 40) (by decide) (tz_in0 rfl)).trans ?_
    refine tz_cg ?_ ?_
    · skip
      refine (tz_g_aload_n rfl (tz_in0 rfl)).trans ?_
      refine (tz_g_iconst (v := 1) rfl (tz_in0 rfl)).trans ?_
      refine (tz_g_bipush (v := 99) rfl (tz_in0 rfl)).trans ?_
      refine (tz_g_cv2I (m2 := 85) (rc := 1) rfl rfl rfl rfl rfl rfl (by decide) (tz_in0 rfl)).trans ?_
      refine tz_jI (fun y4 A4 => ?_)
      refine (tz_g_istore (L2 := [some (.ref 122), some (.int y1), some (.int y2), some (.int y3), some (.int y4)]) rfl rfl (tz_in0 rfl)).trans ?_
      refine (tz_g_aload_n rfl (tz_in0 rfl)).trans ?_
      refine (tz_g_geti rfl rfl rfl (tz_in0 rfl)).trans ?_
      refine (tz_g_iconst (v := (-1)) rfl (tz_in0 rfl)).trans ?_
      refine (tz_g_ic_ne (t := 70) (by decide) (tz_in0 rfl)).trans ?_
      refine tz_cg ?_ ?_
      · skip
        exact tz_g_ret0 (tz_in0 rfl) rfl
      · skip
        refine (tz_g_aload_n rfl (tz_in0 rfl)).trans ?_
        refine (tz_g_getr (j := 124) rfl rfl rfl rfl rfl (tz_in0 rfl)).trans ?_
        refine (tz_g_iload_n rfl (tz_in0 rfl)).trans ?_
        refine (tz_g_iload_n rfl (tz_in0 rfl)).trans ?_
        refine (tz_g_iload_n rfl (tz_in0 rfl)).trans ?_
        refine (tz_g_iload rfl (tz_in0 rfl)).trans ?_
        refine (tz_g_cv4I (m2 := 52) (rc := 1) rfl rfl rfl rfl rfl rfl (by decide) (tz_in0 rfl)).trans ?_
        refine tz_jI (fun y5 A5 => ?_)
        refine (tz_g_pop rfl (tz_in0 rfl)).trans ?_
        exact tz_g_ret0 (tz_in0 rfl) rfl
    · skip
      refine (tz_g_aload_n rfl (tz_in0 rfl)).trans ?_
      refine (tz_g_aload_n rfl (tz_in0 rfl)).trans ?_
      refine (tz_g_geti rfl rfl rfl (tz_in0 rfl)).trans ?_
      refine (tz_g_puti rfl rfl rfl (tz_in0 rfl)).trans ?_
      refine (tz_g_aload_n rfl (tz_in0 rfl)).trans ?_
      refine (tz_g_iconst (v := 1) rfl (tz_in0 rfl)).trans ?_
      refine (tz_g_bipush (v := 99) rfl (tz_in0 rfl)).trans ?_
      refine (tz_g_cv2I (m2 := 85) (rc := 1) rfl rfl rfl rfl rfl rfl (by decide) (tz_in0 rfl)).trans ?_
      refine tz_jI (fun y4 A4 => ?_)
      refine (tz_g_istore (L2 := [some (.ref 122), some (.int y1), some (.int y2), some (.int y3), some (.int y4)]) rfl rfl (tz_in0 rfl)).trans ?_
      refine (tz_g_aload_n rfl (tz_in0 rfl)).trans ?_
      refine (tz_g_geti rfl rfl rfl (tz_in0 rfl)).trans ?_
      refine (tz_g_iconst (v := (-1)) rfl (tz_in0 rfl)).trans ?_
      refine (tz_g_ic_ne (t := 70) (by decide) (tz_in0 rfl)).trans ?_
      refine tz_cg ?_ ?_
      · skip
        exact tz_g_ret0 (tz_in0 rfl) rfl
      · skip
        refine (tz_g_aload_n rfl (tz_in0 rfl)).trans ?_
        refine (tz_g_getr (j := 124) rfl rfl rfl rfl rfl (tz_in0 rfl)).trans ?_
        refine (tz_g_iload_n rfl (tz_in0 rfl)).trans ?_
        refine (tz_g_iload_n rfl (tz_in0 rfl)).trans ?_
        refine (tz_g_iload_n rfl (tz_in0 rfl)).trans ?_
        refine (tz_g_iload rfl (tz_in0 rfl)).trans ?_
        refine (tz_g_cv4I (m2 := 52) (rc := 1) rfl rfl rfl rfl rfl rfl (by decide) (tz_in0 rfl)).trans ?_
        refine tz_jI (fun y5 A5 => ?_)
        refine (tz_g_pop rfl (tz_in0 rfl)).trans ?_
        exact tz_g_ret0 (tz_in0 rfl) rfl

theorem e_X9_goOn (b : Nat) (x1 : Int32) (hb : tz_sky b) (A : tz_Mem) : f_X9_goOn b x1 A =
  tz_bV (f_X10_goOn b x1 A) (fun A1 =>
tz_bI (f_X10_hillOfStorm b x1 A1) (fun y2 A2 =>
if x1 < 0 ∨ 4 ≤ (Int32.toNatClampNeg x1) then none else
if x1 < 0 ∨ 4 ≤ (Int32.toNatClampNeg x1) then none else
q_X9_goOn_40 b x1 y2 (tz_g A2 (b + 14) (Int32.toNatClampNeg x1)) 0 (tz_s A2 (b + 14) (Int32.toNatClampNeg x1) 0))) := by
  obtain rfl | rfl | rfl | rfl | rfl := hb
  all_goals
    refine (tz_Fe (L := [some (.ref _), some (.int x1), none, none, none, none]) rfl).trans ?_
    refine (tz_g_aload_n rfl (tz_in0 rfl)).trans ?_
    refine (tz_g_getr (j := _) rfl rfl rfl rfl rfl (tz_in0 rfl)).trans ?_
    refine (tz_g_iload_n rfl (tz_in0 rfl)).trans ?_
    refine (tz_g_cv1V (m2 := 96) (rc := 0) rfl rfl rfl rfl rfl rfl (by decide) (tz_in0 rfl)).trans ?_
    refine tz_jV (fun A1 => ?_)
    refine (tz_g_aload_n rfl (tz_in0 rfl)).trans ?_
    refine (tz_g_getr (j := _) rfl rfl rfl rfl rfl (tz_in0 rfl)).trans ?_
    refine (tz_g_iload_n rfl (tz_in0 rfl)).trans ?_
    refine (tz_g_cv1I (m2 := 56) (rc := 1) rfl rfl rfl rfl rfl rfl (by decide) (tz_in0 rfl)).trans ?_
    refine tz_jI (fun y2 A2 => ?_)
    refine (tz_g_istore_n (L2 := [some (.ref _), some (.int x1), some (.int y2), none, none, none]) rfl rfl (tz_in0 rfl)).trans ?_
    refine (tz_g_aload_n rfl (tz_in0 rfl)).trans ?_
    refine (tz_g_getr (j := _) rfl rfl rfl rfl rfl (tz_in0 rfl)).trans ?_
    refine (tz_g_getr (j := _) rfl rfl rfl rfl rfl (tz_in0 rfl)).trans ?_
    refine (tz_g_iload_n rfl (tz_in0 rfl)).trans ?_
    refine (tz_g_iald (n := 4) rfl rfl rfl (tz_in0 rfl)).trans ?_
    refine tz_cn1 ?_
    refine (tz_g_istore_n (L2 := [some (.ref _), some (.int x1), some (.int y2), some (.int _), none, none]) rfl rfl (tz_in0 rfl)).trans ?_
    refine (tz_g_aload_n rfl (tz_in0 rfl)).trans ?_
    refine (tz_g_getr (j := _) rfl rfl rfl rfl rfl (tz_in0 rfl)).trans ?_
    refine (tz_g_getr (j := _) rfl rfl rfl rfl rfl (tz_in0 rfl)).trans ?_
    refine (tz_g_iload_n rfl (tz_in0 rfl)).trans ?_
    refine (tz_g_iconst (v := 0) rfl (tz_in0 rfl)).trans ?_
    refine (tz_g_iast (n := 4) rfl rfl rfl (tz_in0 rfl)).trans ?_
    refine tz_cn1 ?_
    refine (tz_g_iconst (v := 0) rfl (tz_in0 rfl)).trans ?_
    refine (tz_g_istore (L2 := [some (.ref _), some (.int x1), some (.int y2), some (.int _), some (.int 0), none]) rfl rfl (tz_in0 rfl)).trans ?_
    exact tz_Gm (L2 := [some (.ref _), some (.int x1), some (.int y2), some (.int _), some (.int 0), none]) rfl rfl rfl rfl

theorem e_X9_goOn_40 (b : Nat) (z1 : Int32) (z2 : Int32) (z3 : Int32) (z4 : Int32) (hb : tz_sky b) (A : tz_Mem) : q_X9_goOn_40 b z1 z2 z3 z4 A =
  if (tz_g A (b + 15) 0) ≤ z4 then
  if z2 < 0 ∨ 8 ≤ (Int32.toNatClampNeg z2) then none else
  if (tz_g A (b + 4) (Int32.toNatClampNeg z2)) = 0 then
    some (none, A)
  else
    tz_bV (f_X9_takeUp b z1 z2 A) (fun A1 =>
    some (none, A1))
else
  if z3 = 0 then
    if z2 < 0 ∨ 8 ≤ (Int32.toNatClampNeg z2) then none else
    if (tz_g A (b + 4) (Int32.toNatClampNeg z2)) = 0 then
      some (none, A)
    else
      tz_bV (f_X9_takeUp b z1 z2 A) (fun A1 =>
      some (none, A1))
  else
    if z4 < 0 ∨ 12 ≤ (Int32.toNatClampNeg z4) then none else
    if (z3 &&& (1 <<< ((tz_g A (b + 22) (Int32.toNatClampNeg z4)) &&& 31))) = 0 then
      q_X9_goOn_40 b z1 z2 z3 (z4 + 1) A
    else
      tz_bV (f_X9_sayLetter b (tz_g A (b + 22) (Int32.toNatClampNeg z4)) z2 A) (fun A1 =>
      q_X9_goOn_40 b z1 z2 (z3 &&& ((1 <<< ((tz_g A (b + 22) (Int32.toNatClampNeg z4)) &&& 31)) ^^^ (-1))) (z4 + 1) A1) := by
  obtain rfl | rfl | rfl | rfl | rfl := hb
  all_goals
    show tz_Go 95 40 _ [] A = _
    refine (tz_g_iload rfl (tz_inM rfl rfl rfl)).trans ?_
    refine (tz_g_aload_n rfl (tz_in0 rfl)).trans ?_
    refine (tz_g_getr (j := _) rfl rfl rfl rfl rfl (tz_in0 rfl)).trans ?_
    refine (tz_g_geti rfl rfl rfl (tz_in0 rfl)).trans ?_
    refine (tz_g_ic_ge (t := 99) (by decide) (tz_in0 rfl)).trans ?_
    refine tz_cg ?_ ?_
    · skip
      refine (tz_g_aload_n rfl (tz_in0 rfl)).trans ?_
      refine (tz_g_getr (j := _) rfl rfl rfl rfl rfl (tz_in0 rfl)).trans ?_
      refine (tz_g_getr (j := _) rfl rfl rfl rfl rfl (tz_in0 rfl)).trans ?_
      refine (tz_g_iload_n rfl (tz_in0 rfl)).trans ?_
      refine (tz_g_iald (n := 8) rfl rfl rfl (tz_in0 rfl)).trans ?_
      refine tz_cn1 ?_
      refine (tz_g_if_eq (t := 117) (by decide) (tz_in0 rfl)).trans ?_
      refine tz_cg ?_ ?_
      · skip
        exact tz_g_ret0 (tz_in0 rfl) rfl
      · skip
        refine (tz_g_aload_n rfl (tz_in0 rfl)).trans ?_
        refine (tz_g_iload_n rfl (tz_in0 rfl)).trans ?_
        refine (tz_g_iload_n rfl (tz_in0 rfl)).trans ?_
        refine (tz_g_cv2V (m2 := 103) (rc := 0) rfl rfl rfl rfl rfl rfl (by decide) (tz_in0 rfl)).trans ?_
        refine tz_jV (fun A1 => ?_)
        exact tz_g_ret0 (tz_in0 rfl) rfl
    · skip
      refine (tz_g_iload_n rfl (tz_in0 rfl)).trans ?_
      refine (tz_g_if_eq (t := 99) (by decide) (tz_in0 rfl)).trans ?_
      refine tz_cg ?_ ?_
      · skip
        refine (tz_g_aload_n rfl (tz_in0 rfl)).trans ?_
        refine (tz_g_getr (j := _) rfl rfl rfl rfl rfl (tz_in0 rfl)).trans ?_
        refine (tz_g_getr (j := _) rfl rfl rfl rfl rfl (tz_in0 rfl)).trans ?_
        refine (tz_g_iload_n rfl (tz_in0 rfl)).trans ?_
        refine (tz_g_iald (n := 8) rfl rfl rfl (tz_in0 rfl)).trans ?_
        refine tz_cn1 ?_
        refine (tz_g_if_eq (t := 117) (by decide) (tz_in0 rfl)).trans ?_
        refine tz_cg ?_ ?_
        · skip
          exact tz_g_ret0 (tz_in0 rfl) rfl
        · skip
          refine (tz_g_aload_n rfl (tz_in0 rfl)).trans ?_
          refine (tz_g_iload_n rfl (tz_in0 rfl)).trans ?_
          refine (tz_g_iload_n rfl (tz_in0 rfl)).trans ?_
          refine (tz_g_cv2V (m2 := 103) (rc := 0) rfl rfl rfl rfl rfl rfl (by decide) (tz_in0 rfl)).trans ?_
          refine tz_jV (fun A1 => ?_)
          exact tz_g_ret0 (tz_in0 rfl) rfl
      · skip
        refine (tz_g_aload_n rfl (tz_in0 rfl)).trans ?_
        refine (tz_g_getr (j := _) rfl rfl rfl rfl rfl (tz_in0 rfl)).trans ?_
        refine (tz_g_getr (j := _) rfl rfl rfl rfl rfl (tz_in0 rfl)).trans ?_
        refine (tz_g_iload rfl (tz_in0 rfl)).trans ?_
        refine (tz_g_iald (n := 12) rfl rfl rfl (tz_in0 rfl)).trans ?_
        refine tz_cn1 ?_
        refine (tz_g_istore (L2 := [some (.ref _), some (.int z1), some (.int z2), some (.int z3), some (.int z4), some (.int _)]) rfl rfl (tz_in0 rfl)).trans ?_
        refine (tz_g_iload_n rfl (tz_in0 rfl)).trans ?_
        refine (tz_g_iconst (v := 1) rfl (tz_in0 rfl)).trans ?_
        refine (tz_g_iload rfl (tz_in0 rfl)).trans ?_
        refine (tz_g_ishl (tz_in0 rfl)).trans ?_
        refine (tz_g_iand (tz_in0 rfl)).trans ?_
        refine (tz_g_if_eq (t := 93) (by decide) (tz_in0 rfl)).trans ?_
        refine tz_cg ?_ ?_
        · skip
          refine (tz_g_iinc (v := 1) (L2 := [some (.ref _), some (.int z1), some (.int z2), some (.int z3), some (.int (z4 + 1)), some (.int _)]) rfl rfl rfl rfl (tz_in0 rfl)).trans ?_
          refine (tz_g_goto (t := 40) (by decide) (tz_in0 rfl)).trans ?_
          exact tz_Gm (L2 := [some (.ref _), some (.int z1), some (.int z2), some (.int z3), some (.int (z4 + 1)), none]) rfl rfl rfl rfl
        · skip
          refine (tz_g_iload_n rfl (tz_in0 rfl)).trans ?_
          refine (tz_g_iconst (v := 1) rfl (tz_in0 rfl)).trans ?_
          refine (tz_g_iload rfl (tz_in0 rfl)).trans ?_
          refine (tz_g_ishl (tz_in0 rfl)).trans ?_
          refine (tz_g_iconst (v := (-1)) rfl (tz_in0 rfl)).trans ?_
          refine (tz_g_ixor (tz_in0 rfl)).trans ?_
          refine (tz_g_iand (tz_in0 rfl)).trans ?_
          refine (tz_g_istore_n (L2 := [some (.ref _), some (.int z1), some (.int z2), some (.int _), some (.int z4), some (.int _)]) rfl rfl (tz_in0 rfl)).trans ?_
          refine (tz_g_aload_n rfl (tz_in0 rfl)).trans ?_
          refine (tz_g_iload rfl (tz_in0 rfl)).trans ?_
          refine (tz_g_iload_n rfl (tz_in0 rfl)).trans ?_
          refine (tz_g_cv2V (m2 := 97) (rc := 0) rfl rfl rfl rfl rfl rfl (by decide) (tz_in0 rfl)).trans ?_
          refine tz_jV (fun A1 => ?_)
          refine (tz_g_iinc (v := 1) (L2 := [some (.ref _), some (.int z1), some (.int z2), some (.int _), some (.int (z4 + 1)), some (.int _)]) rfl rfl rfl rfl (tz_in0 rfl)).trans ?_
          refine (tz_g_goto (t := 40) (by decide) (tz_in0 rfl)).trans ?_
          exact tz_Gm (L2 := [some (.ref _), some (.int z1), some (.int z2), some (.int _), some (.int (z4 + 1)), none]) rfl rfl rfl rfl

theorem e_X0_run_6 (x1 : Int32) (x2 : Int32) (x3 : Int32) (x4 : Int32) (A : tz_Mem) : f_X0_run_6 x1 x2 x3 x4 A =
  if x4 < 40 then
  tz_bI (f_X0_kindWithBody x1 x2 A) (fun y1 A1 =>
  tz_bI (f_X0_bodyOf x1 y1 A1) (fun y2 A2 =>
  if y1 < 0 ∨ 7 ≤ (Int32.toNatClampNeg y1) then none else
  tz_bV (f_X0_note y2 A2) (fun A3 =>
  if y2 = 10 then
    some (some (.int (x3 + (tz_g A3 148 2))), A3)
  else if y2 = 11 then
    tz_bI (f_X0_run_7 0 (tz_g A3 148 4) x3 (x4 + 1) A3) (fun y4 A4 =>
    some (some (.int (y4 * 2)), A4))
  else if y2 = 12 then
    tz_bI (f_X0_run_7 1 (tz_g A3 148 4) x3 (x4 + 1) A3) (fun y4 A4 =>
    tz_bI (f_X0_run_7 0 (tz_g A4 148 4) (x3 - (tz_g A4 148 3)) (x4 + 1) A4) (fun y5 A5 =>
    some (some (.int (y4 ^^^ y5)), A5)))
  else if y2 = 20 then
    tz_bI (f_X0_run_7 0 (tz_XT 1 (Int32.toNatClampNeg y1)) x3 (x4 + 1) A3) (fun y4 A4 =>
    some (some (.int (y4 + (tz_g A4 148 3))), A4))
  else if y2 = 30 then
    tz_bI (f_X0_run_7 1 (tz_XT 1 (Int32.toNatClampNeg y1)) x3 (x4 + 1) A3) (fun y4 A4 =>
    some (some (.int (y4 * 3)), A4))
  else if y2 = 40 then
    tz_bI (f_X0_run_7 1 (tz_XT 1 (Int32.toNatClampNeg y1)) (x3 + 1) (x4 + 1) A3) (fun y4 A4 =>
    some (some (.int y4), A4))
  else if y2 = 50 then
    tz_bI (f_X0_run_7 2 (tz_XT 1 (Int32.toNatClampNeg y1)) x3 (x4 + 1) A3) (fun y4 A4 =>
    some (some (.int (-y4)), A4))
  else if y2 = 51 then
    tz_bI (f_X0_run_7 0 (tz_XT 1 (Int32.toNatClampNeg y1)) x3 (x4 + 1) A3) (fun y4 A4 =>
    some (some (.int (y4 - (tz_g A4 148 2))), A4))
  else if y2 = 60 then
    tz_bI (f_X0_run_7 2 (tz_XT 1 (Int32.toNatClampNeg y1)) x3 (x4 + 1) A3) (fun y4 A4 =>
    some (some (.int (y4 ^^^ 5)), A4))
  else if y2 = 70 then
    tz_bI (f_X0_run_7 0 (tz_XT 1 (Int32.toNatClampNeg y1)) x3 (x4 + 1) A3) (fun y4 A4 =>
    some (some (.int (y4 * 2)), A4))
  else tz_bI (f_X0_run_7 1 (tz_XT 1 (Int32.toNatClampNeg y1)) (x3 - (tz_g A3 148 3)) (x4 + 1) A3) (fun y4 A4 =>
  some (some (.int y4), A4)))))
else
  some (some (.int 0), A) := by
  refine (tz_Fe (L := [some (.ref 148), some (.int x1), some (.int x2), some (.int x3), some (.int x4), none, none, none, none]) rfl).trans ?_
  refine (tz_g_iload rfl (tz_in0 rfl)).trans ?_
  refine (tz_g_bipush (v := 40) rfl (tz_in0 rfl)).trans ?_
  refine (tz_g_ic_lt (t := 9) (by decide) (tz_in0 rfl)).trans ?_
  refine tz_cg ?_ ?_
  · skip
    refine (tz_g_iload_n rfl (tz_in0 rfl)).trans ?_
    refine (tz_g_iload_n rfl (tz_in0 rfl)).trans ?_
    refine (tz_g_cs2I (m2 := 153) (rc := 1) rfl rfl rfl rfl rfl rfl (by decide) (tz_in0 rfl)).trans ?_
    refine tz_jI (fun y1 A1 => ?_)
    refine (tz_g_istore (L2 := [some (.ref 148), some (.int x1), some (.int x2), some (.int x3), some (.int x4), some (.int y1), none, none, none]) rfl rfl (tz_in0 rfl)).trans ?_
    refine (tz_g_iload_n rfl (tz_in0 rfl)).trans ?_
    refine (tz_g_iload rfl (tz_in0 rfl)).trans ?_
    refine (tz_g_cs2I (m2 := 154) (rc := 1) rfl rfl rfl rfl rfl rfl (by decide) (tz_in0 rfl)).trans ?_
    refine tz_jI (fun y2 A2 => ?_)
    refine (tz_g_istore (L2 := [some (.ref 148), some (.int x1), some (.int x2), some (.int x3), some (.int x4), some (.int y1), some (.int y2), none, none]) rfl rfl (tz_in0 rfl)).trans ?_
    refine (tz_g_gets0 (j := 1) rfl (tz_in0 rfl)).trans ?_
    refine (tz_g_iload rfl (tz_in0 rfl)).trans ?_
    refine (tz_g_ialx (n := 7) rfl rfl rfl (tz_in0 rfl)).trans ?_
    refine tz_cn1 ?_
    refine (tz_g_istore (L2 := [some (.ref 148), some (.int x1), some (.int x2), some (.int x3), some (.int x4), some (.int y1), some (.int y2), some (.int (tz_XT 1 (Int32.toNatClampNeg y1))), none]) rfl rfl (tz_in0 rfl)).trans ?_
    refine (tz_g_iload rfl (tz_in0 rfl)).trans ?_
    refine (tz_g_iconst (v := 1) rfl (tz_in0 rfl)).trans ?_
    refine (tz_g_iadd (tz_in0 rfl)).trans ?_
    refine (tz_g_istore (L2 := [some (.ref 148), some (.int x1), some (.int x2), some (.int x3), some (.int x4), some (.int y1), some (.int y2), some (.int (tz_XT 1 (Int32.toNatClampNeg y1))), some (.int (x4 + 1))]) rfl rfl (tz_in0 rfl)).trans ?_
    refine (tz_g_aload_n rfl (tz_in0 rfl)).trans ?_
    refine (tz_g_iload rfl (tz_in0 rfl)).trans ?_
    refine (tz_g_cv1V (m2 := 155) (rc := 0) rfl rfl rfl rfl rfl rfl (by decide) (tz_in0 rfl)).trans ?_
    refine tz_jV (fun A3 => ?_)
    refine (tz_g_iload rfl (tz_in0 rfl)).trans ?_
    refine (tz_g_lsw (by decide) (tz_in0 rfl)).trans ?_
    refine tz_slc (v := 10) (by decide) ?_ ?_
    · refine (tz_tg (t := 136) (by decide)).trans ?_
      refine (tz_g_iload_n rfl (tz_in0 rfl)).trans ?_
      refine (tz_g_aload_n rfl (tz_in0 rfl)).trans ?_
      refine (tz_g_geti rfl rfl rfl (tz_in0 rfl)).trans ?_
      refine (tz_g_iadd (tz_in0 rfl)).trans ?_
      exact tz_g_ret1 (tz_in0 rfl) rfl
    refine tz_slc (v := 11) (by decide) ?_ ?_
    · refine (tz_tg (t := 143) (by decide)).trans ?_
      refine (tz_g_aload_n rfl (tz_in0 rfl)).trans ?_
      refine (tz_g_iconst (v := 0) rfl (tz_in0 rfl)).trans ?_
      refine (tz_g_aload_n rfl (tz_in0 rfl)).trans ?_
      refine (tz_g_geti rfl rfl rfl (tz_in0 rfl)).trans ?_
      refine (tz_g_iload_n rfl (tz_in0 rfl)).trans ?_
      refine (tz_g_iload rfl (tz_in0 rfl)).trans ?_
      refine (tz_g_cv4I (m2 := 152) (rc := 1) rfl rfl rfl rfl rfl rfl (by decide) (tz_in0 rfl)).trans ?_
      refine tz_jI (fun y4 A4 => ?_)
      refine (tz_g_iconst (v := 2) rfl (tz_in0 rfl)).trans ?_
      refine (tz_g_imul (tz_in0 rfl)).trans ?_
      exact tz_g_ret1 (tz_in0 rfl) rfl
    refine tz_slc (v := 12) (by decide) ?_ ?_
    · refine (tz_tg (t := 158) (by decide)).trans ?_
      refine (tz_g_aload_n rfl (tz_in0 rfl)).trans ?_
      refine (tz_g_iconst (v := 1) rfl (tz_in0 rfl)).trans ?_
      refine (tz_g_aload_n rfl (tz_in0 rfl)).trans ?_
      refine (tz_g_geti rfl rfl rfl (tz_in0 rfl)).trans ?_
      refine (tz_g_iload_n rfl (tz_in0 rfl)).trans ?_
      refine (tz_g_iload rfl (tz_in0 rfl)).trans ?_
      refine (tz_g_cv4I (m2 := 152) (rc := 1) rfl rfl rfl rfl rfl rfl (by decide) (tz_in0 rfl)).trans ?_
      refine tz_jI (fun y4 A4 => ?_)
      refine (tz_g_aload_n rfl (tz_in0 rfl)).trans ?_
      refine (tz_g_iconst (v := 0) rfl (tz_in0 rfl)).trans ?_
      refine (tz_g_aload_n rfl (tz_in0 rfl)).trans ?_
      refine (tz_g_geti rfl rfl rfl (tz_in0 rfl)).trans ?_
      refine (tz_g_iload_n rfl (tz_in0 rfl)).trans ?_
      refine (tz_g_aload_n rfl (tz_in0 rfl)).trans ?_
      refine (tz_g_geti rfl rfl rfl (tz_in0 rfl)).trans ?_
      refine (tz_g_isub (tz_in0 rfl)).trans ?_
      refine (tz_g_iload rfl (tz_in0 rfl)).trans ?_
      refine (tz_g_cv4I (m2 := 152) (rc := 1) rfl rfl rfl rfl rfl rfl (by decide) (tz_in0 rfl)).trans ?_
      refine tz_jI (fun y5 A5 => ?_)
      refine (tz_g_ixor (tz_in0 rfl)).trans ?_
      exact tz_g_ret1 (tz_in0 rfl) rfl
    refine tz_slc (v := 20) (by decide) ?_ ?_
    · refine (tz_tg (t := 189) (by decide)).trans ?_
      refine (tz_g_aload_n rfl (tz_in0 rfl)).trans ?_
      refine (tz_g_iconst (v := 0) rfl (tz_in0 rfl)).trans ?_
      refine (tz_g_iload rfl (tz_in0 rfl)).trans ?_
      refine (tz_g_iload_n rfl (tz_in0 rfl)).trans ?_
      refine (tz_g_iload rfl (tz_in0 rfl)).trans ?_
      refine (tz_g_cv4I (m2 := 152) (rc := 1) rfl rfl rfl rfl rfl rfl (by decide) (tz_in0 rfl)).trans ?_
      refine tz_jI (fun y4 A4 => ?_)
      refine (tz_g_aload_n rfl (tz_in0 rfl)).trans ?_
      refine (tz_g_geti rfl rfl rfl (tz_in0 rfl)).trans ?_
      refine (tz_g_iadd (tz_in0 rfl)).trans ?_
      exact tz_g_ret1 (tz_in0 rfl) rfl
    refine tz_slc (v := 30) (by decide) ?_ ?_
    · refine (tz_tg (t := 205) (by decide)).trans ?_
      refine (tz_g_aload_n rfl (tz_in0 rfl)).trans ?_
      refine (tz_g_iconst (v := 1) rfl (tz_in0 rfl)).trans ?_
      refine (tz_g_iload rfl (tz_in0 rfl)).trans ?_
      refine (tz_g_iload_n rfl (tz_in0 rfl)).trans ?_
      refine (tz_g_iload rfl (tz_in0 rfl)).trans ?_
      refine (tz_g_cv4I (m2 := 152) (rc := 1) rfl rfl rfl rfl rfl rfl (by decide) (tz_in0 rfl)).trans ?_
      refine tz_jI (fun y4 A4 => ?_)
      refine (tz_g_iconst (v := 3) rfl (tz_in0 rfl)).trans ?_
      refine (tz_g_imul (tz_in0 rfl)).trans ?_
      exact tz_g_ret1 (tz_in0 rfl) rfl
    refine tz_slc (v := 40) (by decide) ?_ ?_
    · refine (tz_tg (t := 218) (by decide)).trans ?_
      refine (tz_g_aload_n rfl (tz_in0 rfl)).trans ?_
      refine (tz_g_iconst (v := 1) rfl (tz_in0 rfl)).trans ?_
      refine (tz_g_iload rfl (tz_in0 rfl)).trans ?_
      refine (tz_g_iload_n rfl (tz_in0 rfl)).trans ?_
      refine (tz_g_iconst (v := 1) rfl (tz_in0 rfl)).trans ?_
      refine (tz_g_iadd (tz_in0 rfl)).trans ?_
      refine (tz_g_iload rfl (tz_in0 rfl)).trans ?_
      refine (tz_g_cv4I (m2 := 152) (rc := 1) rfl rfl rfl rfl rfl rfl (by decide) (tz_in0 rfl)).trans ?_
      refine tz_jI (fun y4 A4 => ?_)
      exact tz_g_ret1 (tz_in0 rfl) rfl
    refine tz_slc (v := 50) (by decide) ?_ ?_
    · refine (tz_tg (t := 231) (by decide)).trans ?_
      refine (tz_g_aload_n rfl (tz_in0 rfl)).trans ?_
      refine (tz_g_iconst (v := 2) rfl (tz_in0 rfl)).trans ?_
      refine (tz_g_iload rfl (tz_in0 rfl)).trans ?_
      refine (tz_g_iload_n rfl (tz_in0 rfl)).trans ?_
      refine (tz_g_iload rfl (tz_in0 rfl)).trans ?_
      refine (tz_g_cv4I (m2 := 152) (rc := 1) rfl rfl rfl rfl rfl rfl (by decide) (tz_in0 rfl)).trans ?_
      refine tz_jI (fun y4 A4 => ?_)
      refine (tz_g_ineg (tz_in0 rfl)).trans ?_
      exact tz_g_ret1 (tz_in0 rfl) rfl
    refine tz_slc (v := 51) (by decide) ?_ ?_
    · refine (tz_tg (t := 243) (by decide)).trans ?_
      refine (tz_g_aload_n rfl (tz_in0 rfl)).trans ?_
      refine (tz_g_iconst (v := 0) rfl (tz_in0 rfl)).trans ?_
      refine (tz_g_iload rfl (tz_in0 rfl)).trans ?_
      refine (tz_g_iload_n rfl (tz_in0 rfl)).trans ?_
      refine (tz_g_iload rfl (tz_in0 rfl)).trans ?_
      refine (tz_g_cv4I (m2 := 152) (rc := 1) rfl rfl rfl rfl rfl rfl (by decide) (tz_in0 rfl)).trans ?_
      refine tz_jI (fun y4 A4 => ?_)
      refine (tz_g_aload_n rfl (tz_in0 rfl)).trans ?_
      refine (tz_g_geti rfl rfl rfl (tz_in0 rfl)).trans ?_
      refine (tz_g_isub (tz_in0 rfl)).trans ?_
      exact tz_g_ret1 (tz_in0 rfl) rfl
    refine tz_slc (v := 60) (by decide) ?_ ?_
    · refine (tz_tg (t := 259) (by decide)).trans ?_
      refine (tz_g_aload_n rfl (tz_in0 rfl)).trans ?_
      refine (tz_g_iconst (v := 2) rfl (tz_in0 rfl)).trans ?_
      refine (tz_g_iload rfl (tz_in0 rfl)).trans ?_
      refine (tz_g_iload_n rfl (tz_in0 rfl)).trans ?_
      refine (tz_g_iload rfl (tz_in0 rfl)).trans ?_
      refine (tz_g_cv4I (m2 := 152) (rc := 1) rfl rfl rfl rfl rfl rfl (by decide) (tz_in0 rfl)).trans ?_
      refine tz_jI (fun y4 A4 => ?_)
      refine (tz_g_iconst (v := 5) rfl (tz_in0 rfl)).trans ?_
      refine (tz_g_ixor (tz_in0 rfl)).trans ?_
      exact tz_g_ret1 (tz_in0 rfl) rfl
    refine tz_slc (v := 70) (by decide) ?_ ?_
    · refine (tz_tg (t := 272) (by decide)).trans ?_
      refine (tz_g_aload_n rfl (tz_in0 rfl)).trans ?_
      refine (tz_g_iconst (v := 0) rfl (tz_in0 rfl)).trans ?_
      refine (tz_g_iload rfl (tz_in0 rfl)).trans ?_
      refine (tz_g_iload_n rfl (tz_in0 rfl)).trans ?_
      refine (tz_g_iload rfl (tz_in0 rfl)).trans ?_
      refine (tz_g_cv4I (m2 := 152) (rc := 1) rfl rfl rfl rfl rfl rfl (by decide) (tz_in0 rfl)).trans ?_
      refine tz_jI (fun y4 A4 => ?_)
      refine (tz_g_iconst (v := 2) rfl (tz_in0 rfl)).trans ?_
      refine (tz_g_imul (tz_in0 rfl)).trans ?_
      exact tz_g_ret1 (tz_in0 rfl) rfl
    refine tz_sld ?_
    refine (tz_tg (t := 285) (by decide)).trans ?_
    refine (tz_g_aload_n rfl (tz_in0 rfl)).trans ?_
    refine (tz_g_iconst (v := 1) rfl (tz_in0 rfl)).trans ?_
    refine (tz_g_iload rfl (tz_in0 rfl)).trans ?_
    refine (tz_g_iload_n rfl (tz_in0 rfl)).trans ?_
    refine (tz_g_aload_n rfl (tz_in0 rfl)).trans ?_
    refine (tz_g_geti rfl rfl rfl (tz_in0 rfl)).trans ?_
    refine (tz_g_isub (tz_in0 rfl)).trans ?_
    refine (tz_g_iload rfl (tz_in0 rfl)).trans ?_
    refine (tz_g_cv4I (m2 := 152) (rc := 1) rfl rfl rfl rfl rfl rfl (by decide) (tz_in0 rfl)).trans ?_
    refine tz_jI (fun y4 A4 => ?_)
    exact tz_g_ret1 (tz_in0 rfl) rfl
  · skip
    refine (tz_g_iconst (v := 0) rfl (tz_in0 rfl)).trans ?_
    exact tz_g_ret1 (tz_in0 rfl) rfl

theorem e_X12_says (x1 : Int32) (x2 : Int32) (A : tz_Mem) : f_X12_says x1 x2 A =
  tz_bI (f_X12_within x1 0 7 A) (fun y1 A1 =>
if y1 = 0 then
  tz_bI (f_X12_no (-1) A1) (fun y2 A2 =>
  some (some (.int y2), A2))
else
  tz_bI (f_X12_within x2 0 6 A1) (fun y2 A2 =>
  if ¬ y2 = 0 then
    if x1 < 0 ∨ 8 ≤ (Int32.toNatClampNeg x1) then none else
    if (tz_g A2 158 (Int32.toNatClampNeg x1)) < 0 then
      if 0 ≤ (tz_g A2 158 (Int32.toNatClampNeg x1)) then
        if x2 = 0 then
          tz_bI (f_X12_lying (tz_g A2 158 (Int32.toNatClampNeg x1)) A2) (fun y3 A3 =>
          tz_bI (f_J6_bitCount y3 A3) (fun y4 A4 =>
          some (some (.int y4), A4)))
        else if x2 = 1 then
          tz_bI (f_X12_times (tz_g A2 158 (Int32.toNatClampNeg x1)) 50 A2) (fun y3 A3 =>
          some (some (.int y3), A3))
        else if x2 = 2 then
          tz_bI (f_X12_becomes (tz_g A2 158 (Int32.toNatClampNeg x1)) 1234 A2) (fun y3 A3 =>
          some (some (.int y3), A3))
        else if x2 = 3 then
          tz_bI (f_X12_times (tz_g A2 158 (Int32.toNatClampNeg x1)) 50 A2) (fun y3 A3 =>
          some (some (.int y3), A3))
        else if x2 = 4 then
          tz_bI (f_X12_times (tz_g A2 158 (Int32.toNatClampNeg x1)) 50 A2) (fun y3 A3 =>
          some (some (.int y3), A3))
        else if x2 = 5 then
          tz_bI (f_X12_becomes (tz_g A2 158 (Int32.toNatClampNeg x1)) 1234 A2) (fun y3 A3 =>
          some (some (.int y3), A3))
        else tz_bI (f_X12_times (tz_g A2 158 (Int32.toNatClampNeg x1)) 50 A2) (fun y3 A3 =>
        some (some (.int y3), A3))
      else
        tz_bI (f_X12_no (-3) A2) (fun y3 A3 =>
        some (some (.int y3), A3))
    else
      tz_bI (f_X12_isRow x1 A2) (fun y3 A3 =>
      if ¬ y3 = 0 then
        tz_bI (f_X12_no (-2) A3) (fun y4 A4 =>
        some (some (.int y4), A4))
      else
        if (tz_g A2 158 (Int32.toNatClampNeg x1)) < 0 ∨ 8 ≤ (Int32.toNatClampNeg (tz_g A2 158 (Int32.toNatClampNeg x1))) then none else
        tz_bI (f_X12_isUnder (tz_g A3 161 (Int32.toNatClampNeg (tz_g A2 158 (Int32.toNatClampNeg x1)))) x2 A3) (fun y4 A4 =>
        if ¬ y4 = 0 then
          if 0 ≤ (tz_g A2 158 (Int32.toNatClampNeg x1)) then
            if x2 = 0 then
              tz_bI (f_X12_lying (tz_g A2 158 (Int32.toNatClampNeg x1)) A4) (fun y5 A5 =>
              tz_bI (f_J6_bitCount y5 A5) (fun y6 A6 =>
              some (some (.int y6), A6)))
            else if x2 = 1 then
              tz_bI (f_X12_times (tz_g A2 158 (Int32.toNatClampNeg x1)) 50 A4) (fun y5 A5 =>
              some (some (.int y5), A5))
            else if x2 = 2 then
              tz_bI (f_X12_becomes (tz_g A2 158 (Int32.toNatClampNeg x1)) 1234 A4) (fun y5 A5 =>
              some (some (.int y5), A5))
            else if x2 = 3 then
              tz_bI (f_X12_times (tz_g A2 158 (Int32.toNatClampNeg x1)) 50 A4) (fun y5 A5 =>
              some (some (.int y5), A5))
            else if x2 = 4 then
              tz_bI (f_X12_times (tz_g A2 158 (Int32.toNatClampNeg x1)) 50 A4) (fun y5 A5 =>
              some (some (.int y5), A5))
            else if x2 = 5 then
              tz_bI (f_X12_becomes (tz_g A2 158 (Int32.toNatClampNeg x1)) 1234 A4) (fun y5 A5 =>
              some (some (.int y5), A5))
            else tz_bI (f_X12_times (tz_g A2 158 (Int32.toNatClampNeg x1)) 50 A4) (fun y5 A5 =>
            some (some (.int y5), A5))
          else
            tz_bI (f_X12_no (-3) A4) (fun y5 A5 =>
            some (some (.int y5), A5))
        else
          tz_bI (f_X12_no (-2) A4) (fun y5 A5 =>
          some (some (.int y5), A5))))
  else
    tz_bI (f_X12_no (-1) A2) (fun y3 A3 =>
    some (some (.int y3), A3)))) := by
  refine (tz_Fe (L := [some (.ref 157), some (.int x1), some (.int x2), none]) rfl).trans ?_
  refine (tz_g_iload_n rfl (tz_in0 rfl)).trans ?_
  refine (tz_g_iconst (v := 0) rfl (tz_in0 rfl)).trans ?_
  refine (tz_g_bipush (v := 7) rfl (tz_in0 rfl)).trans ?_
  refine (tz_g_cs3I (m2 := 165) (rc := 4) rfl rfl rfl rfl rfl rfl (by decide) (tz_in0 rfl)).trans ?_
  refine tz_jI (fun y1 A1 => ?_)
  refine (tz_g_if_eq (t := 20) (by decide) (tz_in0 rfl)).trans ?_
  refine tz_cg ?_ ?_
  · skip
    refine (tz_g_aload_n rfl (tz_in0 rfl)).trans ?_
    refine (tz_g_iconst (v := (-1)) rfl (tz_in0 rfl)).trans ?_
    refine (tz_g_cv1I (m2 := 166) (rc := 1) rfl rfl rfl rfl rfl rfl (by decide) (tz_in0 rfl)).trans ?_
    refine tz_jI (fun y2 A2 => ?_)
    exact tz_g_ret1 (tz_in0 rfl) rfl
  · skip
    refine (tz_g_iload_n rfl (tz_in0 rfl)).trans ?_
    refine (tz_g_iconst (v := 0) rfl (tz_in0 rfl)).trans ?_
    refine (tz_g_bipush (v := 6) rfl (tz_in0 rfl)).trans ?_
    refine (tz_g_cs3I (m2 := 165) (rc := 4) rfl rfl rfl rfl rfl rfl (by decide) (tz_in0 rfl)).trans ?_
    refine tz_jI (fun y2 A2 => ?_)
    refine (tz_g_if_ne (t := 26) (by decide) (tz_in0 rfl)).trans ?_
    refine tz_cg ?_ ?_
    · skip
      refine (tz_g_aload_n rfl (tz_in0 rfl)).trans ?_
      refine (tz_g_getr (j := 158) rfl rfl rfl rfl rfl (tz_in0 rfl)).trans ?_
      refine (tz_g_iload_n rfl (tz_in0 rfl)).trans ?_
      refine (tz_g_iald (n := 8) rfl rfl rfl (tz_in0 rfl)).trans ?_
      refine tz_cn1 ?_
      refine (tz_g_istore_n (L2 := [some (.ref 157), some (.int x1), some (.int x2), some (.int (tz_g A2 158 (Int32.toNatClampNeg x1)))]) rfl rfl (tz_in0 rfl)).trans ?_
      refine (tz_g_iload_n rfl (tz_in0 rfl)).trans ?_
      refine (tz_g_if_lt (t := 65) (by decide) (tz_in0 rfl)).trans ?_
      refine tz_cg ?_ ?_
      · skip
        refine (tz_g_iload_n rfl (tz_in0 rfl)).trans ?_
        refine (tz_g_if_ge (t := 76) (by decide) (tz_in0 rfl)).trans ?_
        refine tz_cg ?_ ?_
        · skip
          refine (tz_g_iload_n rfl (tz_in0 rfl)).trans ?_
          refine (tz_g_tsw (by decide) (tz_in0 rfl)).trans ?_
          refine tz_swc (v := 0) (by decide) ?_ ?_
          · refine (tz_tg (t := 116) (by decide)).trans ?_
            refine (tz_g_aload_n rfl (tz_in0 rfl)).trans ?_
            refine (tz_g_iload_n rfl (tz_in0 rfl)).trans ?_
            refine (tz_g_cv1I (m2 := 178) (rc := 1) rfl rfl rfl rfl rfl rfl (by decide) (tz_in0 rfl)).trans ?_
            refine tz_jI (fun y3 A3 => ?_)
            refine (tz_g_cs1I (m2 := 34) (rc := 1) rfl rfl rfl rfl rfl rfl (by decide) (tz_in0 rfl)).trans ?_
            refine tz_jI (fun y4 A4 => ?_)
            exact tz_g_ret1 (tz_in0 rfl) rfl
          refine tz_swc (v := 1) (by decide) ?_ ?_
          · refine (tz_tg (t := 125) (by decide)).trans ?_
            refine (tz_g_aload_n rfl (tz_in0 rfl)).trans ?_
            refine (tz_g_iload_n rfl (tz_in0 rfl)).trans ?_
            refine (tz_g_bipush (v := 50) rfl (tz_in0 rfl)).trans ?_
            refine (tz_g_cv2I (m2 := 179) (rc := 1) rfl rfl rfl rfl rfl rfl (by decide) (tz_in0 rfl)).trans ?_
            refine tz_jI (fun y3 A3 => ?_)
            exact tz_g_ret1 (tz_in0 rfl) rfl
          refine tz_swc (v := 2) (by decide) ?_ ?_
          · refine (tz_tg (t := 133) (by decide)).trans ?_
            refine (tz_g_aload_n rfl (tz_in0 rfl)).trans ?_
            refine (tz_g_iload_n rfl (tz_in0 rfl)).trans ?_
            refine (tz_g_sipush (v := 1234) rfl (tz_in0 rfl)).trans ?_
            refine (tz_g_cv2I (m2 := 180) (rc := 1) rfl rfl rfl rfl rfl rfl (by decide) (tz_in0 rfl)).trans ?_
            refine tz_jI (fun y3 A3 => ?_)
            exact tz_g_ret1 (tz_in0 rfl) rfl
          refine tz_swc (v := 3) (by decide) ?_ ?_
          · refine (tz_tg (t := 125) (by decide)).trans ?_
            refine (tz_g_aload_n rfl (tz_in0 rfl)).trans ?_
            refine (tz_g_iload_n rfl (tz_in0 rfl)).trans ?_
            refine (tz_g_bipush (v := 50) rfl (tz_in0 rfl)).trans ?_
            refine (tz_g_cv2I (m2 := 179) (rc := 1) rfl rfl rfl rfl rfl rfl (by decide) (tz_in0 rfl)).trans ?_
            refine tz_jI (fun y3 A3 => ?_)
            exact tz_g_ret1 (tz_in0 rfl) rfl
          refine tz_swc (v := 4) (by decide) ?_ ?_
          · refine (tz_tg (t := 142) (by decide)).trans ?_
            refine (tz_g_aload_n rfl (tz_in0 rfl)).trans ?_
            refine (tz_g_iload_n rfl (tz_in0 rfl)).trans ?_
            refine (tz_g_bipush (v := 50) rfl (tz_in0 rfl)).trans ?_
            refine (tz_g_cv2I (m2 := 179) (rc := 1) rfl rfl rfl rfl rfl rfl (by decide) (tz_in0 rfl)).trans ?_
            refine tz_jI (fun y3 A3 => ?_)
            exact tz_g_ret1 (tz_in0 rfl) rfl
          refine tz_swc (v := 5) (by decide) ?_ ?_
          · refine (tz_tg (t := 133) (by decide)).trans ?_
            refine (tz_g_aload_n rfl (tz_in0 rfl)).trans ?_
            refine (tz_g_iload_n rfl (tz_in0 rfl)).trans ?_
            refine (tz_g_sipush (v := 1234) rfl (tz_in0 rfl)).trans ?_
            refine (tz_g_cv2I (m2 := 180) (rc := 1) rfl rfl rfl rfl rfl rfl (by decide) (tz_in0 rfl)).trans ?_
            refine tz_jI (fun y3 A3 => ?_)
            exact tz_g_ret1 (tz_in0 rfl) rfl
          refine tz_swd ?_
          refine (tz_tg (t := 142) (by decide)).trans ?_
          refine (tz_g_aload_n rfl (tz_in0 rfl)).trans ?_
          refine (tz_g_iload_n rfl (tz_in0 rfl)).trans ?_
          refine (tz_g_bipush (v := 50) rfl (tz_in0 rfl)).trans ?_
          refine (tz_g_cv2I (m2 := 179) (rc := 1) rfl rfl rfl rfl rfl rfl (by decide) (tz_in0 rfl)).trans ?_
          refine tz_jI (fun y3 A3 => ?_)
          exact tz_g_ret1 (tz_in0 rfl) rfl
        · skip
          refine (tz_g_aload_n rfl (tz_in0 rfl)).trans ?_
          refine (tz_g_bipush (v := (-3)) rfl (tz_in0 rfl)).trans ?_
          refine (tz_g_cv1I (m2 := 166) (rc := 1) rfl rfl rfl rfl rfl rfl (by decide) (tz_in0 rfl)).trans ?_
          refine tz_jI (fun y3 A3 => ?_)
          exact tz_g_ret1 (tz_in0 rfl) rfl
      · skip
        refine (tz_g_aload_n rfl (tz_in0 rfl)).trans ?_
        refine (tz_g_iload_n rfl (tz_in0 rfl)).trans ?_
        refine (tz_g_cv1I (m2 := 169) (rc := 4) rfl rfl rfl rfl rfl rfl (by decide) (tz_in0 rfl)).trans ?_
        refine tz_jI (fun y3 A3 => ?_)
        refine (tz_g_if_ne (t := 58) (by decide) (tz_in0 rfl)).trans ?_
        refine tz_cg ?_ ?_
        · skip
          refine (tz_g_aload_n rfl (tz_in0 rfl)).trans ?_
          refine (tz_g_bipush (v := (-2)) rfl (tz_in0 rfl)).trans ?_
          refine (tz_g_cv1I (m2 := 166) (rc := 1) rfl rfl rfl rfl rfl rfl (by decide) (tz_in0 rfl)).trans ?_
          refine tz_jI (fun y4 A4 => ?_)
          exact tz_g_ret1 (tz_in0 rfl) rfl
        · skip
          refine (tz_g_aload_n rfl (tz_in0 rfl)).trans ?_
          refine (tz_g_getr (j := 161) rfl rfl rfl rfl rfl (tz_in0 rfl)).trans ?_
          refine (tz_g_iload_n rfl (tz_in0 rfl)).trans ?_
          refine (tz_g_iald (n := 8) rfl rfl rfl (tz_in0 rfl)).trans ?_
          refine tz_cn1 ?_
          refine (tz_g_iload_n rfl (tz_in0 rfl)).trans ?_
          refine (tz_g_cs2I (m2 := 176) (rc := 4) rfl rfl rfl rfl rfl rfl (by decide) (tz_in0 rfl)).trans ?_
          refine tz_jI (fun y4 A4 => ?_)
          refine (tz_g_if_ne (t := 65) (by decide) (tz_in0 rfl)).trans ?_
          refine tz_cg ?_ ?_
          · skip
            refine (tz_g_iload_n rfl (tz_in0 rfl)).trans ?_
            refine (tz_g_if_ge (t := 76) (by decide) (tz_in0 rfl)).trans ?_
            refine tz_cg ?_ ?_
            · skip
              refine (tz_g_iload_n rfl (tz_in0 rfl)).trans ?_
              refine (tz_g_tsw (by decide) (tz_in0 rfl)).trans ?_
              refine tz_swc (v := 0) (by decide) ?_ ?_
              · refine (tz_tg (t := 116) (by decide)).trans ?_
                refine (tz_g_aload_n rfl (tz_in0 rfl)).trans ?_
                refine (tz_g_iload_n rfl (tz_in0 rfl)).trans ?_
                refine (tz_g_cv1I (m2 := 178) (rc := 1) rfl rfl rfl rfl rfl rfl (by decide) (tz_in0 rfl)).trans ?_
                refine tz_jI (fun y5 A5 => ?_)
                refine (tz_g_cs1I (m2 := 34) (rc := 1) rfl rfl rfl rfl rfl rfl (by decide) (tz_in0 rfl)).trans ?_
                refine tz_jI (fun y6 A6 => ?_)
                exact tz_g_ret1 (tz_in0 rfl) rfl
              refine tz_swc (v := 1) (by decide) ?_ ?_
              · refine (tz_tg (t := 125) (by decide)).trans ?_
                refine (tz_g_aload_n rfl (tz_in0 rfl)).trans ?_
                refine (tz_g_iload_n rfl (tz_in0 rfl)).trans ?_
                refine (tz_g_bipush (v := 50) rfl (tz_in0 rfl)).trans ?_
                refine (tz_g_cv2I (m2 := 179) (rc := 1) rfl rfl rfl rfl rfl rfl (by decide) (tz_in0 rfl)).trans ?_
                refine tz_jI (fun y5 A5 => ?_)
                exact tz_g_ret1 (tz_in0 rfl) rfl
              refine tz_swc (v := 2) (by decide) ?_ ?_
              · refine (tz_tg (t := 133) (by decide)).trans ?_
                refine (tz_g_aload_n rfl (tz_in0 rfl)).trans ?_
                refine (tz_g_iload_n rfl (tz_in0 rfl)).trans ?_
                refine (tz_g_sipush (v := 1234) rfl (tz_in0 rfl)).trans ?_
                refine (tz_g_cv2I (m2 := 180) (rc := 1) rfl rfl rfl rfl rfl rfl (by decide) (tz_in0 rfl)).trans ?_
                refine tz_jI (fun y5 A5 => ?_)
                exact tz_g_ret1 (tz_in0 rfl) rfl
              refine tz_swc (v := 3) (by decide) ?_ ?_
              · refine (tz_tg (t := 125) (by decide)).trans ?_
                refine (tz_g_aload_n rfl (tz_in0 rfl)).trans ?_
                refine (tz_g_iload_n rfl (tz_in0 rfl)).trans ?_
                refine (tz_g_bipush (v := 50) rfl (tz_in0 rfl)).trans ?_
                refine (tz_g_cv2I (m2 := 179) (rc := 1) rfl rfl rfl rfl rfl rfl (by decide) (tz_in0 rfl)).trans ?_
                refine tz_jI (fun y5 A5 => ?_)
                exact tz_g_ret1 (tz_in0 rfl) rfl
              refine tz_swc (v := 4) (by decide) ?_ ?_
              · refine (tz_tg (t := 142) (by decide)).trans ?_
                refine (tz_g_aload_n rfl (tz_in0 rfl)).trans ?_
                refine (tz_g_iload_n rfl (tz_in0 rfl)).trans ?_
                refine (tz_g_bipush (v := 50) rfl (tz_in0 rfl)).trans ?_
                refine (tz_g_cv2I (m2 := 179) (rc := 1) rfl rfl rfl rfl rfl rfl (by decide) (tz_in0 rfl)).trans ?_
                refine tz_jI (fun y5 A5 => ?_)
                exact tz_g_ret1 (tz_in0 rfl) rfl
              refine tz_swc (v := 5) (by decide) ?_ ?_
              · refine (tz_tg (t := 133) (by decide)).trans ?_
                refine (tz_g_aload_n rfl (tz_in0 rfl)).trans ?_
                refine (tz_g_iload_n rfl (tz_in0 rfl)).trans ?_
                refine (tz_g_sipush (v := 1234) rfl (tz_in0 rfl)).trans ?_
                refine (tz_g_cv2I (m2 := 180) (rc := 1) rfl rfl rfl rfl rfl rfl (by decide) (tz_in0 rfl)).trans ?_
                refine tz_jI (fun y5 A5 => ?_)
                exact tz_g_ret1 (tz_in0 rfl) rfl
              refine tz_swd ?_
              refine (tz_tg (t := 142) (by decide)).trans ?_
              refine (tz_g_aload_n rfl (tz_in0 rfl)).trans ?_
              refine (tz_g_iload_n rfl (tz_in0 rfl)).trans ?_
              refine (tz_g_bipush (v := 50) rfl (tz_in0 rfl)).trans ?_
              refine (tz_g_cv2I (m2 := 179) (rc := 1) rfl rfl rfl rfl rfl rfl (by decide) (tz_in0 rfl)).trans ?_
              refine tz_jI (fun y5 A5 => ?_)
              exact tz_g_ret1 (tz_in0 rfl) rfl
            · skip
              refine (tz_g_aload_n rfl (tz_in0 rfl)).trans ?_
              refine (tz_g_bipush (v := (-3)) rfl (tz_in0 rfl)).trans ?_
              refine (tz_g_cv1I (m2 := 166) (rc := 1) rfl rfl rfl rfl rfl rfl (by decide) (tz_in0 rfl)).trans ?_
              refine tz_jI (fun y5 A5 => ?_)
              exact tz_g_ret1 (tz_in0 rfl) rfl
          · skip
            refine (tz_g_aload_n rfl (tz_in0 rfl)).trans ?_
            refine (tz_g_bipush (v := (-2)) rfl (tz_in0 rfl)).trans ?_
            refine (tz_g_cv1I (m2 := 166) (rc := 1) rfl rfl rfl rfl rfl rfl (by decide) (tz_in0 rfl)).trans ?_
            refine tz_jI (fun y5 A5 => ?_)
            exact tz_g_ret1 (tz_in0 rfl) rfl
    · skip
      refine (tz_g_aload_n rfl (tz_in0 rfl)).trans ?_
      refine (tz_g_iconst (v := (-1)) rfl (tz_in0 rfl)).trans ?_
      refine (tz_g_cv1I (m2 := 166) (rc := 1) rfl rfl rfl rfl rfl rfl (by decide) (tz_in0 rfl)).trans ?_
      refine tz_jI (fun y3 A3 => ?_)
      exact tz_g_ret1 (tz_in0 rfl) rfl

