theorem e_X11_letterOf (x1 : Int32) (x2 : Int32) (A : tz_Mem) : f_X11_letterOf x1 x2 A =
  tz_bI (f_X4_has 30 x1 A) (fun y1 A1 =>
if ¬ y1 = 0 then
  if x2 = 0 then
    if x1 < 0 ∨ 12 ≤ (Int32.toNatClampNeg x1) then none else
    some (some (.int (tz_g A1 46 (Int32.toNatClampNeg x1))), A1)
  else if x2 = 1 then
    if x1 < 0 ∨ 12 ≤ (Int32.toNatClampNeg x1) then none else
    some (some (.int (tz_g A1 47 (Int32.toNatClampNeg x1))), A1)
  else if x2 = 2 then
    if x1 < 0 ∨ 12 ≤ (Int32.toNatClampNeg x1) then none else
    some (some (.int (tz_g A1 48 (Int32.toNatClampNeg x1))), A1)
  else if x2 = 3 then
    if x1 < 0 ∨ 12 ≤ (Int32.toNatClampNeg x1) then none else
    some (some (.int (tz_g A1 49 (Int32.toNatClampNeg x1))), A1)
  else if x2 = 4 then
    if x1 < 0 ∨ 12 ≤ (Int32.toNatClampNeg x1) then none else
    some (some (.int (tz_g A1 50 (Int32.toNatClampNeg x1))), A1)
  else if x2 = 5 then
    if x1 < 0 ∨ 12 ≤ (Int32.toNatClampNeg x1) then none else
    some (some (.int (tz_g A1 51 (Int32.toNatClampNeg x1))), A1)
  else tz_bI (f_X11_refuse (-5) A1) (fun y2 A2 =>
  some (some (.int y2), A2))
else
  tz_bI (f_X11_refuse (-5) A1) (fun y2 A2 =>
  some (some (.int y2), A2))) := by
  refine (tz_Fe (L := [some (.ref 17), some (.int x1), some (.int x2)]) rfl).trans ?_
  refine (tz_g_aload_n rfl (tz_in0 rfl)).trans ?_
  refine (tz_g_getr (j := 30) rfl rfl rfl rfl rfl (tz_in0 rfl)).trans ?_
  refine (tz_g_getr (j := 45) rfl rfl rfl rfl rfl (tz_in0 rfl)).trans ?_
  refine (tz_g_iload_n rfl (tz_in0 rfl)).trans ?_
  refine (tz_g_cv1I (m2 := 52) (rc := 4) rfl rfl rfl rfl rfl rfl (by decide) (tz_in0 rfl)).trans ?_
  refine tz_jI (fun y1 A1 => ?_)
  refine (tz_g_if_ne (t := 21) (by decide) (tz_in0 rfl)).trans ?_
  refine tz_cg ?_ ?_
  · skip
    refine (tz_g_iload_n rfl (tz_in0 rfl)).trans ?_
    refine (tz_g_tsw (by decide) (tz_in0 rfl)).trans ?_
    refine tz_swc (v := 0) (by decide) ?_ ?_
    · refine (tz_tg (t := 60) (by decide)).trans ?_
      refine (tz_g_aload_n rfl (tz_in0 rfl)).trans ?_
      refine (tz_g_getr (j := 30) rfl rfl rfl rfl rfl (tz_in0 rfl)).trans ?_
      refine (tz_g_getr (j := 45) rfl rfl rfl rfl rfl (tz_in0 rfl)).trans ?_
      refine (tz_g_getr (j := 46) rfl rfl rfl rfl rfl (tz_in0 rfl)).trans ?_
      refine (tz_g_iload_n rfl (tz_in0 rfl)).trans ?_
      refine (tz_g_iald (n := 12) rfl rfl rfl (tz_in0 rfl)).trans ?_
      refine tz_cn1 ?_
      exact tz_g_ret1 (tz_in0 rfl) rfl
    refine tz_swc (v := 1) (by decide) ?_ ?_
    · refine (tz_tg (t := 73) (by decide)).trans ?_
      refine (tz_g_aload_n rfl (tz_in0 rfl)).trans ?_
      refine (tz_g_getr (j := 30) rfl rfl rfl rfl rfl (tz_in0 rfl)).trans ?_
      refine (tz_g_getr (j := 45) rfl rfl rfl rfl rfl (tz_in0 rfl)).trans ?_
      refine (tz_g_getr (j := 47) rfl rfl rfl rfl rfl (tz_in0 rfl)).trans ?_
      refine (tz_g_iload_n rfl (tz_in0 rfl)).trans ?_
      refine (tz_g_iald (n := 12) rfl rfl rfl (tz_in0 rfl)).trans ?_
      refine tz_cn1 ?_
      exact tz_g_ret1 (tz_in0 rfl) rfl
    refine tz_swc (v := 2) (by decide) ?_ ?_
    · refine (tz_tg (t := 86) (by decide)).trans ?_
      refine (tz_g_aload_n rfl (tz_in0 rfl)).trans ?_
      refine (tz_g_getr (j := 30) rfl rfl rfl rfl rfl (tz_in0 rfl)).trans ?_
      refine (tz_g_getr (j := 45) rfl rfl rfl rfl rfl (tz_in0 rfl)).trans ?_
      refine (tz_g_getr (j := 48) rfl rfl rfl rfl rfl (tz_in0 rfl)).trans ?_
      refine (tz_g_iload_n rfl (tz_in0 rfl)).trans ?_
      refine (tz_g_iald (n := 12) rfl rfl rfl (tz_in0 rfl)).trans ?_
      refine tz_cn1 ?_
      exact tz_g_ret1 (tz_in0 rfl) rfl
    refine tz_swc (v := 3) (by decide) ?_ ?_
    · refine (tz_tg (t := 99) (by decide)).trans ?_
      refine (tz_g_aload_n rfl (tz_in0 rfl)).trans ?_
      refine (tz_g_getr (j := 30) rfl rfl rfl rfl rfl (tz_in0 rfl)).trans ?_
      refine (tz_g_getr (j := 45) rfl rfl rfl rfl rfl (tz_in0 rfl)).trans ?_
      refine (tz_g_getr (j := 49) rfl rfl rfl rfl rfl (tz_in0 rfl)).trans ?_
      refine (tz_g_iload_n rfl (tz_in0 rfl)).trans ?_
      refine (tz_g_iald (n := 12) rfl rfl rfl (tz_in0 rfl)).trans ?_
      refine tz_cn1 ?_
      exact tz_g_ret1 (tz_in0 rfl) rfl
    refine tz_swc (v := 4) (by decide) ?_ ?_
    · refine (tz_tg (t := 112) (by decide)).trans ?_
      refine (tz_g_aload_n rfl (tz_in0 rfl)).trans ?_
      refine (tz_g_getr (j := 30) rfl rfl rfl rfl rfl (tz_in0 rfl)).trans ?_
      refine (tz_g_getr (j := 45) rfl rfl rfl rfl rfl (tz_in0 rfl)).trans ?_
      refine (tz_g_getr (j := 50) rfl rfl rfl rfl rfl (tz_in0 rfl)).trans ?_
      refine (tz_g_iload_n rfl (tz_in0 rfl)).trans ?_
      refine (tz_g_iald (n := 12) rfl rfl rfl (tz_in0 rfl)).trans ?_
      refine tz_cn1 ?_
      exact tz_g_ret1 (tz_in0 rfl) rfl
    refine tz_swc (v := 5) (by decide) ?_ ?_
    · refine (tz_tg (t := 125) (by decide)).trans ?_
      refine (tz_g_aload_n rfl (tz_in0 rfl)).trans ?_
      refine (tz_g_getr (j := 30) rfl rfl rfl rfl rfl (tz_in0 rfl)).trans ?_
      refine (tz_g_getr (j := 45) rfl rfl rfl rfl rfl (tz_in0 rfl)).trans ?_
      refine (tz_g_getr (j := 51) rfl rfl rfl rfl rfl (tz_in0 rfl)).trans ?_
      refine (tz_g_iload_n rfl (tz_in0 rfl)).trans ?_
      refine (tz_g_iald (n := 12) rfl rfl rfl (tz_in0 rfl)).trans ?_
      refine tz_cn1 ?_
      exact tz_g_ret1 (tz_in0 rfl) rfl
    refine tz_swd ?_
    refine (tz_tg (t := 138) (by decide)).trans ?_
    refine (tz_g_aload_n rfl (tz_in0 rfl)).trans ?_
    refine (tz_g_bipush (v := (-5)) rfl (tz_in0 rfl)).trans ?_
    refine (tz_g_cv1I (m2 := 15) (rc := 1) rfl rfl rfl rfl rfl rfl (by decide) (tz_in0 rfl)).trans ?_
    refine tz_jI (fun y2 A2 => ?_)
    exact tz_g_ret1 (tz_in0 rfl) rfl
  · skip
    refine (tz_g_aload_n rfl (tz_in0 rfl)).trans ?_
    refine (tz_g_bipush (v := (-5)) rfl (tz_in0 rfl)).trans ?_
    refine (tz_g_cv1I (m2 := 15) (rc := 1) rfl rfl rfl rfl rfl rfl (by decide) (tz_in0 rfl)).trans ?_
    refine tz_jI (fun y2 A2 => ?_)
    exact tz_g_ret1 (tz_in0 rfl) rfl

theorem e_X9_become (b : Nat) (b2 : Nat) (hb : tz_sky b) (hb2 : tz_sky b2) (A : tz_Mem) : f_X9_become b b2 A =
  tz_bV (f_X3_become b b2 A) (fun A1 =>
tz_bV (f_X10_become b b2 A1) (fun A2 =>
tz_bV (f_X4_become b b2 A2) (fun A3 =>
some (none, (tz_sr (tz_s (tz_s (tz_s (tz_s A3 b 3 (tz_g A3 b2 3)) b 4 (tz_g (tz_s A3 b 3 (tz_g A3 b2 3)) b2 4)) b 5 (tz_g (tz_s (tz_s A3 b 3 (tz_g A3 b2 3)) b 4 (tz_g (tz_s A3 b 3 (tz_g A3 b2 3)) b2 4)) b2 5)) b 6 (-1)) b 7 0))))) := by
  obtain rfl | rfl | rfl | rfl | rfl := hb
  all_goals obtain rfl | rfl | rfl | rfl | rfl := hb2
  all_goals
    refine (tz_Fe (L := [some (.ref _), some (.ref _)]) rfl).trans ?_
    refine (tz_g_aload_n rfl (tz_in0 rfl)).trans ?_
    refine (tz_g_getr (j := _) rfl rfl rfl rfl rfl (tz_in0 rfl)).trans ?_
    refine (tz_g_aload_n rfl (tz_in0 rfl)).trans ?_
    refine (tz_g_getr (j := _) rfl rfl rfl rfl rfl (tz_in0 rfl)).trans ?_
    refine (tz_g_cv1V (m2 := 56) (rc := 0) rfl rfl rfl rfl rfl rfl (by decide) (tz_in0 rfl)).trans ?_
    refine tz_jV (fun A1 => ?_)
    refine (tz_g_aload_n rfl (tz_in0 rfl)).trans ?_
    refine (tz_g_getr (j := _) rfl rfl rfl rfl rfl (tz_in0 rfl)).trans ?_
    refine (tz_g_aload_n rfl (tz_in0 rfl)).trans ?_
    refine (tz_g_getr (j := _) rfl rfl rfl rfl rfl (tz_in0 rfl)).trans ?_
    refine (tz_g_cv1V (m2 := 57) (rc := 0) rfl rfl rfl rfl rfl rfl (by decide) (tz_in0 rfl)).trans ?_
    refine tz_jV (fun A2 => ?_)
    refine (tz_g_aload_n rfl (tz_in0 rfl)).trans ?_
    refine (tz_g_getr (j := _) rfl rfl rfl rfl rfl (tz_in0 rfl)).trans ?_
    refine (tz_g_aload_n rfl (tz_in0 rfl)).trans ?_
    refine (tz_g_getr (j := _) rfl rfl rfl rfl rfl (tz_in0 rfl)).trans ?_
    refine (tz_g_cv1V (m2 := 58) (rc := 0) rfl rfl rfl rfl rfl rfl (by decide) (tz_in0 rfl)).trans ?_
    refine tz_jV (fun A3 => ?_)
    refine (tz_g_aload_n rfl (tz_in0 rfl)).trans ?_
    refine (tz_g_aload_n rfl (tz_in0 rfl)).trans ?_
    refine (tz_g_geti rfl rfl rfl (tz_in0 rfl)).trans ?_
    refine (tz_g_puti rfl rfl rfl (tz_in0 rfl)).trans ?_
    refine (tz_g_aload_n rfl (tz_in0 rfl)).trans ?_
    refine (tz_g_aload_n rfl (tz_in0 rfl)).trans ?_
    refine (tz_g_geti rfl rfl rfl (tz_in0 rfl)).trans ?_
    refine (tz_g_puti rfl rfl rfl (tz_in0 rfl)).trans ?_
    refine (tz_g_aload_n rfl (tz_in0 rfl)).trans ?_
    refine (tz_g_aload_n rfl (tz_in0 rfl)).trans ?_
    refine (tz_g_geti rfl rfl rfl (tz_in0 rfl)).trans ?_
    refine (tz_g_puti rfl rfl rfl (tz_in0 rfl)).trans ?_
    refine (tz_g_aload_n rfl (tz_in0 rfl)).trans ?_
    refine (tz_g_iconst (v := (-1)) rfl (tz_in0 rfl)).trans ?_
    refine (tz_g_puti rfl rfl rfl (tz_in0 rfl)).trans ?_
    refine (tz_g_aload_n rfl (tz_in0 rfl)).trans ?_
    refine (tz_g_null (tz_in0 rfl)).trans ?_
    refine (tz_g_putn rfl rfl rfl (tz_in0 rfl)).trans ?_
    exact tz_g_ret0 (tz_in0 rfl) rfl

theorem e_J0_length_s5 (A : tz_Mem) : f_J0_length_s5 A =
  tz_bI (f_J0_coder_s5 A) (fun y1 A1 =>
some (some (.int (4 >>> (y1 &&& 31))), A1)) := by
  refine (tz_Fe (L := [some (.ref 5)]) rfl).trans ?_
  refine (tz_g_aload_n rfl (tz_in0 rfl)).trans ?_
  refine (tz_g_getr (j := 11) rfl rfl rfl rfl rfl (tz_in0 rfl)).trans ?_
  refine (tz_g_alen (v := 4) rfl rfl (tz_in0 rfl)).trans ?_
  refine (tz_g_aload_n rfl (tz_in0 rfl)).trans ?_
  refine (tz_g_cv0I (m2 := 64) (rc := 6) rfl rfl rfl rfl rfl rfl (by decide) (tz_in0 rfl)).trans ?_
  refine tz_jI (fun y1 A1 => ?_)
  refine (tz_g_ishr (tz_in0 rfl)).trans ?_
  exact tz_g_ret1 (tz_in0 rfl) rfl

theorem e_J0_length_s6 (A : tz_Mem) : f_J0_length_s6 A =
  tz_bI (f_J0_coder_s6 A) (fun y1 A1 =>
some (some (.int (5 >>> (y1 &&& 31))), A1)) := by
  refine (tz_Fe (L := [some (.ref 6)]) rfl).trans ?_
  refine (tz_g_aload_n rfl (tz_in0 rfl)).trans ?_
  refine (tz_g_getr (j := 12) rfl rfl rfl rfl rfl (tz_in0 rfl)).trans ?_
  refine (tz_g_alen (v := 5) rfl rfl (tz_in0 rfl)).trans ?_
  refine (tz_g_aload_n rfl (tz_in0 rfl)).trans ?_
  refine (tz_g_cv0I (m2 := 64) (rc := 6) rfl rfl rfl rfl rfl rfl (by decide) (tz_in0 rfl)).trans ?_
  refine tz_jI (fun y1 A1 => ?_)
  refine (tz_g_ishr (tz_in0 rfl)).trans ?_
  exact tz_g_ret1 (tz_in0 rfl) rfl

theorem e_J0_length_s7 (A : tz_Mem) : f_J0_length_s7 A =
  tz_bI (f_J0_coder_s7 A) (fun y1 A1 =>
some (some (.int (6 >>> (y1 &&& 31))), A1)) := by
  refine (tz_Fe (L := [some (.ref 7)]) rfl).trans ?_
  refine (tz_g_aload_n rfl (tz_in0 rfl)).trans ?_
  refine (tz_g_getr (j := 13) rfl rfl rfl rfl rfl (tz_in0 rfl)).trans ?_
  refine (tz_g_alen (v := 6) rfl rfl (tz_in0 rfl)).trans ?_
  refine (tz_g_aload_n rfl (tz_in0 rfl)).trans ?_
  refine (tz_g_cv0I (m2 := 64) (rc := 6) rfl rfl rfl rfl rfl rfl (by decide) (tz_in0 rfl)).trans ?_
  refine tz_jI (fun y1 A1 => ?_)
  refine (tz_g_ishr (tz_in0 rfl)).trans ?_
  exact tz_g_ret1 (tz_in0 rfl) rfl

theorem e_J0_length_s8 (A : tz_Mem) : f_J0_length_s8 A =
  tz_bI (f_J0_coder_s8 A) (fun y1 A1 =>
some (some (.int (4 >>> (y1 &&& 31))), A1)) := by
  refine (tz_Fe (L := [some (.ref 8)]) rfl).trans ?_
  refine (tz_g_aload_n rfl (tz_in0 rfl)).trans ?_
  refine (tz_g_getr (j := 14) rfl rfl rfl rfl rfl (tz_in0 rfl)).trans ?_
  refine (tz_g_alen (v := 4) rfl rfl (tz_in0 rfl)).trans ?_
  refine (tz_g_aload_n rfl (tz_in0 rfl)).trans ?_
  refine (tz_g_cv0I (m2 := 64) (rc := 6) rfl rfl rfl rfl rfl rfl (by decide) (tz_in0 rfl)).trans ?_
  refine tz_jI (fun y1 A1 => ?_)
  refine (tz_g_ishr (tz_in0 rfl)).trans ?_
  exact tz_g_ret1 (tz_in0 rfl) rfl

theorem e_J0_length_s9 (A : tz_Mem) : f_J0_length_s9 A =
  tz_bI (f_J0_coder_s9 A) (fun y1 A1 =>
some (some (.int (4 >>> (y1 &&& 31))), A1)) := by
  refine (tz_Fe (L := [some (.ref 9)]) rfl).trans ?_
  refine (tz_g_aload_n rfl (tz_in0 rfl)).trans ?_
  refine (tz_g_getr (j := 15) rfl rfl rfl rfl rfl (tz_in0 rfl)).trans ?_
  refine (tz_g_alen (v := 4) rfl rfl (tz_in0 rfl)).trans ?_
  refine (tz_g_aload_n rfl (tz_in0 rfl)).trans ?_
  refine (tz_g_cv0I (m2 := 64) (rc := 6) rfl rfl rfl rfl rfl rfl (by decide) (tz_in0 rfl)).trans ?_
  refine tz_jI (fun y1 A1 => ?_)
  refine (tz_g_ishr (tz_in0 rfl)).trans ?_
  exact tz_g_ret1 (tz_in0 rfl) rfl

theorem e_J0_checkIndex (x1 : Int32) (x2 : Int32) (A : tz_Mem) : f_J0_checkIndex x1 x2 A =
  tz_bI (f_J3_checkIndex x1 x2 A) (fun y1 A1 =>
some (none, A1)) := by
  refine (tz_Fe (L := [some (.int x1), some (.int x2)]) rfl).trans ?_
  refine (tz_g_iload_n rfl (tz_in0 rfl)).trans ?_
  refine (tz_g_iload_n rfl (tz_in0 rfl)).trans ?_
  refine (tz_g_gets2 rfl (tz_in0 rfl)).trans ?_
  refine (tz_g_cs3I (m2 := 69) (rc := 1) rfl rfl rfl rfl rfl rfl (by decide) (tz_in0 rfl)).trans ?_
  refine tz_jI (fun y1 A1 => ?_)
  refine (tz_g_pop rfl (tz_in0 rfl)).trans ?_
  exact tz_g_ret0 (tz_in0 rfl) rfl

theorem e_X7_hasRoomFor (x1 : Int32) (A : tz_Mem) : f_X7_hasRoomFor x1 A =
  if x1 = 0 then
  tz_bI (f_X3_isFull 124 A) (fun y1 A1 =>
  if ¬ y1 = 0 then
    some (some (.int 0), A1)
  else
    some (some (.int 1), A1))
else if x1 = 1 then
  tz_bI (f_X10_isFull 124 A) (fun y1 A1 =>
  if ¬ y1 = 0 then
    some (some (.int 0), A1)
  else
    some (some (.int 1), A1))
else if x1 = 2 then
  tz_bI (f_X4_isFull 124 A) (fun y1 A1 =>
  if ¬ y1 = 0 then
    some (some (.int 0), A1)
  else
    some (some (.int 1), A1))
else some (some (.int 1), A) := by
  refine (tz_Fe (L := [some (.ref 122), some (.int x1)]) rfl).trans ?_
  refine (tz_g_iload_n rfl (tz_in0 rfl)).trans ?_
  refine (tz_g_tsw (by decide) (tz_in0 rfl)).trans ?_
  refine tz_swc (v := 0) (by decide) ?_ ?_
  · refine (tz_tg (t := 28) (by decide)).trans ?_
    refine (tz_g_aload_n rfl (tz_in0 rfl)).trans ?_
    refine (tz_g_getr (j := 124) rfl rfl rfl rfl rfl (tz_in0 rfl)).trans ?_
    refine (tz_g_getr (j := 125) rfl rfl rfl rfl rfl (tz_in0 rfl)).trans ?_
    refine (tz_g_cv0I (m2 := 28) (rc := 4) rfl rfl rfl rfl rfl rfl (by decide) (tz_in0 rfl)).trans ?_
    refine tz_jI (fun y1 A1 => ?_)
    refine (tz_g_if_ne (t := 45) (by decide) (tz_in0 rfl)).trans ?_
    refine tz_cg ?_ ?_
    · skip
      refine (tz_g_iconst (v := 0) rfl (tz_in0 rfl)).trans ?_
      exact tz_g_ret4K (by decide) (tz_in0 rfl) rfl
    · skip
      refine (tz_g_iconst (v := 1) rfl (tz_in0 rfl)).trans ?_
      refine (tz_g_goto (t := 46) (by decide) (tz_in0 rfl)).trans ?_
      exact tz_g_ret4K (by decide) (tz_in0 rfl) rfl
  refine tz_swc (v := 1) (by decide) ?_ ?_
  · refine (tz_tg (t := 47) (by decide)).trans ?_
    refine (tz_g_aload_n rfl (tz_in0 rfl)).trans ?_
    refine (tz_g_getr (j := 124) rfl rfl rfl rfl rfl (tz_in0 rfl)).trans ?_
    refine (tz_g_getr (j := 131) rfl rfl rfl rfl rfl (tz_in0 rfl)).trans ?_
    refine (tz_g_cv0I (m2 := 35) (rc := 4) rfl rfl rfl rfl rfl rfl (by decide) (tz_in0 rfl)).trans ?_
    refine tz_jI (fun y1 A1 => ?_)
    refine (tz_g_if_ne (t := 64) (by decide) (tz_in0 rfl)).trans ?_
    refine tz_cg ?_ ?_
    · skip
      refine (tz_g_iconst (v := 0) rfl (tz_in0 rfl)).trans ?_
      exact tz_g_ret4K (by decide) (tz_in0 rfl) rfl
    · skip
      refine (tz_g_iconst (v := 1) rfl (tz_in0 rfl)).trans ?_
      refine (tz_g_goto (t := 65) (by decide) (tz_in0 rfl)).trans ?_
      exact tz_g_ret4K (by decide) (tz_in0 rfl) rfl
  refine tz_swc (v := 2) (by decide) ?_ ?_
  · refine (tz_tg (t := 66) (by decide)).trans ?_
    refine (tz_g_aload_n rfl (tz_in0 rfl)).trans ?_
    refine (tz_g_getr (j := 124) rfl rfl rfl rfl rfl (tz_in0 rfl)).trans ?_
    refine (tz_g_getr (j := 139) rfl rfl rfl rfl rfl (tz_in0 rfl)).trans ?_
    refine (tz_g_cv0I (m2 := 41) (rc := 4) rfl rfl rfl rfl rfl rfl (by decide) (tz_in0 rfl)).trans ?_
    refine tz_jI (fun y1 A1 => ?_)
    refine (tz_g_if_ne (t := 83) (by decide) (tz_in0 rfl)).trans ?_
    refine tz_cg ?_ ?_
    · skip
      refine (tz_g_iconst (v := 0) rfl (tz_in0 rfl)).trans ?_
      exact tz_g_ret4K (by decide) (tz_in0 rfl) rfl
    · skip
      refine (tz_g_iconst (v := 1) rfl (tz_in0 rfl)).trans ?_
      refine (tz_g_goto (t := 84) (by decide) (tz_in0 rfl)).trans ?_
      exact tz_g_ret4K (by decide) (tz_in0 rfl) rfl
  refine tz_swd ?_
  refine (tz_tg (t := 85) (by decide)).trans ?_
  refine (tz_g_iconst (v := 1) rfl (tz_in0 rfl)).trans ?_
  exact tz_g_ret4K (by decide) (tz_in0 rfl) rfl

theorem e_X7_readNumber (x1 : Int32) (x2 : Int32) (A : tz_Mem) : f_X7_readNumber x1 x2 A =
  if (tz_g A 122 0) = (-1) then
  tz_bI (f_X7_stands 32 A) (fun y1 A1 =>
  if ¬ y1 = 0 then
    q_X7_readNumber_52 x1 x2 0 0 (tz_s (tz_s A1 122 5 ((tz_g A1 122 5) + 1)) 122 6 (tz_g (tz_s A1 122 5 ((tz_g A1 122 5) + 1)) 122 5))
  else
    some (some (.int (-1)), (tz_s A1 122 0 (tz_g A1 122 5))))
else
  some (some (.int (-1)), A) := by
  refine (tz_Fe (L := [some (.ref 122), some (.int x1), some (.int x2), none, none]) rfl).trans ?_
  refine (tz_g_aload_n rfl (tz_in0 rfl)).trans ?_
  refine (tz_g_geti rfl rfl rfl (tz_in0 rfl)).trans ?_
  refine (tz_g_iconst (v := (-1)) rfl (tz_in0 rfl)).trans ?_
  refine (tz_g_ic_eq (t := 10) (by decide) (tz_in0 rfl)).trans ?_
  refine tz_cg ?_ ?_
  · skip
    refine (tz_g_aload_n rfl (tz_in0 rfl)).trans ?_
    refine (tz_g_bipush (v := 32) rfl (tz_in0 rfl)).trans ?_
    refine (tz_g_cv1I (m2 := 73) (rc := 4) rfl rfl rfl rfl rfl rfl (by decide) (tz_in0 rfl)).trans ?_
    refine tz_jI (fun y1 A1 => ?_)
    refine (tz_g_if_ne (t := 29) (by decide) (tz_in0 rfl)).trans ?_
    refine tz_cg ?_ ?_
    · skip
      refine (tz_g_aload_n rfl (tz_in0 rfl)).trans ?_
      refine (tz_g_dup rfl (tz_in0 rfl)).trans ?_
      refine (tz_g_geti rfl rfl rfl (tz_in0 rfl)).trans ?_
      refine (tz_g_iconst (v := 1) rfl (tz_in0 rfl)).trans ?_
      refine (tz_g_iadd (tz_in0 rfl)).trans ?_
      refine (tz_g_puti rfl rfl rfl (tz_in0 rfl)).trans ?_
      refine (tz_g_aload_n rfl (tz_in0 rfl)).trans ?_
      refine (tz_g_aload_n rfl (tz_in0 rfl)).trans ?_
      refine (tz_g_geti rfl rfl rfl (tz_in0 rfl)).trans ?_
      refine (tz_g_puti rfl rfl rfl (tz_in0 rfl)).trans ?_
      refine (tz_g_iconst (v := 0) rfl (tz_in0 rfl)).trans ?_
      refine (tz_g_istore_n (L2 := [some (.ref 122), some (.int x1), some (.int x2), some (.int 0), none]) rfl rfl (tz_in0 rfl)).trans ?_
      refine (tz_g_iconst (v := 0) rfl (tz_in0 rfl)).trans ?_
      refine (tz_g_istore (L2 := [some (.ref 122), some (.int x1), some (.int x2), some (.int 0), some (.int 0)]) rfl rfl (tz_in0 rfl)).trans ?_
      exact tz_Gm (L2 := [some (.ref 122), some (.int x1), some (.int x2), some (.int 0), some (.int 0)]) rfl rfl rfl rfl
    · skip
      refine (tz_g_aload_n rfl (tz_in0 rfl)).trans ?_
      refine (tz_g_aload_n rfl (tz_in0 rfl)).trans ?_
      refine (tz_g_geti rfl rfl rfl (tz_in0 rfl)).trans ?_
      refine (tz_g_puti rfl rfl rfl (tz_in0 rfl)).trans ?_
      refine (tz_g_iconst (v := (-1)) rfl (tz_in0 rfl)).trans ?_
      exact tz_g_ret1 (tz_in0 rfl) rfl
  · skip
    refine (tz_g_iconst (v := (-1)) rfl (tz_in0 rfl)).trans ?_
    exact tz_g_ret1 (tz_in0 rfl) rfl

theorem e_X7_readNumber_52 (z1 : Int32) (z2 : Int32) (z3 : Int32) (z4 : Int32) (A : tz_Mem) : q_X7_readNumber_52 z1 z2 z3 z4 A =
  if 4 ≤ z4 then
  if (tz_g A 122 5) = (tz_g A 122 6) then
    some (some (.int (-1)), (tz_s A 122 0 (tz_g A 122 6)))
  else
    if z3 < z1 then
      some (some (.int (-1)), (tz_s A 122 0 (tz_g A 122 6)))
    else
      if z3 ≤ z2 then
        some (some (.int z3), A)
      else
        some (some (.int (-1)), (tz_s A 122 0 (tz_g A 122 6)))
else
  tz_bI (f_X7_digitStands A) (fun y1 A1 =>
  if y1 = 0 then
    if (tz_g A1 122 5) = (tz_g A1 122 6) then
      some (some (.int (-1)), (tz_s A1 122 0 (tz_g A1 122 6)))
    else
      if z3 < z1 then
        some (some (.int (-1)), (tz_s A1 122 0 (tz_g A1 122 6)))
      else
        if z3 ≤ z2 then
          some (some (.int z3), A1)
        else
          some (some (.int (-1)), (tz_s A1 122 0 (tz_g A1 122 6)))
  else
    if (tz_g A1 122 5) < 0 ∨ 160 ≤ (Int32.toNatClampNeg (tz_g A1 122 5)) then none else
    q_X7_readNumber_52 z1 z2 (((z3 * 10) + (tz_g A1 123 (Int32.toNatClampNeg (tz_g A1 122 5)))) - 48) (z4 + 1) (tz_s A1 122 5 ((tz_g A1 122 5) + 1))) := by
  show tz_Go 72 52 [some (.ref 122), some (.int z1), some (.int z2), some (.int z3), some (.int z4)] [] A = _
  refine (tz_g_iload rfl (tz_inM rfl rfl rfl)).trans ?_
  refine (tz_g_iconst (v := 4) rfl (tz_in0 rfl)).trans ?_
  refine (tz_g_ic_ge (t := 99) (by decide) (tz_in0 rfl)).trans ?_
  refine tz_cg ?_ ?_
  · skip
    refine (tz_g_aload_n rfl (tz_in0 rfl)).trans ?_
    refine (tz_g_geti rfl rfl rfl (tz_in0 rfl)).trans ?_
    refine (tz_g_aload_n rfl (tz_in0 rfl)).trans ?_
    refine (tz_g_geti rfl rfl rfl (tz_in0 rfl)).trans ?_
    refine (tz_g_ic_eq (t := 120) (by decide) (tz_in0 rfl)).trans ?_
    refine tz_cg ?_ ?_
    · skip
      refine (tz_g_aload_n rfl (tz_in0 rfl)).trans ?_
      refine (tz_g_aload_n rfl (tz_in0 rfl)).trans ?_
      refine (tz_g_geti rfl rfl rfl (tz_in0 rfl)).trans ?_
      refine (tz_g_puti rfl rfl rfl (tz_in0 rfl)).trans ?_
      refine (tz_g_iconst (v := (-1)) rfl (tz_in0 rfl)).trans ?_
      exact tz_g_ret1 (tz_in0 rfl) rfl
    · skip
      refine (tz_g_iload_n rfl (tz_in0 rfl)).trans ?_
      refine (tz_g_iload_n rfl (tz_in0 rfl)).trans ?_
      refine (tz_g_ic_lt (t := 120) (by decide) (tz_in0 rfl)).trans ?_
      refine tz_cg ?_ ?_
      · skip
        refine (tz_g_aload_n rfl (tz_in0 rfl)).trans ?_
        refine (tz_g_aload_n rfl (tz_in0 rfl)).trans ?_
        refine (tz_g_geti rfl rfl rfl (tz_in0 rfl)).trans ?_
        refine (tz_g_puti rfl rfl rfl (tz_in0 rfl)).trans ?_
        refine (tz_g_iconst (v := (-1)) rfl (tz_in0 rfl)).trans ?_
        exact tz_g_ret1 (tz_in0 rfl) rfl
      · skip
        refine (tz_g_iload_n rfl (tz_in0 rfl)).trans ?_
        refine (tz_g_iload_n rfl (tz_in0 rfl)).trans ?_
        refine (tz_g_ic_le (t := 130) (by decide) (tz_in0 rfl)).trans ?_
        refine tz_cg ?_ ?_
        · skip
          refine (tz_g_iload_n rfl (tz_in0 rfl)).trans ?_
          exact tz_g_ret1 (tz_in0 rfl) rfl
        · skip
          refine (tz_g_aload_n rfl (tz_in0 rfl)).trans ?_
          refine (tz_g_aload_n rfl (tz_in0 rfl)).trans ?_
          refine (tz_g_geti rfl rfl rfl (tz_in0 rfl)).trans ?_
          refine (tz_g_puti rfl rfl rfl (tz_in0 rfl)).trans ?_
          refine (tz_g_iconst (v := (-1)) rfl (tz_in0 rfl)).trans ?_
          exact tz_g_ret1 (tz_in0 rfl) rfl
  · skip
    refine (tz_g_aload_n rfl (tz_in0 rfl)).trans ?_
    refine (tz_g_cv0I (m2 := 74) (rc := 4) rfl rfl rfl rfl rfl rfl (by decide) (tz_in0 rfl)).trans ?_
    refine tz_jI (fun y1 A1 => ?_)
    refine (tz_g_if_eq (t := 99) (by decide) (tz_in0 rfl)).trans ?_
    refine tz_cg ?_ ?_
    · skip
      refine (tz_g_aload_n rfl (tz_in0 rfl)).trans ?_
      refine (tz_g_geti rfl rfl rfl (tz_in0 rfl)).trans ?_
      refine (tz_g_aload_n rfl (tz_in0 rfl)).trans ?_
      refine (tz_g_geti rfl rfl rfl (tz_in0 rfl)).trans ?_
      refine (tz_g_ic_eq (t := 120) (by decide) (tz_in0 rfl)).trans ?_
      refine tz_cg ?_ ?_
      · skip
        refine (tz_g_aload_n rfl (tz_in0 rfl)).trans ?_
        refine (tz_g_aload_n rfl (tz_in0 rfl)).trans ?_
        refine (tz_g_geti rfl rfl rfl (tz_in0 rfl)).trans ?_
        refine (tz_g_puti rfl rfl rfl (tz_in0 rfl)).trans ?_
        refine (tz_g_iconst (v := (-1)) rfl (tz_in0 rfl)).trans ?_
        exact tz_g_ret1 (tz_in0 rfl) rfl
      · skip
        refine (tz_g_iload_n rfl (tz_in0 rfl)).trans ?_
        refine (tz_g_iload_n rfl (tz_in0 rfl)).trans ?_
        refine (tz_g_ic_lt (t := 120) (by decide) (tz_in0 rfl)).trans ?_
        refine tz_cg ?_ ?_
        · skip
          refine (tz_g_aload_n rfl (tz_in0 rfl)).trans ?_
          refine (tz_g_aload_n rfl (tz_in0 rfl)).trans ?_
          refine (tz_g_geti rfl rfl rfl (tz_in0 rfl)).trans ?_
          refine (tz_g_puti rfl rfl rfl (tz_in0 rfl)).trans ?_
          refine (tz_g_iconst (v := (-1)) rfl (tz_in0 rfl)).trans ?_
          exact tz_g_ret1 (tz_in0 rfl) rfl
        · skip
          refine (tz_g_iload_n rfl (tz_in0 rfl)).trans ?_
          refine (tz_g_iload_n rfl (tz_in0 rfl)).trans ?_
          refine (tz_g_ic_le (t := 130) (by decide) (tz_in0 rfl)).trans ?_
          refine tz_cg ?_ ?_
          · skip
            refine (tz_g_iload_n rfl (tz_in0 rfl)).trans ?_
            exact tz_g_ret1 (tz_in0 rfl) rfl
          · skip
            refine (tz_g_aload_n rfl (tz_in0 rfl)).trans ?_
            refine (tz_g_aload_n rfl (tz_in0 rfl)).trans ?_
            refine (tz_g_geti rfl rfl rfl (tz_in0 rfl)).trans ?_
            refine (tz_g_puti rfl rfl rfl (tz_in0 rfl)).trans ?_
            refine (tz_g_iconst (v := (-1)) rfl (tz_in0 rfl)).trans ?_
            exact tz_g_ret1 (tz_in0 rfl) rfl
    · skip
      refine (tz_g_iload_n rfl (tz_in0 rfl)).trans ?_
      refine (tz_g_bipush (v := 10) rfl (tz_in0 rfl)).trans ?_
      refine (tz_g_imul (tz_in0 rfl)).trans ?_
      refine (tz_g_aload_n rfl (tz_in0 rfl)).trans ?_
      refine (tz_g_getr (j := 123) rfl rfl rfl rfl rfl (tz_in0 rfl)).trans ?_
      refine (tz_g_aload_n rfl (tz_in0 rfl)).trans ?_
      refine (tz_g_geti rfl rfl rfl (tz_in0 rfl)).trans ?_
      refine (tz_g_iald (n := 160) rfl rfl rfl (tz_in0 rfl)).trans ?_
      refine tz_cn1 ?_
      refine (tz_g_iadd (tz_in0 rfl)).trans ?_
      refine (tz_g_bipush (v := 48) rfl (tz_in0 rfl)).trans ?_
      refine (tz_g_isub (tz_in0 rfl)).trans ?_
      refine (tz_g_istore_n (L2 := [some (.ref 122), some (.int z1), some (.int z2), some (.int (((z3 * 10) + (tz_g A1 123 (Int32.toNatClampNeg (tz_g A1 122 5)))) - 48)), some (.int z4)]) rfl rfl (tz_in0 rfl)).trans ?_
      refine (tz_g_aload_n rfl (tz_in0 rfl)).trans ?_
      refine (tz_g_dup rfl (tz_in0 rfl)).trans ?_
      refine (tz_g_geti rfl rfl rfl (tz_in0 rfl)).trans ?_
      refine (tz_g_iconst (v := 1) rfl (tz_in0 rfl)).trans ?_
      refine (tz_g_iadd (tz_in0 rfl)).trans ?_
      refine (tz_g_puti rfl rfl rfl (tz_in0 rfl)).trans ?_
      refine (tz_g_iinc (v := 1) (L2 := [some (.ref 122), some (.int z1), some (.int z2), some (.int (((z3 * 10) + (tz_g A1 123 (Int32.toNatClampNeg (tz_g A1 122 5)))) - 48)), some (.int (z4 + 1))]) rfl rfl rfl rfl (tz_in0 rfl)).trans ?_
      refine (tz_g_goto (t := 52) (by decide) (tz_in0 rfl)).trans ?_
      exact tz_Gm (L2 := [some (.ref 122), some (.int z1), some (.int z2), some (.int (((z3 * 10) + (tz_g A1 123 (Int32.toNatClampNeg (tz_g A1 122 5)))) - 48)), some (.int (z4 + 1))]) rfl rfl rfl rfl

theorem e_X5_listen (x1 : Int32) (x2 : Int32) (x3 : Int32) (x4 : Int32) (A : tz_Mem) : f_X5_listen x1 x2 x3 x4 A =
  if x2 = (tz_g A 151 3) then
  q_X5_listen_12 x3 x4 0 A
else
  some (none, A) := by
  refine (tz_Fe (L := [some (.ref 151), some (.int x1), some (.int x2), some (.int x3), some (.int x4), none]) rfl).trans ?_
  refine (tz_g_iload_n rfl (tz_in0 rfl)).trans ?_
  refine (tz_g_aload_n rfl (tz_in0 rfl)).trans ?_
  refine (tz_g_geti rfl rfl rfl (tz_in0 rfl)).trans ?_
  refine (tz_g_ic_eq (t := 9) (by decide) (tz_in0 rfl)).trans ?_
  refine tz_cg ?_ ?_
  · skip
    refine (tz_g_iconst (v := 0) rfl (tz_in0 rfl)).trans ?_
    refine (tz_g_istore (L2 := [some (.ref 151), some (.int x1), some (.int x2), some (.int x3), some (.int x4), some (.int 0)]) rfl rfl (tz_in0 rfl)).trans ?_
    exact tz_Gm (L2 := [some (.ref 151), none, none, some (.int x3), some (.int x4), some (.int 0)]) rfl rfl rfl rfl
  · skip
    exact tz_g_ret0 (tz_in0 rfl) rfl

theorem e_X5_listen_12 (z3 : Int32) (z4 : Int32) (z5 : Int32) (A : tz_Mem) : q_X5_listen_12 z3 z4 z5 A =
  if z4 ≤ z5 then
  some (none, A)
else
  tz_bI (f_X5_listens A) (fun y1 A1 =>
  if y1 = 0 then
    some (none, A1)
  else
    if (tz_g A1 151 0) < 0 ∨ 40 ≤ (Int32.toNatClampNeg (tz_g A1 151 0)) then none else
    if ¬ (tz_g A1 152 (Int32.toNatClampNeg (tz_g A1 151 0))) = z3 then
      q_X5_listen_12 z3 z4 (z5 + 1) (tz_s A1 151 4 1)
    else
      q_X5_listen_12 z3 z4 (z5 + 1) (tz_s A1 151 0 ((tz_g A1 151 0) + 1))) := by
  show tz_Go 89 12 [some (.ref 151), none, none, some (.int z3), some (.int z4), some (.int z5)] [] A = _
  refine (tz_g_iload rfl (tz_inM rfl rfl rfl)).trans ?_
  refine (tz_g_iload rfl (tz_in0 rfl)).trans ?_
  refine (tz_g_ic_ge (t := 63) (by decide) (tz_in0 rfl)).trans ?_
  refine tz_cg ?_ ?_
  · skip
    exact tz_g_ret0 (tz_in0 rfl) rfl
  · skip
    refine (tz_g_aload_n rfl (tz_in0 rfl)).trans ?_
    refine (tz_g_cv0I (m2 := 90) (rc := 4) rfl rfl rfl rfl rfl rfl (by decide) (tz_in0 rfl)).trans ?_
    refine tz_jI (fun y1 A1 => ?_)
    refine (tz_g_if_eq (t := 63) (by decide) (tz_in0 rfl)).trans ?_
    refine tz_cg ?_ ?_
    · skip
      exact tz_g_ret0 (tz_in0 rfl) rfl
    · skip
      refine (tz_g_aload_n rfl (tz_in0 rfl)).trans ?_
      refine (tz_g_getr (j := 152) rfl rfl rfl rfl rfl (tz_in0 rfl)).trans ?_
      refine (tz_g_aload_n rfl (tz_in0 rfl)).trans ?_
      refine (tz_g_geti rfl rfl rfl (tz_in0 rfl)).trans ?_
      refine (tz_g_iald (n := 40) rfl rfl rfl (tz_in0 rfl)).trans ?_
      refine tz_cn1 ?_
      refine (tz_g_iload_n rfl (tz_in0 rfl)).trans ?_
      refine (tz_g_ic_ne (t := 52) (by decide) (tz_in0 rfl)).trans ?_
      refine tz_cg ?_ ?_
      · skip
        refine (tz_g_aload_n rfl (tz_in0 rfl)).trans ?_
        refine (tz_g_iconst (v := 1) rfl (tz_in0 rfl)).trans ?_
        refine (tz_g_putz rfl rfl rfl (by decide) (tz_in0 rfl)).trans ?_
        refine (tz_g_iinc (v := 1) (L2 := [some (.ref 151), none, none, some (.int z3), some (.int z4), some (.int (z5 + 1))]) rfl rfl rfl rfl (tz_in0 rfl)).trans ?_
        refine (tz_g_goto (t := 12) (by decide) (tz_in0 rfl)).trans ?_
        exact tz_Gm (L2 := [some (.ref 151), none, none, some (.int z3), some (.int z4), some (.int (z5 + 1))]) rfl rfl rfl rfl
      · skip
        refine (tz_g_aload_n rfl (tz_in0 rfl)).trans ?_
        refine (tz_g_dup rfl (tz_in0 rfl)).trans ?_
        refine (tz_g_geti rfl rfl rfl (tz_in0 rfl)).trans ?_
        refine (tz_g_iconst (v := 1) rfl (tz_in0 rfl)).trans ?_
        refine (tz_g_iadd (tz_in0 rfl)).trans ?_
        refine (tz_g_puti rfl rfl rfl (tz_in0 rfl)).trans ?_
        refine (tz_g_goto (t := 57) (by decide) (tz_in0 rfl)).trans ?_
        refine (tz_g_iinc (v := 1) (L2 := [some (.ref 151), none, none, some (.int z3), some (.int z4), some (.int (z5 + 1))]) rfl rfl rfl rfl (tz_in0 rfl)).trans ?_
        refine (tz_g_goto (t := 12) (by decide) (tz_in0 rfl)).trans ?_
        exact tz_Gm (L2 := [some (.ref 151), none, none, some (.int z3), some (.int z4), some (.int (z5 + 1))]) rfl rfl rfl rfl

theorem e_X7_goesOn (A : tz_Mem) : f_X7_goesOn A =
  if ¬ (tz_g A 122 0) = (-1) then
  some (some (.int 0), A)
else
  if (tz_g A 122 5) < (tz_g A 122 4) then
    tz_bI (f_X7_stands 59 A) (fun y1 A1 =>
    if ¬ y1 = 0 then
      some (some (.int 1), (tz_s A1 122 5 ((tz_g A1 122 5) + 1)))
    else
      some (some (.int 0), (tz_s A1 122 0 (tz_g A1 122 5))))
  else
    some (some (.int 0), A) := by
  refine (tz_Fe (L := [some (.ref 122)]) rfl).trans ?_
  refine (tz_g_aload_n rfl (tz_in0 rfl)).trans ?_
  refine (tz_g_geti rfl rfl rfl (tz_in0 rfl)).trans ?_
  refine (tz_g_iconst (v := (-1)) rfl (tz_in0 rfl)).trans ?_
  refine (tz_g_ic_ne (t := 19) (by decide) (tz_in0 rfl)).trans ?_
  refine tz_cg ?_ ?_
  · skip
    refine (tz_g_iconst (v := 0) rfl (tz_in0 rfl)).trans ?_
    exact tz_g_ret4K (by decide) (tz_in0 rfl) rfl
  · skip
    refine (tz_g_aload_n rfl (tz_in0 rfl)).trans ?_
    refine (tz_g_geti rfl rfl rfl (tz_in0 rfl)).trans ?_
    refine (tz_g_aload_n rfl (tz_in0 rfl)).trans ?_
    refine (tz_g_geti rfl rfl rfl (tz_in0 rfl)).trans ?_
    refine (tz_g_ic_lt (t := 21) (by decide) (tz_in0 rfl)).trans ?_
    refine tz_cg ?_ ?_
    · skip
      refine (tz_g_aload_n rfl (tz_in0 rfl)).trans ?_
      refine (tz_g_bipush (v := 59) rfl (tz_in0 rfl)).trans ?_
      refine (tz_g_cv1I (m2 := 73) (rc := 4) rfl rfl rfl rfl rfl rfl (by decide) (tz_in0 rfl)).trans ?_
      refine tz_jI (fun y1 A1 => ?_)
      refine (tz_g_if_ne (t := 40) (by decide) (tz_in0 rfl)).trans ?_
      refine tz_cg ?_ ?_
      · skip
        refine (tz_g_aload_n rfl (tz_in0 rfl)).trans ?_
        refine (tz_g_dup rfl (tz_in0 rfl)).trans ?_
        refine (tz_g_geti rfl rfl rfl (tz_in0 rfl)).trans ?_
        refine (tz_g_iconst (v := 1) rfl (tz_in0 rfl)).trans ?_
        refine (tz_g_iadd (tz_in0 rfl)).trans ?_
        refine (tz_g_puti rfl rfl rfl (tz_in0 rfl)).trans ?_
        refine (tz_g_iconst (v := 1) rfl (tz_in0 rfl)).trans ?_
        exact tz_g_ret4K (by decide) (tz_in0 rfl) rfl
      · skip
        refine (tz_g_aload_n rfl (tz_in0 rfl)).trans ?_
        refine (tz_g_aload_n rfl (tz_in0 rfl)).trans ?_
        refine (tz_g_geti rfl rfl rfl (tz_in0 rfl)).trans ?_
        refine (tz_g_puti rfl rfl rfl (tz_in0 rfl)).trans ?_
        refine (tz_g_iconst (v := 0) rfl (tz_in0 rfl)).trans ?_
        exact tz_g_ret4K (by decide) (tz_in0 rfl) rfl
    · skip
      refine (tz_g_iconst (v := 0) rfl (tz_in0 rfl)).trans ?_
      exact tz_g_ret4K (by decide) (tz_in0 rfl) rfl

theorem e_X11_refuseLower (x1 : Int32) (A : tz_Mem) : f_X11_refuseLower x1 A =
  tz_bI (f_X11_refuse x1 A) (fun y1 A1 =>
some (some (.int (y1 - 10)), A1)) := by
  refine (tz_Fe (L := [some (.ref 17), some (.int x1)]) rfl).trans ?_
  refine (tz_g_aload_n rfl (tz_in0 rfl)).trans ?_
  refine (tz_g_iload_n rfl (tz_in0 rfl)).trans ?_
  refine (tz_g_cv1I (m2 := 15) (rc := 1) rfl rfl rfl rfl rfl rfl (by decide) (tz_in0 rfl)).trans ?_
  refine tz_jI (fun y1 A1 => ?_)
  refine (tz_g_bipush (v := 10) rfl (tz_in0 rfl)).trans ?_
  refine (tz_g_isub (tz_in0 rfl)).trans ?_
  exact tz_g_ret1 (tz_in0 rfl) rfl

theorem e_X11_burn (x1 : Int32) (A : tz_Mem) : f_X11_burn x1 A =
  tz_bI (f_X4_has 30 x1 A) (fun y1 A1 =>
if ¬ y1 = 0 then
  tz_bI (f_X9_burnLetter 30 x1 A1) (fun y2 A2 =>
  if y2 = 0 then
    some (some (.int 0), A2)
  else
    some (some (.int 1), A2))
else
  tz_bI (f_X11_refuse (-5) A1) (fun y2 A2 =>
  some (some (.int y2), A2))) := by
  refine (tz_Fe (L := [some (.ref 17), some (.int x1)]) rfl).trans ?_
  refine (tz_g_aload_n rfl (tz_in0 rfl)).trans ?_
  refine (tz_g_getr (j := 30) rfl rfl rfl rfl rfl (tz_in0 rfl)).trans ?_
  refine (tz_g_getr (j := 45) rfl rfl rfl rfl rfl (tz_in0 rfl)).trans ?_
  refine (tz_g_iload_n rfl (tz_in0 rfl)).trans ?_
  refine (tz_g_cv1I (m2 := 52) (rc := 4) rfl rfl rfl rfl rfl rfl (by decide) (tz_in0 rfl)).trans ?_
  refine tz_jI (fun y1 A1 => ?_)
  refine (tz_g_if_ne (t := 21) (by decide) (tz_in0 rfl)).trans ?_
  refine tz_cg ?_ ?_
  · skip
    refine (tz_g_aload_n rfl (tz_in0 rfl)).trans ?_
    refine (tz_g_getr (j := 30) rfl rfl rfl rfl rfl (tz_in0 rfl)).trans ?_
    refine (tz_g_iload_n rfl (tz_in0 rfl)).trans ?_
    refine (tz_g_cv1I (m2 := 94) (rc := 4) rfl rfl rfl rfl rfl rfl (by decide) (tz_in0 rfl)).trans ?_
    refine tz_jI (fun y2 A2 => ?_)
    refine (tz_g_if_eq (t := 36) (by decide) (tz_in0 rfl)).trans ?_
    refine tz_cg ?_ ?_
    · skip
      refine (tz_g_iconst (v := 0) rfl (tz_in0 rfl)).trans ?_
      exact tz_g_ret1 (tz_in0 rfl) rfl
    · skip
      refine (tz_g_iconst (v := 1) rfl (tz_in0 rfl)).trans ?_
      refine (tz_g_goto (t := 37) (by decide) (tz_in0 rfl)).trans ?_
      exact tz_g_ret1 (tz_in0 rfl) rfl
  · skip
    refine (tz_g_aload_n rfl (tz_in0 rfl)).trans ?_
    refine (tz_g_bipush (v := (-5)) rfl (tz_in0 rfl)).trans ?_
    refine (tz_g_cv1I (m2 := 15) (rc := 1) rfl rfl rfl rfl rfl rfl (by decide) (tz_in0 rfl)).trans ?_
    refine tz_jI (fun y2 A2 => ?_)
    exact tz_g_ret1 (tz_in0 rfl) rfl

theorem e_X11_dry (x1 : Int32) (A : tz_Mem) : f_X11_dry x1 A =
  if x1 < 0 then
  tz_bI (f_X11_refuse (-6) A) (fun y1 A1 =>
  some (some (.int y1), A1))
else
  if x1 ≤ 100 then
    some (some (.int (tz_g A 30 4)), (tz_s A 30 4 x1))
  else
    tz_bI (f_X11_refuse (-6) A) (fun y1 A1 =>
    some (some (.int y1), A1)) := by
  refine (tz_Fe (L := [some (.ref 17), some (.int x1), none]) rfl).trans ?_
  refine (tz_g_iload_n rfl (tz_in0 rfl)).trans ?_
  refine (tz_g_if_lt (t := 10) (by decide) (tz_in0 rfl)).trans ?_
  refine tz_cg ?_ ?_
  · skip
    refine (tz_g_aload_n rfl (tz_in0 rfl)).trans ?_
    refine (tz_g_bipush (v := (-6)) rfl (tz_in0 rfl)).trans ?_
    refine (tz_g_cv1I (m2 := 15) (rc := 1) rfl rfl rfl rfl rfl rfl (by decide) (tz_in0 rfl)).trans ?_
    refine tz_jI (fun y1 A1 => ?_)
    exact tz_g_ret1 (tz_in0 rfl) rfl
  · skip
    refine (tz_g_iload_n rfl (tz_in0 rfl)).trans ?_
    refine (tz_g_bipush (v := 100) rfl (tz_in0 rfl)).trans ?_
    refine (tz_g_ic_le (t := 17) (by decide) (tz_in0 rfl)).trans ?_
    refine tz_cg ?_ ?_
    · skip
      refine (tz_g_aload_n rfl (tz_in0 rfl)).trans ?_
      refine (tz_g_getr (j := 30) rfl rfl rfl rfl rfl (tz_in0 rfl)).trans ?_
      refine (tz_g_geti rfl rfl rfl (tz_in0 rfl)).trans ?_
      refine (tz_g_istore_n (L2 := [some (.ref 17), some (.int x1), some (.int (tz_g A 30 4))]) rfl rfl (tz_in0 rfl)).trans ?_
      refine (tz_g_aload_n rfl (tz_in0 rfl)).trans ?_
      refine (tz_g_getr (j := 30) rfl rfl rfl rfl rfl (tz_in0 rfl)).trans ?_
      refine (tz_g_iload_n rfl (tz_in0 rfl)).trans ?_
      refine (tz_g_puti rfl rfl rfl (tz_in0 rfl)).trans ?_
      refine (tz_g_iload_n rfl (tz_in0 rfl)).trans ?_
      exact tz_g_ret1 (tz_in0 rfl) rfl
    · skip
      refine (tz_g_aload_n rfl (tz_in0 rfl)).trans ?_
      refine (tz_g_bipush (v := (-6)) rfl (tz_in0 rfl)).trans ?_
      refine (tz_g_cv1I (m2 := 15) (rc := 1) rfl rfl rfl rfl rfl rfl (by decide) (tz_in0 rfl)).trans ?_
      refine tz_jI (fun y1 A1 => ?_)
      exact tz_g_ret1 (tz_in0 rfl) rfl

theorem e_X8_dropHillsFrom (x1 : Int32) (A : tz_Mem) : f_X8_dropHillsFrom x1 A =
  q_X8_dropHillsFrom_2 x1 0 A := by
  refine (tz_Fe (L := [some (.ref 18), some (.int x1), none]) rfl).trans ?_
  refine (tz_g_iconst (v := 0) rfl (tz_in0 rfl)).trans ?_
  refine (tz_g_istore_n (L2 := [some (.ref 18), some (.int x1), some (.int 0)]) rfl rfl (tz_in0 rfl)).trans ?_
  exact tz_Gm (L2 := [some (.ref 18), some (.int x1), some (.int 0)]) rfl rfl rfl rfl

theorem e_X8_dropHillsFrom_2 (z1 : Int32) (z2 : Int32) (A : tz_Mem) : q_X8_dropHillsFrom_2 z1 z2 A =
  if 8 ≤ z2 then
  some (none, A)
else
  tz_bI (f_X8_holdsRow z2 A) (fun y1 A1 =>
  if ¬ y1 = 0 then
    q_X8_dropHillsFrom_2 z1 (z2 + 1) A1
  else
    if z2 < 0 ∨ 8 ≤ (Int32.toNatClampNeg z2) then none else
    if (tz_g A1 19 (Int32.toNatClampNeg z2)) < z1 then
      q_X8_dropHillsFrom_2 z1 (z2 + 1) A1
    else
      if z2 < 0 ∨ 8 ≤ (Int32.toNatClampNeg z2) then none else
      q_X8_dropHillsFrom_2 z1 (z2 + 1) (tz_s A1 19 (Int32.toNatClampNeg z2) (-1))) := by
  show tz_Go 116 2 [some (.ref 18), some (.int z1), some (.int z2)] [] A = _
  refine (tz_g_iload_n rfl (tz_inM rfl rfl rfl)).trans ?_
  refine (tz_g_bipush (v := 8) rfl (tz_in0 rfl)).trans ?_
  refine (tz_g_ic_ge (t := 39) (by decide) (tz_in0 rfl)).trans ?_
  refine tz_cg ?_ ?_
  · skip
    exact tz_g_ret0 (tz_in0 rfl) rfl
  · skip
    refine (tz_g_aload_n rfl (tz_in0 rfl)).trans ?_
    refine (tz_g_iload_n rfl (tz_in0 rfl)).trans ?_
    refine (tz_g_cv1I (m2 := 20) (rc := 4) rfl rfl rfl rfl rfl rfl (by decide) (tz_in0 rfl)).trans ?_
    refine tz_jI (fun y1 A1 => ?_)
    refine (tz_g_if_ne (t := 33) (by decide) (tz_in0 rfl)).trans ?_
    refine tz_cg ?_ ?_
    · skip
      refine (tz_g_iinc (v := 1) (L2 := [some (.ref 18), some (.int z1), some (.int (z2 + 1))]) rfl rfl rfl rfl (tz_in0 rfl)).trans ?_
      refine (tz_g_goto (t := 2) (by decide) (tz_in0 rfl)).trans ?_
      exact tz_Gm (L2 := [some (.ref 18), some (.int z1), some (.int (z2 + 1))]) rfl rfl rfl rfl
    · skip
      refine (tz_g_aload_n rfl (tz_in0 rfl)).trans ?_
      refine (tz_g_getr (j := 19) rfl rfl rfl rfl rfl (tz_in0 rfl)).trans ?_
      refine (tz_g_iload_n rfl (tz_in0 rfl)).trans ?_
      refine (tz_g_iald (n := 8) rfl rfl rfl (tz_in0 rfl)).trans ?_
      refine tz_cn1 ?_
      refine (tz_g_iload_n rfl (tz_in0 rfl)).trans ?_
      refine (tz_g_ic_lt (t := 33) (by decide) (tz_in0 rfl)).trans ?_
      refine tz_cg ?_ ?_
      · skip
        refine (tz_g_iinc (v := 1) (L2 := [some (.ref 18), some (.int z1), some (.int (z2 + 1))]) rfl rfl rfl rfl (tz_in0 rfl)).trans ?_
        refine (tz_g_goto (t := 2) (by decide) (tz_in0 rfl)).trans ?_
        exact tz_Gm (L2 := [some (.ref 18), some (.int z1), some (.int (z2 + 1))]) rfl rfl rfl rfl
      · skip
        refine (tz_g_aload_n rfl (tz_in0 rfl)).trans ?_
        refine (tz_g_getr (j := 19) rfl rfl rfl rfl rfl (tz_in0 rfl)).trans ?_
        refine (tz_g_iload_n rfl (tz_in0 rfl)).trans ?_
        refine (tz_g_iconst (v := (-1)) rfl (tz_in0 rfl)).trans ?_
        refine (tz_g_iast (n := 8) rfl rfl rfl (tz_in0 rfl)).trans ?_
        refine tz_cn1 ?_
        refine (tz_g_iinc (v := 1) (L2 := [some (.ref 18), some (.int z1), some (.int (z2 + 1))]) rfl rfl rfl rfl (tz_in0 rfl)).trans ?_
        refine (tz_g_goto (t := 2) (by decide) (tz_in0 rfl)).trans ?_
        exact tz_Gm (L2 := [some (.ref 18), some (.int z1), some (.int (z2 + 1))]) rfl rfl rfl rfl

theorem e_X11_status (x1 : Int32) (A : tz_Mem) : f_X11_status x1 A =
  if x1 = 0 then
  some (some (.int (tz_g A 31 0)), A)
else if x1 = 1 then
  some (some (.int (tz_g A 37 0)), A)
else if x1 = 2 then
  some (some (.int (tz_g A 45 0)), A)
else if x1 = 3 then
  tz_bI (f_X4_countWhere 30 200 A) (fun y1 A1 =>
  some (some (.int y1), A1))
else if x1 = 4 then
  tz_bI (f_X4_countWhere 30 300 A) (fun y1 A1 =>
  some (some (.int y1), A1))
else if x1 = 5 then
  some (some (.int (tz_g A 30 3)), A)
else if x1 = 6 then
  some (some (.int (tz_g A 30 4)), A)
else if x1 = 7 then
  some (some (.int (tz_g A 30 5)), A)
else if x1 = 8 then
  tz_bI (f_X3_countEver 30 A) (fun y1 A1 =>
  some (some (.int y1), A1))
else if x1 = 9 then
  some (some (.int (tz_g A 148 0)), A)
else if x1 ≤ 10 then
  some (some (.int (-1)), A)
else
  if 17 < x1 then
    some (some (.int (-1)), A)
  else
    if (x1 - 10) < 0 ∨ 8 ≤ (Int32.toNatClampNeg (x1 - 10)) then none else
    some (some (.int (tz_g A 156 (Int32.toNatClampNeg (x1 - 10)))), A) := by
  refine (tz_Fe (L := [some (.ref 17), some (.int x1)]) rfl).trans ?_
  refine (tz_g_iload_n rfl (tz_in0 rfl)).trans ?_
  refine (tz_g_tsw (by decide) (tz_in0 rfl)).trans ?_
  refine tz_swc (v := 0) (by decide) ?_ ?_
  · refine (tz_tg (t := 56) (by decide)).trans ?_
    refine (tz_g_aload_n rfl (tz_in0 rfl)).trans ?_
    refine (tz_g_getr (j := 30) rfl rfl rfl rfl rfl (tz_in0 rfl)).trans ?_
    refine (tz_g_getr (j := 31) rfl rfl rfl rfl rfl (tz_in0 rfl)).trans ?_
    refine (tz_g_geti rfl rfl rfl (tz_in0 rfl)).trans ?_
    exact tz_g_ret1 (tz_in0 rfl) rfl
  refine tz_swc (v := 1) (by decide) ?_ ?_
  · refine (tz_tg (t := 67) (by decide)).trans ?_
    refine (tz_g_aload_n rfl (tz_in0 rfl)).trans ?_
    refine (tz_g_getr (j := 30) rfl rfl rfl rfl rfl (tz_in0 rfl)).trans ?_
    refine (tz_g_getr (j := 37) rfl rfl rfl rfl rfl (tz_in0 rfl)).trans ?_
    refine (tz_g_geti rfl rfl rfl (tz_in0 rfl)).trans ?_
    exact tz_g_ret1 (tz_in0 rfl) rfl
  refine tz_swc (v := 2) (by decide) ?_ ?_
  · refine (tz_tg (t := 78) (by decide)).trans ?_
    refine (tz_g_aload_n rfl (tz_in0 rfl)).trans ?_
    refine (tz_g_getr (j := 30) rfl rfl rfl rfl rfl (tz_in0 rfl)).trans ?_
    refine (tz_g_getr (j := 45) rfl rfl rfl rfl rfl (tz_in0 rfl)).trans ?_
    refine (tz_g_geti rfl rfl rfl (tz_in0 rfl)).trans ?_
    exact tz_g_ret1 (tz_in0 rfl) rfl
  refine tz_swc (v := 3) (by decide) ?_ ?_
  · refine (tz_tg (t := 89) (by decide)).trans ?_
    refine (tz_g_aload_n rfl (tz_in0 rfl)).trans ?_
    refine (tz_g_getr (j := 30) rfl rfl rfl rfl rfl (tz_in0 rfl)).trans ?_
    refine (tz_g_getr (j := 45) rfl rfl rfl rfl rfl (tz_in0 rfl)).trans ?_
    refine (tz_g_sipush (v := 200) rfl (tz_in0 rfl)).trans ?_
    refine (tz_g_cv1I (m2 := 107) (rc := 1) rfl rfl rfl rfl rfl rfl (by decide) (tz_in0 rfl)).trans ?_
    refine tz_jI (fun y1 A1 => ?_)
    exact tz_g_ret1 (tz_in0 rfl) rfl
  refine tz_swc (v := 4) (by decide) ?_ ?_
  · refine (tz_tg (t := 103) (by decide)).trans ?_
    refine (tz_g_aload_n rfl (tz_in0 rfl)).trans ?_
    refine (tz_g_getr (j := 30) rfl rfl rfl rfl rfl (tz_in0 rfl)).trans ?_
    refine (tz_g_getr (j := 45) rfl rfl rfl rfl rfl (tz_in0 rfl)).trans ?_
    refine (tz_g_sipush (v := 300) rfl (tz_in0 rfl)).trans ?_
    refine (tz_g_cv1I (m2 := 107) (rc := 1) rfl rfl rfl rfl rfl rfl (by decide) (tz_in0 rfl)).trans ?_
    refine tz_jI (fun y1 A1 => ?_)
    exact tz_g_ret1 (tz_in0 rfl) rfl
  refine tz_swc (v := 5) (by decide) ?_ ?_
  · refine (tz_tg (t := 117) (by decide)).trans ?_
    refine (tz_g_aload_n rfl (tz_in0 rfl)).trans ?_
    refine (tz_g_getr (j := 30) rfl rfl rfl rfl rfl (tz_in0 rfl)).trans ?_
    refine (tz_g_geti rfl rfl rfl (tz_in0 rfl)).trans ?_
    exact tz_g_ret1 (tz_in0 rfl) rfl
  refine tz_swc (v := 6) (by decide) ?_ ?_
  · refine (tz_tg (t := 125) (by decide)).trans ?_
    refine (tz_g_aload_n rfl (tz_in0 rfl)).trans ?_
    refine (tz_g_getr (j := 30) rfl rfl rfl rfl rfl (tz_in0 rfl)).trans ?_
    refine (tz_g_geti rfl rfl rfl (tz_in0 rfl)).trans ?_
    exact tz_g_ret1 (tz_in0 rfl) rfl
  refine tz_swc (v := 7) (by decide) ?_ ?_
  · refine (tz_tg (t := 133) (by decide)).trans ?_
    refine (tz_g_aload_n rfl (tz_in0 rfl)).trans ?_
    refine (tz_g_getr (j := 30) rfl rfl rfl rfl rfl (tz_in0 rfl)).trans ?_
    refine (tz_g_geti rfl rfl rfl (tz_in0 rfl)).trans ?_
    exact tz_g_ret1 (tz_in0 rfl) rfl
  refine tz_swc (v := 8) (by decide) ?_ ?_
  · refine (tz_tg (t := 141) (by decide)).trans ?_
    refine (tz_g_aload_n rfl (tz_in0 rfl)).trans ?_
    refine (tz_g_getr (j := 30) rfl rfl rfl rfl rfl (tz_in0 rfl)).trans ?_
    refine (tz_g_getr (j := 31) rfl rfl rfl rfl rfl (tz_in0 rfl)).trans ?_
    refine (tz_g_cv0I (m2 := 118) (rc := 1) rfl rfl rfl rfl rfl rfl (by decide) (tz_in0 rfl)).trans ?_
    refine tz_jI (fun y1 A1 => ?_)
    exact tz_g_ret1 (tz_in0 rfl) rfl
  refine tz_swc (v := 9) (by decide) ?_ ?_
  · refine (tz_tg (t := 152) (by decide)).trans ?_
    refine (tz_g_aload_n rfl (tz_in0 rfl)).trans ?_
    refine (tz_g_getr (j := 148) rfl rfl rfl rfl rfl (tz_in0 rfl)).trans ?_
    refine (tz_g_geti rfl rfl rfl (tz_in0 rfl)).trans ?_
    exact tz_g_ret1 (tz_in0 rfl) rfl
  refine tz_swd ?_
  refine (tz_tg (t := 160) (by decide)).trans ?_
  refine (tz_g_iload_n rfl (tz_in0 rfl)).trans ?_
  refine (tz_g_bipush (v := 10) rfl (tz_in0 rfl)).trans ?_
  refine (tz_g_ic_le (t := 184) (by decide) (tz_in0 rfl)).trans ?_
  refine tz_cg ?_ ?_
  · skip
    refine (tz_g_iconst (v := (-1)) rfl (tz_in0 rfl)).trans ?_
    exact tz_g_ret1 (tz_in0 rfl) rfl
  · skip
    refine (tz_g_iload_n rfl (tz_in0 rfl)).trans ?_
    refine (tz_g_bipush (v := 17) rfl (tz_in0 rfl)).trans ?_
    refine (tz_g_ic_gt (t := 184) (by decide) (tz_in0 rfl)).trans ?_
    refine tz_cg ?_ ?_
    · skip
      refine (tz_g_iconst (v := (-1)) rfl (tz_in0 rfl)).trans ?_
      exact tz_g_ret1 (tz_in0 rfl) rfl
    · skip
      refine (tz_g_aload_n rfl (tz_in0 rfl)).trans ?_
      refine (tz_g_getr (j := 156) rfl rfl rfl rfl rfl (tz_in0 rfl)).trans ?_
      refine (tz_g_iload_n rfl (tz_in0 rfl)).trans ?_
      refine (tz_g_bipush (v := 10) rfl (tz_in0 rfl)).trans ?_
      refine (tz_g_isub (tz_in0 rfl)).trans ?_
      refine (tz_g_iald (n := 8) rfl rfl rfl (tz_in0 rfl)).trans ?_
      refine tz_cn1 ?_
      refine (tz_g_goto (t := 185) (by decide) (tz_in0 rfl)).trans ?_
      exact tz_g_ret1 (tz_in0 rfl) rfl

theorem e_L_hill (x3 : Int32) (A : tz_Mem) : f_L_hill x3 A =
  if A.1 ≤ 157 then none else
if (20 + x3) < 0 ∨ 64 ≤ (Int32.toNatClampNeg (20 + x3)) then none else
tz_bI (f_L_way x3 (tz_g A 157 (Int32.toNatClampNeg (20 + x3))) A) (fun y1 A1 =>
some (some (.int y1), A1)) := by
  refine (tz_Fe (L := [some (.ref 157), some (.ref 158), some (.int x3)]) rfl).trans ?_
  refine (tz_g_aload_n rfl (tz_in0 rfl)).trans ?_
  refine (tz_g_iload_n rfl (tz_in0 rfl)).trans ?_
  refine (tz_g_aload_n rfl (tz_in0 rfl)).trans ?_
  refine (tz_g_bipush (v := 20) rfl (tz_in0 rfl)).trans ?_
  refine (tz_g_iload_n rfl (tz_in0 rfl)).trans ?_
  refine (tz_g_iadd (tz_in0 rfl)).trans ?_
  refine tz_gB (c := A.1 ≤ 157) (fun q => tz_gx_iaload rfl (tz_in0 rfl) q) (fun hB0 => ?_)
  refine (tz_g_iald (n := 64) (by exact tz_okB hB0 rfl) rfl rfl (tz_in0 rfl)).trans ?_
  refine tz_cn1 ?_
  refine (tz_g_cs3I (m2 := 122) (rc := 1) rfl rfl rfl rfl rfl rfl (by decide) (tz_in0 rfl)).trans ?_
  refine tz_jI (fun y1 A1 => ?_)
  exact tz_g_ret1 (tz_in0 rfl) rfl

theorem e_X3_keptWord (b : Nat) (x1 : Int32) (x2 : Int32) (hb : tz_sky b) (A : tz_Mem) : f_X3_keptWord b x1 x2 A =
  if x1 < 0 ∨ 8 ≤ (Int32.toNatClampNeg x1) then none else
tz_bI (f_X3_countKept b x1 A) (fun y1 A1 =>
if ((x1 * 8) + ((((tz_g A (b + 5) (Int32.toNatClampNeg x1)) - y1) + x2) &&& 7)) < 0 ∨ 64 ≤ (Int32.toNatClampNeg ((x1 * 8) + ((((tz_g A (b + 5) (Int32.toNatClampNeg x1)) - y1) + x2) &&& 7))) then none else
some (some (.int (tz_g A1 (b + 6) (Int32.toNatClampNeg ((x1 * 8) + ((((tz_g A (b + 5) (Int32.toNatClampNeg x1)) - y1) + x2) &&& 7))))), A1)) := by
  obtain rfl | rfl | rfl | rfl | rfl := hb
  all_goals
    refine (tz_Fe (L := [some (.ref _), some (.int x1), some (.int x2), none]) rfl).trans ?_
    refine (tz_g_aload_n rfl (tz_in0 rfl)).trans ?_
    refine (tz_g_getr (j := _) rfl rfl rfl rfl rfl (tz_in0 rfl)).trans ?_
    refine (tz_g_iload_n rfl (tz_in0 rfl)).trans ?_
    refine (tz_g_iald (n := 8) rfl rfl rfl (tz_in0 rfl)).trans ?_
    refine tz_cn1 ?_
    refine (tz_g_aload_n rfl (tz_in0 rfl)).trans ?_
    refine (tz_g_iload_n rfl (tz_in0 rfl)).trans ?_
    refine (tz_g_cv1I (m2 := 133) (rc := 1) rfl rfl rfl rfl rfl rfl (by decide) (tz_in0 rfl)).trans ?_
    refine tz_jI (fun y1 A1 => ?_)
    refine (tz_g_isub (tz_in0 rfl)).trans ?_
    refine (tz_g_iload_n rfl (tz_in0 rfl)).trans ?_
    refine (tz_g_iadd (tz_in0 rfl)).trans ?_
    refine (tz_g_istore_n (L2 := [some (.ref _), some (.int x1), some (.int x2), some (.int _)]) rfl rfl (tz_in0 rfl)).trans ?_
    refine (tz_g_aload_n rfl (tz_in0 rfl)).trans ?_
    refine (tz_g_getr (j := _) rfl rfl rfl rfl rfl (tz_in0 rfl)).trans ?_
    refine (tz_g_iload_n rfl (tz_in0 rfl)).trans ?_
    refine (tz_g_bipush (v := 8) rfl (tz_in0 rfl)).trans ?_
    refine (tz_g_imul (tz_in0 rfl)).trans ?_
    refine (tz_g_iload_n rfl (tz_in0 rfl)).trans ?_
    refine (tz_g_bipush (v := 7) rfl (tz_in0 rfl)).trans ?_
    refine (tz_g_iand (tz_in0 rfl)).trans ?_
    refine (tz_g_iadd (tz_in0 rfl)).trans ?_
    refine (tz_g_iald (n := 64) rfl rfl rfl (tz_in0 rfl)).trans ?_
    refine tz_cn1 ?_
    exact tz_g_ret1 (tz_in0 rfl) rfl

theorem e_X10_spread (b : Nat) (x1 : Int32) (x2 : Int32) (hb : tz_sky b) (A : tz_Mem) : f_X10_spread b x1 x2 A =
  q_X10_spread_5 b x2 x1 0 A := by
  obtain rfl | rfl | rfl | rfl | rfl := hb
  all_goals
    refine (tz_Fe (L := [some (.ref _), some (.int x1), some (.int x2), none, none, none, none, none]) rfl).trans ?_
    refine (tz_g_iload_n rfl (tz_in0 rfl)).trans ?_
    refine (tz_g_istore_n (L2 := [some (.ref _), some (.int x1), some (.int x2), some (.int x1), none, none, none, none]) rfl rfl (tz_in0 rfl)).trans ?_
    refine (tz_g_iconst (v := 0) rfl (tz_in0 rfl)).trans ?_
    refine (tz_g_istore (L2 := [some (.ref _), some (.int x1), some (.int x2), some (.int x1), some (.int 0), none, none, none]) rfl rfl (tz_in0 rfl)).trans ?_
    exact tz_Gm (L2 := [some (.ref _), none, some (.int x2), some (.int x1), some (.int 0), none, none, none]) rfl rfl rfl rfl

theorem e_X10_spread_5 (b : Nat) (z2 : Int32) (z3 : Int32) (z4 : Int32) (hb : tz_sky b) (A : tz_Mem) : q_X10_spread_5 b z2 z3 z4 A =
  if (tz_g A (b + 7) 0) ≤ z4 then
  some (some (.int z3), A)
else
  if z4 < 0 ∨ 4 ≤ (Int32.toNatClampNeg z4) then none else
  tz_bI (f_X10_wayHill b z4 ((tz_g A (b + 11) (Int32.toNatClampNeg z4)) - 1) A) (fun y1 A1 =>
  q_X10_spread_34 b z2 z3 z4 y1 0 A1) := by
  obtain rfl | rfl | rfl | rfl | rfl := hb
  all_goals
    show tz_Go 136 5 _ [] A = _
    refine (tz_g_iload rfl (tz_inM rfl rfl rfl)).trans ?_
    refine (tz_g_aload_n rfl (tz_in0 rfl)).trans ?_
    refine (tz_g_geti rfl rfl rfl (tz_in0 rfl)).trans ?_
    refine (tz_g_ic_ge (t := 99) (by decide) (tz_in0 rfl)).trans ?_
    refine tz_cg ?_ ?_
    · skip
      refine (tz_g_iload_n rfl (tz_in0 rfl)).trans ?_
      exact tz_g_ret1 (tz_in0 rfl) rfl
    · skip
      refine (tz_g_aload_n rfl (tz_in0 rfl)).trans ?_
      refine (tz_g_iload rfl (tz_in0 rfl)).trans ?_
      refine (tz_g_aload_n rfl (tz_in0 rfl)).trans ?_
      refine (tz_g_getr (j := _) rfl rfl rfl rfl rfl (tz_in0 rfl)).trans ?_
      refine (tz_g_iload rfl (tz_in0 rfl)).trans ?_
      refine (tz_g_iald (n := 4) rfl rfl rfl (tz_in0 rfl)).trans ?_
      refine tz_cn1 ?_
      refine (tz_g_iconst (v := 1) rfl (tz_in0 rfl)).trans ?_
      refine (tz_g_isub (tz_in0 rfl)).trans ?_
      refine (tz_g_cv2I (m2 := 47) (rc := 1) rfl rfl rfl rfl rfl rfl (by decide) (tz_in0 rfl)).trans ?_
      refine tz_jI (fun y1 A1 => ?_)
      refine (tz_g_istore (L2 := [some (.ref _), none, some (.int z2), some (.int z3), some (.int z4), some (.int y1), none, none]) rfl rfl (tz_in0 rfl)).trans ?_
      refine (tz_g_iconst (v := 0) rfl (tz_in0 rfl)).trans ?_
      refine (tz_g_istore (L2 := [some (.ref _), none, some (.int z2), some (.int z3), some (.int z4), some (.int y1), some (.int 0), none]) rfl rfl (tz_in0 rfl)).trans ?_
      exact tz_Gm (L2 := [some (.ref _), none, some (.int z2), some (.int z3), some (.int z4), some (.int y1), some (.int 0), none]) rfl rfl rfl rfl

theorem e_X10_spread_34 (b : Nat) (z2 : Int32) (z3 : Int32) (z4 : Int32) (z5 : Int32) (z6 : Int32) (hb : tz_sky b) (A : tz_Mem) : q_X10_spread_34 b z2 z3 z4 z5 z6 A =
  if z4 < 0 ∨ 4 ≤ (Int32.toNatClampNeg z4) then none else
if (tz_g A (b + 11) (Int32.toNatClampNeg z4)) ≤ z6 then
  q_X10_spread_5 b z2 z3 (z4 + 1) A
else
  if z4 < 0 ∨ 4 ≤ (Int32.toNatClampNeg z4) then none else
  if (tz_g A (b + 9) (Int32.toNatClampNeg z4)) < z2 then
    q_X10_spread_5 b z2 z3 (z4 + 1) A
  else
    tz_bI (f_X10_wayHill b z4 z6 A) (fun y1 A1 =>
    if (z3 &&& (1 <<< (z5 &&& 31))) = 0 then
      q_X10_spread_34 b z2 z3 z4 y1 (z6 + 1) A1
    else
      q_X10_spread_34 b z2 (z3 ||| (1 <<< (y1 &&& 31))) z4 y1 (z6 + 1) A1) := by
  obtain rfl | rfl | rfl | rfl | rfl := hb
  all_goals
    show tz_Go 136 34 _ [] A = _
    refine (tz_g_iload rfl (tz_inM rfl rfl rfl)).trans ?_
    refine (tz_g_aload_n rfl (tz_in0 rfl)).trans ?_
    refine (tz_g_getr (j := _) rfl rfl rfl rfl rfl (tz_in0 rfl)).trans ?_
    refine (tz_g_iload rfl (tz_in0 rfl)).trans ?_
    refine (tz_g_iald (n := 4) rfl rfl rfl (tz_in0 rfl)).trans ?_
    refine tz_cn1 ?_
    refine (tz_g_ic_ge (t := 93) (by decide) (tz_in0 rfl)).trans ?_
    refine tz_cg ?_ ?_
    · skip
      refine (tz_g_iinc (v := 1) (L2 := [some (.ref _), none, some (.int z2), some (.int z3), some (.int (z4 + 1)), some (.int z5), some (.int z6), none]) rfl rfl rfl rfl (tz_in0 rfl)).trans ?_
      refine (tz_g_goto (t := 5) (by decide) (tz_in0 rfl)).trans ?_
      exact tz_Gm (L2 := [some (.ref _), none, some (.int z2), some (.int z3), some (.int (z4 + 1)), none, none, none]) rfl rfl rfl rfl
    · skip
      refine (tz_g_aload_n rfl (tz_in0 rfl)).trans ?_
      refine (tz_g_getr (j := _) rfl rfl rfl rfl rfl (tz_in0 rfl)).trans ?_
      refine (tz_g_iload rfl (tz_in0 rfl)).trans ?_
      refine (tz_g_iald (n := 4) rfl rfl rfl (tz_in0 rfl)).trans ?_
      refine tz_cn1 ?_
      refine (tz_g_iload_n rfl (tz_in0 rfl)).trans ?_
      refine (tz_g_ic_lt (t := 93) (by decide) (tz_in0 rfl)).trans ?_
      refine tz_cg ?_ ?_
      · skip
        refine (tz_g_iinc (v := 1) (L2 := [some (.ref _), none, some (.int z2), some (.int z3), some (.int (z4 + 1)), some (.int z5), some (.int z6), none]) rfl rfl rfl rfl (tz_in0 rfl)).trans ?_
        refine (tz_g_goto (t := 5) (by decide) (tz_in0 rfl)).trans ?_
        exact tz_Gm (L2 := [some (.ref _), none, some (.int z2), some (.int z3), some (.int (z4 + 1)), none, none, none]) rfl rfl rfl rfl
      · skip
        refine (tz_g_aload_n rfl (tz_in0 rfl)).trans ?_
        refine (tz_g_iload rfl (tz_in0 rfl)).trans ?_
        refine (tz_g_iload rfl (tz_in0 rfl)).trans ?_
        refine (tz_g_cv2I (m2 := 47) (rc := 1) rfl rfl rfl rfl rfl rfl (by decide) (tz_in0 rfl)).trans ?_
        refine tz_jI (fun y1 A1 => ?_)
        refine (tz_g_istore (L2 := [some (.ref _), none, some (.int z2), some (.int z3), some (.int z4), some (.int z5), some (.int z6), some (.int y1)]) rfl rfl (tz_in0 rfl)).trans ?_
        refine (tz_g_iload_n rfl (tz_in0 rfl)).trans ?_
        refine (tz_g_iconst (v := 1) rfl (tz_in0 rfl)).trans ?_
        refine (tz_g_iload rfl (tz_in0 rfl)).trans ?_
        refine (tz_g_ishl (tz_in0 rfl)).trans ?_
        refine (tz_g_iand (tz_in0 rfl)).trans ?_
        refine (tz_g_if_eq (t := 83) (by decide) (tz_in0 rfl)).trans ?_
        refine tz_cg ?_ ?_
        · skip
          refine (tz_g_iload rfl (tz_in0 rfl)).trans ?_
          refine (tz_g_istore (L2 := [some (.ref _), none, some (.int z2), some (.int z3), some (.int z4), some (.int y1), some (.int z6), some (.int y1)]) rfl rfl (tz_in0 rfl)).trans ?_
          refine (tz_g_iinc (v := 1) (L2 := [some (.ref _), none, some (.int z2), some (.int z3), some (.int z4), some (.int y1), some (.int (z6 + 1)), some (.int y1)]) rfl rfl rfl rfl (tz_in0 rfl)).trans ?_
          refine (tz_g_goto (t := 34) (by decide) (tz_in0 rfl)).trans ?_
          exact tz_Gm (L2 := [some (.ref _), none, some (.int z2), some (.int z3), some (.int z4), some (.int y1), some (.int (z6 + 1)), none]) rfl rfl rfl rfl
        · skip
          refine (tz_g_iload_n rfl (tz_in0 rfl)).trans ?_
          refine (tz_g_iconst (v := 1) rfl (tz_in0 rfl)).trans ?_
          refine (tz_g_iload rfl (tz_in0 rfl)).trans ?_
          refine (tz_g_ishl (tz_in0 rfl)).trans ?_
          refine (tz_g_ior (tz_in0 rfl)).trans ?_
          refine (tz_g_istore_n (L2 := [some (.ref _), none, some (.int z2), some (.int (z3 ||| (1 <<< (y1 &&& 31)))), some (.int z4), some (.int z5), some (.int z6), some (.int y1)]) rfl rfl (tz_in0 rfl)).trans ?_
          refine (tz_g_iload rfl (tz_in0 rfl)).trans ?_
          refine (tz_g_istore (L2 := [some (.ref _), none, some (.int z2), some (.int (z3 ||| (1 <<< (y1 &&& 31)))), some (.int z4), some (.int y1), some (.int z6), some (.int y1)]) rfl rfl (tz_in0 rfl)).trans ?_
          refine (tz_g_iinc (v := 1) (L2 := [some (.ref _), none, some (.int z2), some (.int (z3 ||| (1 <<< (y1 &&& 31)))), some (.int z4), some (.int y1), some (.int (z6 + 1)), some (.int y1)]) rfl rfl rfl rfl (tz_in0 rfl)).trans ?_
          refine (tz_g_goto (t := 34) (by decide) (tz_in0 rfl)).trans ?_
          exact tz_Gm (L2 := [some (.ref _), none, some (.int z2), some (.int (z3 ||| (1 <<< (y1 &&& 31)))), some (.int z4), some (.int y1), some (.int (z6 + 1)), none]) rfl rfl rfl rfl

theorem e_X11_row (x1 : Int32) (x2 : Int32) (x3 : Int32) (A : tz_Mem) : f_X11_row x1 x2 x3 A =
  tz_bI (f_X8_has x1 A) (fun y1 A1 =>
if ¬ y1 = 0 then
  if 0 ≤ x3 then
    if x2 < 0 then
      tz_bI (f_X11_refuse (-6) A1) (fun y2 A2 =>
      some (some (.int y2), A2))
    else
      if x2 ≤ 3 then
        if x3 ≤ 160 then
          tz_bV (f_X8_putRow x1 x2 x3 A1) (fun A2 =>
          some (some (.int 1), A2))
        else
          tz_bI (f_X11_refuse (-7) A1) (fun y2 A2 =>
          some (some (.int y2), A2))
      else
        tz_bI (f_X11_refuse (-6) A1) (fun y2 A2 =>
        some (some (.int y2), A2))
  else
    tz_bI (f_X11_refuse (-4) A1) (fun y2 A2 =>
    some (some (.int y2), A2))
else
  tz_bI (f_X11_refuse (-1) A1) (fun y2 A2 =>
  some (some (.int y2), A2))) := by
  refine (tz_Fe (L := [some (.ref 17), some (.int x1), some (.int x2), some (.int x3)]) rfl).trans ?_
  refine (tz_g_aload_n rfl (tz_in0 rfl)).trans ?_
  refine (tz_g_getr (j := 18) rfl rfl rfl rfl rfl (tz_in0 rfl)).trans ?_
  refine (tz_g_iload_n rfl (tz_in0 rfl)).trans ?_
  refine (tz_g_cv1I (m2 := 14) (rc := 4) rfl rfl rfl rfl rfl rfl (by decide) (tz_in0 rfl)).trans ?_
  refine tz_jI (fun y1 A1 => ?_)
  refine (tz_g_if_ne (t := 17) (by decide) (tz_in0 rfl)).trans ?_
  refine tz_cg ?_ ?_
  · skip
    refine (tz_g_iload_n rfl (tz_in0 rfl)).trans ?_
    refine (tz_g_if_ge (t := 28) (by decide) (tz_in0 rfl)).trans ?_
    refine tz_cg ?_ ?_
    · skip
      refine (tz_g_iload_n rfl (tz_in0 rfl)).trans ?_
      refine (tz_g_if_lt (t := 37) (by decide) (tz_in0 rfl)).trans ?_
      refine tz_cg ?_ ?_
      · skip
        refine (tz_g_aload_n rfl (tz_in0 rfl)).trans ?_
        refine (tz_g_bipush (v := (-6)) rfl (tz_in0 rfl)).trans ?_
        refine (tz_g_cv1I (m2 := 15) (rc := 1) rfl rfl rfl rfl rfl rfl (by decide) (tz_in0 rfl)).trans ?_
        refine tz_jI (fun y2 A2 => ?_)
        exact tz_g_ret1 (tz_in0 rfl) rfl
      · skip
        refine (tz_g_iload_n rfl (tz_in0 rfl)).trans ?_
        refine (tz_g_iconst (v := 3) rfl (tz_in0 rfl)).trans ?_
        refine (tz_g_ic_le (t := 44) (by decide) (tz_in0 rfl)).trans ?_
        refine tz_cg ?_ ?_
        · skip
          refine (tz_g_iload_n rfl (tz_in0 rfl)).trans ?_
          refine (tz_g_sipush (v := 160) rfl (tz_in0 rfl)).trans ?_
          refine (tz_g_ic_le (t := 58) (by decide) (tz_in0 rfl)).trans ?_
          refine tz_cg ?_ ?_
          · skip
            refine (tz_g_aload_n rfl (tz_in0 rfl)).trans ?_
            refine (tz_g_getr (j := 18) rfl rfl rfl rfl rfl (tz_in0 rfl)).trans ?_
            refine (tz_g_iload_n rfl (tz_in0 rfl)).trans ?_
            refine (tz_g_iload_n rfl (tz_in0 rfl)).trans ?_
            refine (tz_g_iload_n rfl (tz_in0 rfl)).trans ?_
            refine (tz_g_cv3V (m2 := 16) (rc := 0) rfl rfl rfl rfl rfl rfl (by decide) (tz_in0 rfl)).trans ?_
            refine tz_jV (fun A2 => ?_)
            refine (tz_g_iconst (v := 1) rfl (tz_in0 rfl)).trans ?_
            exact tz_g_ret1 (tz_in0 rfl) rfl
          · skip
            refine (tz_g_aload_n rfl (tz_in0 rfl)).trans ?_
            refine (tz_g_bipush (v := (-7)) rfl (tz_in0 rfl)).trans ?_
            refine (tz_g_cv1I (m2 := 15) (rc := 1) rfl rfl rfl rfl rfl rfl (by decide) (tz_in0 rfl)).trans ?_
            refine tz_jI (fun y2 A2 => ?_)
            exact tz_g_ret1 (tz_in0 rfl) rfl
        · skip
          refine (tz_g_aload_n rfl (tz_in0 rfl)).trans ?_
          refine (tz_g_bipush (v := (-6)) rfl (tz_in0 rfl)).trans ?_
          refine (tz_g_cv1I (m2 := 15) (rc := 1) rfl rfl rfl rfl rfl rfl (by decide) (tz_in0 rfl)).trans ?_
          refine tz_jI (fun y2 A2 => ?_)
          exact tz_g_ret1 (tz_in0 rfl) rfl
    · skip
      refine (tz_g_aload_n rfl (tz_in0 rfl)).trans ?_
      refine (tz_g_bipush (v := (-4)) rfl (tz_in0 rfl)).trans ?_
      refine (tz_g_cv1I (m2 := 15) (rc := 1) rfl rfl rfl rfl rfl rfl (by decide) (tz_in0 rfl)).trans ?_
      refine tz_jI (fun y2 A2 => ?_)
      exact tz_g_ret1 (tz_in0 rfl) rfl
  · skip
    refine (tz_g_aload_n rfl (tz_in0 rfl)).trans ?_
    refine (tz_g_iconst (v := (-1)) rfl (tz_in0 rfl)).trans ?_
    refine (tz_g_cv1I (m2 := 15) (rc := 1) rfl rfl rfl rfl rfl rfl (by decide) (tz_in0 rfl)).trans ?_
    refine tz_jI (fun y2 A2 => ?_)
    exact tz_g_ret1 (tz_in0 rfl) rfl

theorem e_X11_set (x1 : Int32) (x2 : Int32) (x3 : Int64) (A : tz_Mem) : f_X11_set x1 x2 x3 A =
  tz_bI (f_X8_refusalOfRow x1 A) (fun y1 A1 =>
if y1 = 0 then
  tz_bI (f_X8_hasElement x1 x2 A1) (fun y2 A2 =>
  if ¬ y2 = 0 then
    tz_bV (f_X8_put x1 x2 x3 A2) (fun A3 =>
    some (some (.int 1), A3))
  else
    tz_bI (f_X11_refuse (-5) A2) (fun y3 A3 =>
    some (some (.int y3), A3)))
else
  tz_bI (f_X11_refuse y1 A1) (fun y2 A2 =>
  some (some (.int y2), A2))) := by
  refine (tz_Fe (L := [some (.ref 17), some (.int x1), some (.int x2), some (.long x3), none, none]) rfl).trans ?_
  refine (tz_g_aload_n rfl (tz_in0 rfl)).trans ?_
  refine (tz_g_getr (j := 18) rfl rfl rfl rfl rfl (tz_in0 rfl)).trans ?_
  refine (tz_g_iload_n rfl (tz_in0 rfl)).trans ?_
  refine (tz_g_cv1I (m2 := 19) (rc := 1) rfl rfl rfl rfl rfl rfl (by decide) (tz_in0 rfl)).trans ?_
  refine tz_jI (fun y1 A1 => ?_)
  refine (tz_g_istore (L2 := [some (.ref 17), some (.int x1), some (.int x2), some (.long x3), none, some (.int y1)]) rfl rfl (tz_in0 rfl)).trans ?_
  refine (tz_g_iload rfl (tz_in0 rfl)).trans ?_
  refine (tz_g_if_eq (t := 22) (by decide) (tz_in0 rfl)).trans ?_
  refine tz_cg ?_ ?_
  · skip
    refine (tz_g_aload_n rfl (tz_in0 rfl)).trans ?_
    refine (tz_g_getr (j := 18) rfl rfl rfl rfl rfl (tz_in0 rfl)).trans ?_
    refine (tz_g_iload_n rfl (tz_in0 rfl)).trans ?_
    refine (tz_g_iload_n rfl (tz_in0 rfl)).trans ?_
    refine (tz_g_cv2I (m2 := 21) (rc := 4) rfl rfl rfl rfl rfl rfl (by decide) (tz_in0 rfl)).trans ?_
    refine tz_jI (fun y2 A2 => ?_)
    refine (tz_g_if_ne (t := 41) (by decide) (tz_in0 rfl)).trans ?_
    refine tz_cg ?_ ?_
    · skip
      refine (tz_g_aload_n rfl (tz_in0 rfl)).trans ?_
      refine (tz_g_getr (j := 18) rfl rfl rfl rfl rfl (tz_in0 rfl)).trans ?_
      refine (tz_g_iload_n rfl (tz_in0 rfl)).trans ?_
      refine (tz_g_iload_n rfl (tz_in0 rfl)).trans ?_
      refine (tz_g_lload_n rfl (tz_in0 rfl)).trans ?_
      refine (tz_g_cv3V (m2 := 22) (rc := 0) rfl rfl rfl rfl rfl rfl (by decide) (tz_in0 rfl)).trans ?_
      refine tz_jV (fun A3 => ?_)
      refine (tz_g_iconst (v := 1) rfl (tz_in0 rfl)).trans ?_
      exact tz_g_ret1 (tz_in0 rfl) rfl
    · skip
      refine (tz_g_aload_n rfl (tz_in0 rfl)).trans ?_
      refine (tz_g_bipush (v := (-5)) rfl (tz_in0 rfl)).trans ?_
      refine (tz_g_cv1I (m2 := 15) (rc := 1) rfl rfl rfl rfl rfl rfl (by decide) (tz_in0 rfl)).trans ?_
      refine tz_jI (fun y3 A3 => ?_)
      exact tz_g_ret1 (tz_in0 rfl) rfl
  · skip
    refine (tz_g_aload_n rfl (tz_in0 rfl)).trans ?_
    refine (tz_g_iload rfl (tz_in0 rfl)).trans ?_
    refine (tz_g_cv1I (m2 := 15) (rc := 1) rfl rfl rfl rfl rfl rfl (by decide) (tz_in0 rfl)).trans ?_
    refine tz_jI (fun y2 A2 => ?_)
    exact tz_g_ret1 (tz_in0 rfl) rfl

theorem e_X8_refusalOfElements (x1 : Int32) (x2 : Int32) (A : tz_Mem) : f_X8_refusalOfElements x1 x2 A =
  tz_bI (f_X8_refusalOfRow x1 A) (fun y1 A1 =>
if y1 = 0 then
  if 0 ≤ x2 then
    if x1 < 0 ∨ 8 ≤ (Int32.toNatClampNeg x1) then none else
    if x2 ≤ (tz_g A1 20 (Int32.toNatClampNeg x1)) then
      some (some (.int 0), A1)
    else
      some (some (.int (-5)), A1)
  else
    some (some (.int (-4)), A1)
else
  some (some (.int y1), A1)) := by
  refine (tz_Fe (L := [some (.ref 18), some (.int x1), some (.int x2), none]) rfl).trans ?_
  refine (tz_g_aload_n rfl (tz_in0 rfl)).trans ?_
  refine (tz_g_iload_n rfl (tz_in0 rfl)).trans ?_
  refine (tz_g_cv1I (m2 := 19) (rc := 1) rfl rfl rfl rfl rfl rfl (by decide) (tz_in0 rfl)).trans ?_
  refine tz_jI (fun y1 A1 => ?_)
  refine (tz_g_istore_n (L2 := [some (.ref 18), some (.int x1), some (.int x2), some (.int y1)]) rfl rfl (tz_in0 rfl)).trans ?_
  refine (tz_g_iload_n rfl (tz_in0 rfl)).trans ?_
  refine (tz_g_if_eq (t := 12) (by decide) (tz_in0 rfl)).trans ?_
  refine tz_cg ?_ ?_
  · skip
    refine (tz_g_iload_n rfl (tz_in0 rfl)).trans ?_
    refine (tz_g_if_ge (t := 19) (by decide) (tz_in0 rfl)).trans ?_
    refine tz_cg ?_ ?_
    · skip
      refine (tz_g_iload_n rfl (tz_in0 rfl)).trans ?_
      refine (tz_g_aload_n rfl (tz_in0 rfl)).trans ?_
      refine (tz_g_getr (j := 20) rfl rfl rfl rfl rfl (tz_in0 rfl)).trans ?_
      refine (tz_g_iload_n rfl (tz_in0 rfl)).trans ?_
      refine (tz_g_iald (n := 8) rfl rfl rfl (tz_in0 rfl)).trans ?_
      refine tz_cn1 ?_
      refine (tz_g_ic_le (t := 34) (by decide) (tz_in0 rfl)).trans ?_
      refine tz_cg ?_ ?_
      · skip
        refine (tz_g_iconst (v := 0) rfl (tz_in0 rfl)).trans ?_
        exact tz_g_ret1 (tz_in0 rfl) rfl
      · skip
        refine (tz_g_bipush (v := (-5)) rfl (tz_in0 rfl)).trans ?_
        refine (tz_g_goto (t := 35) (by decide) (tz_in0 rfl)).trans ?_
        exact tz_g_ret1 (tz_in0 rfl) rfl
    · skip
      refine (tz_g_bipush (v := (-4)) rfl (tz_in0 rfl)).trans ?_
      exact tz_g_ret1 (tz_in0 rfl) rfl
  · skip
    refine (tz_g_iload_n rfl (tz_in0 rfl)).trans ?_
    exact tz_g_ret1 (tz_in0 rfl) rfl

theorem e_X11_letter (x1 : Int32) (x2 : Int32) (x3 : Int32) (x4 : Int32) (A : tz_Mem) : f_X11_letter x1 x2 x3 x4 A =
  tz_bI (f_X11_refusalOfLetter x1 x2 x3 x4 A) (fun y1 A1 =>
if y1 = 0 then
  tz_bI (f_X9_addLetter 30 x1 x2 x3 x4 A1) (fun y2 A2 =>
  some (some (.int y2), A2))
else
  tz_bI (f_X11_refuse y1 A1) (fun y2 A2 =>
  some (some (.int y2), A2))) := by
  refine (tz_Fe (L := [some (.ref 17), some (.int x1), some (.int x2), some (.int x3), some (.int x4), none]) rfl).trans ?_
  refine (tz_g_aload_n rfl (tz_in0 rfl)).trans ?_
  refine (tz_g_iload_n rfl (tz_in0 rfl)).trans ?_
  refine (tz_g_iload_n rfl (tz_in0 rfl)).trans ?_
  refine (tz_g_iload_n rfl (tz_in0 rfl)).trans ?_
  refine (tz_g_iload rfl (tz_in0 rfl)).trans ?_
  refine (tz_g_cv4I (m2 := 39) (rc := 1) rfl rfl rfl rfl rfl rfl (by decide) (tz_in0 rfl)).trans ?_
  refine tz_jI (fun y1 A1 => ?_)
  refine (tz_g_istore (L2 := [some (.ref 17), some (.int x1), some (.int x2), some (.int x3), some (.int x4), some (.int y1)]) rfl rfl (tz_in0 rfl)).trans ?_
  refine (tz_g_iload rfl (tz_in0 rfl)).trans ?_
  refine (tz_g_if_eq (t := 23) (by decide) (tz_in0 rfl)).trans ?_
  refine tz_cg ?_ ?_
  · skip
    refine (tz_g_aload_n rfl (tz_in0 rfl)).trans ?_
    refine (tz_g_getr (j := 30) rfl rfl rfl rfl rfl (tz_in0 rfl)).trans ?_
    refine (tz_g_iload_n rfl (tz_in0 rfl)).trans ?_
    refine (tz_g_iload_n rfl (tz_in0 rfl)).trans ?_
    refine (tz_g_iload_n rfl (tz_in0 rfl)).trans ?_
    refine (tz_g_iload rfl (tz_in0 rfl)).trans ?_
    refine (tz_g_cv4I (m2 := 42) (rc := 1) rfl rfl rfl rfl rfl rfl (by decide) (tz_in0 rfl)).trans ?_
    refine tz_jI (fun y2 A2 => ?_)
    exact tz_g_ret1 (tz_in0 rfl) rfl
  · skip
    refine (tz_g_aload_n rfl (tz_in0 rfl)).trans ?_
    refine (tz_g_iload rfl (tz_in0 rfl)).trans ?_
    refine (tz_g_cv1I (m2 := 15) (rc := 1) rfl rfl rfl rfl rfl rfl (by decide) (tz_in0 rfl)).trans ?_
    refine tz_jI (fun y2 A2 => ?_)
    exact tz_g_ret1 (tz_in0 rfl) rfl

theorem e_X10_allAt (b : Nat) (x1 : Int32) (hb : tz_sky b) (A : tz_Mem) : f_X10_allAt b x1 A =
  q_X10_allAt_4 b x1 0 0 A := by
  obtain rfl | rfl | rfl | rfl | rfl := hb
  all_goals
    refine (tz_Fe (L := [some (.ref _), some (.int x1), none, none]) rfl).trans ?_
    refine (tz_g_iconst (v := 0) rfl (tz_in0 rfl)).trans ?_
    refine (tz_g_istore_n (L2 := [some (.ref _), some (.int x1), some (.int 0), none]) rfl rfl (tz_in0 rfl)).trans ?_
    refine (tz_g_iconst (v := 0) rfl (tz_in0 rfl)).trans ?_
    refine (tz_g_istore_n (L2 := [some (.ref _), some (.int x1), some (.int 0), some (.int 0)]) rfl rfl (tz_in0 rfl)).trans ?_
    exact tz_Gm (L2 := [some (.ref _), some (.int x1), some (.int 0), some (.int 0)]) rfl rfl rfl rfl

theorem e_X10_allAt_4 (b : Nat) (z1 : Int32) (z2 : Int32) (z3 : Int32) (hb : tz_sky b) (A : tz_Mem) : q_X10_allAt_4 b z1 z2 z3 A =
  if (tz_g A (b + 7) 0) ≤ z3 then
  some (some (.int z2), A)
else
  tz_bI (f_X10_hillOfStorm b z3 A) (fun y1 A1 =>
  if ¬ y1 = z1 then
    q_X10_allAt_4 b z1 z2 (z3 + 1) A1
  else
    q_X10_allAt_4 b z1 (z2 ||| (1 <<< (z3 &&& 31))) (z3 + 1) A1) := by
  obtain rfl | rfl | rfl | rfl | rfl := hb
  all_goals
    show tz_Go 45 4 _ [] A = _
    refine (tz_g_iload_n rfl (tz_inM rfl rfl rfl)).trans ?_
    refine (tz_g_aload_n rfl (tz_in0 rfl)).trans ?_
    refine (tz_g_geti rfl rfl rfl (tz_in0 rfl)).trans ?_
    refine (tz_g_ic_ge (t := 33) (by decide) (tz_in0 rfl)).trans ?_
    refine tz_cg ?_ ?_
    · skip
      refine (tz_g_iload_n rfl (tz_in0 rfl)).trans ?_
      exact tz_g_ret1 (tz_in0 rfl) rfl
    · skip
      refine (tz_g_aload_n rfl (tz_in0 rfl)).trans ?_
      refine (tz_g_iload_n rfl (tz_in0 rfl)).trans ?_
      refine (tz_g_cv1I (m2 := 46) (rc := 1) rfl rfl rfl rfl rfl rfl (by decide) (tz_in0 rfl)).trans ?_
      refine tz_jI (fun y1 A1 => ?_)
      refine (tz_g_iload_n rfl (tz_in0 rfl)).trans ?_
      refine (tz_g_ic_ne (t := 27) (by decide) (tz_in0 rfl)).trans ?_
      refine tz_cg ?_ ?_
      · skip
        refine (tz_g_iinc (v := 1) (L2 := [some (.ref _), some (.int z1), some (.int z2), some (.int (z3 + 1))]) rfl rfl rfl rfl (tz_in0 rfl)).trans ?_
        refine (tz_g_goto (t := 4) (by decide) (tz_in0 rfl)).trans ?_
        exact tz_Gm (L2 := [some (.ref _), some (.int z1), some (.int z2), some (.int (z3 + 1))]) rfl rfl rfl rfl
      · skip
        refine (tz_g_iload_n rfl (tz_in0 rfl)).trans ?_
        refine (tz_g_iconst (v := 1) rfl (tz_in0 rfl)).trans ?_
        refine (tz_g_iload_n rfl (tz_in0 rfl)).trans ?_
        refine (tz_g_ishl (tz_in0 rfl)).trans ?_
        refine (tz_g_ior (tz_in0 rfl)).trans ?_
        refine (tz_g_istore_n (L2 := [some (.ref _), some (.int z1), some (.int (z2 ||| (1 <<< (z3 &&& 31)))), some (.int z3)]) rfl rfl (tz_in0 rfl)).trans ?_
        refine (tz_g_iinc (v := 1) (L2 := [some (.ref _), some (.int z1), some (.int (z2 ||| (1 <<< (z3 &&& 31)))), some (.int (z3 + 1))]) rfl rfl rfl rfl (tz_in0 rfl)).trans ?_
        refine (tz_g_goto (t := 4) (by decide) (tz_in0 rfl)).trans ?_
        exact tz_Gm (L2 := [some (.ref _), some (.int z1), some (.int (z2 ||| (1 <<< (z3 &&& 31)))), some (.int (z3 + 1))]) rfl rfl rfl rfl

theorem e_X11_stormOf (x1 : Int32) (x2 : Int32) (A : tz_Mem) : f_X11_stormOf x1 x2 A =
  tz_bI (f_X10_has 30 x1 A) (fun y1 A1 =>
if ¬ y1 = 0 then
  if x2 = 0 then
    tz_bI (f_X10_hillOfStorm 30 x1 A1) (fun y2 A2 =>
    some (some (.int y2), A2))
  else if x2 = 1 then
    if x1 < 0 ∨ 4 ≤ (Int32.toNatClampNeg x1) then none else
    some (some (.int (tz_g A1 38 (Int32.toNatClampNeg x1))), A1)
  else if x2 = 2 then
    if x1 < 0 ∨ 4 ≤ (Int32.toNatClampNeg x1) then none else
    some (some (.int (tz_g A1 39 (Int32.toNatClampNeg x1))), A1)
  else if x2 = 3 then
    if x1 < 0 ∨ 4 ≤ (Int32.toNatClampNeg x1) then none else
    some (some (.int (tz_g A1 40 (Int32.toNatClampNeg x1))), A1)
  else if x2 = 4 then
    if x1 < 0 ∨ 4 ≤ (Int32.toNatClampNeg x1) then none else
    some (some (.int (tz_g A1 44 (Int32.toNatClampNeg x1))), A1)
  else if x2 = 5 then
    if x1 < 0 ∨ 4 ≤ (Int32.toNatClampNeg x1) then none else
    some (some (.int (tz_g A1 41 (Int32.toNatClampNeg x1))), A1)
  else tz_bI (f_X11_wayOf x1 x2 A1) (fun y2 A2 =>
  some (some (.int y2), A2))
else
  tz_bI (f_X11_refuse (-5) A1) (fun y2 A2 =>
  some (some (.int y2), A2))) := by
  refine (tz_Fe (L := [some (.ref 17), some (.int x1), some (.int x2)]) rfl).trans ?_
  refine (tz_g_aload_n rfl (tz_in0 rfl)).trans ?_
  refine (tz_g_getr (j := 30) rfl rfl rfl rfl rfl (tz_in0 rfl)).trans ?_
  refine (tz_g_getr (j := 37) rfl rfl rfl rfl rfl (tz_in0 rfl)).trans ?_
  refine (tz_g_iload_n rfl (tz_in0 rfl)).trans ?_
  refine (tz_g_cv1I (m2 := 49) (rc := 4) rfl rfl rfl rfl rfl rfl (by decide) (tz_in0 rfl)).trans ?_
  refine tz_jI (fun y1 A1 => ?_)
  refine (tz_g_if_ne (t := 21) (by decide) (tz_in0 rfl)).trans ?_
  refine tz_cg ?_ ?_
  · skip
    refine (tz_g_iload_n rfl (tz_in0 rfl)).trans ?_
    refine (tz_g_tsw (by decide) (tz_in0 rfl)).trans ?_
    refine tz_swc (v := 0) (by decide) ?_ ?_
    · refine (tz_tg (t := 60) (by decide)).trans ?_
      refine (tz_g_aload_n rfl (tz_in0 rfl)).trans ?_
      refine (tz_g_getr (j := 30) rfl rfl rfl rfl rfl (tz_in0 rfl)).trans ?_
      refine (tz_g_getr (j := 37) rfl rfl rfl rfl rfl (tz_in0 rfl)).trans ?_
      refine (tz_g_iload_n rfl (tz_in0 rfl)).trans ?_
      refine (tz_g_cv1I (m2 := 46) (rc := 1) rfl rfl rfl rfl rfl rfl (by decide) (tz_in0 rfl)).trans ?_
      refine tz_jI (fun y2 A2 => ?_)
      exact tz_g_ret1 (tz_in0 rfl) rfl
    refine tz_swc (v := 1) (by decide) ?_ ?_
    · refine (tz_tg (t := 72) (by decide)).trans ?_
      refine (tz_g_aload_n rfl (tz_in0 rfl)).trans ?_
      refine (tz_g_getr (j := 30) rfl rfl rfl rfl rfl (tz_in0 rfl)).trans ?_
      refine (tz_g_getr (j := 37) rfl rfl rfl rfl rfl (tz_in0 rfl)).trans ?_
      refine (tz_g_getr (j := 38) rfl rfl rfl rfl rfl (tz_in0 rfl)).trans ?_
      refine (tz_g_iload_n rfl (tz_in0 rfl)).trans ?_
      refine (tz_g_iald (n := 4) rfl rfl rfl (tz_in0 rfl)).trans ?_
      refine tz_cn1 ?_
      exact tz_g_ret1 (tz_in0 rfl) rfl
    refine tz_swc (v := 2) (by decide) ?_ ?_
    · refine (tz_tg (t := 85) (by decide)).trans ?_
      refine (tz_g_aload_n rfl (tz_in0 rfl)).trans ?_
      refine (tz_g_getr (j := 30) rfl rfl rfl rfl rfl (tz_in0 rfl)).trans ?_
      refine (tz_g_getr (j := 37) rfl rfl rfl rfl rfl (tz_in0 rfl)).trans ?_
      refine (tz_g_getr (j := 39) rfl rfl rfl rfl rfl (tz_in0 rfl)).trans ?_
      refine (tz_g_iload_n rfl (tz_in0 rfl)).trans ?_
      refine (tz_g_iald (n := 4) rfl rfl rfl (tz_in0 rfl)).trans ?_
      refine tz_cn1 ?_
      exact tz_g_ret1 (tz_in0 rfl) rfl
    refine tz_swc (v := 3) (by decide) ?_ ?_
    · refine (tz_tg (t := 98) (by decide)).trans ?_
      refine (tz_g_aload_n rfl (tz_in0 rfl)).trans ?_
      refine (tz_g_getr (j := 30) rfl rfl rfl rfl rfl (tz_in0 rfl)).trans ?_
      refine (tz_g_getr (j := 37) rfl rfl rfl rfl rfl (tz_in0 rfl)).trans ?_
      refine (tz_g_getr (j := 40) rfl rfl rfl rfl rfl (tz_in0 rfl)).trans ?_
      refine (tz_g_iload_n rfl (tz_in0 rfl)).trans ?_
      refine (tz_g_iald (n := 4) rfl rfl rfl (tz_in0 rfl)).trans ?_
      refine tz_cn1 ?_
      exact tz_g_ret1 (tz_in0 rfl) rfl
    refine tz_swc (v := 4) (by decide) ?_ ?_
    · refine (tz_tg (t := 111) (by decide)).trans ?_
      refine (tz_g_aload_n rfl (tz_in0 rfl)).trans ?_
      refine (tz_g_getr (j := 30) rfl rfl rfl rfl rfl (tz_in0 rfl)).trans ?_
      refine (tz_g_getr (j := 37) rfl rfl rfl rfl rfl (tz_in0 rfl)).trans ?_
      refine (tz_g_getr (j := 44) rfl rfl rfl rfl rfl (tz_in0 rfl)).trans ?_
      refine (tz_g_iload_n rfl (tz_in0 rfl)).trans ?_
      refine (tz_g_iald (n := 4) rfl rfl rfl (tz_in0 rfl)).trans ?_
      refine tz_cn1 ?_
      exact tz_g_ret1 (tz_in0 rfl) rfl
    refine tz_swc (v := 5) (by decide) ?_ ?_
    · refine (tz_tg (t := 124) (by decide)).trans ?_
      refine (tz_g_aload_n rfl (tz_in0 rfl)).trans ?_
      refine (tz_g_getr (j := 30) rfl rfl rfl rfl rfl (tz_in0 rfl)).trans ?_
      refine (tz_g_getr (j := 37) rfl rfl rfl rfl rfl (tz_in0 rfl)).trans ?_
      refine (tz_g_getr (j := 41) rfl rfl rfl rfl rfl (tz_in0 rfl)).trans ?_
      refine (tz_g_iload_n rfl (tz_in0 rfl)).trans ?_
      refine (tz_g_iald (n := 4) rfl rfl rfl (tz_in0 rfl)).trans ?_
      refine tz_cn1 ?_
      exact tz_g_ret1 (tz_in0 rfl) rfl
    refine tz_swd ?_
    refine (tz_tg (t := 137) (by decide)).trans ?_
    refine (tz_g_aload_n rfl (tz_in0 rfl)).trans ?_
    refine (tz_g_iload_n rfl (tz_in0 rfl)).trans ?_
    refine (tz_g_iload_n rfl (tz_in0 rfl)).trans ?_
    refine (tz_g_cv2I (m2 := 50) (rc := 1) rfl rfl rfl rfl rfl rfl (by decide) (tz_in0 rfl)).trans ?_
    refine tz_jI (fun y2 A2 => ?_)
    exact tz_g_ret1 (tz_in0 rfl) rfl
  · skip
    refine (tz_g_aload_n rfl (tz_in0 rfl)).trans ?_
    refine (tz_g_bipush (v := (-5)) rfl (tz_in0 rfl)).trans ?_
    refine (tz_g_cv1I (m2 := 15) (rc := 1) rfl rfl rfl rfl rfl rfl (by decide) (tz_in0 rfl)).trans ?_
    refine tz_jI (fun y2 A2 => ?_)
    exact tz_g_ret1 (tz_in0 rfl) rfl

theorem e_X7_open (x1 : Int32) (b : Nat) (hb : tz_sky b) (A : tz_Mem) : f_X7_open x1 b A =
  tz_bV (f_X9_become 124 b (tz_s (tz_s (tz_s A 122 4 x1) 122 5 0) 122 0 (-1))) (fun A1 =>
some (none, A1)) := by
  obtain rfl | rfl | rfl | rfl | rfl := hb
  all_goals
    refine (tz_Fe (L := [some (.ref 122), some (.int x1), some (.ref _)]) rfl).trans ?_
    refine (tz_g_aload_n rfl (tz_in0 rfl)).trans ?_
    refine (tz_g_iload_n rfl (tz_in0 rfl)).trans ?_
    refine (tz_g_puti rfl rfl rfl (tz_in0 rfl)).trans ?_
    refine (tz_g_aload_n rfl (tz_in0 rfl)).trans ?_
    refine (tz_g_iconst (v := 0) rfl (tz_in0 rfl)).trans ?_
    refine (tz_g_puti rfl rfl rfl (tz_in0 rfl)).trans ?_
    refine (tz_g_aload_n rfl (tz_in0 rfl)).trans ?_
    refine (tz_g_iconst (v := (-1)) rfl (tz_in0 rfl)).trans ?_
    refine (tz_g_puti rfl rfl rfl (tz_in0 rfl)).trans ?_
    refine (tz_g_aload_n rfl (tz_in0 rfl)).trans ?_
    refine (tz_g_getr (j := 124) rfl rfl rfl rfl rfl (tz_in0 rfl)).trans ?_
    refine (tz_g_aload_n rfl (tz_in0 rfl)).trans ?_
    refine (tz_g_cv1V (m2 := 55) (rc := 0) rfl rfl rfl rfl rfl rfl (by decide) (tz_in0 rfl)).trans ?_
    refine tz_jV (fun A1 => ?_)
    exact tz_g_ret0 (tz_in0 rfl) rfl

theorem e_J1_charAt_s11 (x2 : Int32) (A : tz_Mem) : f_J1_charAt_s11 x2 A =
  tz_bV (f_J0_checkIndex x2 4 A) (fun A1 =>
if x2 < 0 ∨ 4 ≤ (Int32.toNatClampNeg x2) then none else
if (Int32.toUInt32 ((Int32.toUInt32 ((tz_XT 11 (Int32.toNatClampNeg x2)) &&& 255) % 65536).toInt32) % 65536).toInt32 = ((Int32.toUInt32 ((tz_XT 11 (Int32.toNatClampNeg x2)) &&& 255) % 65536).toInt32) then some (some (.int ((Int32.toUInt32 ((tz_XT 11 (Int32.toNatClampNeg x2)) &&& 255) % 65536).toInt32)), A1) else none) := by
  refine (tz_Fe (L := [some (.ref 11), some (.int x2)]) rfl).trans ?_
  refine (tz_g_iload_n rfl (tz_in0 rfl)).trans ?_
  refine (tz_g_aload_n rfl (tz_in0 rfl)).trans ?_
  refine (tz_g_alen (v := 4) rfl rfl (tz_in0 rfl)).trans ?_
  refine (tz_g_cs2V (m2 := 68) (rc := 0) rfl rfl rfl rfl rfl rfl (by decide) (tz_in0 rfl)).trans ?_
  refine tz_jV (fun A1 => ?_)
  refine (tz_g_aload_n rfl (tz_in0 rfl)).trans ?_
  refine (tz_g_iload_n rfl (tz_in0 rfl)).trans ?_
  refine (tz_g_bald (n := 4) rfl rfl (tz_in0 rfl)).trans ?_
  refine tz_cn1 ?_
  refine (tz_g_sipush (v := 255) rfl (tz_in0 rfl)).trans ?_
  refine (tz_g_iand (tz_in0 rfl)).trans ?_
  refine (tz_g_i2c (tz_in0 rfl)).trans ?_
  exact tz_g_ret5 (tz_in0 rfl) rfl

theorem e_J1_charAt_s12 (x2 : Int32) (A : tz_Mem) : f_J1_charAt_s12 x2 A =
  tz_bV (f_J0_checkIndex x2 5 A) (fun A1 =>
if x2 < 0 ∨ 5 ≤ (Int32.toNatClampNeg x2) then none else
if (Int32.toUInt32 ((Int32.toUInt32 ((tz_XT 12 (Int32.toNatClampNeg x2)) &&& 255) % 65536).toInt32) % 65536).toInt32 = ((Int32.toUInt32 ((tz_XT 12 (Int32.toNatClampNeg x2)) &&& 255) % 65536).toInt32) then some (some (.int ((Int32.toUInt32 ((tz_XT 12 (Int32.toNatClampNeg x2)) &&& 255) % 65536).toInt32)), A1) else none) := by
  refine (tz_Fe (L := [some (.ref 12), some (.int x2)]) rfl).trans ?_
  refine (tz_g_iload_n rfl (tz_in0 rfl)).trans ?_
  refine (tz_g_aload_n rfl (tz_in0 rfl)).trans ?_
  refine (tz_g_alen (v := 5) rfl rfl (tz_in0 rfl)).trans ?_
  refine (tz_g_cs2V (m2 := 68) (rc := 0) rfl rfl rfl rfl rfl rfl (by decide) (tz_in0 rfl)).trans ?_
  refine tz_jV (fun A1 => ?_)
  refine (tz_g_aload_n rfl (tz_in0 rfl)).trans ?_
  refine (tz_g_iload_n rfl (tz_in0 rfl)).trans ?_
  refine (tz_g_bald (n := 5) rfl rfl (tz_in0 rfl)).trans ?_
  refine tz_cn1 ?_
  refine (tz_g_sipush (v := 255) rfl (tz_in0 rfl)).trans ?_
  refine (tz_g_iand (tz_in0 rfl)).trans ?_
  refine (tz_g_i2c (tz_in0 rfl)).trans ?_
  exact tz_g_ret5 (tz_in0 rfl) rfl

theorem e_J1_charAt_s13 (x2 : Int32) (A : tz_Mem) : f_J1_charAt_s13 x2 A =
  tz_bV (f_J0_checkIndex x2 6 A) (fun A1 =>
if x2 < 0 ∨ 6 ≤ (Int32.toNatClampNeg x2) then none else
if (Int32.toUInt32 ((Int32.toUInt32 ((tz_XT 13 (Int32.toNatClampNeg x2)) &&& 255) % 65536).toInt32) % 65536).toInt32 = ((Int32.toUInt32 ((tz_XT 13 (Int32.toNatClampNeg x2)) &&& 255) % 65536).toInt32) then some (some (.int ((Int32.toUInt32 ((tz_XT 13 (Int32.toNatClampNeg x2)) &&& 255) % 65536).toInt32)), A1) else none) := by
  refine (tz_Fe (L := [some (.ref 13), some (.int x2)]) rfl).trans ?_
  refine (tz_g_iload_n rfl (tz_in0 rfl)).trans ?_
  refine (tz_g_aload_n rfl (tz_in0 rfl)).trans ?_
  refine (tz_g_alen (v := 6) rfl rfl (tz_in0 rfl)).trans ?_
  refine (tz_g_cs2V (m2 := 68) (rc := 0) rfl rfl rfl rfl rfl rfl (by decide) (tz_in0 rfl)).trans ?_
  refine tz_jV (fun A1 => ?_)
  refine (tz_g_aload_n rfl (tz_in0 rfl)).trans ?_
  refine (tz_g_iload_n rfl (tz_in0 rfl)).trans ?_
  refine (tz_g_bald (n := 6) rfl rfl (tz_in0 rfl)).trans ?_
  refine tz_cn1 ?_
  refine (tz_g_sipush (v := 255) rfl (tz_in0 rfl)).trans ?_
  refine (tz_g_iand (tz_in0 rfl)).trans ?_
  refine (tz_g_i2c (tz_in0 rfl)).trans ?_
  exact tz_g_ret5 (tz_in0 rfl) rfl

theorem e_J1_charAt_s14 (x2 : Int32) (A : tz_Mem) : f_J1_charAt_s14 x2 A =
  tz_bV (f_J0_checkIndex x2 4 A) (fun A1 =>
if x2 < 0 ∨ 4 ≤ (Int32.toNatClampNeg x2) then none else
if (Int32.toUInt32 ((Int32.toUInt32 ((tz_XT 14 (Int32.toNatClampNeg x2)) &&& 255) % 65536).toInt32) % 65536).toInt32 = ((Int32.toUInt32 ((tz_XT 14 (Int32.toNatClampNeg x2)) &&& 255) % 65536).toInt32) then some (some (.int ((Int32.toUInt32 ((tz_XT 14 (Int32.toNatClampNeg x2)) &&& 255) % 65536).toInt32)), A1) else none) := by
  refine (tz_Fe (L := [some (.ref 14), some (.int x2)]) rfl).trans ?_
  refine (tz_g_iload_n rfl (tz_in0 rfl)).trans ?_
  refine (tz_g_aload_n rfl (tz_in0 rfl)).trans ?_
  refine (tz_g_alen (v := 4) rfl rfl (tz_in0 rfl)).trans ?_
  refine (tz_g_cs2V (m2 := 68) (rc := 0) rfl rfl rfl rfl rfl rfl (by decide) (tz_in0 rfl)).trans ?_
  refine tz_jV (fun A1 => ?_)
  refine (tz_g_aload_n rfl (tz_in0 rfl)).trans ?_
  refine (tz_g_iload_n rfl (tz_in0 rfl)).trans ?_
  refine (tz_g_bald (n := 4) rfl rfl (tz_in0 rfl)).trans ?_
  refine tz_cn1 ?_
  refine (tz_g_sipush (v := 255) rfl (tz_in0 rfl)).trans ?_
  refine (tz_g_iand (tz_in0 rfl)).trans ?_
  refine (tz_g_i2c (tz_in0 rfl)).trans ?_
  exact tz_g_ret5 (tz_in0 rfl) rfl

theorem e_J1_charAt_s15 (x2 : Int32) (A : tz_Mem) : f_J1_charAt_s15 x2 A =
  tz_bV (f_J0_checkIndex x2 4 A) (fun A1 =>
if x2 < 0 ∨ 4 ≤ (Int32.toNatClampNeg x2) then none else
if (Int32.toUInt32 ((Int32.toUInt32 ((tz_XT 15 (Int32.toNatClampNeg x2)) &&& 255) % 65536).toInt32) % 65536).toInt32 = ((Int32.toUInt32 ((tz_XT 15 (Int32.toNatClampNeg x2)) &&& 255) % 65536).toInt32) then some (some (.int ((Int32.toUInt32 ((tz_XT 15 (Int32.toNatClampNeg x2)) &&& 255) % 65536).toInt32)), A1) else none) := by
  refine (tz_Fe (L := [some (.ref 15), some (.int x2)]) rfl).trans ?_
  refine (tz_g_iload_n rfl (tz_in0 rfl)).trans ?_
  refine (tz_g_aload_n rfl (tz_in0 rfl)).trans ?_
  refine (tz_g_alen (v := 4) rfl rfl (tz_in0 rfl)).trans ?_
  refine (tz_g_cs2V (m2 := 68) (rc := 0) rfl rfl rfl rfl rfl rfl (by decide) (tz_in0 rfl)).trans ?_
  refine tz_jV (fun A1 => ?_)
  refine (tz_g_aload_n rfl (tz_in0 rfl)).trans ?_
  refine (tz_g_iload_n rfl (tz_in0 rfl)).trans ?_
  refine (tz_g_bald (n := 4) rfl rfl (tz_in0 rfl)).trans ?_
  refine tz_cn1 ?_
  refine (tz_g_sipush (v := 255) rfl (tz_in0 rfl)).trans ?_
  refine (tz_g_iand (tz_in0 rfl)).trans ?_
  refine (tz_g_i2c (tz_in0 rfl)).trans ?_
  exact tz_g_ret5 (tz_in0 rfl) rfl

theorem e_X7_readHill (A : tz_Mem) : f_X7_readHill A =
  tz_bI (f_X7_readNumber 0 6 A) (fun y1 A1 =>
tz_bI (f_X7_readNumber 0 9 A1) (fun y2 A2 =>
if ¬ (tz_g A2 122 0) = (-1) then
  some (none, A2)
else
  tz_bI (f_X3_add 124 y1 y2 A2) (fun y3 A3 =>
  some (none, A3)))) := by
  refine (tz_Fe (L := [some (.ref 122), none, none]) rfl).trans ?_
  refine (tz_g_aload_n rfl (tz_in0 rfl)).trans ?_
  refine (tz_g_iconst (v := 0) rfl (tz_in0 rfl)).trans ?_
  refine (tz_g_bipush (v := 6) rfl (tz_in0 rfl)).trans ?_
  refine (tz_g_cv2I (m2 := 72) (rc := 1) rfl rfl rfl rfl rfl rfl (by decide) (tz_in0 rfl)).trans ?_
  refine tz_jI (fun y1 A1 => ?_)
  refine (tz_g_istore_n (L2 := [some (.ref 122), some (.int y1), none]) rfl rfl (tz_in0 rfl)).trans ?_
  refine (tz_g_aload_n rfl (tz_in0 rfl)).trans ?_
  refine (tz_g_iconst (v := 0) rfl (tz_in0 rfl)).trans ?_
  refine (tz_g_bipush (v := 9) rfl (tz_in0 rfl)).trans ?_
  refine (tz_g_cv2I (m2 := 72) (rc := 1) rfl rfl rfl rfl rfl rfl (by decide) (tz_in0 rfl)).trans ?_
  refine tz_jI (fun y2 A2 => ?_)
  refine (tz_g_istore_n (L2 := [some (.ref 122), some (.int y1), some (.int y2)]) rfl rfl (tz_in0 rfl)).trans ?_
  refine (tz_g_aload_n rfl (tz_in0 rfl)).trans ?_
  refine (tz_g_geti rfl rfl rfl (tz_in0 rfl)).trans ?_
  refine (tz_g_iconst (v := (-1)) rfl (tz_in0 rfl)).trans ?_
  refine (tz_g_ic_ne (t := 37) (by decide) (tz_in0 rfl)).trans ?_
  refine tz_cg ?_ ?_
  · skip
    exact tz_g_ret0 (tz_in0 rfl) rfl
  · skip
    refine (tz_g_aload_n rfl (tz_in0 rfl)).trans ?_
    refine (tz_g_getr (j := 124) rfl rfl rfl rfl rfl (tz_in0 rfl)).trans ?_
    refine (tz_g_getr (j := 125) rfl rfl rfl rfl rfl (tz_in0 rfl)).trans ?_
    refine (tz_g_iload_n rfl (tz_in0 rfl)).trans ?_
    refine (tz_g_iload_n rfl (tz_in0 rfl)).trans ?_
    refine (tz_g_cv2I (m2 := 29) (rc := 1) rfl rfl rfl rfl rfl rfl (by decide) (tz_in0 rfl)).trans ?_
    refine tz_jI (fun y3 A3 => ?_)
    refine (tz_g_pop rfl (tz_in0 rfl)).trans ?_
    exact tz_g_ret0 (tz_in0 rfl) rfl

theorem e_X7_readHillNumber (A : tz_Mem) : f_X7_readHillNumber A =
  tz_bI (f_X7_readNumber 0 ((tz_g A 125 0) - 1) A) (fun y1 A1 =>
some (some (.int y1), A1)) := by
  refine (tz_Fe (L := [some (.ref 122)]) rfl).trans ?_
  refine (tz_g_aload_n rfl (tz_in0 rfl)).trans ?_
  refine (tz_g_iconst (v := 0) rfl (tz_in0 rfl)).trans ?_
  refine (tz_g_aload_n rfl (tz_in0 rfl)).trans ?_
  refine (tz_g_getr (j := 124) rfl rfl rfl rfl rfl (tz_in0 rfl)).trans ?_
  refine (tz_g_getr (j := 125) rfl rfl rfl rfl rfl (tz_in0 rfl)).trans ?_
  refine (tz_g_geti rfl rfl rfl (tz_in0 rfl)).trans ?_
  refine (tz_g_iconst (v := 1) rfl (tz_in0 rfl)).trans ?_
  refine (tz_g_isub (tz_in0 rfl)).trans ?_
  refine (tz_g_cv2I (m2 := 72) (rc := 1) rfl rfl rfl rfl rfl rfl (by decide) (tz_in0 rfl)).trans ?_
  refine tz_jI (fun y1 A1 => ?_)
  exact tz_g_ret1 (tz_in0 rfl) rfl

theorem e_X9_sayLetter (b : Nat) (x1 : Int32) (x2 : Int32) (hb : tz_sky b) (A : tz_Mem) : f_X9_sayLetter b x1 x2 A =
  if x1 < 0 ∨ 12 ≤ (Int32.toNatClampNeg x1) then none else
tz_bI (f_X3_becomes b x2 (tz_g A (b + 16) (Int32.toNatClampNeg x1)) A) (fun y1 A1 =>
if x1 < 0 ∨ 12 ≤ (Int32.toNatClampNeg x1) then none else
tz_bI (f_X3_timesHeard b x2 (tz_g A1 (b + 19) (Int32.toNatClampNeg x1)) A1) (fun y2 A2 =>
if x1 < 0 ∨ 12 ≤ (Int32.toNatClampNeg x1) then none else
tz_bV (f_X3_hear b x2 y1 y2 (tz_s A2 (b + 16) (Int32.toNatClampNeg x1) y1)) (fun A3 =>
if (tz_gr A3 b 7) = 0 then
  if x1 < 0 ∨ 12 ≤ (Int32.toNatClampNeg x1) then none else
  if ¬ (tz_g A3 (b + 18) (Int32.toNatClampNeg x1)) = x2 then
    if x1 < 0 ∨ 12 ≤ (Int32.toNatClampNeg x1) then none else
    if x2 < 0 ∨ 8 ≤ (Int32.toNatClampNeg x2) then none else
    if x2 < 0 ∨ 8 ≤ (Int32.toNatClampNeg x2) then none else
    some (none, (tz_s (tz_s A3 (b + 20) (Int32.toNatClampNeg x1) x2) (b + 4) (Int32.toNatClampNeg x2) ((tz_g (tz_s A3 (b + 20) (Int32.toNatClampNeg x1) x2) (b + 4) (Int32.toNatClampNeg x2)) ||| (1 <<< (x1 &&& 31)))))
  else
    if x1 < 0 ∨ 12 ≤ (Int32.toNatClampNeg x1) then none else
    if x1 < 0 ∨ 12 ≤ (Int32.toNatClampNeg x1) then none else
    some (none, (tz_s (tz_s A3 (b + 20) (Int32.toNatClampNeg x1) 200) (b + 21) (Int32.toNatClampNeg x1) (tz_g (tz_s A3 (b + 20) (Int32.toNatClampNeg x1) 200) b 3)))
else if (tz_gr A3 b 7) = 151 then
  if (tz_gr A3 b 7) = 0 then
    none
  else if (tz_gr A3 b 7) = 151 then
    tz_bV (f_X2_listen x1 x2 y1 y2 A3) (fun A4 =>
    if x1 < 0 ∨ 12 ≤ (Int32.toNatClampNeg x1) then none else
    if ¬ (tz_g A4 (b + 18) (Int32.toNatClampNeg x1)) = x2 then
      if x1 < 0 ∨ 12 ≤ (Int32.toNatClampNeg x1) then none else
      if x2 < 0 ∨ 8 ≤ (Int32.toNatClampNeg x2) then none else
      if x2 < 0 ∨ 8 ≤ (Int32.toNatClampNeg x2) then none else
      some (none, (tz_s (tz_s A4 (b + 20) (Int32.toNatClampNeg x1) x2) (b + 4) (Int32.toNatClampNeg x2) ((tz_g (tz_s A4 (b + 20) (Int32.toNatClampNeg x1) x2) (b + 4) (Int32.toNatClampNeg x2)) ||| (1 <<< (x1 &&& 31)))))
    else
      if x1 < 0 ∨ 12 ≤ (Int32.toNatClampNeg x1) then none else
      if x1 < 0 ∨ 12 ≤ (Int32.toNatClampNeg x1) then none else
      some (none, (tz_s (tz_s A4 (b + 20) (Int32.toNatClampNeg x1) 200) (b + 21) (Int32.toNatClampNeg x1) (tz_g (tz_s A4 (b + 20) (Int32.toNatClampNeg x1) 200) b 3))))
  else if (tz_gr A3 b 7) = 152 then
    tz_bV (f_X5_listen x1 x2 y1 y2 A3) (fun A4 =>
    if x1 < 0 ∨ 12 ≤ (Int32.toNatClampNeg x1) then none else
    if ¬ (tz_g A4 (b + 18) (Int32.toNatClampNeg x1)) = x2 then
      if x1 < 0 ∨ 12 ≤ (Int32.toNatClampNeg x1) then none else
      if x2 < 0 ∨ 8 ≤ (Int32.toNatClampNeg x2) then none else
      if x2 < 0 ∨ 8 ≤ (Int32.toNatClampNeg x2) then none else
      some (none, (tz_s (tz_s A4 (b + 20) (Int32.toNatClampNeg x1) x2) (b + 4) (Int32.toNatClampNeg x2) ((tz_g (tz_s A4 (b + 20) (Int32.toNatClampNeg x1) x2) (b + 4) (Int32.toNatClampNeg x2)) ||| (1 <<< (x1 &&& 31)))))
    else
      if x1 < 0 ∨ 12 ≤ (Int32.toNatClampNeg x1) then none else
      if x1 < 0 ∨ 12 ≤ (Int32.toNatClampNeg x1) then none else
      some (none, (tz_s (tz_s A4 (b + 20) (Int32.toNatClampNeg x1) 200) (b + 21) (Int32.toNatClampNeg x1) (tz_g (tz_s A4 (b + 20) (Int32.toNatClampNeg x1) 200) b 3))))
  else if (tz_gr A3 b 7) = 154 then
    tz_bV (f_X6_listen x1 x2 y1 y2 A3) (fun A4 =>
    if x1 < 0 ∨ 12 ≤ (Int32.toNatClampNeg x1) then none else
    if ¬ (tz_g A4 (b + 18) (Int32.toNatClampNeg x1)) = x2 then
      if x1 < 0 ∨ 12 ≤ (Int32.toNatClampNeg x1) then none else
      if x2 < 0 ∨ 8 ≤ (Int32.toNatClampNeg x2) then none else
      if x2 < 0 ∨ 8 ≤ (Int32.toNatClampNeg x2) then none else
      some (none, (tz_s (tz_s A4 (b + 20) (Int32.toNatClampNeg x1) x2) (b + 4) (Int32.toNatClampNeg x2) ((tz_g (tz_s A4 (b + 20) (Int32.toNatClampNeg x1) x2) (b + 4) (Int32.toNatClampNeg x2)) ||| (1 <<< (x1 &&& 31)))))
    else
      if x1 < 0 ∨ 12 ≤ (Int32.toNatClampNeg x1) then none else
      if x1 < 0 ∨ 12 ≤ (Int32.toNatClampNeg x1) then none else
      some (none, (tz_s (tz_s A4 (b + 20) (Int32.toNatClampNeg x1) 200) (b + 21) (Int32.toNatClampNeg x1) (tz_g (tz_s A4 (b + 20) (Int32.toNatClampNeg x1) 200) b 3))))
  else none
else if (tz_gr A3 b 7) = 152 then
  if (tz_gr A3 b 7) = 0 then
    none
  else if (tz_gr A3 b 7) = 151 then
    tz_bV (f_X2_listen x1 x2 y1 y2 A3) (fun A4 =>
    if x1 < 0 ∨ 12 ≤ (Int32.toNatClampNeg x1) then none else
    if ¬ (tz_g A4 (b + 18) (Int32.toNatClampNeg x1)) = x2 then
      if x1 < 0 ∨ 12 ≤ (Int32.toNatClampNeg x1) then none else
      if x2 < 0 ∨ 8 ≤ (Int32.toNatClampNeg x2) then none else
      if x2 < 0 ∨ 8 ≤ (Int32.toNatClampNeg x2) then none else
      some (none, (tz_s (tz_s A4 (b + 20) (Int32.toNatClampNeg x1) x2) (b + 4) (Int32.toNatClampNeg x2) ((tz_g (tz_s A4 (b + 20) (Int32.toNatClampNeg x1) x2) (b + 4) (Int32.toNatClampNeg x2)) ||| (1 <<< (x1 &&& 31)))))
    else
      if x1 < 0 ∨ 12 ≤ (Int32.toNatClampNeg x1) then none else
      if x1 < 0 ∨ 12 ≤ (Int32.toNatClampNeg x1) then none else
      some (none, (tz_s (tz_s A4 (b + 20) (Int32.toNatClampNeg x1) 200) (b + 21) (Int32.toNatClampNeg x1) (tz_g (tz_s A4 (b + 20) (Int32.toNatClampNeg x1) 200) b 3))))
  else if (tz_gr A3 b 7) = 152 then
    tz_bV (f_X5_listen x1 x2 y1 y2 A3) (fun A4 =>
    if x1 < 0 ∨ 12 ≤ (Int32.toNatClampNeg x1) then none else
    if ¬ (tz_g A4 (b + 18) (Int32.toNatClampNeg x1)) = x2 then
      if x1 < 0 ∨ 12 ≤ (Int32.toNatClampNeg x1) then none else
      if x2 < 0 ∨ 8 ≤ (Int32.toNatClampNeg x2) then none else
      if x2 < 0 ∨ 8 ≤ (Int32.toNatClampNeg x2) then none else
      some (none, (tz_s (tz_s A4 (b + 20) (Int32.toNatClampNeg x1) x2) (b + 4) (Int32.toNatClampNeg x2) ((tz_g (tz_s A4 (b + 20) (Int32.toNatClampNeg x1) x2) (b + 4) (Int32.toNatClampNeg x2)) ||| (1 <<< (x1 &&& 31)))))
    else
      if x1 < 0 ∨ 12 ≤ (Int32.toNatClampNeg x1) then none else
      if x1 < 0 ∨ 12 ≤ (Int32.toNatClampNeg x1) then none else
      some (none, (tz_s (tz_s A4 (b + 20) (Int32.toNatClampNeg x1) 200) (b + 21) (Int32.toNatClampNeg x1) (tz_g (tz_s A4 (b + 20) (Int32.toNatClampNeg x1) 200) b 3))))
  else if (tz_gr A3 b 7) = 154 then
    tz_bV (f_X6_listen x1 x2 y1 y2 A3) (fun A4 =>
    if x1 < 0 ∨ 12 ≤ (Int32.toNatClampNeg x1) then none else
    if ¬ (tz_g A4 (b + 18) (Int32.toNatClampNeg x1)) = x2 then
      if x1 < 0 ∨ 12 ≤ (Int32.toNatClampNeg x1) then none else
      if x2 < 0 ∨ 8 ≤ (Int32.toNatClampNeg x2) then none else
      if x2 < 0 ∨ 8 ≤ (Int32.toNatClampNeg x2) then none else
      some (none, (tz_s (tz_s A4 (b + 20) (Int32.toNatClampNeg x1) x2) (b + 4) (Int32.toNatClampNeg x2) ((tz_g (tz_s A4 (b + 20) (Int32.toNatClampNeg x1) x2) (b + 4) (Int32.toNatClampNeg x2)) ||| (1 <<< (x1 &&& 31)))))
    else
      if x1 < 0 ∨ 12 ≤ (Int32.toNatClampNeg x1) then none else
      if x1 < 0 ∨ 12 ≤ (Int32.toNatClampNeg x1) then none else
      some (none, (tz_s (tz_s A4 (b + 20) (Int32.toNatClampNeg x1) 200) (b + 21) (Int32.toNatClampNeg x1) (tz_g (tz_s A4 (b + 20) (Int32.toNatClampNeg x1) 200) b 3))))
  else none
else if (tz_gr A3 b 7) = 154 then
  if (tz_gr A3 b 7) = 0 then
    none
  else if (tz_gr A3 b 7) = 151 then
    tz_bV (f_X2_listen x1 x2 y1 y2 A3) (fun A4 =>
    if x1 < 0 ∨ 12 ≤ (Int32.toNatClampNeg x1) then none else
    if ¬ (tz_g A4 (b + 18) (Int32.toNatClampNeg x1)) = x2 then
      if x1 < 0 ∨ 12 ≤ (Int32.toNatClampNeg x1) then none else
      if x2 < 0 ∨ 8 ≤ (Int32.toNatClampNeg x2) then none else
      if x2 < 0 ∨ 8 ≤ (Int32.toNatClampNeg x2) then none else
      some (none, (tz_s (tz_s A4 (b + 20) (Int32.toNatClampNeg x1) x2) (b + 4) (Int32.toNatClampNeg x2) ((tz_g (tz_s A4 (b + 20) (Int32.toNatClampNeg x1) x2) (b + 4) (Int32.toNatClampNeg x2)) ||| (1 <<< (x1 &&& 31)))))
    else
      if x1 < 0 ∨ 12 ≤ (Int32.toNatClampNeg x1) then none else
      if x1 < 0 ∨ 12 ≤ (Int32.toNatClampNeg x1) then none else
      some (none, (tz_s (tz_s A4 (b + 20) (Int32.toNatClampNeg x1) 200) (b + 21) (Int32.toNatClampNeg x1) (tz_g (tz_s A4 (b + 20) (Int32.toNatClampNeg x1) 200) b 3))))
  else if (tz_gr A3 b 7) = 152 then
    tz_bV (f_X5_listen x1 x2 y1 y2 A3) (fun A4 =>
    if x1 < 0 ∨ 12 ≤ (Int32.toNatClampNeg x1) then none else
    if ¬ (tz_g A4 (b + 18) (Int32.toNatClampNeg x1)) = x2 then
      if x1 < 0 ∨ 12 ≤ (Int32.toNatClampNeg x1) then none else
      if x2 < 0 ∨ 8 ≤ (Int32.toNatClampNeg x2) then none else
      if x2 < 0 ∨ 8 ≤ (Int32.toNatClampNeg x2) then none else
      some (none, (tz_s (tz_s A4 (b + 20) (Int32.toNatClampNeg x1) x2) (b + 4) (Int32.toNatClampNeg x2) ((tz_g (tz_s A4 (b + 20) (Int32.toNatClampNeg x1) x2) (b + 4) (Int32.toNatClampNeg x2)) ||| (1 <<< (x1 &&& 31)))))
    else
      if x1 < 0 ∨ 12 ≤ (Int32.toNatClampNeg x1) then none else
      if x1 < 0 ∨ 12 ≤ (Int32.toNatClampNeg x1) then none else
      some (none, (tz_s (tz_s A4 (b + 20) (Int32.toNatClampNeg x1) 200) (b + 21) (Int32.toNatClampNeg x1) (tz_g (tz_s A4 (b + 20) (Int32.toNatClampNeg x1) 200) b 3))))
  else if (tz_gr A3 b 7) = 154 then
    tz_bV (f_X6_listen x1 x2 y1 y2 A3) (fun A4 =>
    if x1 < 0 ∨ 12 ≤ (Int32.toNatClampNeg x1) then none else
    if ¬ (tz_g A4 (b + 18) (Int32.toNatClampNeg x1)) = x2 then
      if x1 < 0 ∨ 12 ≤ (Int32.toNatClampNeg x1) then none else
      if x2 < 0 ∨ 8 ≤ (Int32.toNatClampNeg x2) then none else
      if x2 < 0 ∨ 8 ≤ (Int32.toNatClampNeg x2) then none else
      some (none, (tz_s (tz_s A4 (b + 20) (Int32.toNatClampNeg x1) x2) (b + 4) (Int32.toNatClampNeg x2) ((tz_g (tz_s A4 (b + 20) (Int32.toNatClampNeg x1) x2) (b + 4) (Int32.toNatClampNeg x2)) ||| (1 <<< (x1 &&& 31)))))
    else
      if x1 < 0 ∨ 12 ≤ (Int32.toNatClampNeg x1) then none else
      if x1 < 0 ∨ 12 ≤ (Int32.toNatClampNeg x1) then none else
      some (none, (tz_s (tz_s A4 (b + 20) (Int32.toNatClampNeg x1) 200) (b + 21) (Int32.toNatClampNeg x1) (tz_g (tz_s A4 (b + 20) (Int32.toNatClampNeg x1) 200) b 3))))
  else none
else none))) := by
  obtain rfl | rfl | rfl | rfl | rfl := hb
  all_goals
    refine (tz_Fe (L := [some (.ref _), some (.int x1), some (.int x2), none, none]) rfl).trans ?_
    refine (tz_g_aload_n rfl (tz_in0 rfl)).trans ?_
    refine (tz_g_getr (j := _) rfl rfl rfl rfl rfl (tz_in0 rfl)).trans ?_
    refine (tz_g_iload_n rfl (tz_in0 rfl)).trans ?_
    refine (tz_g_aload_n rfl (tz_in0 rfl)).trans ?_
    refine (tz_g_getr (j := _) rfl rfl rfl rfl rfl (tz_in0 rfl)).trans ?_
    refine (tz_g_getr (j := _) rfl rfl rfl rfl rfl (tz_in0 rfl)).trans ?_
    refine (tz_g_iload_n rfl (tz_in0 rfl)).trans ?_
    refine (tz_g_iald (n := 12) rfl rfl rfl (tz_in0 rfl)).trans ?_
    refine tz_cn1 ?_
    refine (tz_g_cv2I (m2 := 85) (rc := 1) rfl rfl rfl rfl rfl rfl (by decide) (tz_in0 rfl)).trans ?_
    refine tz_jI (fun y1 A1 => ?_)
    refine (tz_g_istore_n (L2 := [some (.ref _), some (.int x1), some (.int x2), some (.int y1), none]) rfl rfl (tz_in0 rfl)).trans ?_
    refine (tz_g_aload_n rfl (tz_in0 rfl)).trans ?_
    refine (tz_g_getr (j := _) rfl rfl rfl rfl rfl (tz_in0 rfl)).trans ?_
    refine (tz_g_iload_n rfl (tz_in0 rfl)).trans ?_
    refine (tz_g_aload_n rfl (tz_in0 rfl)).trans ?_
    refine (tz_g_getr (j := _) rfl rfl rfl rfl rfl (tz_in0 rfl)).trans ?_
    refine (tz_g_getr (j := _) rfl rfl rfl rfl rfl (tz_in0 rfl)).trans ?_
    refine (tz_g_iload_n rfl (tz_in0 rfl)).trans ?_
    refine (tz_g_iald (n := 12) rfl rfl rfl (tz_in0 rfl)).trans ?_
    refine tz_cn1 ?_
    refine (tz_g_cv2I (m2 := 86) (rc := 1) rfl rfl rfl rfl rfl rfl (by decide) (tz_in0 rfl)).trans ?_
    refine tz_jI (fun y2 A2 => ?_)
    refine (tz_g_istore (L2 := [some (.ref _), some (.int x1), some (.int x2), some (.int y1), some (.int y2)]) rfl rfl (tz_in0 rfl)).trans ?_
    refine (tz_g_aload_n rfl (tz_in0 rfl)).trans ?_
    refine (tz_g_getr (j := _) rfl rfl rfl rfl rfl (tz_in0 rfl)).trans ?_
    refine (tz_g_getr (j := _) rfl rfl rfl rfl rfl (tz_in0 rfl)).trans ?_
    refine (tz_g_iload_n rfl (tz_in0 rfl)).trans ?_
    refine (tz_g_iload_n rfl (tz_in0 rfl)).trans ?_
    refine (tz_g_iast (n := 12) rfl rfl rfl (tz_in0 rfl)).trans ?_
    refine tz_cn1 ?_
    refine (tz_g_aload_n rfl (tz_in0 rfl)).trans ?_
    refine (tz_g_getr (j := _) rfl rfl rfl rfl rfl (tz_in0 rfl)).trans ?_
    refine (tz_g_iload_n rfl (tz_in0 rfl)).trans ?_
    refine (tz_g_iload_n rfl (tz_in0 rfl)).trans ?_
    refine (tz_g_iload rfl (tz_in0 rfl)).trans ?_
    refine (tz_g_cv3V (m2 := 87) (rc := 0) rfl rfl rfl rfl rfl rfl (by decide) (tz_in0 rfl)).trans ?_
    refine tz_jV (fun A3 => ?_)
    refine (tz_g_aload_n rfl (tz_in0 rfl)).trans ?_
    refine (tz_g_gete rfl rfl rfl (tz_in0 rfl)).trans ?_
    refine tz_cg ?_ ?_
    · skip
      refine (tz_g_ifnullN (t := 77) (by decide) (tz_in0 rfl)).trans ?_
      refine (tz_g_aload_n rfl (tz_in0 rfl)).trans ?_
      refine (tz_g_getr (j := _) rfl rfl rfl rfl rfl (tz_in0 rfl)).trans ?_
      refine (tz_g_getr (j := _) rfl rfl rfl rfl rfl (tz_in0 rfl)).trans ?_
      refine (tz_g_iload_n rfl (tz_in0 rfl)).trans ?_
      refine (tz_g_iald (n := 12) rfl rfl rfl (tz_in0 rfl)).trans ?_
      refine tz_cn1 ?_
      refine (tz_g_iload_n rfl (tz_in0 rfl)).trans ?_
      refine (tz_g_ic_ne (t := 118) (by decide) (tz_in0 rfl)).trans ?_
      refine tz_cg ?_ ?_
      · skip
        refine (tz_g_aload_n rfl (tz_in0 rfl)).trans ?_
        refine (tz_g_getr (j := _) rfl rfl rfl rfl rfl (tz_in0 rfl)).trans ?_
        refine (tz_g_getr (j := _) rfl rfl rfl rfl rfl (tz_in0 rfl)).trans ?_
        refine (tz_g_iload_n rfl (tz_in0 rfl)).trans ?_
        refine (tz_g_iload_n rfl (tz_in0 rfl)).trans ?_
        refine (tz_g_iast (n := 12) rfl rfl rfl (tz_in0 rfl)).trans ?_
        refine tz_cn1 ?_
        refine (tz_g_aload_n rfl (tz_in0 rfl)).trans ?_
        refine (tz_g_getr (j := _) rfl rfl rfl rfl rfl (tz_in0 rfl)).trans ?_
        refine (tz_g_getr (j := _) rfl rfl rfl rfl rfl (tz_in0 rfl)).trans ?_
        refine (tz_g_iload_n rfl (tz_in0 rfl)).trans ?_
        refine (tz_g_dup2a rfl rfl (tz_in0 rfl)).trans ?_
        refine (tz_g_iald (n := 8) rfl rfl rfl (tz_in0 rfl)).trans ?_
        refine tz_cn1 ?_
        refine (tz_g_iconst (v := 1) rfl (tz_in0 rfl)).trans ?_
        refine (tz_g_iload_n rfl (tz_in0 rfl)).trans ?_
        refine (tz_g_ishl (tz_in0 rfl)).trans ?_
        refine (tz_g_ior (tz_in0 rfl)).trans ?_
        refine (tz_g_iast (n := 8) rfl rfl rfl (tz_in0 rfl)).trans ?_
        refine tz_cn1 ?_
        exact tz_g_ret0 (tz_in0 rfl) rfl
      · skip
        refine (tz_g_aload_n rfl (tz_in0 rfl)).trans ?_
        refine (tz_g_getr (j := _) rfl rfl rfl rfl rfl (tz_in0 rfl)).trans ?_
        refine (tz_g_getr (j := _) rfl rfl rfl rfl rfl (tz_in0 rfl)).trans ?_
        refine (tz_g_iload_n rfl (tz_in0 rfl)).trans ?_
        refine (tz_g_sipush (v := 200) rfl (tz_in0 rfl)).trans ?_
        refine (tz_g_iast (n := 12) rfl rfl rfl (tz_in0 rfl)).trans ?_
        refine tz_cn1 ?_
        refine (tz_g_aload_n rfl (tz_in0 rfl)).trans ?_
        refine (tz_g_getr (j := _) rfl rfl rfl rfl rfl (tz_in0 rfl)).trans ?_
        refine (tz_g_getr (j := _) rfl rfl rfl rfl rfl (tz_in0 rfl)).trans ?_
        refine (tz_g_iload_n rfl (tz_in0 rfl)).trans ?_
        refine (tz_g_aload_n rfl (tz_in0 rfl)).trans ?_
        refine (tz_g_geti rfl rfl rfl (tz_in0 rfl)).trans ?_
        refine (tz_g_iast (n := 12) rfl rfl rfl (tz_in0 rfl)).trans ?_
        refine tz_cn1 ?_
        refine (tz_g_goto (t := 143) (by decide) (tz_in0 rfl)).trans ?_
        exact tz_g_ret0 (tz_in0 rfl) rfl
    refine tz_cg ?_ ?_
    · skip
      refine (tz_g_ifnullR (t := 77) (by decide) (tz_in0 rfl)).trans ?_
      refine (tz_g_aload_n rfl (tz_in0 rfl)).trans ?_
      refine (tz_g_gete rfl rfl rfl (tz_in0 rfl)).trans ?_
      refine tz_cg ?_ ?_
      · skip
        refine (tz_g_iload_n rfl (tz_in0 rfl)).trans ?_
        refine (tz_g_iload_n rfl (tz_in0 rfl)).trans ?_
        refine (tz_g_iload_n rfl (tz_in0 rfl)).trans ?_
        refine (tz_g_iload rfl (tz_in0 rfl)).trans ?_
        exact ((tz_in0 rfl) _ _).trans rfl
      refine tz_cg ?_ ?_
      · skip
        refine (tz_g_iload_n rfl (tz_in0 rfl)).trans ?_
        refine (tz_g_iload_n rfl (tz_in0 rfl)).trans ?_
        refine (tz_g_iload_n rfl (tz_in0 rfl)).trans ?_
        refine (tz_g_iload rfl (tz_in0 rfl)).trans ?_
        refine (tz_g_cv4V (m2 := 88) (rc := 0) rfl rfl rfl rfl rfl rfl (by decide) (tz_in0 rfl)).trans ?_
        refine tz_jV (fun A4 => ?_)
        refine (tz_g_aload_n rfl (tz_in0 rfl)).trans ?_
        refine (tz_g_getr (j := _) rfl rfl rfl rfl rfl (tz_in0 rfl)).trans ?_
        refine (tz_g_getr (j := _) rfl rfl rfl rfl rfl (tz_in0 rfl)).trans ?_
        refine (tz_g_iload_n rfl (tz_in0 rfl)).trans ?_
        refine (tz_g_iald (n := 12) rfl rfl rfl (tz_in0 rfl)).trans ?_
        refine tz_cn1 ?_
        refine (tz_g_iload_n rfl (tz_in0 rfl)).trans ?_
        refine (tz_g_ic_ne (t := 118) (by decide) (tz_in0 rfl)).trans ?_
        refine tz_cg ?_ ?_
        · skip
          refine (tz_g_aload_n rfl (tz_in0 rfl)).trans ?_
          refine (tz_g_getr (j := _) rfl rfl rfl rfl rfl (tz_in0 rfl)).trans ?_
          refine (tz_g_getr (j := _) rfl rfl rfl rfl rfl (tz_in0 rfl)).trans ?_
          refine (tz_g_iload_n rfl (tz_in0 rfl)).trans ?_
          refine (tz_g_iload_n rfl (tz_in0 rfl)).trans ?_
          refine (tz_g_iast (n := 12) rfl rfl rfl (tz_in0 rfl)).trans ?_
          refine tz_cn1 ?_
          refine (tz_g_aload_n rfl (tz_in0 rfl)).trans ?_
          refine (tz_g_getr (j := _) rfl rfl rfl rfl rfl (tz_in0 rfl)).trans ?_
          refine (tz_g_getr (j := _) rfl rfl rfl rfl rfl (tz_in0 rfl)).trans ?_
          refine (tz_g_iload_n rfl (tz_in0 rfl)).trans ?_
          refine (tz_g_dup2a rfl rfl (tz_in0 rfl)).trans ?_
          refine (tz_g_iald (n := 8) rfl rfl rfl (tz_in0 rfl)).trans ?_
          refine tz_cn1 ?_
          refine (tz_g_iconst (v := 1) rfl (tz_in0 rfl)).trans ?_
          refine (tz_g_iload_n rfl (tz_in0 rfl)).trans ?_
          refine (tz_g_ishl (tz_in0 rfl)).trans ?_
          refine (tz_g_ior (tz_in0 rfl)).trans ?_
          refine (tz_g_iast (n := 8) rfl rfl rfl (tz_in0 rfl)).trans ?_
          refine tz_cn1 ?_
          exact tz_g_ret0 (tz_in0 rfl) rfl
        · skip
          refine (tz_g_aload_n rfl (tz_in0 rfl)).trans ?_
          refine (tz_g_getr (j := _) rfl rfl rfl rfl rfl (tz_in0 rfl)).trans ?_
          refine (tz_g_getr (j := _) rfl rfl rfl rfl rfl (tz_in0 rfl)).trans ?_
          refine (tz_g_iload_n rfl (tz_in0 rfl)).trans ?_
          refine (tz_g_sipush (v := 200) rfl (tz_in0 rfl)).trans ?_
          refine (tz_g_iast (n := 12) rfl rfl rfl (tz_in0 rfl)).trans ?_
          refine tz_cn1 ?_
          refine (tz_g_aload_n rfl (tz_in0 rfl)).trans ?_
          refine (tz_g_getr (j := _) rfl rfl rfl rfl rfl (tz_in0 rfl)).trans ?_
          refine (tz_g_getr (j := _) rfl rfl rfl rfl rfl (tz_in0 rfl)).trans ?_
          refine (tz_g_iload_n rfl (tz_in0 rfl)).trans ?_
          refine (tz_g_aload_n rfl (tz_in0 rfl)).trans ?_
          refine (tz_g_geti rfl rfl rfl (tz_in0 rfl)).trans ?_
          refine (tz_g_iast (n := 12) rfl rfl rfl (tz_in0 rfl)).trans ?_
          refine tz_cn1 ?_
          refine (tz_g_goto (t := 143) (by decide) (tz_in0 rfl)).trans ?_
          exact tz_g_ret0 (tz_in0 rfl) rfl
      refine tz_cg ?_ ?_
      · skip
        refine (tz_g_iload_n rfl (tz_in0 rfl)).trans ?_
        refine (tz_g_iload_n rfl (tz_in0 rfl)).trans ?_
        refine (tz_g_iload_n rfl (tz_in0 rfl)).trans ?_
        refine (tz_g_iload rfl (tz_in0 rfl)).trans ?_
        refine (tz_g_cv4V (m2 := 89) (rc := 0) rfl rfl rfl rfl rfl rfl (by decide) (tz_in0 rfl)).trans ?_
        refine tz_jV (fun A4 => ?_)
        refine (tz_g_aload_n rfl (tz_in0 rfl)).trans ?_
        refine (tz_g_getr (j := _) rfl rfl rfl rfl rfl (tz_in0 rfl)).trans ?_
        refine (tz_g_getr (j := _) rfl rfl rfl rfl rfl (tz_in0 rfl)).trans ?_
        refine (tz_g_iload_n rfl (tz_in0 rfl)).trans ?_
        refine (tz_g_iald (n := 12) rfl rfl rfl (tz_in0 rfl)).trans ?_
        refine tz_cn1 ?_
        refine (tz_g_iload_n rfl (tz_in0 rfl)).trans ?_
        refine (tz_g_ic_ne (t := 118) (by decide) (tz_in0 rfl)).trans ?_
        refine tz_cg ?_ ?_
        · skip
          refine (tz_g_aload_n rfl (tz_in0 rfl)).trans ?_
          refine (tz_g_getr (j := _) rfl rfl rfl rfl rfl (tz_in0 rfl)).trans ?_
          refine (tz_g_getr (j := _) rfl rfl rfl rfl rfl (tz_in0 rfl)).trans ?_
          refine (tz_g_iload_n rfl (tz_in0 rfl)).trans ?_
          refine (tz_g_iload_n rfl (tz_in0 rfl)).trans ?_
          refine (tz_g_iast (n := 12) rfl rfl rfl (tz_in0 rfl)).trans ?_
          refine tz_cn1 ?_
          refine (tz_g_aload_n rfl (tz_in0 rfl)).trans ?_
          refine (tz_g_getr (j := _) rfl rfl rfl rfl rfl (tz_in0 rfl)).trans ?_
          refine (tz_g_getr (j := _) rfl rfl rfl rfl rfl (tz_in0 rfl)).trans ?_
          refine (tz_g_iload_n rfl (tz_in0 rfl)).trans ?_
          refine (tz_g_dup2a rfl rfl (tz_in0 rfl)).trans ?_
          refine (tz_g_iald (n := 8) rfl rfl rfl (tz_in0 rfl)).trans ?_
          refine tz_cn1 ?_
          refine (tz_g_iconst (v := 1) rfl (tz_in0 rfl)).trans ?_
          refine (tz_g_iload_n rfl (tz_in0 rfl)).trans ?_
          refine (tz_g_ishl (tz_in0 rfl)).trans ?_
          refine (tz_g_ior (tz_in0 rfl)).trans ?_
          refine (tz_g_iast (n := 8) rfl rfl rfl (tz_in0 rfl)).trans ?_
          refine tz_cn1 ?_
          exact tz_g_ret0 (tz_in0 rfl) rfl
        · skip
          refine (tz_g_aload_n rfl (tz_in0 rfl)).trans ?_
          refine (tz_g_getr (j := _) rfl rfl rfl rfl rfl (tz_in0 rfl)).trans ?_
          refine (tz_g_getr (j := _) rfl rfl rfl rfl rfl (tz_in0 rfl)).trans ?_
          refine (tz_g_iload_n rfl (tz_in0 rfl)).trans ?_
          refine (tz_g_sipush (v := 200) rfl (tz_in0 rfl)).trans ?_
          refine (tz_g_iast (n := 12) rfl rfl rfl (tz_in0 rfl)).trans ?_
          refine tz_cn1 ?_
          refine (tz_g_aload_n rfl (tz_in0 rfl)).trans ?_
          refine (tz_g_getr (j := _) rfl rfl rfl rfl rfl (tz_in0 rfl)).trans ?_
          refine (tz_g_getr (j := _) rfl rfl rfl rfl rfl (tz_in0 rfl)).trans ?_
          refine (tz_g_iload_n rfl (tz_in0 rfl)).trans ?_
          refine (tz_g_aload_n rfl (tz_in0 rfl)).trans ?_
          refine (tz_g_geti rfl rfl rfl (tz_in0 rfl)).trans ?_
          refine (tz_g_iast (n := 12) rfl rfl rfl (tz_in0 rfl)).trans ?_
          refine tz_cn1 ?_
          refine (tz_g_goto (t := 143) (by decide) (tz_in0 rfl)).trans ?_
          exact tz_g_ret0 (tz_in0 rfl) rfl
      refine tz_cg ?_ ?_
      · skip
        refine (tz_g_iload_n rfl (tz_in0 rfl)).trans ?_
        refine (tz_g_iload_n rfl (tz_in0 rfl)).trans ?_
        refine (tz_g_iload_n rfl (tz_in0 rfl)).trans ?_
        refine (tz_g_iload rfl (tz_in0 rfl)).trans ?_
        refine (tz_g_cv4V (m2 := 91) (rc := 0) rfl rfl rfl rfl rfl rfl (by decide) (tz_in0 rfl)).trans ?_
        refine tz_jV (fun A4 => ?_)
        refine (tz_g_aload_n rfl (tz_in0 rfl)).trans ?_
        refine (tz_g_getr (j := _) rfl rfl rfl rfl rfl (tz_in0 rfl)).trans ?_
        refine (tz_g_getr (j := _) rfl rfl rfl rfl rfl (tz_in0 rfl)).trans ?_
        refine (tz_g_iload_n rfl (tz_in0 rfl)).trans ?_
        refine (tz_g_iald (n := 12) rfl rfl rfl (tz_in0 rfl)).trans ?_
        refine tz_cn1 ?_
        refine (tz_g_iload_n rfl (tz_in0 rfl)).trans ?_
        refine (tz_g_ic_ne (t := 118) (by decide) (tz_in0 rfl)).trans ?_
        refine tz_cg ?_ ?_
        · skip
          refine (tz_g_aload_n rfl (tz_in0 rfl)).trans ?_
          refine (tz_g_getr (j := _) rfl rfl rfl rfl rfl (tz_in0 rfl)).trans ?_
          refine (tz_g_getr (j := _) rfl rfl rfl rfl rfl (tz_in0 rfl)).trans ?_
          refine (tz_g_iload_n rfl (tz_in0 rfl)).trans ?_
          refine (tz_g_iload_n rfl (tz_in0 rfl)).trans ?_
          refine (tz_g_iast (n := 12) rfl rfl rfl (tz_in0 rfl)).trans ?_
          refine tz_cn1 ?_
          refine (tz_g_aload_n rfl (tz_in0 rfl)).trans ?_
          refine (tz_g_getr (j := _) rfl rfl rfl rfl rfl (tz_in0 rfl)).trans ?_
          refine (tz_g_getr (j := _) rfl rfl rfl rfl rfl (tz_in0 rfl)).trans ?_
          refine (tz_g_iload_n rfl (tz_in0 rfl)).trans ?_
          refine (tz_g_dup2a rfl rfl (tz_in0 rfl)).trans ?_
          refine (tz_g_iald (n := 8) rfl rfl rfl (tz_in0 rfl)).trans ?_
          refine tz_cn1 ?_
          refine (tz_g_iconst (v := 1) rfl (tz_in0 rfl)).trans ?_
          refine (tz_g_iload_n rfl (tz_in0 rfl)).trans ?_
          refine (tz_g_ishl (tz_in0 rfl)).trans ?_
          refine (tz_g_ior (tz_in0 rfl)).trans ?_
          refine (tz_g_iast (n := 8) rfl rfl rfl (tz_in0 rfl)).trans ?_
          refine tz_cn1 ?_
          exact tz_g_ret0 (tz_in0 rfl) rfl
        · skip
          refine (tz_g_aload_n rfl (tz_in0 rfl)).trans ?_
          refine (tz_g_getr (j := _) rfl rfl rfl rfl rfl (tz_in0 rfl)).trans ?_
          refine (tz_g_getr (j := _) rfl rfl rfl rfl rfl (tz_in0 rfl)).trans ?_
          refine (tz_g_iload_n rfl (tz_in0 rfl)).trans ?_
          refine (tz_g_sipush (v := 200) rfl (tz_in0 rfl)).trans ?_
          refine (tz_g_iast (n := 12) rfl rfl rfl (tz_in0 rfl)).trans ?_
          refine tz_cn1 ?_
          refine (tz_g_aload_n rfl (tz_in0 rfl)).trans ?_
          refine (tz_g_getr (j := _) rfl rfl rfl rfl rfl (tz_in0 rfl)).trans ?_
          refine (tz_g_getr (j := _) rfl rfl rfl rfl rfl (tz_in0 rfl)).trans ?_
          refine (tz_g_iload_n rfl (tz_in0 rfl)).trans ?_
          refine (tz_g_aload_n rfl (tz_in0 rfl)).trans ?_
          refine (tz_g_geti rfl rfl rfl (tz_in0 rfl)).trans ?_
          refine (tz_g_iast (n := 12) rfl rfl rfl (tz_in0 rfl)).trans ?_
          refine tz_cn1 ?_
          refine (tz_g_goto (t := 143) (by decide) (tz_in0 rfl)).trans ?_
          exact tz_g_ret0 (tz_in0 rfl) rfl
      rfl
    refine tz_cg ?_ ?_
    · skip
      refine (tz_g_ifnullR (t := 77) (by decide) (tz_in0 rfl)).trans ?_
      refine (tz_g_aload_n rfl (tz_in0 rfl)).trans ?_
      refine (tz_g_gete rfl rfl rfl (tz_in0 rfl)).trans ?_
      refine tz_cg ?_ ?_
      · skip
        refine (tz_g_iload_n rfl (tz_in0 rfl)).trans ?_
        refine (tz_g_iload_n rfl (tz_in0 rfl)).trans ?_
        refine (tz_g_iload_n rfl (tz_in0 rfl)).trans ?_
        refine (tz_g_iload rfl (tz_in0 rfl)).trans ?_
        exact ((tz_in0 rfl) _ _).trans rfl
      refine tz_cg ?_ ?_
      · skip
        refine (tz_g_iload_n rfl (tz_in0 rfl)).trans ?_
        refine (tz_g_iload_n rfl (tz_in0 rfl)).trans ?_
        refine (tz_g_iload_n rfl (tz_in0 rfl)).trans ?_
        refine (tz_g_iload rfl (tz_in0 rfl)).trans ?_
        refine (tz_g_cv4V (m2 := 88) (rc := 0) rfl rfl rfl rfl rfl rfl (by decide) (tz_in0 rfl)).trans ?_
        refine tz_jV (fun A4 => ?_)
        refine (tz_g_aload_n rfl (tz_in0 rfl)).trans ?_
        refine (tz_g_getr (j := _) rfl rfl rfl rfl rfl (tz_in0 rfl)).trans ?_
        refine (tz_g_getr (j := _) rfl rfl rfl rfl rfl (tz_in0 rfl)).trans ?_
        refine (tz_g_iload_n rfl (tz_in0 rfl)).trans ?_
        refine (tz_g_iald (n := 12) rfl rfl rfl (tz_in0 rfl)).trans ?_
        refine tz_cn1 ?_
        refine (tz_g_iload_n rfl (tz_in0 rfl)).trans ?_
        refine (tz_g_ic_ne (t := 118) (by decide) (tz_in0 rfl)).trans ?_
        refine tz_cg ?_ ?_
        · skip
          refine (tz_g_aload_n rfl (tz_in0 rfl)).trans ?_
          refine (tz_g_getr (j := _) rfl rfl rfl rfl rfl (tz_in0 rfl)).trans ?_
          refine (tz_g_getr (j := _) rfl rfl rfl rfl rfl (tz_in0 rfl)).trans ?_
          refine (tz_g_iload_n rfl (tz_in0 rfl)).trans ?_
          refine (tz_g_iload_n rfl (tz_in0 rfl)).trans ?_
          refine (tz_g_iast (n := 12) rfl rfl rfl (tz_in0 rfl)).trans ?_
          refine tz_cn1 ?_
          refine (tz_g_aload_n rfl (tz_in0 rfl)).trans ?_
          refine (tz_g_getr (j := _) rfl rfl rfl rfl rfl (tz_in0 rfl)).trans ?_
          refine (tz_g_getr (j := _) rfl rfl rfl rfl rfl (tz_in0 rfl)).trans ?_
          refine (tz_g_iload_n rfl (tz_in0 rfl)).trans ?_
          refine (tz_g_dup2a rfl rfl (tz_in0 rfl)).trans ?_
          refine (tz_g_iald (n := 8) rfl rfl rfl (tz_in0 rfl)).trans ?_
          refine tz_cn1 ?_
          refine (tz_g_iconst (v := 1) rfl (tz_in0 rfl)).trans ?_
          refine (tz_g_iload_n rfl (tz_in0 rfl)).trans ?_
          refine (tz_g_ishl (tz_in0 rfl)).trans ?_
          refine (tz_g_ior (tz_in0 rfl)).trans ?_
          refine (tz_g_iast (n := 8) rfl rfl rfl (tz_in0 rfl)).trans ?_
          refine tz_cn1 ?_
          exact tz_g_ret0 (tz_in0 rfl) rfl
        · skip
          refine (tz_g_aload_n rfl (tz_in0 rfl)).trans ?_
          refine (tz_g_getr (j := _) rfl rfl rfl rfl rfl (tz_in0 rfl)).trans ?_
          refine (tz_g_getr (j := _) rfl rfl rfl rfl rfl (tz_in0 rfl)).trans ?_
          refine (tz_g_iload_n rfl (tz_in0 rfl)).trans ?_
          refine (tz_g_sipush (v := 200) rfl (tz_in0 rfl)).trans ?_
          refine (tz_g_iast (n := 12) rfl rfl rfl (tz_in0 rfl)).trans ?_
          refine tz_cn1 ?_
          refine (tz_g_aload_n rfl (tz_in0 rfl)).trans ?_
          refine (tz_g_getr (j := _) rfl rfl rfl rfl rfl (tz_in0 rfl)).trans ?_
          refine (tz_g_getr (j := _) rfl rfl rfl rfl rfl (tz_in0 rfl)).trans ?_
          refine (tz_g_iload_n rfl (tz_in0 rfl)).trans ?_
          refine (tz_g_aload_n rfl (tz_in0 rfl)).trans ?_
          refine (tz_g_geti rfl rfl rfl (tz_in0 rfl)).trans ?_
          refine (tz_g_iast (n := 12) rfl rfl rfl (tz_in0 rfl)).trans ?_
          refine tz_cn1 ?_
          refine (tz_g_goto (t := 143) (by decide) (tz_in0 rfl)).trans ?_
          exact tz_g_ret0 (tz_in0 rfl) rfl
      refine tz_cg ?_ ?_
      · skip
        refine (tz_g_iload_n rfl (tz_in0 rfl)).trans ?_
        refine (tz_g_iload_n rfl (tz_in0 rfl)).trans ?_
        refine (tz_g_iload_n rfl (tz_in0 rfl)).trans ?_
        refine (tz_g_iload rfl (tz_in0 rfl)).trans ?_
        refine (tz_g_cv4V (m2 := 89) (rc := 0) rfl rfl rfl rfl rfl rfl (by decide) (tz_in0 rfl)).trans ?_
        refine tz_jV (fun A4 => ?_)
        refine (tz_g_aload_n rfl (tz_in0 rfl)).trans ?_
        refine (tz_g_getr (j := _) rfl rfl rfl rfl rfl (tz_in0 rfl)).trans ?_
        refine (tz_g_getr (j := _) rfl rfl rfl rfl rfl (tz_in0 rfl)).trans ?_
        refine (tz_g_iload_n rfl (tz_in0 rfl)).trans ?_
        refine (tz_g_iald (n := 12) rfl rfl rfl (tz_in0 rfl)).trans ?_
        refine tz_cn1 ?_
        refine (tz_g_iload_n rfl (tz_in0 rfl)).trans ?_
        refine (tz_g_ic_ne (t := 118) (by decide) (tz_in0 rfl)).trans ?_
        refine tz_cg ?_ ?_
        · skip
          refine (tz_g_aload_n rfl (tz_in0 rfl)).trans ?_
          refine (tz_g_getr (j := _) rfl rfl rfl rfl rfl (tz_in0 rfl)).trans ?_
          refine (tz_g_getr (j := _) rfl rfl rfl rfl rfl (tz_in0 rfl)).trans ?_
          refine (tz_g_iload_n rfl (tz_in0 rfl)).trans ?_
          refine (tz_g_iload_n rfl (tz_in0 rfl)).trans ?_
          refine (tz_g_iast (n := 12) rfl rfl rfl (tz_in0 rfl)).trans ?_
          refine tz_cn1 ?_
          refine (tz_g_aload_n rfl (tz_in0 rfl)).trans ?_
          refine (tz_g_getr (j := _) rfl rfl rfl rfl rfl (tz_in0 rfl)).trans ?_
          refine (tz_g_getr (j := _) rfl rfl rfl rfl rfl (tz_in0 rfl)).trans ?_
          refine (tz_g_iload_n rfl (tz_in0 rfl)).trans ?_
          refine (tz_g_dup2a rfl rfl (tz_in0 rfl)).trans ?_
          refine (tz_g_iald (n := 8) rfl rfl rfl (tz_in0 rfl)).trans ?_
          refine tz_cn1 ?_
          refine (tz_g_iconst (v := 1) rfl (tz_in0 rfl)).trans ?_
          refine (tz_g_iload_n rfl (tz_in0 rfl)).trans ?_
          refine (tz_g_ishl (tz_in0 rfl)).trans ?_
          refine (tz_g_ior (tz_in0 rfl)).trans ?_
          refine (tz_g_iast (n := 8) rfl rfl rfl (tz_in0 rfl)).trans ?_
          refine tz_cn1 ?_
          exact tz_g_ret0 (tz_in0 rfl) rfl
        · skip
          refine (tz_g_aload_n rfl (tz_in0 rfl)).trans ?_
          refine (tz_g_getr (j := _) rfl rfl rfl rfl rfl (tz_in0 rfl)).trans ?_
          refine (tz_g_getr (j := _) rfl rfl rfl rfl rfl (tz_in0 rfl)).trans ?_
          refine (tz_g_iload_n rfl (tz_in0 rfl)).trans ?_
          refine (tz_g_sipush (v := 200) rfl (tz_in0 rfl)).trans ?_
          refine (tz_g_iast (n := 12) rfl rfl rfl (tz_in0 rfl)).trans ?_
          refine tz_cn1 ?_
          refine (tz_g_aload_n rfl (tz_in0 rfl)).trans ?_
          refine (tz_g_getr (j := _) rfl rfl rfl rfl rfl (tz_in0 rfl)).trans ?_
          refine (tz_g_getr (j := _) rfl rfl rfl rfl rfl (tz_in0 rfl)).trans ?_
          refine (tz_g_iload_n rfl (tz_in0 rfl)).trans ?_
          refine (tz_g_aload_n rfl (tz_in0 rfl)).trans ?_
          refine (tz_g_geti rfl rfl rfl (tz_in0 rfl)).trans ?_
          refine (tz_g_iast (n := 12) rfl rfl rfl (tz_in0 rfl)).trans ?_
          refine tz_cn1 ?_
          refine (tz_g_goto (t := 143) (by decide) (tz_in0 rfl)).trans ?_
          exact tz_g_ret0 (tz_in0 rfl) rfl
      refine tz_cg ?_ ?_
      · skip
        refine (tz_g_iload_n rfl (tz_in0 rfl)).trans ?_
        refine (tz_g_iload_n rfl (tz_in0 rfl)).trans ?_
        refine (tz_g_iload_n rfl (tz_in0 rfl)).trans ?_
        refine (tz_g_iload rfl (tz_in0 rfl)).trans ?_
        refine (tz_g_cv4V (m2 := 91) (rc := 0) rfl rfl rfl rfl rfl rfl (by decide) (tz_in0 rfl)).trans ?_
        refine tz_jV (fun A4 => ?_)
        refine (tz_g_aload_n rfl (tz_in0 rfl)).trans ?_
        refine (tz_g_getr (j := _) rfl rfl rfl rfl rfl (tz_in0 rfl)).trans ?_
        refine (tz_g_getr (j := _) rfl rfl rfl rfl rfl (tz_in0 rfl)).trans ?_
        refine (tz_g_iload_n rfl (tz_in0 rfl)).trans ?_
        refine (tz_g_iald (n := 12) rfl rfl rfl (tz_in0 rfl)).trans ?_
        refine tz_cn1 ?_
        refine (tz_g_iload_n rfl (tz_in0 rfl)).trans ?_
        refine (tz_g_ic_ne (t := 118) (by decide) (tz_in0 rfl)).trans ?_
        refine tz_cg ?_ ?_
        · skip
          refine (tz_g_aload_n rfl (tz_in0 rfl)).trans ?_
          refine (tz_g_getr (j := _) rfl rfl rfl rfl rfl (tz_in0 rfl)).trans ?_
          refine (tz_g_getr (j := _) rfl rfl rfl rfl rfl (tz_in0 rfl)).trans ?_
          refine (tz_g_iload_n rfl (tz_in0 rfl)).trans ?_
          refine (tz_g_iload_n rfl (tz_in0 rfl)).trans ?_
          refine (tz_g_iast (n := 12) rfl rfl rfl (tz_in0 rfl)).trans ?_
          refine tz_cn1 ?_
          refine (tz_g_aload_n rfl (tz_in0 rfl)).trans ?_
          refine (tz_g_getr (j := _) rfl rfl rfl rfl rfl (tz_in0 rfl)).trans ?_
          refine (tz_g_getr (j := _) rfl rfl rfl rfl rfl (tz_in0 rfl)).trans ?_
          refine (tz_g_iload_n rfl (tz_in0 rfl)).trans ?_
          refine (tz_g_dup2a rfl rfl (tz_in0 rfl)).trans ?_
          refine (tz_g_iald (n := 8) rfl rfl rfl (tz_in0 rfl)).trans ?_
          refine tz_cn1 ?_
          refine (tz_g_iconst (v := 1) rfl (tz_in0 rfl)).trans ?_
          refine (tz_g_iload_n rfl (tz_in0 rfl)).trans ?_
          refine (tz_g_ishl (tz_in0 rfl)).trans ?_
          refine (tz_g_ior (tz_in0 rfl)).trans ?_
          refine (tz_g_iast (n := 8) rfl rfl rfl (tz_in0 rfl)).trans ?_
          refine tz_cn1 ?_
          exact tz_g_ret0 (tz_in0 rfl) rfl
        · skip
          refine (tz_g_aload_n rfl (tz_in0 rfl)).trans ?_
          refine (tz_g_getr (j := _) rfl rfl rfl rfl rfl (tz_in0 rfl)).trans ?_
          refine (tz_g_getr (j := _) rfl rfl rfl rfl rfl (tz_in0 rfl)).trans ?_
          refine (tz_g_iload_n rfl (tz_in0 rfl)).trans ?_
          refine (tz_g_sipush (v := 200) rfl (tz_in0 rfl)).trans ?_
          refine (tz_g_iast (n := 12) rfl rfl rfl (tz_in0 rfl)).trans ?_
          refine tz_cn1 ?_
          refine (tz_g_aload_n rfl (tz_in0 rfl)).trans ?_
          refine (tz_g_getr (j := _) rfl rfl rfl rfl rfl (tz_in0 rfl)).trans ?_
          refine (tz_g_getr (j := _) rfl rfl rfl rfl rfl (tz_in0 rfl)).trans ?_
          refine (tz_g_iload_n rfl (tz_in0 rfl)).trans ?_
          refine (tz_g_aload_n rfl (tz_in0 rfl)).trans ?_
          refine (tz_g_geti rfl rfl rfl (tz_in0 rfl)).trans ?_
          refine (tz_g_iast (n := 12) rfl rfl rfl (tz_in0 rfl)).trans ?_
          refine tz_cn1 ?_
          refine (tz_g_goto (t := 143) (by decide) (tz_in0 rfl)).trans ?_
          exact tz_g_ret0 (tz_in0 rfl) rfl
      rfl
    refine tz_cg ?_ ?_
    · skip
      refine (tz_g_ifnullR (t := 77) (by decide) (tz_in0 rfl)).trans ?_
      refine (tz_g_aload_n rfl (tz_in0 rfl)).trans ?_
      refine (tz_g_gete rfl rfl rfl (tz_in0 rfl)).trans ?_
      refine tz_cg ?_ ?_
      · skip
        refine (tz_g_iload_n rfl (tz_in0 rfl)).trans ?_
        refine (tz_g_iload_n rfl (tz_in0 rfl)).trans ?_
        refine (tz_g_iload_n rfl (tz_in0 rfl)).trans ?_
        refine (tz_g_iload rfl (tz_in0 rfl)).trans ?_
        exact ((tz_in0 rfl) _ _).trans rfl
      refine tz_cg ?_ ?_
      · skip
        refine (tz_g_iload_n rfl (tz_in0 rfl)).trans ?_
        refine (tz_g_iload_n rfl (tz_in0 rfl)).trans ?_
        refine (tz_g_iload_n rfl (tz_in0 rfl)).trans ?_
        refine (tz_g_iload rfl (tz_in0 rfl)).trans ?_
        refine (tz_g_cv4V (m2 := 88) (rc := 0) rfl rfl rfl rfl rfl rfl (by decide) (tz_in0 rfl)).trans ?_
        refine tz_jV (fun A4 => ?_)
        refine (tz_g_aload_n rfl (tz_in0 rfl)).trans ?_
        refine (tz_g_getr (j := _) rfl rfl rfl rfl rfl (tz_in0 rfl)).trans ?_
        refine (tz_g_getr (j := _) rfl rfl rfl rfl rfl (tz_in0 rfl)).trans ?_
        refine (tz_g_iload_n rfl (tz_in0 rfl)).trans ?_
        refine (tz_g_iald (n := 12) rfl rfl rfl (tz_in0 rfl)).trans ?_
        refine tz_cn1 ?_
        refine (tz_g_iload_n rfl (tz_in0 rfl)).trans ?_
        refine (tz_g_ic_ne (t := 118) (by decide) (tz_in0 rfl)).trans ?_
        refine tz_cg ?_ ?_
        · skip
          refine (tz_g_aload_n rfl (tz_in0 rfl)).trans ?_
          refine (tz_g_getr (j := _) rfl rfl rfl rfl rfl (tz_in0 rfl)).trans ?_
          refine (tz_g_getr (j := _) rfl rfl rfl rfl rfl (tz_in0 rfl)).trans ?_
          refine (tz_g_iload_n rfl (tz_in0 rfl)).trans ?_
          refine (tz_g_iload_n rfl (tz_in0 rfl)).trans ?_
          refine (tz_g_iast (n := 12) rfl rfl rfl (tz_in0 rfl)).trans ?_
          refine tz_cn1 ?_
          refine (tz_g_aload_n rfl (tz_in0 rfl)).trans ?_
          refine (tz_g_getr (j := _) rfl rfl rfl rfl rfl (tz_in0 rfl)).trans ?_
          refine (tz_g_getr (j := _) rfl rfl rfl rfl rfl (tz_in0 rfl)).trans ?_
          refine (tz_g_iload_n rfl (tz_in0 rfl)).trans ?_
          refine (tz_g_dup2a rfl rfl (tz_in0 rfl)).trans ?_
          refine (tz_g_iald (n := 8) rfl rfl rfl (tz_in0 rfl)).trans ?_
          refine tz_cn1 ?_
          refine (tz_g_iconst (v := 1) rfl (tz_in0 rfl)).trans ?_
          refine (tz_g_iload_n rfl (tz_in0 rfl)).trans ?_
          refine (tz_g_ishl (tz_in0 rfl)).trans ?_
          refine (tz_g_ior (tz_in0 rfl)).trans ?_
          refine (tz_g_iast (n := 8) rfl rfl rfl (tz_in0 rfl)).trans ?_
          refine tz_cn1 ?_
          exact tz_g_ret0 (tz_in0 rfl) rfl
        · skip
          refine (tz_g_aload_n rfl (tz_in0 rfl)).trans ?_
          refine (tz_g_getr (j := _) rfl rfl rfl rfl rfl (tz_in0 rfl)).trans ?_
          refine (tz_g_getr (j := _) rfl rfl rfl rfl rfl (tz_in0 rfl)).trans ?_
          refine (tz_g_iload_n rfl (tz_in0 rfl)).trans ?_
          refine (tz_g_sipush (v := 200) rfl (tz_in0 rfl)).trans ?_
          refine (tz_g_iast (n := 12) rfl rfl rfl (tz_in0 rfl)).trans ?_
          refine tz_cn1 ?_
          refine (tz_g_aload_n rfl (tz_in0 rfl)).trans ?_
          refine (tz_g_getr (j := _) rfl rfl rfl rfl rfl (tz_in0 rfl)).trans ?_
          refine (tz_g_getr (j := _) rfl rfl rfl rfl rfl (tz_in0 rfl)).trans ?_
          refine (tz_g_iload_n rfl (tz_in0 rfl)).trans ?_
          refine (tz_g_aload_n rfl (tz_in0 rfl)).trans ?_
          refine (tz_g_geti rfl rfl rfl (tz_in0 rfl)).trans ?_
          refine (tz_g_iast (n := 12) rfl rfl rfl (tz_in0 rfl)).trans ?_
          refine tz_cn1 ?_
          refine (tz_g_goto (t := 143) (by decide) (tz_in0 rfl)).trans ?_
          exact tz_g_ret0 (tz_in0 rfl) rfl
      refine tz_cg ?_ ?_
      · skip
        refine (tz_g_iload_n rfl (tz_in0 rfl)).trans ?_
        refine (tz_g_iload_n rfl (tz_in0 rfl)).trans ?_
        refine (tz_g_iload_n rfl (tz_in0 rfl)).trans ?_
        refine (tz_g_iload rfl (tz_in0 rfl)).trans ?_
        refine (tz_g_cv4V (m2 := 89) (rc := 0) rfl rfl rfl rfl rfl rfl (by decide) (tz_in0 rfl)).trans ?_
        refine tz_jV (fun A4 => ?_)
        refine (tz_g_aload_n rfl (tz_in0 rfl)).trans ?_
        refine (tz_g_getr (j := _) rfl rfl rfl rfl rfl (tz_in0 rfl)).trans ?_
        refine (tz_g_getr (j := _) rfl rfl rfl rfl rfl (tz_in0 rfl)).trans ?_
        refine (tz_g_iload_n rfl (tz_in0 rfl)).trans ?_
        refine (tz_g_iald (n := 12) rfl rfl rfl (tz_in0 rfl)).trans ?_
        refine tz_cn1 ?_
        refine (tz_g_iload_n rfl (tz_in0 rfl)).trans ?_
        refine (tz_g_ic_ne (t := 118) (by decide) (tz_in0 rfl)).trans ?_
        refine tz_cg ?_ ?_
        · skip
          refine (tz_g_aload_n rfl (tz_in0 rfl)).trans ?_
          refine (tz_g_getr (j := _) rfl rfl rfl rfl rfl (tz_in0 rfl)).trans ?_
          refine (tz_g_getr (j := _) rfl rfl rfl rfl rfl (tz_in0 rfl)).trans ?_
          refine (tz_g_iload_n rfl (tz_in0 rfl)).trans ?_
          refine (tz_g_iload_n rfl (tz_in0 rfl)).trans ?_
          refine (tz_g_iast (n := 12) rfl rfl rfl (tz_in0 rfl)).trans ?_
          refine tz_cn1 ?_
          refine (tz_g_aload_n rfl (tz_in0 rfl)).trans ?_
          refine (tz_g_getr (j := _) rfl rfl rfl rfl rfl (tz_in0 rfl)).trans ?_
          refine (tz_g_getr (j := _) rfl rfl rfl rfl rfl (tz_in0 rfl)).trans ?_
          refine (tz_g_iload_n rfl (tz_in0 rfl)).trans ?_
          refine (tz_g_dup2a rfl rfl (tz_in0 rfl)).trans ?_
          refine (tz_g_iald (n := 8) rfl rfl rfl (tz_in0 rfl)).trans ?_
          refine tz_cn1 ?_
          refine (tz_g_iconst (v := 1) rfl (tz_in0 rfl)).trans ?_
          refine (tz_g_iload_n rfl (tz_in0 rfl)).trans ?_
          refine (tz_g_ishl (tz_in0 rfl)).trans ?_
          refine (tz_g_ior (tz_in0 rfl)).trans ?_
          refine (tz_g_iast (n := 8) rfl rfl rfl (tz_in0 rfl)).trans ?_
          refine tz_cn1 ?_
          exact tz_g_ret0 (tz_in0 rfl) rfl
        · skip
          refine (tz_g_aload_n rfl (tz_in0 rfl)).trans ?_
          refine (tz_g_getr (j := _) rfl rfl rfl rfl rfl (tz_in0 rfl)).trans ?_
          refine (tz_g_getr (j := _) rfl rfl rfl rfl rfl (tz_in0 rfl)).trans ?_
          refine (tz_g_iload_n rfl (tz_in0 rfl)).trans ?_
          refine (tz_g_sipush (v := 200) rfl (tz_in0 rfl)).trans ?_
          refine (tz_g_iast (n := 12) rfl rfl rfl (tz_in0 rfl)).trans ?_
          refine tz_cn1 ?_
          refine (tz_g_aload_n rfl (tz_in0 rfl)).trans ?_
          refine (tz_g_getr (j := _) rfl rfl rfl rfl rfl (tz_in0 rfl)).trans ?_
          refine (tz_g_getr (j := _) rfl rfl rfl rfl rfl (tz_in0 rfl)).trans ?_
          refine (tz_g_iload_n rfl (tz_in0 rfl)).trans ?_
          refine (tz_g_aload_n rfl (tz_in0 rfl)).trans ?_
          refine (tz_g_geti rfl rfl rfl (tz_in0 rfl)).trans ?_
          refine (tz_g_iast (n := 12) rfl rfl rfl (tz_in0 rfl)).trans ?_
          refine tz_cn1 ?_
          refine (tz_g_goto (t := 143) (by decide) (tz_in0 rfl)).trans ?_
          exact tz_g_ret0 (tz_in0 rfl) rfl
      refine tz_cg ?_ ?_
      · skip
        refine (tz_g_iload_n rfl (tz_in0 rfl)).trans ?_
        refine (tz_g_iload_n rfl (tz_in0 rfl)).trans ?_
        refine (tz_g_iload_n rfl (tz_in0 rfl)).trans ?_
        refine (tz_g_iload rfl (tz_in0 rfl)).trans ?_
        refine (tz_g_cv4V (m2 := 91) (rc := 0) rfl rfl rfl rfl rfl rfl (by decide) (tz_in0 rfl)).trans ?_
        refine tz_jV (fun A4 => ?_)
        refine (tz_g_aload_n rfl (tz_in0 rfl)).trans ?_
        refine (tz_g_getr (j := _) rfl rfl rfl rfl rfl (tz_in0 rfl)).trans ?_
        refine (tz_g_getr (j := _) rfl rfl rfl rfl rfl (tz_in0 rfl)).trans ?_
        refine (tz_g_iload_n rfl (tz_in0 rfl)).trans ?_
        refine (tz_g_iald (n := 12) rfl rfl rfl (tz_in0 rfl)).trans ?_
        refine tz_cn1 ?_
        refine (tz_g_iload_n rfl (tz_in0 rfl)).trans ?_
        refine (tz_g_ic_ne (t := 118) (by decide) (tz_in0 rfl)).trans ?_
        refine tz_cg ?_ ?_
        · skip
          refine (tz_g_aload_n rfl (tz_in0 rfl)).trans ?_
          refine (tz_g_getr (j := _) rfl rfl rfl rfl rfl (tz_in0 rfl)).trans ?_
          refine (tz_g_getr (j := _) rfl rfl rfl rfl rfl (tz_in0 rfl)).trans ?_
          refine (tz_g_iload_n rfl (tz_in0 rfl)).trans ?_
          refine (tz_g_iload_n rfl (tz_in0 rfl)).trans ?_
          refine (tz_g_iast (n := 12) rfl rfl rfl (tz_in0 rfl)).trans ?_
          refine tz_cn1 ?_
          refine (tz_g_aload_n rfl (tz_in0 rfl)).trans ?_
          refine (tz_g_getr (j := _) rfl rfl rfl rfl rfl (tz_in0 rfl)).trans ?_
          refine (tz_g_getr (j := _) rfl rfl rfl rfl rfl (tz_in0 rfl)).trans ?_
          refine (tz_g_iload_n rfl (tz_in0 rfl)).trans ?_
          refine (tz_g_dup2a rfl rfl (tz_in0 rfl)).trans ?_
          refine (tz_g_iald (n := 8) rfl rfl rfl (tz_in0 rfl)).trans ?_
          refine tz_cn1 ?_
          refine (tz_g_iconst (v := 1) rfl (tz_in0 rfl)).trans ?_
          refine (tz_g_iload_n rfl (tz_in0 rfl)).trans ?_
          refine (tz_g_ishl (tz_in0 rfl)).trans ?_
          refine (tz_g_ior (tz_in0 rfl)).trans ?_
          refine (tz_g_iast (n := 8) rfl rfl rfl (tz_in0 rfl)).trans ?_
          refine tz_cn1 ?_
          exact tz_g_ret0 (tz_in0 rfl) rfl
        · skip
          refine (tz_g_aload_n rfl (tz_in0 rfl)).trans ?_
          refine (tz_g_getr (j := _) rfl rfl rfl rfl rfl (tz_in0 rfl)).trans ?_
          refine (tz_g_getr (j := _) rfl rfl rfl rfl rfl (tz_in0 rfl)).trans ?_
          refine (tz_g_iload_n rfl (tz_in0 rfl)).trans ?_
          refine (tz_g_sipush (v := 200) rfl (tz_in0 rfl)).trans ?_
          refine (tz_g_iast (n := 12) rfl rfl rfl (tz_in0 rfl)).trans ?_
          refine tz_cn1 ?_
          refine (tz_g_aload_n rfl (tz_in0 rfl)).trans ?_
          refine (tz_g_getr (j := _) rfl rfl rfl rfl rfl (tz_in0 rfl)).trans ?_
          refine (tz_g_getr (j := _) rfl rfl rfl rfl rfl (tz_in0 rfl)).trans ?_
          refine (tz_g_iload_n rfl (tz_in0 rfl)).trans ?_
          refine (tz_g_aload_n rfl (tz_in0 rfl)).trans ?_
          refine (tz_g_geti rfl rfl rfl (tz_in0 rfl)).trans ?_
          refine (tz_g_iast (n := 12) rfl rfl rfl (tz_in0 rfl)).trans ?_
          refine tz_cn1 ?_
          refine (tz_g_goto (t := 143) (by decide) (tz_in0 rfl)).trans ?_
          exact tz_g_ret0 (tz_in0 rfl) rfl
      rfl
    rfl

theorem e_X7_readBurn (A : tz_Mem) : f_X7_readBurn A =
  tz_bI (f_X7_readNumber 0 ((tz_g A 139 0) - 1) A) (fun y1 A1 =>
if ¬ (tz_g A1 122 0) = (-1) then
  some (none, A1)
else
  tz_bI (f_X9_burnLetter 124 y1 A1) (fun y2 A2 =>
  some (none, A2))) := by
  refine (tz_Fe (L := [some (.ref 122), none]) rfl).trans ?_
  refine (tz_g_aload_n rfl (tz_in0 rfl)).trans ?_
  refine (tz_g_iconst (v := 0) rfl (tz_in0 rfl)).trans ?_
  refine (tz_g_aload_n rfl (tz_in0 rfl)).trans ?_
  refine (tz_g_getr (j := 124) rfl rfl rfl rfl rfl (tz_in0 rfl)).trans ?_
  refine (tz_g_getr (j := 139) rfl rfl rfl rfl rfl (tz_in0 rfl)).trans ?_
  refine (tz_g_geti rfl rfl rfl (tz_in0 rfl)).trans ?_
  refine (tz_g_iconst (v := 1) rfl (tz_in0 rfl)).trans ?_
  refine (tz_g_isub (tz_in0 rfl)).trans ?_
  refine (tz_g_cv2I (m2 := 72) (rc := 1) rfl rfl rfl rfl rfl rfl (by decide) (tz_in0 rfl)).trans ?_
  refine tz_jI (fun y1 A1 => ?_)
  refine (tz_g_istore_n (L2 := [some (.ref 122), some (.int y1)]) rfl rfl (tz_in0 rfl)).trans ?_
  refine (tz_g_aload_n rfl (tz_in0 rfl)).trans ?_
  refine (tz_g_geti rfl rfl rfl (tz_in0 rfl)).trans ?_
  refine (tz_g_iconst (v := (-1)) rfl (tz_in0 rfl)).trans ?_
  refine (tz_g_ic_ne (t := 35) (by decide) (tz_in0 rfl)).trans ?_
  refine tz_cg ?_ ?_
  · skip
    exact tz_g_ret0 (tz_in0 rfl) rfl
  · skip
    refine (tz_g_aload_n rfl (tz_in0 rfl)).trans ?_
    refine (tz_g_getr (j := 124) rfl rfl rfl rfl rfl (tz_in0 rfl)).trans ?_
    refine (tz_g_iload_n rfl (tz_in0 rfl)).trans ?_
    refine (tz_g_cv1I (m2 := 94) (rc := 4) rfl rfl rfl rfl rfl rfl (by decide) (tz_in0 rfl)).trans ?_
    refine tz_jI (fun y2 A2 => ?_)
    refine (tz_g_pop rfl (tz_in0 rfl)).trans ?_
    exact tz_g_ret0 (tz_in0 rfl) rfl

theorem e_X11_image (A : tz_Mem) : f_X11_image A =
  tz_bV (f_X9_become 53 30 A) (fun A1 =>
some (some (.int (tz_g (tz_s A1 17 12 1) 31 0)), (tz_s A1 17 12 1))) := by
  refine (tz_Fe (L := [some (.ref 17)]) rfl).trans ?_
  refine (tz_g_aload_n rfl (tz_in0 rfl)).trans ?_
  refine (tz_g_getr (j := 53) rfl rfl rfl rfl rfl (tz_in0 rfl)).trans ?_
  refine (tz_g_aload_n rfl (tz_in0 rfl)).trans ?_
  refine (tz_g_getr (j := 30) rfl rfl rfl rfl rfl (tz_in0 rfl)).trans ?_
  refine (tz_g_cv1V (m2 := 55) (rc := 0) rfl rfl rfl rfl rfl rfl (by decide) (tz_in0 rfl)).trans ?_
  refine tz_jV (fun A1 => ?_)
  refine (tz_g_aload_n rfl (tz_in0 rfl)).trans ?_
  refine (tz_g_iconst (v := 1) rfl (tz_in0 rfl)).trans ?_
  refine (tz_g_putz rfl rfl rfl (by decide) (tz_in0 rfl)).trans ?_
  refine (tz_g_aload_n rfl (tz_in0 rfl)).trans ?_
  refine (tz_g_getr (j := 30) rfl rfl rfl rfl rfl (tz_in0 rfl)).trans ?_
  refine (tz_g_getr (j := 31) rfl rfl rfl rfl rfl (tz_in0 rfl)).trans ?_
  refine (tz_g_geti rfl rfl rfl (tz_in0 rfl)).trans ?_
  exact tz_g_ret1 (tz_in0 rfl) rfl

theorem e_X11_restore (A : tz_Mem) : f_X11_restore A =
  if ¬ (tz_g A 17 12) = 0 then
  tz_bV (f_X9_become 30 53 A) (fun A1 =>
  tz_bV (f_X8_dropHillsFrom (tz_g A1 31 0) A1) (fun A2 =>
  some (some (.int (tz_g A2 31 0)), A2)))
else
  tz_bI (f_X11_refuse (-6) A) (fun y1 A1 =>
  some (some (.int y1), A1)) := by
  refine (tz_Fe (L := [some (.ref 17)]) rfl).trans ?_
  refine (tz_g_aload_n rfl (tz_in0 rfl)).trans ?_
  refine (tz_g_getz rfl rfl rfl (tz_in0 rfl)).trans ?_
  refine (tz_g_if_ne (t := 14) (by decide) (tz_in0 rfl)).trans ?_
  refine tz_cg ?_ ?_
  · skip
    refine (tz_g_aload_n rfl (tz_in0 rfl)).trans ?_
    refine (tz_g_getr (j := 30) rfl rfl rfl rfl rfl (tz_in0 rfl)).trans ?_
    refine (tz_g_aload_n rfl (tz_in0 rfl)).trans ?_
    refine (tz_g_getr (j := 53) rfl rfl rfl rfl rfl (tz_in0 rfl)).trans ?_
    refine (tz_g_cv1V (m2 := 55) (rc := 0) rfl rfl rfl rfl rfl rfl (by decide) (tz_in0 rfl)).trans ?_
    refine tz_jV (fun A1 => ?_)
    refine (tz_g_aload_n rfl (tz_in0 rfl)).trans ?_
    refine (tz_g_getr (j := 18) rfl rfl rfl rfl rfl (tz_in0 rfl)).trans ?_
    refine (tz_g_aload_n rfl (tz_in0 rfl)).trans ?_
    refine (tz_g_getr (j := 30) rfl rfl rfl rfl rfl (tz_in0 rfl)).trans ?_
    refine (tz_g_getr (j := 31) rfl rfl rfl rfl rfl (tz_in0 rfl)).trans ?_
    refine (tz_g_geti rfl rfl rfl (tz_in0 rfl)).trans ?_
    refine (tz_g_cv1V (m2 := 116) (rc := 0) rfl rfl rfl rfl rfl rfl (by decide) (tz_in0 rfl)).trans ?_
    refine tz_jV (fun A2 => ?_)
    refine (tz_g_aload_n rfl (tz_in0 rfl)).trans ?_
    refine (tz_g_getr (j := 30) rfl rfl rfl rfl rfl (tz_in0 rfl)).trans ?_
    refine (tz_g_getr (j := 31) rfl rfl rfl rfl rfl (tz_in0 rfl)).trans ?_
    refine (tz_g_geti rfl rfl rfl (tz_in0 rfl)).trans ?_
    exact tz_g_ret1 (tz_in0 rfl) rfl
  · skip
    refine (tz_g_aload_n rfl (tz_in0 rfl)).trans ?_
    refine (tz_g_bipush (v := (-6)) rfl (tz_in0 rfl)).trans ?_
    refine (tz_g_cv1I (m2 := 15) (rc := 1) rfl rfl rfl rfl rfl rfl (by decide) (tz_in0 rfl)).trans ?_
    refine tz_jI (fun y1 A1 => ?_)
    exact tz_g_ret1 (tz_in0 rfl) rfl

theorem e_L_storm (x3 : Int32) (A : tz_Mem) : f_L_storm x3 A =
  if A.1 ≤ 157 then none else
if (16 + x3) < 0 ∨ 64 ≤ (Int32.toNatClampNeg (16 + x3)) then none else
if (20 + x3) < 0 ∨ 64 ≤ (Int32.toNatClampNeg (20 + x3)) then none else
if ¬ ((tz_g A 157 (Int32.toNatClampNeg (20 + x3))) + 1) = ((tz_g A 157 (Int32.toNatClampNeg (16 + x3))) / 10000) then
  if (20 + x3) < 0 ∨ 64 ≤ (Int32.toNatClampNeg (20 + x3)) then none else
  if (20 + x3) < 0 ∨ 64 ≤ (Int32.toNatClampNeg (20 + x3)) then none else
  q_L_storm_41 x3 (tz_s A 157 (Int32.toNatClampNeg (20 + x3)) ((tz_g A 157 (Int32.toNatClampNeg (20 + x3))) + 1))
else
  if (20 + x3) < 0 ∨ 64 ≤ (Int32.toNatClampNeg (20 + x3)) then none else
  q_L_storm_41 x3 (tz_s A 157 (Int32.toNatClampNeg (20 + x3)) 0) := by
  refine (tz_Fe (L := [some (.ref 157), some (.ref 158), some (.int x3), none, none, none, none, none]) rfl).trans ?_
  refine (tz_g_aload_n rfl (tz_in0 rfl)).trans ?_
  refine (tz_g_bipush (v := 16) rfl (tz_in0 rfl)).trans ?_
  refine (tz_g_iload_n rfl (tz_in0 rfl)).trans ?_
  refine (tz_g_iadd (tz_in0 rfl)).trans ?_
  refine tz_gB (c := A.1 ≤ 157) (fun q => tz_gx_iaload rfl (tz_in0 rfl) q) (fun hB0 => ?_)
  refine (tz_g_iald (n := 64) (by exact tz_okB hB0 rfl) rfl rfl (tz_in0 rfl)).trans ?_
  refine tz_cn1 ?_
  refine (tz_g_sipush (v := 10000) rfl (tz_in0 rfl)).trans ?_
  refine (tz_g_idivK (by decide) (tz_in0 rfl)).trans ?_
  refine (tz_g_istore_n (L2 := [some (.ref 157), some (.ref 158), some (.int x3), some (.int ((tz_g A 157 (Int32.toNatClampNeg (16 + x3))) / 10000)), none, none, none, none]) rfl rfl (tz_in0 rfl)).trans ?_
  refine (tz_g_aload_n rfl (tz_in0 rfl)).trans ?_
  refine (tz_g_bipush (v := 20) rfl (tz_in0 rfl)).trans ?_
  refine (tz_g_iload_n rfl (tz_in0 rfl)).trans ?_
  refine (tz_g_iadd (tz_in0 rfl)).trans ?_
  refine (tz_g_aload_n rfl (tz_in0 rfl)).trans ?_
  refine (tz_g_bipush (v := 20) rfl (tz_in0 rfl)).trans ?_
  refine (tz_g_iload_n rfl (tz_in0 rfl)).trans ?_
  refine (tz_g_iadd (tz_in0 rfl)).trans ?_
  refine (tz_g_iald (n := 64) (by exact tz_okB hB0 rfl) rfl rfl (tz_in0 rfl)).trans ?_
  refine tz_cn1 ?_
  refine (tz_g_iconst (v := 1) rfl (tz_in0 rfl)).trans ?_
  refine (tz_g_iadd (tz_in0 rfl)).trans ?_
  refine (tz_g_iload_n rfl (tz_in0 rfl)).trans ?_
  refine (tz_g_ic_ne (t := 32) (by decide) (tz_in0 rfl)).trans ?_
  refine tz_cg ?_ ?_
  · skip
    refine (tz_g_aload_n rfl (tz_in0 rfl)).trans ?_
    refine (tz_g_bipush (v := 20) rfl (tz_in0 rfl)).trans ?_
    refine (tz_g_iload_n rfl (tz_in0 rfl)).trans ?_
    refine (tz_g_iadd (tz_in0 rfl)).trans ?_
    refine (tz_g_iald (n := 64) (by exact tz_okB hB0 rfl) rfl rfl (tz_in0 rfl)).trans ?_
    refine tz_cn1 ?_
    refine (tz_g_iconst (v := 1) rfl (tz_in0 rfl)).trans ?_
    refine (tz_g_iadd (tz_in0 rfl)).trans ?_
    refine (tz_g_iast (n := 64) (by exact tz_okB hB0 rfl) rfl rfl (tz_in0 rfl)).trans ?_
    refine tz_cn1 ?_
    exact tz_Gm (L2 := [some (.ref 157), some (.ref 158), some (.int x3), none, none, none, none, none]) rfl rfl rfl rfl
  · skip
    refine (tz_g_iconst (v := 0) rfl (tz_in0 rfl)).trans ?_
    refine (tz_g_goto (t := 40) (by decide) (tz_in0 rfl)).trans ?_
    refine (tz_g_iast (n := 64) (by exact tz_okB hB0 rfl) rfl rfl (tz_in0 rfl)).trans ?_
    refine tz_cn1 ?_
    exact tz_Gm (L2 := [some (.ref 157), some (.ref 158), some (.int x3), none, none, none, none, none]) rfl rfl rfl rfl

theorem e_L_storm_41 (z2 : Int32) (A : tz_Mem) : q_L_storm_41 z2 A =
  tz_bI (f_L_hill z2 A) (fun y1 A1 =>
tz_bI (f_L_heaviest (100 + z2) 99 A1) (fun y2 A2 =>
q_L_storm_61 z2 y1 y2 A2)) := by
  show tz_Go 125 41 [some (.ref 157), some (.ref 158), some (.int z2), none, none, none, none, none] [] A = _
  refine (tz_g_aload_n rfl (tz_inM rfl rfl rfl)).trans ?_
  refine (tz_g_aload_n rfl (tz_in0 rfl)).trans ?_
  refine (tz_g_iload_n rfl (tz_in0 rfl)).trans ?_
  refine (tz_g_cs3I (m2 := 126) (rc := 1) rfl rfl rfl rfl rfl rfl (by decide) (tz_in0 rfl)).trans ?_
  refine tz_jI (fun y1 A1 => ?_)
  refine (tz_g_istore (L2 := [some (.ref 157), some (.ref 158), some (.int z2), none, some (.int y1), none, none, none]) rfl rfl (tz_in0 rfl)).trans ?_
  refine (tz_g_aload_n rfl (tz_in0 rfl)).trans ?_
  refine (tz_g_bipush (v := 100) rfl (tz_in0 rfl)).trans ?_
  refine (tz_g_iload_n rfl (tz_in0 rfl)).trans ?_
  refine (tz_g_iadd (tz_in0 rfl)).trans ?_
  refine (tz_g_bipush (v := 99) rfl (tz_in0 rfl)).trans ?_
  refine (tz_g_cs3I (m2 := 127) (rc := 1) rfl rfl rfl rfl rfl rfl (by decide) (tz_in0 rfl)).trans ?_
  refine tz_jI (fun y2 A2 => ?_)
  refine (tz_g_istore (L2 := [some (.ref 157), some (.ref 158), some (.int z2), none, some (.int y1), some (.int y2), none, none]) rfl rfl (tz_in0 rfl)).trans ?_
  exact tz_Gm (L2 := [some (.ref 157), some (.ref 158), some (.int z2), none, some (.int y1), some (.int y2), none, none]) rfl rfl rfl rfl

theorem e_L_storm_61 (z2 : Int32) (z4 : Int32) (z5 : Int32) (A : tz_Mem) : q_L_storm_61 z2 z4 z5 A =
  if z5 < 0 then
  if A.1 ≤ 157 then none else
  if (16 + z2) < 0 ∨ 64 ≤ (Int32.toNatClampNeg (16 + z2)) then none else
  if (16 + z2) < 0 ∨ 64 ≤ (Int32.toNatClampNeg (16 + z2)) then none else
  tz_bI (f_L_heaviest z4 (((tz_g A 157 (Int32.toNatClampNeg (16 + z2))) / 10) - ((tz_g A 157 (Int32.toNatClampNeg (16 + z2))) / 10) / 100 * 100) A) (fun y1 A1 =>
  q_L_storm_230 z2 z4 (((tz_g A 157 (Int32.toNatClampNeg (16 + z2))) / 1000) - ((tz_g A 157 (Int32.toNatClampNeg (16 + z2))) / 1000) / 10 * 10) y1 A1)
else
  if A.1 ≤ 157 then none else
  if (24 + z5) < 0 ∨ 64 ≤ (Int32.toNatClampNeg (24 + z5)) then none else
  tz_bI (f_L_becomes z4 ((tz_g A 157 (Int32.toNatClampNeg (24 + z5))) - (tz_g A 157 (Int32.toNatClampNeg (24 + z5))) / 10000 * 10000) A) (fun y1 A1 =>
  if A1.1 ≤ 157 then none else
  if (24 + z5) < 0 ∨ 64 ≤ (Int32.toNatClampNeg (24 + z5)) then none else
  if (24 + z5) < 0 ∨ 64 ≤ (Int32.toNatClampNeg (24 + z5)) then none else
  tz_bI (f_L_times z4 ((tz_g A1 157 (Int32.toNatClampNeg (24 + z5))) / 10000) (tz_s A1 157 (Int32.toNatClampNeg (24 + z5)) (y1 + (10000 * ((tz_g A1 157 (Int32.toNatClampNeg (24 + z5))) / 10000))))) (fun y2 A2 =>
  tz_bV (f_L_hears z4 y1 y2 A2) (fun A3 =>
  if A3.1 ≤ 157 then none else
  if (36 + z5) < 0 ∨ 64 ≤ (Int32.toNatClampNeg (36 + z5)) then none else
  if A3.1 ≤ 158 then none else
  if (4 + z5) < 0 ∨ 40 ≤ (Int32.toNatClampNeg (4 + z5)) then none else
  if (lg_cmp ((tz_gl (tz_s A3 157 (Int32.toNatClampNeg (36 + z5)) z4) 158 (Int32.toNatClampNeg (4 + z5))) / 10) (Int32.toInt64 z4)) = 0 then
    if (36 + z5) < 0 ∨ 64 ≤ (Int32.toNatClampNeg (36 + z5)) then none else
    if (48 + z5) < 0 ∨ 64 ≤ (Int32.toNatClampNeg (48 + z5)) then none else
    q_L_storm_180 z2 z4 (tz_s (tz_s (tz_s A3 157 (Int32.toNatClampNeg (36 + z5)) z4) 157 (Int32.toNatClampNeg (36 + z5)) 200) 157 (Int32.toNatClampNeg (48 + z5)) (tz_g (tz_s (tz_s A3 157 (Int32.toNatClampNeg (36 + z5)) z4) 157 (Int32.toNatClampNeg (36 + z5)) 200) 157 3))
  else
    q_L_storm_180 z2 z4 (tz_s A3 157 (Int32.toNatClampNeg (36 + z5)) z4)))) := by
  show tz_Go 125 61 [some (.ref 157), some (.ref 158), some (.int z2), none, some (.int z4), some (.int z5), none, none] [] A = _
  refine (tz_g_iload rfl (tz_inM rfl rfl rfl)).trans ?_
  refine (tz_g_if_lt (t := 195) (by decide) (tz_in0 rfl)).trans ?_
  refine tz_cg ?_ ?_
  · skip
    refine (tz_g_aload_n rfl (tz_in0 rfl)).trans ?_
    refine (tz_g_bipush (v := 16) rfl (tz_in0 rfl)).trans ?_
    refine (tz_g_iload_n rfl (tz_in0 rfl)).trans ?_
    refine (tz_g_iadd (tz_in0 rfl)).trans ?_
    refine tz_gB (c := A.1 ≤ 157) (fun q => tz_gx_iaload rfl (tz_in0 rfl) q) (fun hB1 => ?_)
    refine (tz_g_iald (n := 64) (by exact tz_okB hB1 rfl) rfl rfl (tz_in0 rfl)).trans ?_
    refine tz_cn1 ?_
    refine (tz_g_sipush (v := 1000) rfl (tz_in0 rfl)).trans ?_
    refine (tz_g_idivK (by decide) (tz_in0 rfl)).trans ?_
    refine (tz_g_bipush (v := 10) rfl (tz_in0 rfl)).trans ?_
    refine (tz_g_iremK (by decide) (tz_in0 rfl)).trans ?_
    refine (tz_g_istore (L2 := [some (.ref 157), some (.ref 158), some (.int z2), none, some (.int z4), some (.int (((tz_g A 157 (Int32.toNatClampNeg (16 + z2))) / 1000) - ((tz_g A 157 (Int32.toNatClampNeg (16 + z2))) / 1000) / 10 * 10)), none, none]) rfl rfl (tz_in0 rfl)).trans ?_
    refine (tz_g_aload_n rfl (tz_in0 rfl)).trans ?_
    refine (tz_g_iload rfl (tz_in0 rfl)).trans ?_
    refine (tz_g_aload_n rfl (tz_in0 rfl)).trans ?_
    refine (tz_g_bipush (v := 16) rfl (tz_in0 rfl)).trans ?_
    refine (tz_g_iload_n rfl (tz_in0 rfl)).trans ?_
    refine (tz_g_iadd (tz_in0 rfl)).trans ?_
    refine (tz_g_iald (n := 64) (by exact tz_okB hB1 rfl) rfl rfl (tz_in0 rfl)).trans ?_
    refine tz_cn1 ?_
    refine (tz_g_bipush (v := 10) rfl (tz_in0 rfl)).trans ?_
    refine (tz_g_idivK (by decide) (tz_in0 rfl)).trans ?_
    refine (tz_g_bipush (v := 100) rfl (tz_in0 rfl)).trans ?_
    refine (tz_g_iremK (by decide) (tz_in0 rfl)).trans ?_
    refine (tz_g_cs3I (m2 := 127) (rc := 1) rfl rfl rfl rfl rfl rfl (by decide) (tz_in0 rfl)).trans ?_
    refine tz_jI (fun y1 A1 => ?_)
    refine (tz_g_istore (L2 := [some (.ref 157), some (.ref 158), some (.int z2), none, some (.int z4), some (.int (((tz_g A 157 (Int32.toNatClampNeg (16 + z2))) / 1000) - ((tz_g A 157 (Int32.toNatClampNeg (16 + z2))) / 1000) / 10 * 10)), some (.int y1), none]) rfl rfl (tz_in0 rfl)).trans ?_
    exact tz_Gm (L2 := [some (.ref 157), none, some (.int z2), none, some (.int z4), some (.int (((tz_g A 157 (Int32.toNatClampNeg (16 + z2))) / 1000) - ((tz_g A 157 (Int32.toNatClampNeg (16 + z2))) / 1000) / 10 * 10)), some (.int y1), none]) rfl rfl rfl rfl
  · skip
    refine (tz_g_aload_n rfl (tz_in0 rfl)).trans ?_
    refine (tz_g_iload rfl (tz_in0 rfl)).trans ?_
    refine (tz_g_aload_n rfl (tz_in0 rfl)).trans ?_
    refine (tz_g_bipush (v := 24) rfl (tz_in0 rfl)).trans ?_
    refine (tz_g_iload rfl (tz_in0 rfl)).trans ?_
    refine (tz_g_iadd (tz_in0 rfl)).trans ?_
    refine tz_gB (c := A.1 ≤ 157) (fun q => tz_gx_iaload rfl (tz_in0 rfl) q) (fun hB2 => ?_)
    refine (tz_g_iald (n := 64) (by exact tz_okB hB2 rfl) rfl rfl (tz_in0 rfl)).trans ?_
    refine tz_cn1 ?_
    refine (tz_g_sipush (v := 10000) rfl (tz_in0 rfl)).trans ?_
    refine (tz_g_iremK (by decide) (tz_in0 rfl)).trans ?_
    refine (tz_g_cs3I (m2 := 128) (rc := 1) rfl rfl rfl rfl rfl rfl (by decide) (tz_in0 rfl)).trans ?_
    refine tz_jI (fun y1 A1 => ?_)
    refine (tz_g_istore (L2 := [some (.ref 157), some (.ref 158), some (.int z2), none, some (.int z4), some (.int z5), some (.int y1), none]) rfl rfl (tz_in0 rfl)).trans ?_
    refine (tz_g_aload_n rfl (tz_in0 rfl)).trans ?_
    refine (tz_g_bipush (v := 24) rfl (tz_in0 rfl)).trans ?_
    refine (tz_g_iload rfl (tz_in0 rfl)).trans ?_
    refine (tz_g_iadd (tz_in0 rfl)).trans ?_
    refine tz_gB (c := A1.1 ≤ 157) (fun q => tz_gx_iaload rfl (tz_in0 rfl) q) (fun hB3 => ?_)
    refine (tz_g_iald (n := 64) (by exact tz_okB hB3 rfl) rfl rfl (tz_in0 rfl)).trans ?_
    refine tz_cn1 ?_
    refine (tz_g_sipush (v := 10000) rfl (tz_in0 rfl)).trans ?_
    refine (tz_g_idivK (by decide) (tz_in0 rfl)).trans ?_
    refine (tz_g_istore (L2 := [some (.ref 157), some (.ref 158), some (.int z2), none, some (.int z4), some (.int z5), some (.int y1), some (.int ((tz_g A1 157 (Int32.toNatClampNeg (24 + z5))) / 10000))]) rfl rfl (tz_in0 rfl)).trans ?_
    refine (tz_g_aload_n rfl (tz_in0 rfl)).trans ?_
    refine (tz_g_bipush (v := 24) rfl (tz_in0 rfl)).trans ?_
    refine (tz_g_iload rfl (tz_in0 rfl)).trans ?_
    refine (tz_g_iadd (tz_in0 rfl)).trans ?_
    refine (tz_g_iload rfl (tz_in0 rfl)).trans ?_
    refine (tz_g_sipush (v := 10000) rfl (tz_in0 rfl)).trans ?_
    refine (tz_g_iload rfl (tz_in0 rfl)).trans ?_
    refine (tz_g_imul (tz_in0 rfl)).trans ?_
    refine (tz_g_iadd (tz_in0 rfl)).trans ?_
    refine (tz_g_iast (n := 64) (by exact tz_okB hB3 rfl) rfl rfl (tz_in0 rfl)).trans ?_
    refine tz_cn1 ?_
    refine (tz_g_aload_n rfl (tz_in0 rfl)).trans ?_
    refine (tz_g_aload_n rfl (tz_in0 rfl)).trans ?_
    refine (tz_g_iload rfl (tz_in0 rfl)).trans ?_
    refine (tz_g_iload rfl (tz_in0 rfl)).trans ?_
    refine (tz_g_aload_n rfl (tz_in0 rfl)).trans ?_
    refine (tz_g_iload rfl (tz_in0 rfl)).trans ?_
    refine (tz_g_iload rfl (tz_in0 rfl)).trans ?_
    refine (tz_g_cs3I (m2 := 129) (rc := 1) rfl rfl rfl rfl rfl rfl (by decide) (tz_in0 rfl)).trans ?_
    refine tz_jI (fun y2 A2 => ?_)
    refine (tz_g_cs5V (m2 := 130) (rc := 0) rfl rfl rfl rfl rfl rfl (by decide) (tz_in0 rfl)).trans ?_
    refine tz_jV (fun A3 => ?_)
    refine (tz_g_aload_n rfl (tz_in0 rfl)).trans ?_
    refine (tz_g_bipush (v := 36) rfl (tz_in0 rfl)).trans ?_
    refine (tz_g_iload rfl (tz_in0 rfl)).trans ?_
    refine (tz_g_iadd (tz_in0 rfl)).trans ?_
    refine (tz_g_iload rfl (tz_in0 rfl)).trans ?_
    refine tz_gB (c := A3.1 ≤ 157) (fun q => tz_gx_iastore rfl (tz_in0 rfl) q) (fun hB4 => ?_)
    refine (tz_g_iast (n := 64) (by exact tz_okB hB4 rfl) rfl rfl (tz_in0 rfl)).trans ?_
    refine tz_cn1 ?_
    refine (tz_g_aload_n rfl (tz_in0 rfl)).trans ?_
    refine (tz_g_iconst (v := 4) rfl (tz_in0 rfl)).trans ?_
    refine (tz_g_iload rfl (tz_in0 rfl)).trans ?_
    refine (tz_g_iadd (tz_in0 rfl)).trans ?_
    refine tz_gB (c := A3.1 ≤ 158) (fun q => tz_gx_laload rfl (tz_in0 rfl) q) (fun hB5 => ?_)
    refine (tz_g_lald (n := 40) (by exact tz_okC hB5 rfl) rfl (tz_in0 rfl)).trans ?_
    refine tz_cn1 ?_
    refine (tz_g_ldc2_w (v := 10) rfl rfl (tz_in0 rfl)).trans ?_
    refine (tz_g_ldivK (by decide) (tz_in0 rfl)).trans ?_
    refine (tz_g_iload rfl (tz_in0 rfl)).trans ?_
    refine (tz_g_i2l (tz_in0 rfl)).trans ?_
    refine (tz_g_lcmp (tz_in0 rfl)).trans ?_
    refine (tz_g_if_eq (t := 160) (by decide) (tz_in0 rfl)).trans ?_
    refine tz_cg ?_ ?_
    · skip
      refine (tz_g_aload_n rfl (tz_in0 rfl)).trans ?_
      refine (tz_g_bipush (v := 36) rfl (tz_in0 rfl)).trans ?_
      refine (tz_g_iload rfl (tz_in0 rfl)).trans ?_
      refine (tz_g_iadd (tz_in0 rfl)).trans ?_
      refine (tz_g_sipush (v := 200) rfl (tz_in0 rfl)).trans ?_
      refine (tz_g_iast (n := 64) (by exact tz_okB hB4 rfl) rfl rfl (tz_in0 rfl)).trans ?_
      refine tz_cn1 ?_
      refine (tz_g_aload_n rfl (tz_in0 rfl)).trans ?_
      refine (tz_g_bipush (v := 48) rfl (tz_in0 rfl)).trans ?_
      refine (tz_g_iload rfl (tz_in0 rfl)).trans ?_
      refine (tz_g_iadd (tz_in0 rfl)).trans ?_
      refine (tz_g_aload_n rfl (tz_in0 rfl)).trans ?_
      refine (tz_g_iconst (v := 3) rfl (tz_in0 rfl)).trans ?_
      refine (tz_g_iald (n := 64) (by exact tz_okB hB4 rfl) rfl rfl (tz_in0 rfl)).trans ?_
      refine (if_neg (by decide)).trans ?_
      refine (tz_g_iast (n := 64) (by exact tz_okB hB4 rfl) rfl rfl (tz_in0 rfl)).trans ?_
      refine tz_cn1 ?_
      exact tz_Gm (L2 := [some (.ref 157), some (.ref 158), some (.int z2), none, some (.int z4), none, none, none]) rfl rfl rfl rfl
    · skip
      refine (tz_g_goto (t := 180) (by decide) (tz_in0 rfl)).trans ?_
      exact tz_Gm (L2 := [some (.ref 157), some (.ref 158), some (.int z2), none, some (.int z4), none, none, none]) rfl rfl rfl rfl

theorem e_L_storm_230 (z2 : Int32) (z4 : Int32) (z5 : Int32) (z6 : Int32) (A : tz_Mem) : q_L_storm_230 z2 z4 z5 z6 A =
  if z6 < 0 then
  some (none, A)
else
  if z5 ≤ 0 then
    some (none, A)
  else
    if A.1 ≤ 157 then none else
    if (36 + z6) < 0 ∨ 64 ≤ (Int32.toNatClampNeg (36 + z6)) then none else
    if (16 + z2) < 0 ∨ 64 ≤ (Int32.toNatClampNeg (16 + z2)) then none else
    tz_bI (f_L_heaviest z4 (((tz_g (tz_s A 157 (Int32.toNatClampNeg (36 + z6)) (100 + z2)) 157 (Int32.toNatClampNeg (16 + z2))) / 10) - ((tz_g (tz_s A 157 (Int32.toNatClampNeg (36 + z6)) (100 + z2)) 157 (Int32.toNatClampNeg (16 + z2))) / 10) / 100 * 100) (tz_s A 157 (Int32.toNatClampNeg (36 + z6)) (100 + z2))) (fun y1 A1 =>
    q_L_storm_230 z2 z4 (z5 + (-1)) y1 A1) := by
  show tz_Go 125 230 [some (.ref 157), none, some (.int z2), none, some (.int z4), some (.int z5), some (.int z6), none] [] A = _
  refine (tz_g_iload rfl (tz_inM rfl rfl rfl)).trans ?_
  refine (tz_g_if_lt (t := 277) (by decide) (tz_in0 rfl)).trans ?_
  refine tz_cg ?_ ?_
  · skip
    exact tz_g_ret0 (tz_in0 rfl) rfl
  · skip
    refine (tz_g_iload rfl (tz_in0 rfl)).trans ?_
    refine (tz_g_if_le (t := 277) (by decide) (tz_in0 rfl)).trans ?_
    refine tz_cg ?_ ?_
    · skip
      exact tz_g_ret0 (tz_in0 rfl) rfl
    · skip
      refine (tz_g_aload_n rfl (tz_in0 rfl)).trans ?_
      refine (tz_g_bipush (v := 36) rfl (tz_in0 rfl)).trans ?_
      refine (tz_g_iload rfl (tz_in0 rfl)).trans ?_
      refine (tz_g_iadd (tz_in0 rfl)).trans ?_
      refine (tz_g_bipush (v := 100) rfl (tz_in0 rfl)).trans ?_
      refine (tz_g_iload_n rfl (tz_in0 rfl)).trans ?_
      refine (tz_g_iadd (tz_in0 rfl)).trans ?_
      refine tz_gB (c := A.1 ≤ 157) (fun q => tz_gx_iastore rfl (tz_in0 rfl) q) (fun hB6 => ?_)
      refine (tz_g_iast (n := 64) (by exact tz_okB hB6 rfl) rfl rfl (tz_in0 rfl)).trans ?_
      refine tz_cn1 ?_
      refine (tz_g_iinc (v := (-1)) (L2 := [some (.ref 157), none, some (.int z2), none, some (.int z4), some (.int (z5 + (-1))), some (.int z6), none]) rfl rfl rfl rfl (tz_in0 rfl)).trans ?_
      refine (tz_g_aload_n rfl (tz_in0 rfl)).trans ?_
      refine (tz_g_iload rfl (tz_in0 rfl)).trans ?_
      refine (tz_g_aload_n rfl (tz_in0 rfl)).trans ?_
      refine (tz_g_bipush (v := 16) rfl (tz_in0 rfl)).trans ?_
      refine (tz_g_iload_n rfl (tz_in0 rfl)).trans ?_
      refine (tz_g_iadd (tz_in0 rfl)).trans ?_
      refine (tz_g_iald (n := 64) (by exact tz_okB hB6 rfl) rfl rfl (tz_in0 rfl)).trans ?_
      refine tz_cn1 ?_
      refine (tz_g_bipush (v := 10) rfl (tz_in0 rfl)).trans ?_
      refine (tz_g_idivK (by decide) (tz_in0 rfl)).trans ?_
      refine (tz_g_bipush (v := 100) rfl (tz_in0 rfl)).trans ?_
      refine (tz_g_iremK (by decide) (tz_in0 rfl)).trans ?_
      refine (tz_g_cs3I (m2 := 127) (rc := 1) rfl rfl rfl rfl rfl rfl (by decide) (tz_in0 rfl)).trans ?_
      refine tz_jI (fun y1 A1 => ?_)
      refine (tz_g_istore (L2 := [some (.ref 157), none, some (.int z2), none, some (.int z4), some (.int (z5 + (-1))), some (.int y1), none]) rfl rfl (tz_in0 rfl)).trans ?_
      refine (tz_g_goto (t := 230) (by decide) (tz_in0 rfl)).trans ?_
      exact tz_Gm (L2 := [some (.ref 157), none, some (.int z2), none, some (.int z4), some (.int (z5 + (-1))), some (.int y1), none]) rfl rfl rfl rfl

theorem e_L_storm_180 (z2 : Int32) (z4 : Int32) (A : tz_Mem) : q_L_storm_180 z2 z4 A =
  tz_bI (f_L_heaviest (100 + z2) 99 A) (fun y1 A1 =>
q_L_storm_61 z2 z4 y1 A1) := by
  show tz_Go 125 180 [some (.ref 157), some (.ref 158), some (.int z2), none, some (.int z4), none, none, none] [] A = _
  refine (tz_g_aload_n rfl (tz_inM rfl rfl rfl)).trans ?_
  refine (tz_g_bipush (v := 100) rfl (tz_in0 rfl)).trans ?_
  refine (tz_g_iload_n rfl (tz_in0 rfl)).trans ?_
  refine (tz_g_iadd (tz_in0 rfl)).trans ?_
  refine (tz_g_bipush (v := 99) rfl (tz_in0 rfl)).trans ?_
  refine (tz_g_cs3I (m2 := 127) (rc := 1) rfl rfl rfl rfl rfl rfl (by decide) (tz_in0 rfl)).trans ?_
  refine tz_jI (fun y1 A1 => ?_)
  refine (tz_g_istore (L2 := [some (.ref 157), some (.ref 158), some (.int z2), none, some (.int z4), some (.int y1), none, none]) rfl rfl (tz_in0 rfl)).trans ?_
  refine (tz_g_goto (t := 61) (by decide) (tz_in0 rfl)).trans ?_
  exact tz_Gm (L2 := [some (.ref 157), some (.ref 158), some (.int z2), none, some (.int z4), some (.int y1), none, none]) rfl rfl rfl rfl

theorem e_X11_heard (x1 : Int32) (x2 : Int32) (A : tz_Mem) : f_X11_heard x1 x2 A =
  tz_bI (f_X3_has 30 x1 A) (fun y1 A1 =>
if ¬ y1 = 0 then
  tz_bI (f_X3_countKept 30 x1 A1) (fun y2 A2 =>
  if ¬ x2 = (-1) then
    if x2 < 0 then
      tz_bI (f_X11_refuse (-5) A2) (fun y3 A3 =>
      some (some (.int y3), A3))
    else
      if x2 < y2 then
        tz_bI (f_X3_keptWord 30 x1 x2 A2) (fun y3 A3 =>
        some (some (.int y3), A3))
      else
        tz_bI (f_X11_refuse (-5) A2) (fun y3 A3 =>
        some (some (.int y3), A3))
  else
    some (some (.int y2), A2))
else
  tz_bI (f_X11_refuse (-1) A1) (fun y2 A2 =>
  some (some (.int y2), A2))) := by
  refine (tz_Fe (L := [some (.ref 17), some (.int x1), some (.int x2), none]) rfl).trans ?_
  refine (tz_g_aload_n rfl (tz_in0 rfl)).trans ?_
  refine (tz_g_getr (j := 30) rfl rfl rfl rfl rfl (tz_in0 rfl)).trans ?_
  refine (tz_g_getr (j := 31) rfl rfl rfl rfl rfl (tz_in0 rfl)).trans ?_
  refine (tz_g_iload_n rfl (tz_in0 rfl)).trans ?_
  refine (tz_g_cv1I (m2 := 24) (rc := 4) rfl rfl rfl rfl rfl rfl (by decide) (tz_in0 rfl)).trans ?_
  refine tz_jI (fun y1 A1 => ?_)
  refine (tz_g_if_ne (t := 20) (by decide) (tz_in0 rfl)).trans ?_
  refine tz_cg ?_ ?_
  · skip
    refine (tz_g_aload_n rfl (tz_in0 rfl)).trans ?_
    refine (tz_g_getr (j := 30) rfl rfl rfl rfl rfl (tz_in0 rfl)).trans ?_
    refine (tz_g_getr (j := 31) rfl rfl rfl rfl rfl (tz_in0 rfl)).trans ?_
    refine (tz_g_iload_n rfl (tz_in0 rfl)).trans ?_
    refine (tz_g_cv1I (m2 := 133) (rc := 1) rfl rfl rfl rfl rfl rfl (by decide) (tz_in0 rfl)).trans ?_
    refine tz_jI (fun y2 A2 => ?_)
    refine (tz_g_istore_n (L2 := [some (.ref 17), some (.int x1), some (.int x2), some (.int y2)]) rfl rfl (tz_in0 rfl)).trans ?_
    refine (tz_g_iload_n rfl (tz_in0 rfl)).trans ?_
    refine (tz_g_iconst (v := (-1)) rfl (tz_in0 rfl)).trans ?_
    refine (tz_g_ic_ne (t := 39) (by decide) (tz_in0 rfl)).trans ?_
    refine tz_cg ?_ ?_
    · skip
      refine (tz_g_iload_n rfl (tz_in0 rfl)).trans ?_
      refine (tz_g_if_lt (t := 48) (by decide) (tz_in0 rfl)).trans ?_
      refine tz_cg ?_ ?_
      · skip
        refine (tz_g_aload_n rfl (tz_in0 rfl)).trans ?_
        refine (tz_g_bipush (v := (-5)) rfl (tz_in0 rfl)).trans ?_
        refine (tz_g_cv1I (m2 := 15) (rc := 1) rfl rfl rfl rfl rfl rfl (by decide) (tz_in0 rfl)).trans ?_
        refine tz_jI (fun y3 A3 => ?_)
        exact tz_g_ret1 (tz_in0 rfl) rfl
      · skip
        refine (tz_g_iload_n rfl (tz_in0 rfl)).trans ?_
        refine (tz_g_iload_n rfl (tz_in0 rfl)).trans ?_
        refine (tz_g_ic_lt (t := 55) (by decide) (tz_in0 rfl)).trans ?_
        refine tz_cg ?_ ?_
        · skip
          refine (tz_g_aload_n rfl (tz_in0 rfl)).trans ?_
          refine (tz_g_getr (j := 30) rfl rfl rfl rfl rfl (tz_in0 rfl)).trans ?_
          refine (tz_g_getr (j := 31) rfl rfl rfl rfl rfl (tz_in0 rfl)).trans ?_
          refine (tz_g_iload_n rfl (tz_in0 rfl)).trans ?_
          refine (tz_g_iload_n rfl (tz_in0 rfl)).trans ?_
          refine (tz_g_cv2I (m2 := 134) (rc := 1) rfl rfl rfl rfl rfl rfl (by decide) (tz_in0 rfl)).trans ?_
          refine tz_jI (fun y3 A3 => ?_)
          exact tz_g_ret1 (tz_in0 rfl) rfl
        · skip
          refine (tz_g_aload_n rfl (tz_in0 rfl)).trans ?_
          refine (tz_g_bipush (v := (-5)) rfl (tz_in0 rfl)).trans ?_
          refine (tz_g_cv1I (m2 := 15) (rc := 1) rfl rfl rfl rfl rfl rfl (by decide) (tz_in0 rfl)).trans ?_
          refine tz_jI (fun y3 A3 => ?_)
          exact tz_g_ret1 (tz_in0 rfl) rfl
    · skip
      refine (tz_g_iload_n rfl (tz_in0 rfl)).trans ?_
      exact tz_g_ret1 (tz_in0 rfl) rfl
  · skip
    refine (tz_g_aload_n rfl (tz_in0 rfl)).trans ?_
    refine (tz_g_iconst (v := (-1)) rfl (tz_in0 rfl)).trans ?_
    refine (tz_g_cv1I (m2 := 15) (rc := 1) rfl rfl rfl rfl rfl rfl (by decide) (tz_in0 rfl)).trans ?_
    refine tz_jI (fun y2 A2 => ?_)
    exact tz_g_ret1 (tz_in0 rfl) rfl

theorem e_X11_reach (x1 : Int32) (x2 : Int32) (A : tz_Mem) : f_X11_reach x1 x2 A =
  tz_bI (f_X3_has 30 x1 A) (fun y1 A1 =>
if ¬ y1 = 0 then
  if x2 < 1 then
    tz_bI (f_X11_refuse (-6) A1) (fun y2 A2 =>
    some (some (.int y2), A2))
  else
    if x2 ≤ 99 then
      q_X11_reach_45 x2 (1 <<< (x1 &&& 31)) 0 A1
    else
      tz_bI (f_X11_refuse (-6) A1) (fun y2 A2 =>
      some (some (.int y2), A2))
else
  tz_bI (f_X11_refuse (-1) A1) (fun y2 A2 =>
  some (some (.int y2), A2))) := by
  refine (tz_Fe (L := [some (.ref 17), some (.int x1), some (.int x2), none, none]) rfl).trans ?_
  refine (tz_g_aload_n rfl (tz_in0 rfl)).trans ?_
  refine (tz_g_getr (j := 30) rfl rfl rfl rfl rfl (tz_in0 rfl)).trans ?_
  refine (tz_g_getr (j := 31) rfl rfl rfl rfl rfl (tz_in0 rfl)).trans ?_
  refine (tz_g_iload_n rfl (tz_in0 rfl)).trans ?_
  refine (tz_g_cv1I (m2 := 24) (rc := 4) rfl rfl rfl rfl rfl rfl (by decide) (tz_in0 rfl)).trans ?_
  refine tz_jI (fun y1 A1 => ?_)
  refine (tz_g_if_ne (t := 20) (by decide) (tz_in0 rfl)).trans ?_
  refine tz_cg ?_ ?_
  · skip
    refine (tz_g_iload_n rfl (tz_in0 rfl)).trans ?_
    refine (tz_g_iconst (v := 1) rfl (tz_in0 rfl)).trans ?_
    refine (tz_g_ic_lt (t := 31) (by decide) (tz_in0 rfl)).trans ?_
    refine tz_cg ?_ ?_
    · skip
      refine (tz_g_aload_n rfl (tz_in0 rfl)).trans ?_
      refine (tz_g_bipush (v := (-6)) rfl (tz_in0 rfl)).trans ?_
      refine (tz_g_cv1I (m2 := 15) (rc := 1) rfl rfl rfl rfl rfl rfl (by decide) (tz_in0 rfl)).trans ?_
      refine tz_jI (fun y2 A2 => ?_)
      exact tz_g_ret1 (tz_in0 rfl) rfl
    · skip
      refine (tz_g_iload_n rfl (tz_in0 rfl)).trans ?_
      refine (tz_g_bipush (v := 99) rfl (tz_in0 rfl)).trans ?_
      refine (tz_g_ic_le (t := 38) (by decide) (tz_in0 rfl)).trans ?_
      refine tz_cg ?_ ?_
      · skip
        refine (tz_g_iconst (v := 1) rfl (tz_in0 rfl)).trans ?_
        refine (tz_g_iload_n rfl (tz_in0 rfl)).trans ?_
        refine (tz_g_ishl (tz_in0 rfl)).trans ?_
        refine (tz_g_istore_n (L2 := [some (.ref 17), some (.int x1), some (.int x2), some (.int (1 <<< (x1 &&& 31))), none]) rfl rfl (tz_in0 rfl)).trans ?_
        refine (tz_g_iconst (v := 0) rfl (tz_in0 rfl)).trans ?_
        refine (tz_g_istore (L2 := [some (.ref 17), some (.int x1), some (.int x2), some (.int (1 <<< (x1 &&& 31))), some (.int 0)]) rfl rfl (tz_in0 rfl)).trans ?_
        exact tz_Gm (L2 := [some (.ref 17), none, some (.int x2), some (.int (1 <<< (x1 &&& 31))), some (.int 0)]) rfl rfl rfl rfl
      · skip
        refine (tz_g_aload_n rfl (tz_in0 rfl)).trans ?_
        refine (tz_g_bipush (v := (-6)) rfl (tz_in0 rfl)).trans ?_
        refine (tz_g_cv1I (m2 := 15) (rc := 1) rfl rfl rfl rfl rfl rfl (by decide) (tz_in0 rfl)).trans ?_
        refine tz_jI (fun y2 A2 => ?_)
        exact tz_g_ret1 (tz_in0 rfl) rfl
  · skip
    refine (tz_g_aload_n rfl (tz_in0 rfl)).trans ?_
    refine (tz_g_iconst (v := (-1)) rfl (tz_in0 rfl)).trans ?_
    refine (tz_g_cv1I (m2 := 15) (rc := 1) rfl rfl rfl rfl rfl rfl (by decide) (tz_in0 rfl)).trans ?_
    refine tz_jI (fun y2 A2 => ?_)
    exact tz_g_ret1 (tz_in0 rfl) rfl

theorem e_X11_reach_45 (z2 : Int32) (z3 : Int32) (z4 : Int32) (A : tz_Mem) : q_X11_reach_45 z2 z3 z4 A =
  if (tz_g A 31 0) ≤ z4 then
  some (some (.int z3), A)
else
  tz_bI (f_X10_spread 30 z3 z2 A) (fun y1 A1 =>
  q_X11_reach_45 z2 y1 (z4 + 1) A1) := by
  show tz_Go 135 45 [some (.ref 17), none, some (.int z2), some (.int z3), some (.int z4)] [] A = _
  refine (tz_g_iload rfl (tz_inM rfl rfl rfl)).trans ?_
  refine (tz_g_aload_n rfl (tz_in0 rfl)).trans ?_
  refine (tz_g_getr (j := 30) rfl rfl rfl rfl rfl (tz_in0 rfl)).trans ?_
  refine (tz_g_getr (j := 31) rfl rfl rfl rfl rfl (tz_in0 rfl)).trans ?_
  refine (tz_g_geti rfl rfl rfl (tz_in0 rfl)).trans ?_
  refine (tz_g_ic_ge (t := 79) (by decide) (tz_in0 rfl)).trans ?_
  refine tz_cg ?_ ?_
  · skip
    refine (tz_g_iload_n rfl (tz_in0 rfl)).trans ?_
    exact tz_g_ret1 (tz_in0 rfl) rfl
  · skip
    refine (tz_g_aload_n rfl (tz_in0 rfl)).trans ?_
    refine (tz_g_getr (j := 30) rfl rfl rfl rfl rfl (tz_in0 rfl)).trans ?_
    refine (tz_g_getr (j := 37) rfl rfl rfl rfl rfl (tz_in0 rfl)).trans ?_
    refine (tz_g_iload_n rfl (tz_in0 rfl)).trans ?_
    refine (tz_g_iload_n rfl (tz_in0 rfl)).trans ?_
    refine (tz_g_cv2I (m2 := 136) (rc := 1) rfl rfl rfl rfl rfl rfl (by decide) (tz_in0 rfl)).trans ?_
    refine tz_jI (fun y1 A1 => ?_)
    refine (tz_g_istore_n (L2 := [some (.ref 17), none, some (.int z2), some (.int y1), some (.int z4)]) rfl rfl (tz_in0 rfl)).trans ?_
    refine (tz_g_iinc (v := 1) (L2 := [some (.ref 17), none, some (.int z2), some (.int y1), some (.int (z4 + 1))]) rfl rfl rfl rfl (tz_in0 rfl)).trans ?_
    refine (tz_g_goto (t := 45) (by decide) (tz_in0 rfl)).trans ?_
    exact tz_Gm (L2 := [some (.ref 17), none, some (.int z2), some (.int y1), some (.int (z4 + 1))]) rfl rfl rfl rfl

theorem e_X11_storm (x1 : Int32) (x2 : Int32) (x3 : Int32) (x4 : Int32) (x5 : Int32) (A : tz_Mem) : f_X11_storm x1 x2 x3 x4 x5 A =
  tz_bI (f_X8_refusalOfElements x1 x2 A) (fun y1 A1 =>
if y1 = 0 then
  tz_bI (f_X11_areStormNumbers x3 x4 x5 A1) (fun y2 A2 =>
  if y2 = 0 then
    tz_bI (f_X11_refuse (-6) A2) (fun y3 A3 =>
    some (some (.int y3), A3))
  else
    tz_bI (f_X11_isWay x1 x2 A2) (fun y3 A3 =>
    if ¬ y3 = 0 then
      tz_bI (f_X10_isFull 30 A3) (fun y4 A4 =>
      if y4 = 0 then
        tz_bV (f_X8_copyNumbers_s155 x1 x2 A4) (fun A5 =>
        tz_bI (f_X10_add_s155 30 x2 x3 x4 x5 A5) (fun y6 A6 =>
        some (some (.int y6), A6)))
      else
        tz_bI (f_X11_refuse (-7) A4) (fun y5 A5 =>
        some (some (.int y5), A5)))
    else
      tz_bI (f_X11_refuse (-6) A3) (fun y4 A4 =>
      some (some (.int y4), A4))))
else
  tz_bI (f_X11_refuse y1 A1) (fun y2 A2 =>
  some (some (.int y2), A2))) := by
  refine (tz_Fe (L := [some (.ref 17), some (.int x1), some (.int x2), some (.int x3), some (.int x4), some (.int x5), none]) rfl).trans ?_
  refine (tz_g_aload_n rfl (tz_in0 rfl)).trans ?_
  refine (tz_g_getr (j := 18) rfl rfl rfl rfl rfl (tz_in0 rfl)).trans ?_
  refine (tz_g_iload_n rfl (tz_in0 rfl)).trans ?_
  refine (tz_g_iload_n rfl (tz_in0 rfl)).trans ?_
  refine (tz_g_cv2I (m2 := 31) (rc := 1) rfl rfl rfl rfl rfl rfl (by decide) (tz_in0 rfl)).trans ?_
  refine tz_jI (fun y1 A1 => ?_)
  refine (tz_g_istore (L2 := [some (.ref 17), some (.int x1), some (.int x2), some (.int x3), some (.int x4), some (.int x5), some (.int y1)]) rfl rfl (tz_in0 rfl)).trans ?_
  refine (tz_g_iload rfl (tz_in0 rfl)).trans ?_
  refine (tz_g_if_eq (t := 23) (by decide) (tz_in0 rfl)).trans ?_
  refine tz_cg ?_ ?_
  · skip
    refine (tz_g_iload_n rfl (tz_in0 rfl)).trans ?_
    refine (tz_g_iload rfl (tz_in0 rfl)).trans ?_
    refine (tz_g_iload rfl (tz_in0 rfl)).trans ?_
    refine (tz_g_cs3I (m2 := 32) (rc := 4) rfl rfl rfl rfl rfl rfl (by decide) (tz_in0 rfl)).trans ?_
    refine tz_jI (fun y2 A2 => ?_)
    refine (tz_g_if_eq (t := 43) (by decide) (tz_in0 rfl)).trans ?_
    refine tz_cg ?_ ?_
    · skip
      refine (tz_g_aload_n rfl (tz_in0 rfl)).trans ?_
      refine (tz_g_bipush (v := (-6)) rfl (tz_in0 rfl)).trans ?_
      refine (tz_g_cv1I (m2 := 15) (rc := 1) rfl rfl rfl rfl rfl rfl (by decide) (tz_in0 rfl)).trans ?_
      refine tz_jI (fun y3 A3 => ?_)
      exact tz_g_ret1 (tz_in0 rfl) rfl
    · skip
      refine (tz_g_aload_n rfl (tz_in0 rfl)).trans ?_
      refine (tz_g_iload_n rfl (tz_in0 rfl)).trans ?_
      refine (tz_g_iload_n rfl (tz_in0 rfl)).trans ?_
      refine (tz_g_cv2I (m2 := 33) (rc := 4) rfl rfl rfl rfl rfl rfl (by decide) (tz_in0 rfl)).trans ?_
      refine tz_jI (fun y3 A3 => ?_)
      refine (tz_g_if_ne (t := 50) (by decide) (tz_in0 rfl)).trans ?_
      refine tz_cg ?_ ?_
      · skip
        refine (tz_g_aload_n rfl (tz_in0 rfl)).trans ?_
        refine (tz_g_getr (j := 30) rfl rfl rfl rfl rfl (tz_in0 rfl)).trans ?_
        refine (tz_g_getr (j := 37) rfl rfl rfl rfl rfl (tz_in0 rfl)).trans ?_
        refine (tz_g_cv0I (m2 := 35) (rc := 4) rfl rfl rfl rfl rfl rfl (by decide) (tz_in0 rfl)).trans ?_
        refine tz_jI (fun y4 A4 => ?_)
        refine (tz_g_if_eq (t := 70) (by decide) (tz_in0 rfl)).trans ?_
        refine tz_cg ?_ ?_
        · skip
          refine (tz_g_aload_n rfl (tz_in0 rfl)).trans ?_
          refine (tz_g_getr (j := 18) rfl rfl rfl rfl rfl (tz_in0 rfl)).trans ?_
          refine (tz_g_iload_n rfl (tz_in0 rfl)).trans ?_
          refine (tz_g_iload_n rfl (tz_in0 rfl)).trans ?_
          refine (tz_g_aload_n rfl (tz_in0 rfl)).trans ?_
          refine (tz_g_getr (j := 155) rfl rfl rfl rfl rfl (tz_in0 rfl)).trans ?_
          refine (tz_g_cv3V (m2 := 36) (rc := 0) rfl rfl rfl rfl rfl rfl (by decide) (tz_in0 rfl)).trans ?_
          refine tz_jV (fun A5 => ?_)
          refine (tz_g_aload_n rfl (tz_in0 rfl)).trans ?_
          refine (tz_g_getr (j := 30) rfl rfl rfl rfl rfl (tz_in0 rfl)).trans ?_
          refine (tz_g_getr (j := 37) rfl rfl rfl rfl rfl (tz_in0 rfl)).trans ?_
          refine (tz_g_aload_n rfl (tz_in0 rfl)).trans ?_
          refine (tz_g_getr (j := 155) rfl rfl rfl rfl rfl (tz_in0 rfl)).trans ?_
          refine (tz_g_iload_n rfl (tz_in0 rfl)).trans ?_
          refine (tz_g_iload_n rfl (tz_in0 rfl)).trans ?_
          refine (tz_g_iload rfl (tz_in0 rfl)).trans ?_
          refine (tz_g_iload rfl (tz_in0 rfl)).trans ?_
          refine (tz_g_cv5I (m2 := 37) (rc := 1) rfl rfl rfl rfl rfl rfl (by decide) (tz_in0 rfl)).trans ?_
          refine tz_jI (fun y6 A6 => ?_)
          exact tz_g_ret1 (tz_in0 rfl) rfl
        · skip
          refine (tz_g_aload_n rfl (tz_in0 rfl)).trans ?_
          refine (tz_g_bipush (v := (-7)) rfl (tz_in0 rfl)).trans ?_
          refine (tz_g_cv1I (m2 := 15) (rc := 1) rfl rfl rfl rfl rfl rfl (by decide) (tz_in0 rfl)).trans ?_
          refine tz_jI (fun y5 A5 => ?_)
          exact tz_g_ret1 (tz_in0 rfl) rfl
      · skip
        refine (tz_g_aload_n rfl (tz_in0 rfl)).trans ?_
        refine (tz_g_bipush (v := (-6)) rfl (tz_in0 rfl)).trans ?_
        refine (tz_g_cv1I (m2 := 15) (rc := 1) rfl rfl rfl rfl rfl rfl (by decide) (tz_in0 rfl)).trans ?_
        refine tz_jI (fun y4 A4 => ?_)
        exact tz_g_ret1 (tz_in0 rfl) rfl
  · skip
    refine (tz_g_aload_n rfl (tz_in0 rfl)).trans ?_
    refine (tz_g_iload rfl (tz_in0 rfl)).trans ?_
    refine (tz_g_cv1I (m2 := 15) (rc := 1) rfl rfl rfl rfl rfl rfl (by decide) (tz_in0 rfl)).trans ?_
    refine tz_jI (fun y2 A2 => ?_)
    exact tz_g_ret1 (tz_in0 rfl) rfl

theorem e_X11_hillOf (x1 : Int32) (x2 : Int32) (A : tz_Mem) : f_X11_hillOf x1 x2 A =
  tz_bI (f_X3_has 30 x1 A) (fun y1 A1 =>
if ¬ y1 = 0 then
  if x2 = 0 then
    if x1 < 0 ∨ 8 ≤ (Int32.toNatClampNeg x1) then none else
    some (some (.int (tz_g A1 32 (Int32.toNatClampNeg x1))), A1)
  else if x2 = 1 then
    if x1 < 0 ∨ 8 ≤ (Int32.toNatClampNeg x1) then none else
    some (some (.int (tz_g A1 33 (Int32.toNatClampNeg x1))), A1)
  else if x2 = 2 then
    if x1 < 0 ∨ 8 ≤ (Int32.toNatClampNeg x1) then none else
    some (some (.int (tz_g A1 34 (Int32.toNatClampNeg x1))), A1)
  else if x2 = 3 then
    tz_bI (f_X10_allAt 30 x1 A1) (fun y2 A2 =>
    some (some (.int y2), A2))
  else tz_bI (f_X11_refuse (-5) A1) (fun y2 A2 =>
  some (some (.int y2), A2))
else
  tz_bI (f_X11_refuse (-5) A1) (fun y2 A2 =>
  some (some (.int y2), A2))) := by
  refine (tz_Fe (L := [some (.ref 17), some (.int x1), some (.int x2)]) rfl).trans ?_
  refine (tz_g_aload_n rfl (tz_in0 rfl)).trans ?_
  refine (tz_g_getr (j := 30) rfl rfl rfl rfl rfl (tz_in0 rfl)).trans ?_
  refine (tz_g_getr (j := 31) rfl rfl rfl rfl rfl (tz_in0 rfl)).trans ?_
  refine (tz_g_iload_n rfl (tz_in0 rfl)).trans ?_
  refine (tz_g_cv1I (m2 := 24) (rc := 4) rfl rfl rfl rfl rfl rfl (by decide) (tz_in0 rfl)).trans ?_
  refine tz_jI (fun y1 A1 => ?_)
  refine (tz_g_if_ne (t := 21) (by decide) (tz_in0 rfl)).trans ?_
  refine tz_cg ?_ ?_
  · skip
    refine (tz_g_iload_n rfl (tz_in0 rfl)).trans ?_
    refine (tz_g_tsw (by decide) (tz_in0 rfl)).trans ?_
    refine tz_swc (v := 0) (by decide) ?_ ?_
    · refine (tz_tg (t := 52) (by decide)).trans ?_
      refine (tz_g_aload_n rfl (tz_in0 rfl)).trans ?_
      refine (tz_g_getr (j := 30) rfl rfl rfl rfl rfl (tz_in0 rfl)).trans ?_
      refine (tz_g_getr (j := 31) rfl rfl rfl rfl rfl (tz_in0 rfl)).trans ?_
      refine (tz_g_getr (j := 32) rfl rfl rfl rfl rfl (tz_in0 rfl)).trans ?_
      refine (tz_g_iload_n rfl (tz_in0 rfl)).trans ?_
      refine (tz_g_iald (n := 8) rfl rfl rfl (tz_in0 rfl)).trans ?_
      refine tz_cn1 ?_
      exact tz_g_ret1 (tz_in0 rfl) rfl
    refine tz_swc (v := 1) (by decide) ?_ ?_
    · refine (tz_tg (t := 65) (by decide)).trans ?_
      refine (tz_g_aload_n rfl (tz_in0 rfl)).trans ?_
      refine (tz_g_getr (j := 30) rfl rfl rfl rfl rfl (tz_in0 rfl)).trans ?_
      refine (tz_g_getr (j := 31) rfl rfl rfl rfl rfl (tz_in0 rfl)).trans ?_
      refine (tz_g_getr (j := 33) rfl rfl rfl rfl rfl (tz_in0 rfl)).trans ?_
      refine (tz_g_iload_n rfl (tz_in0 rfl)).trans ?_
      refine (tz_g_iald (n := 8) rfl rfl rfl (tz_in0 rfl)).trans ?_
      refine tz_cn1 ?_
      exact tz_g_ret1 (tz_in0 rfl) rfl
    refine tz_swc (v := 2) (by decide) ?_ ?_
    · refine (tz_tg (t := 78) (by decide)).trans ?_
      refine (tz_g_aload_n rfl (tz_in0 rfl)).trans ?_
      refine (tz_g_getr (j := 30) rfl rfl rfl rfl rfl (tz_in0 rfl)).trans ?_
      refine (tz_g_getr (j := 31) rfl rfl rfl rfl rfl (tz_in0 rfl)).trans ?_
      refine (tz_g_getr (j := 34) rfl rfl rfl rfl rfl (tz_in0 rfl)).trans ?_
      refine (tz_g_iload_n rfl (tz_in0 rfl)).trans ?_
      refine (tz_g_iald (n := 8) rfl rfl rfl (tz_in0 rfl)).trans ?_
      refine tz_cn1 ?_
      exact tz_g_ret1 (tz_in0 rfl) rfl
    refine tz_swc (v := 3) (by decide) ?_ ?_
    · refine (tz_tg (t := 91) (by decide)).trans ?_
      refine (tz_g_aload_n rfl (tz_in0 rfl)).trans ?_
      refine (tz_g_getr (j := 30) rfl rfl rfl rfl rfl (tz_in0 rfl)).trans ?_
      refine (tz_g_getr (j := 37) rfl rfl rfl rfl rfl (tz_in0 rfl)).trans ?_
      refine (tz_g_iload_n rfl (tz_in0 rfl)).trans ?_
      refine (tz_g_cv1I (m2 := 45) (rc := 1) rfl rfl rfl rfl rfl rfl (by decide) (tz_in0 rfl)).trans ?_
      refine tz_jI (fun y2 A2 => ?_)
      exact tz_g_ret1 (tz_in0 rfl) rfl
    refine tz_swd ?_
    refine (tz_tg (t := 103) (by decide)).trans ?_
    refine (tz_g_aload_n rfl (tz_in0 rfl)).trans ?_
    refine (tz_g_bipush (v := (-5)) rfl (tz_in0 rfl)).trans ?_
    refine (tz_g_cv1I (m2 := 15) (rc := 1) rfl rfl rfl rfl rfl rfl (by decide) (tz_in0 rfl)).trans ?_
    refine tz_jI (fun y2 A2 => ?_)
    exact tz_g_ret1 (tz_in0 rfl) rfl
  · skip
    refine (tz_g_aload_n rfl (tz_in0 rfl)).trans ?_
    refine (tz_g_bipush (v := (-5)) rfl (tz_in0 rfl)).trans ?_
    refine (tz_g_cv1I (m2 := 15) (rc := 1) rfl rfl rfl rfl rfl rfl (by decide) (tz_in0 rfl)).trans ?_
    refine tz_jI (fun y2 A2 => ?_)
    exact tz_g_ret1 (tz_in0 rfl) rfl

theorem e_J0_charAt_s5 (x1 : Int32) (A : tz_Mem) : f_J0_charAt_s5 x1 A =
  tz_bI (f_J0_isLatin1_s5 A) (fun y1 A1 =>
if y1 = 0 then
  none
else
  tz_bI (f_J1_charAt_s11 x1 A1) (fun y2 A2 =>
  if (Int32.toUInt32 y2 % 65536).toInt32 = y2 then some (some (.int y2), A2) else none)) := by
  refine (tz_Fe (L := [some (.ref 5), some (.int x1)]) rfl).trans ?_
  refine (tz_g_aload_n rfl (tz_in0 rfl)).trans ?_
  refine (tz_g_cv0I (m2 := 66) (rc := 4) rfl rfl rfl rfl rfl rfl (by decide) (tz_in0 rfl)).trans ?_
  refine tz_jI (fun y1 A1 => ?_)
  refine (tz_g_if_eq (t := 16) (by decide) (tz_in0 rfl)).trans ?_
  refine tz_cg ?_ ?_
  · skip
    refine (tz_g_aload_n rfl (tz_in0 rfl)).trans ?_
    refine (tz_g_getr (j := 11) rfl rfl rfl rfl rfl (tz_in0 rfl)).trans ?_
    refine (tz_g_iload_n rfl (tz_in0 rfl)).trans ?_
    exact ((tz_in0 rfl) _ _).trans rfl
  · skip
    refine (tz_g_aload_n rfl (tz_in0 rfl)).trans ?_
    refine (tz_g_getr (j := 11) rfl rfl rfl rfl rfl (tz_in0 rfl)).trans ?_
    refine (tz_g_iload_n rfl (tz_in0 rfl)).trans ?_
    refine (tz_g_cs2I (m2 := 67) (rc := 5) rfl rfl rfl rfl rfl rfl (by decide) (tz_in0 rfl)).trans ?_
    refine tz_jI (fun y2 A2 => ?_)
    exact tz_g_ret5 (tz_in0 rfl) rfl

theorem e_J0_charAt_s6 (x1 : Int32) (A : tz_Mem) : f_J0_charAt_s6 x1 A =
  tz_bI (f_J0_isLatin1_s6 A) (fun y1 A1 =>
if y1 = 0 then
  none
else
  tz_bI (f_J1_charAt_s12 x1 A1) (fun y2 A2 =>
  if (Int32.toUInt32 y2 % 65536).toInt32 = y2 then some (some (.int y2), A2) else none)) := by
  refine (tz_Fe (L := [some (.ref 6), some (.int x1)]) rfl).trans ?_
  refine (tz_g_aload_n rfl (tz_in0 rfl)).trans ?_
  refine (tz_g_cv0I (m2 := 66) (rc := 4) rfl rfl rfl rfl rfl rfl (by decide) (tz_in0 rfl)).trans ?_
  refine tz_jI (fun y1 A1 => ?_)
  refine (tz_g_if_eq (t := 16) (by decide) (tz_in0 rfl)).trans ?_
  refine tz_cg ?_ ?_
  · skip
    refine (tz_g_aload_n rfl (tz_in0 rfl)).trans ?_
    refine (tz_g_getr (j := 12) rfl rfl rfl rfl rfl (tz_in0 rfl)).trans ?_
    refine (tz_g_iload_n rfl (tz_in0 rfl)).trans ?_
    exact ((tz_in0 rfl) _ _).trans rfl
  · skip
    refine (tz_g_aload_n rfl (tz_in0 rfl)).trans ?_
    refine (tz_g_getr (j := 12) rfl rfl rfl rfl rfl (tz_in0 rfl)).trans ?_
    refine (tz_g_iload_n rfl (tz_in0 rfl)).trans ?_
    refine (tz_g_cs2I (m2 := 67) (rc := 5) rfl rfl rfl rfl rfl rfl (by decide) (tz_in0 rfl)).trans ?_
    refine tz_jI (fun y2 A2 => ?_)
    exact tz_g_ret5 (tz_in0 rfl) rfl

theorem e_J0_charAt_s7 (x1 : Int32) (A : tz_Mem) : f_J0_charAt_s7 x1 A =
  tz_bI (f_J0_isLatin1_s7 A) (fun y1 A1 =>
if y1 = 0 then
  none
else
  tz_bI (f_J1_charAt_s13 x1 A1) (fun y2 A2 =>
  if (Int32.toUInt32 y2 % 65536).toInt32 = y2 then some (some (.int y2), A2) else none)) := by
  refine (tz_Fe (L := [some (.ref 7), some (.int x1)]) rfl).trans ?_
  refine (tz_g_aload_n rfl (tz_in0 rfl)).trans ?_
  refine (tz_g_cv0I (m2 := 66) (rc := 4) rfl rfl rfl rfl rfl rfl (by decide) (tz_in0 rfl)).trans ?_
  refine tz_jI (fun y1 A1 => ?_)
  refine (tz_g_if_eq (t := 16) (by decide) (tz_in0 rfl)).trans ?_
  refine tz_cg ?_ ?_
  · skip
    refine (tz_g_aload_n rfl (tz_in0 rfl)).trans ?_
    refine (tz_g_getr (j := 13) rfl rfl rfl rfl rfl (tz_in0 rfl)).trans ?_
    refine (tz_g_iload_n rfl (tz_in0 rfl)).trans ?_
    exact ((tz_in0 rfl) _ _).trans rfl
  · skip
    refine (tz_g_aload_n rfl (tz_in0 rfl)).trans ?_
    refine (tz_g_getr (j := 13) rfl rfl rfl rfl rfl (tz_in0 rfl)).trans ?_
    refine (tz_g_iload_n rfl (tz_in0 rfl)).trans ?_
    refine (tz_g_cs2I (m2 := 67) (rc := 5) rfl rfl rfl rfl rfl rfl (by decide) (tz_in0 rfl)).trans ?_
    refine tz_jI (fun y2 A2 => ?_)
    exact tz_g_ret5 (tz_in0 rfl) rfl

theorem e_J0_charAt_s8 (x1 : Int32) (A : tz_Mem) : f_J0_charAt_s8 x1 A =
  tz_bI (f_J0_isLatin1_s8 A) (fun y1 A1 =>
if y1 = 0 then
  none
else
  tz_bI (f_J1_charAt_s14 x1 A1) (fun y2 A2 =>
  if (Int32.toUInt32 y2 % 65536).toInt32 = y2 then some (some (.int y2), A2) else none)) := by
  refine (tz_Fe (L := [some (.ref 8), some (.int x1)]) rfl).trans ?_
  refine (tz_g_aload_n rfl (tz_in0 rfl)).trans ?_
  refine (tz_g_cv0I (m2 := 66) (rc := 4) rfl rfl rfl rfl rfl rfl (by decide) (tz_in0 rfl)).trans ?_
  refine tz_jI (fun y1 A1 => ?_)
  refine (tz_g_if_eq (t := 16) (by decide) (tz_in0 rfl)).trans ?_
  refine tz_cg ?_ ?_
  · skip
    refine (tz_g_aload_n rfl (tz_in0 rfl)).trans ?_
    refine (tz_g_getr (j := 14) rfl rfl rfl rfl rfl (tz_in0 rfl)).trans ?_
    refine (tz_g_iload_n rfl (tz_in0 rfl)).trans ?_
    exact ((tz_in0 rfl) _ _).trans rfl
  · skip
    refine (tz_g_aload_n rfl (tz_in0 rfl)).trans ?_
    refine (tz_g_getr (j := 14) rfl rfl rfl rfl rfl (tz_in0 rfl)).trans ?_
    refine (tz_g_iload_n rfl (tz_in0 rfl)).trans ?_
    refine (tz_g_cs2I (m2 := 67) (rc := 5) rfl rfl rfl rfl rfl rfl (by decide) (tz_in0 rfl)).trans ?_
    refine tz_jI (fun y2 A2 => ?_)
    exact tz_g_ret5 (tz_in0 rfl) rfl

theorem e_J0_charAt_s9 (x1 : Int32) (A : tz_Mem) : f_J0_charAt_s9 x1 A =
  tz_bI (f_J0_isLatin1_s9 A) (fun y1 A1 =>
if y1 = 0 then
  none
else
  tz_bI (f_J1_charAt_s15 x1 A1) (fun y2 A2 =>
  if (Int32.toUInt32 y2 % 65536).toInt32 = y2 then some (some (.int y2), A2) else none)) := by
  refine (tz_Fe (L := [some (.ref 9), some (.int x1)]) rfl).trans ?_
  refine (tz_g_aload_n rfl (tz_in0 rfl)).trans ?_
  refine (tz_g_cv0I (m2 := 66) (rc := 4) rfl rfl rfl rfl rfl rfl (by decide) (tz_in0 rfl)).trans ?_
  refine tz_jI (fun y1 A1 => ?_)
  refine (tz_g_if_eq (t := 16) (by decide) (tz_in0 rfl)).trans ?_
  refine tz_cg ?_ ?_
  · skip
    refine (tz_g_aload_n rfl (tz_in0 rfl)).trans ?_
    refine (tz_g_getr (j := 15) rfl rfl rfl rfl rfl (tz_in0 rfl)).trans ?_
    refine (tz_g_iload_n rfl (tz_in0 rfl)).trans ?_
    exact ((tz_in0 rfl) _ _).trans rfl
  · skip
    refine (tz_g_aload_n rfl (tz_in0 rfl)).trans ?_
    refine (tz_g_getr (j := 15) rfl rfl rfl rfl rfl (tz_in0 rfl)).trans ?_
    refine (tz_g_iload_n rfl (tz_in0 rfl)).trans ?_
    refine (tz_g_cs2I (m2 := 67) (rc := 5) rfl rfl rfl rfl rfl rfl (by decide) (tz_in0 rfl)).trans ?_
    refine tz_jI (fun y2 A2 => ?_)
    exact tz_g_ret5 (tz_in0 rfl) rfl

theorem e_X7_readWay (A : tz_Mem) : f_X7_readWay A =
  q_X7_readWay_4 0 (-1) A := by
  refine (tz_Fe (L := [some (.ref 122), none, none, none]) rfl).trans ?_
  refine (tz_g_iconst (v := 0) rfl (tz_in0 rfl)).trans ?_
  refine (tz_g_istore_n (L2 := [some (.ref 122), some (.int 0), none, none]) rfl rfl (tz_in0 rfl)).trans ?_
  refine (tz_g_iconst (v := (-1)) rfl (tz_in0 rfl)).trans ?_
  refine (tz_g_istore_n (L2 := [some (.ref 122), some (.int 0), some (.int (-1)), none]) rfl rfl (tz_in0 rfl)).trans ?_
  exact tz_Gm (L2 := [some (.ref 122), some (.int 0), some (.int (-1)), none]) rfl rfl rfl rfl

theorem e_X7_readWay_4 (z1 : Int32) (z2 : Int32) (A : tz_Mem) : q_X7_readWay_4 z1 z2 A =
  if ¬ (tz_g A 122 0) = (-1) then
  if ¬ (tz_g A 122 0) = (-1) then
    some (some (.int z1), A)
  else
    if (0 : Int32) < 0 ∨ 6 ≤ 0 then none else
    if ¬ z2 = (tz_g A 147 0) then
      some (some (.int z1), A)
    else
      some (some (.int z1), (tz_s A 122 0 (tz_g A 122 6)))
else
  if z1 < 2 then
    tz_bI (f_X7_readHillNumber A) (fun y1 A1 =>
    if ¬ (tz_g A1 122 0) = (-1) then
      if z1 < 0 ∨ 6 ≤ (Int32.toNatClampNeg z1) then none else
      q_X7_readWay_4 (z1 + 1) y1 (tz_s A1 147 (Int32.toNatClampNeg z1) y1)
    else
      if ¬ y1 = z2 then
        if z1 < 0 ∨ 6 ≤ (Int32.toNatClampNeg z1) then none else
        q_X7_readWay_4 (z1 + 1) y1 (tz_s A1 147 (Int32.toNatClampNeg z1) y1)
      else
        if z1 < 0 ∨ 6 ≤ (Int32.toNatClampNeg z1) then none else
        q_X7_readWay_4 (z1 + 1) y1 (tz_s (tz_s A1 122 0 (tz_g A1 122 6)) 147 (Int32.toNatClampNeg z1) y1))
  else
    if 6 ≤ z1 then
      if ¬ (tz_g A 122 0) = (-1) then
        some (some (.int z1), A)
      else
        if (0 : Int32) < 0 ∨ 6 ≤ 0 then none else
        if ¬ z2 = (tz_g A 147 0) then
          some (some (.int z1), A)
        else
          some (some (.int z1), (tz_s A 122 0 (tz_g A 122 6)))
    else
      tz_bI (f_X7_stands 32 A) (fun y1 A1 =>
      if y1 = 0 then
        if ¬ (tz_g A1 122 0) = (-1) then
          some (some (.int z1), A1)
        else
          if (0 : Int32) < 0 ∨ 6 ≤ 0 then none else
          if ¬ z2 = (tz_g A1 147 0) then
            some (some (.int z1), A1)
          else
            some (some (.int z1), (tz_s A1 122 0 (tz_g A1 122 6)))
      else
        tz_bI (f_X7_readHillNumber A1) (fun y2 A2 =>
        if ¬ (tz_g A2 122 0) = (-1) then
          if z1 < 0 ∨ 6 ≤ (Int32.toNatClampNeg z1) then none else
          q_X7_readWay_4 (z1 + 1) y2 (tz_s A2 147 (Int32.toNatClampNeg z1) y2)
        else
          if ¬ y2 = z2 then
            if z1 < 0 ∨ 6 ≤ (Int32.toNatClampNeg z1) then none else
            q_X7_readWay_4 (z1 + 1) y2 (tz_s A2 147 (Int32.toNatClampNeg z1) y2)
          else
            if z1 < 0 ∨ 6 ≤ (Int32.toNatClampNeg z1) then none else
            q_X7_readWay_4 (z1 + 1) y2 (tz_s (tz_s A2 122 0 (tz_g A2 122 6)) 147 (Int32.toNatClampNeg z1) y2))) := by
  show tz_Go 76 4 [some (.ref 122), some (.int z1), some (.int z2), none] [] A = _
  refine (tz_g_aload_n rfl (tz_inM rfl rfl rfl)).trans ?_
  refine (tz_g_geti rfl rfl rfl (tz_in0 rfl)).trans ?_
  refine (tz_g_iconst (v := (-1)) rfl (tz_in0 rfl)).trans ?_
  refine (tz_g_ic_ne (t := 73) (by decide) (tz_in0 rfl)).trans ?_
  refine tz_cg ?_ ?_
  · skip
    refine (tz_g_aload_n rfl (tz_in0 rfl)).trans ?_
    refine (tz_g_geti rfl rfl rfl (tz_in0 rfl)).trans ?_
    refine (tz_g_iconst (v := (-1)) rfl (tz_in0 rfl)).trans ?_
    refine (tz_g_ic_ne (t := 99) (by decide) (tz_in0 rfl)).trans ?_
    refine tz_cg ?_ ?_
    · skip
      refine (tz_g_iload_n rfl (tz_in0 rfl)).trans ?_
      exact tz_g_ret1 (tz_in0 rfl) rfl
    · skip
      refine (tz_g_iload_n rfl (tz_in0 rfl)).trans ?_
      refine (tz_g_aload_n rfl (tz_in0 rfl)).trans ?_
      refine (tz_g_getr (j := 147) rfl rfl rfl rfl rfl (tz_in0 rfl)).trans ?_
      refine (tz_g_iconst (v := 0) rfl (tz_in0 rfl)).trans ?_
      refine (tz_g_iald (n := 6) rfl rfl rfl (tz_in0 rfl)).trans ?_
      refine tz_cn1 ?_
      refine (tz_g_ic_ne (t := 99) (by decide) (tz_in0 rfl)).trans ?_
      refine tz_cg ?_ ?_
      · skip
        refine (tz_g_iload_n rfl (tz_in0 rfl)).trans ?_
        exact tz_g_ret1 (tz_in0 rfl) rfl
      · skip
        refine (tz_g_aload_n rfl (tz_in0 rfl)).trans ?_
        refine (tz_g_aload_n rfl (tz_in0 rfl)).trans ?_
        refine (tz_g_geti rfl rfl rfl (tz_in0 rfl)).trans ?_
        refine (tz_g_puti rfl rfl rfl (tz_in0 rfl)).trans ?_
        refine (tz_g_iload_n rfl (tz_in0 rfl)).trans ?_
        exact tz_g_ret1 (tz_in0 rfl) rfl
  · skip
    refine (tz_g_iload_n rfl (tz_in0 rfl)).trans ?_
    refine (tz_g_iconst (v := 2) rfl (tz_in0 rfl)).trans ?_
    refine (tz_g_ic_lt (t := 32) (by decide) (tz_in0 rfl)).trans ?_
    refine tz_cg ?_ ?_
    · skip
      refine (tz_g_aload_n rfl (tz_in0 rfl)).trans ?_
      refine (tz_g_cv0I (m2 := 77) (rc := 1) rfl rfl rfl rfl rfl rfl (by decide) (tz_in0 rfl)).trans ?_
      refine tz_jI (fun y1 A1 => ?_)
      refine (tz_g_istore_n (L2 := [some (.ref 122), some (.int z1), some (.int z2), some (.int y1)]) rfl rfl (tz_in0 rfl)).trans ?_
      refine (tz_g_aload_n rfl (tz_in0 rfl)).trans ?_
      refine (tz_g_geti rfl rfl rfl (tz_in0 rfl)).trans ?_
      refine (tz_g_iconst (v := (-1)) rfl (tz_in0 rfl)).trans ?_
      refine (tz_g_ic_ne (t := 58) (by decide) (tz_in0 rfl)).trans ?_
      refine tz_cg ?_ ?_
      · skip
        refine (tz_g_aload_n rfl (tz_in0 rfl)).trans ?_
        refine (tz_g_getr (j := 147) rfl rfl rfl rfl rfl (tz_in0 rfl)).trans ?_
        refine (tz_g_iload_n rfl (tz_in0 rfl)).trans ?_
        refine (tz_g_iload_n rfl (tz_in0 rfl)).trans ?_
        refine (tz_g_iast (n := 6) rfl rfl rfl (tz_in0 rfl)).trans ?_
        refine tz_cn1 ?_
        refine (tz_g_iload_n rfl (tz_in0 rfl)).trans ?_
        refine (tz_g_istore_n (L2 := [some (.ref 122), some (.int z1), some (.int y1), some (.int y1)]) rfl rfl (tz_in0 rfl)).trans ?_
        refine (tz_g_iinc (v := 1) (L2 := [some (.ref 122), some (.int (z1 + 1)), some (.int y1), some (.int y1)]) rfl rfl rfl rfl (tz_in0 rfl)).trans ?_
        refine (tz_g_goto (t := 4) (by decide) (tz_in0 rfl)).trans ?_
        exact tz_Gm (L2 := [some (.ref 122), some (.int (z1 + 1)), some (.int y1), none]) rfl rfl rfl rfl
      · skip
        refine (tz_g_iload_n rfl (tz_in0 rfl)).trans ?_
        refine (tz_g_iload_n rfl (tz_in0 rfl)).trans ?_
        refine (tz_g_ic_ne (t := 58) (by decide) (tz_in0 rfl)).trans ?_
        refine tz_cg ?_ ?_
        · skip
          refine (tz_g_aload_n rfl (tz_in0 rfl)).trans ?_
          refine (tz_g_getr (j := 147) rfl rfl rfl rfl rfl (tz_in0 rfl)).trans ?_
          refine (tz_g_iload_n rfl (tz_in0 rfl)).trans ?_
          refine (tz_g_iload_n rfl (tz_in0 rfl)).trans ?_
          refine (tz_g_iast (n := 6) rfl rfl rfl (tz_in0 rfl)).trans ?_
          refine tz_cn1 ?_
          refine (tz_g_iload_n rfl (tz_in0 rfl)).trans ?_
          refine (tz_g_istore_n (L2 := [some (.ref 122), some (.int z1), some (.int y1), some (.int y1)]) rfl rfl (tz_in0 rfl)).trans ?_
          refine (tz_g_iinc (v := 1) (L2 := [some (.ref 122), some (.int (z1 + 1)), some (.int y1), some (.int y1)]) rfl rfl rfl rfl (tz_in0 rfl)).trans ?_
          refine (tz_g_goto (t := 4) (by decide) (tz_in0 rfl)).trans ?_
          exact tz_Gm (L2 := [some (.ref 122), some (.int (z1 + 1)), some (.int y1), none]) rfl rfl rfl rfl
        · skip
          refine (tz_g_aload_n rfl (tz_in0 rfl)).trans ?_
          refine (tz_g_aload_n rfl (tz_in0 rfl)).trans ?_
          refine (tz_g_geti rfl rfl rfl (tz_in0 rfl)).trans ?_
          refine (tz_g_puti rfl rfl rfl (tz_in0 rfl)).trans ?_
          refine (tz_g_aload_n rfl (tz_in0 rfl)).trans ?_
          refine (tz_g_getr (j := 147) rfl rfl rfl rfl rfl (tz_in0 rfl)).trans ?_
          refine (tz_g_iload_n rfl (tz_in0 rfl)).trans ?_
          refine (tz_g_iload_n rfl (tz_in0 rfl)).trans ?_
          refine (tz_g_iast (n := 6) rfl rfl rfl (tz_in0 rfl)).trans ?_
          refine tz_cn1 ?_
          refine (tz_g_iload_n rfl (tz_in0 rfl)).trans ?_
          refine (tz_g_istore_n (L2 := [some (.ref 122), some (.int z1), some (.int y1), some (.int y1)]) rfl rfl (tz_in0 rfl)).trans ?_
          refine (tz_g_iinc (v := 1) (L2 := [some (.ref 122), some (.int (z1 + 1)), some (.int y1), some (.int y1)]) rfl rfl rfl rfl (tz_in0 rfl)).trans ?_
          refine (tz_g_goto (t := 4) (by decide) (tz_in0 rfl)).trans ?_
          exact tz_Gm (L2 := [some (.ref 122), some (.int (z1 + 1)), some (.int y1), none]) rfl rfl rfl rfl
    · skip
      refine (tz_g_iload_n rfl (tz_in0 rfl)).trans ?_
      refine (tz_g_bipush (v := 6) rfl (tz_in0 rfl)).trans ?_
      refine (tz_g_ic_ge (t := 73) (by decide) (tz_in0 rfl)).trans ?_
      refine tz_cg ?_ ?_
      · skip
        refine (tz_g_aload_n rfl (tz_in0 rfl)).trans ?_
        refine (tz_g_geti rfl rfl rfl (tz_in0 rfl)).trans ?_
        refine (tz_g_iconst (v := (-1)) rfl (tz_in0 rfl)).trans ?_
        refine (tz_g_ic_ne (t := 99) (by decide) (tz_in0 rfl)).trans ?_
        refine tz_cg ?_ ?_
        · skip
          refine (tz_g_iload_n rfl (tz_in0 rfl)).trans ?_
          exact tz_g_ret1 (tz_in0 rfl) rfl
        · skip
          refine (tz_g_iload_n rfl (tz_in0 rfl)).trans ?_
          refine (tz_g_aload_n rfl (tz_in0 rfl)).trans ?_
          refine (tz_g_getr (j := 147) rfl rfl rfl rfl rfl (tz_in0 rfl)).trans ?_
          refine (tz_g_iconst (v := 0) rfl (tz_in0 rfl)).trans ?_
          refine (tz_g_iald (n := 6) rfl rfl rfl (tz_in0 rfl)).trans ?_
          refine tz_cn1 ?_
          refine (tz_g_ic_ne (t := 99) (by decide) (tz_in0 rfl)).trans ?_
          refine tz_cg ?_ ?_
          · skip
            refine (tz_g_iload_n rfl (tz_in0 rfl)).trans ?_
            exact tz_g_ret1 (tz_in0 rfl) rfl
          · skip
            refine (tz_g_aload_n rfl (tz_in0 rfl)).trans ?_
            refine (tz_g_aload_n rfl (tz_in0 rfl)).trans ?_
            refine (tz_g_geti rfl rfl rfl (tz_in0 rfl)).trans ?_
            refine (tz_g_puti rfl rfl rfl (tz_in0 rfl)).trans ?_
            refine (tz_g_iload_n rfl (tz_in0 rfl)).trans ?_
            exact tz_g_ret1 (tz_in0 rfl) rfl
      · skip
        refine (tz_g_aload_n rfl (tz_in0 rfl)).trans ?_
        refine (tz_g_bipush (v := 32) rfl (tz_in0 rfl)).trans ?_
        refine (tz_g_cv1I (m2 := 73) (rc := 4) rfl rfl rfl rfl rfl rfl (by decide) (tz_in0 rfl)).trans ?_
        refine tz_jI (fun y1 A1 => ?_)
        refine (tz_g_if_eq (t := 73) (by decide) (tz_in0 rfl)).trans ?_
        refine tz_cg ?_ ?_
        · skip
          refine (tz_g_aload_n rfl (tz_in0 rfl)).trans ?_
          refine (tz_g_geti rfl rfl rfl (tz_in0 rfl)).trans ?_
          refine (tz_g_iconst (v := (-1)) rfl (tz_in0 rfl)).trans ?_
          refine (tz_g_ic_ne (t := 99) (by decide) (tz_in0 rfl)).trans ?_
          refine tz_cg ?_ ?_
          · skip
            refine (tz_g_iload_n rfl (tz_in0 rfl)).trans ?_
            exact tz_g_ret1 (tz_in0 rfl) rfl
          · skip
            refine (tz_g_iload_n rfl (tz_in0 rfl)).trans ?_
            refine (tz_g_aload_n rfl (tz_in0 rfl)).trans ?_
            refine (tz_g_getr (j := 147) rfl rfl rfl rfl rfl (tz_in0 rfl)).trans ?_
            refine (tz_g_iconst (v := 0) rfl (tz_in0 rfl)).trans ?_
            refine (tz_g_iald (n := 6) rfl rfl rfl (tz_in0 rfl)).trans ?_
            refine tz_cn1 ?_
            refine (tz_g_ic_ne (t := 99) (by decide) (tz_in0 rfl)).trans ?_
            refine tz_cg ?_ ?_
            · skip
              refine (tz_g_iload_n rfl (tz_in0 rfl)).trans ?_
              exact tz_g_ret1 (tz_in0 rfl) rfl
            · skip
              refine (tz_g_aload_n rfl (tz_in0 rfl)).trans ?_
              refine (tz_g_aload_n rfl (tz_in0 rfl)).trans ?_
              refine (tz_g_geti rfl rfl rfl (tz_in0 rfl)).trans ?_
              refine (tz_g_puti rfl rfl rfl (tz_in0 rfl)).trans ?_
              refine (tz_g_iload_n rfl (tz_in0 rfl)).trans ?_
              exact tz_g_ret1 (tz_in0 rfl) rfl
        · skip
          refine (tz_g_aload_n rfl (tz_in0 rfl)).trans ?_
          refine (tz_g_cv0I (m2 := 77) (rc := 1) rfl rfl rfl rfl rfl rfl (by decide) (tz_in0 rfl)).trans ?_
          refine tz_jI (fun y2 A2 => ?_)
          refine (tz_g_istore_n (L2 := [some (.ref 122), some (.int z1), some (.int z2), some (.int y2)]) rfl rfl (tz_in0 rfl)).trans ?_
          refine (tz_g_aload_n rfl (tz_in0 rfl)).trans ?_
          refine (tz_g_geti rfl rfl rfl (tz_in0 rfl)).trans ?_
          refine (tz_g_iconst (v := (-1)) rfl (tz_in0 rfl)).trans ?_
          refine (tz_g_ic_ne (t := 58) (by decide) (tz_in0 rfl)).trans ?_
          refine tz_cg ?_ ?_
          · skip
            refine (tz_g_aload_n rfl (tz_in0 rfl)).trans ?_
            refine (tz_g_getr (j := 147) rfl rfl rfl rfl rfl (tz_in0 rfl)).trans ?_
            refine (tz_g_iload_n rfl (tz_in0 rfl)).trans ?_
            refine (tz_g_iload_n rfl (tz_in0 rfl)).trans ?_
            refine (tz_g_iast (n := 6) rfl rfl rfl (tz_in0 rfl)).trans ?_
            refine tz_cn1 ?_
            refine (tz_g_iload_n rfl (tz_in0 rfl)).trans ?_
            refine (tz_g_istore_n (L2 := [some (.ref 122), some (.int z1), some (.int y2), some (.int y2)]) rfl rfl (tz_in0 rfl)).trans ?_
            refine (tz_g_iinc (v := 1) (L2 := [some (.ref 122), some (.int (z1 + 1)), some (.int y2), some (.int y2)]) rfl rfl rfl rfl (tz_in0 rfl)).trans ?_
            refine (tz_g_goto (t := 4) (by decide) (tz_in0 rfl)).trans ?_
            exact tz_Gm (L2 := [some (.ref 122), some (.int (z1 + 1)), some (.int y2), none]) rfl rfl rfl rfl
          · skip
            refine (tz_g_iload_n rfl (tz_in0 rfl)).trans ?_
            refine (tz_g_iload_n rfl (tz_in0 rfl)).trans ?_
            refine (tz_g_ic_ne (t := 58) (by decide) (tz_in0 rfl)).trans ?_
            refine tz_cg ?_ ?_
            · skip
              refine (tz_g_aload_n rfl (tz_in0 rfl)).trans ?_
              refine (tz_g_getr (j := 147) rfl rfl rfl rfl rfl (tz_in0 rfl)).trans ?_
              refine (tz_g_iload_n rfl (tz_in0 rfl)).trans ?_
              refine (tz_g_iload_n rfl (tz_in0 rfl)).trans ?_
              refine (tz_g_iast (n := 6) rfl rfl rfl (tz_in0 rfl)).trans ?_
              refine tz_cn1 ?_
              refine (tz_g_iload_n rfl (tz_in0 rfl)).trans ?_
              refine (tz_g_istore_n (L2 := [some (.ref 122), some (.int z1), some (.int y2), some (.int y2)]) rfl rfl (tz_in0 rfl)).trans ?_
              refine (tz_g_iinc (v := 1) (L2 := [some (.ref 122), some (.int (z1 + 1)), some (.int y2), some (.int y2)]) rfl rfl rfl rfl (tz_in0 rfl)).trans ?_
              refine (tz_g_goto (t := 4) (by decide) (tz_in0 rfl)).trans ?_
              exact tz_Gm (L2 := [some (.ref 122), some (.int (z1 + 1)), some (.int y2), none]) rfl rfl rfl rfl
            · skip
              refine (tz_g_aload_n rfl (tz_in0 rfl)).trans ?_
              refine (tz_g_aload_n rfl (tz_in0 rfl)).trans ?_
              refine (tz_g_geti rfl rfl rfl (tz_in0 rfl)).trans ?_
              refine (tz_g_puti rfl rfl rfl (tz_in0 rfl)).trans ?_
              refine (tz_g_aload_n rfl (tz_in0 rfl)).trans ?_
              refine (tz_g_getr (j := 147) rfl rfl rfl rfl rfl (tz_in0 rfl)).trans ?_
              refine (tz_g_iload_n rfl (tz_in0 rfl)).trans ?_
              refine (tz_g_iload_n rfl (tz_in0 rfl)).trans ?_
              refine (tz_g_iast (n := 6) rfl rfl rfl (tz_in0 rfl)).trans ?_
              refine tz_cn1 ?_
              refine (tz_g_iload_n rfl (tz_in0 rfl)).trans ?_
              refine (tz_g_istore_n (L2 := [some (.ref 122), some (.int z1), some (.int y2), some (.int y2)]) rfl rfl (tz_in0 rfl)).trans ?_
              refine (tz_g_iinc (v := 1) (L2 := [some (.ref 122), some (.int (z1 + 1)), some (.int y2), some (.int y2)]) rfl rfl rfl rfl (tz_in0 rfl)).trans ?_
              refine (tz_g_goto (t := 4) (by decide) (tz_in0 rfl)).trans ?_
              exact tz_Gm (L2 := [some (.ref 122), some (.int (z1 + 1)), some (.int y2), none]) rfl rfl rfl rfl

theorem e_X7_readLetter (A : tz_Mem) : f_X7_readLetter A =
  tz_bI (f_X7_readNumber 0 9999 A) (fun y1 A1 =>
tz_bI (f_X7_readHillNumber A1) (fun y2 A2 =>
tz_bI (f_X7_readHillNumber A2) (fun y3 A3 =>
if ¬ (tz_g A3 122 0) = (-1) then
  tz_bI (f_X7_readNumber 1 99 A3) (fun y4 A4 =>
  if ¬ (tz_g A4 122 0) = (-1) then
    some (none, A4)
  else
    tz_bI (f_X9_addLetter 124 y1 y2 y3 y4 A4) (fun y5 A5 =>
    some (none, A5)))
else
  if ¬ y3 = y2 then
    tz_bI (f_X7_readNumber 1 99 A3) (fun y4 A4 =>
    if ¬ (tz_g A4 122 0) = (-1) then
      some (none, A4)
    else
      tz_bI (f_X9_addLetter 124 y1 y2 y3 y4 A4) (fun y5 A5 =>
      some (none, A5)))
  else
    tz_bI (f_X7_readNumber 1 99 (tz_s A3 122 0 (tz_g A3 122 6))) (fun y4 A4 =>
    if ¬ (tz_g A4 122 0) = (-1) then
      some (none, A4)
    else
      tz_bI (f_X9_addLetter 124 y1 y2 y3 y4 A4) (fun y5 A5 =>
      some (none, A5)))))) := by
  refine (tz_Fe (L := [some (.ref 122), none, none, none, none]) rfl).trans ?_
  refine (tz_g_aload_n rfl (tz_in0 rfl)).trans ?_
  refine (tz_g_iconst (v := 0) rfl (tz_in0 rfl)).trans ?_
  refine (tz_g_sipush (v := 9999) rfl (tz_in0 rfl)).trans ?_
  refine (tz_g_cv2I (m2 := 72) (rc := 1) rfl rfl rfl rfl rfl rfl (by decide) (tz_in0 rfl)).trans ?_
  refine tz_jI (fun y1 A1 => ?_)
  refine (tz_g_istore_n (L2 := [some (.ref 122), some (.int y1), none, none, none]) rfl rfl (tz_in0 rfl)).trans ?_
  refine (tz_g_aload_n rfl (tz_in0 rfl)).trans ?_
  refine (tz_g_cv0I (m2 := 77) (rc := 1) rfl rfl rfl rfl rfl rfl (by decide) (tz_in0 rfl)).trans ?_
  refine tz_jI (fun y2 A2 => ?_)
  refine (tz_g_istore_n (L2 := [some (.ref 122), some (.int y1), some (.int y2), none, none]) rfl rfl (tz_in0 rfl)).trans ?_
  refine (tz_g_aload_n rfl (tz_in0 rfl)).trans ?_
  refine (tz_g_cv0I (m2 := 77) (rc := 1) rfl rfl rfl rfl rfl rfl (by decide) (tz_in0 rfl)).trans ?_
  refine tz_jI (fun y3 A3 => ?_)
  refine (tz_g_istore_n (L2 := [some (.ref 122), some (.int y1), some (.int y2), some (.int y3), none]) rfl rfl (tz_in0 rfl)).trans ?_
  refine (tz_g_aload_n rfl (tz_in0 rfl)).trans ?_
  refine (tz_g_geti rfl rfl rfl (tz_in0 rfl)).trans ?_
  refine (tz_g_iconst (v := (-1)) rfl (tz_in0 rfl)).trans ?_
  refine (tz_g_ic_ne (t := 40) (by decide) (tz_in0 rfl)).trans ?_
  refine tz_cg ?_ ?_
  · skip
    refine (tz_g_aload_n rfl (tz_in0 rfl)).trans ?_
    refine (tz_g_iconst (v := 1) rfl (tz_in0 rfl)).trans ?_
    refine (tz_g_bipush (v := 99) rfl (tz_in0 rfl)).trans ?_
    refine (tz_g_cv2I (m2 := 72) (rc := 1) rfl rfl rfl rfl rfl rfl (by decide) (tz_in0 rfl)).trans ?_
    refine tz_jI (fun y4 A4 => ?_)
    refine (tz_g_istore (L2 := [some (.ref 122), some (.int y1), some (.int y2), some (.int y3), some (.int y4)]) rfl rfl (tz_in0 rfl)).trans ?_
    refine (tz_g_aload_n rfl (tz_in0 rfl)).trans ?_
    refine (tz_g_geti rfl rfl rfl (tz_in0 rfl)).trans ?_
    refine (tz_g_iconst (v := (-1)) rfl (tz_in0 rfl)).trans ?_
    refine (tz_g_ic_ne (t := 70) (by decide) (tz_in0 rfl)).trans ?_
    refine tz_cg ?_ ?_
    · skip
      exact tz_g_ret0 (tz_in0 rfl) rfl
    · skip
      refine (tz_g_aload_n rfl (tz_in0 rfl)).trans ?_
      refine (tz_g_getr (j := 124) rfl rfl rfl rfl rfl (tz_in0 rfl)).trans ?_
      refine (tz_g_iload_n rfl (tz_in0 rfl)).trans ?_
      refine (tz_g_iload_n rfl (tz_in0 rfl)).trans ?_
      refine (tz_g_iload_n rfl (tz_in0 rfl)).trans ?_
      refine (tz_g_iload rfl (tz_in0 rfl)).trans ?_
      refine (tz_g_cv4I (m2 := 42) (rc := 1) rfl rfl rfl rfl rfl rfl (by decide) (tz_in0 rfl)).trans ?_
      refine tz_jI (fun y5 A5 => ?_)
      refine (tz_g_pop rfl (tz_in0 rfl)).trans ?_
      exact tz_g_ret0 (tz_in0 rfl) rfl
  · skip
    refine (tz_g_iload_n rfl (tz_in0 rfl)).trans ?_
    refine (tz_g_iload_n rfl (tz_in0 rfl)).trans ?_
    refine (tz_g_ic_ne (t := 40) (by decide) (tz_in0 rfl)).trans ?_
    refine tz_cg ?_ ?_
    · skip
      refine (tz_g_aload_n rfl (tz_in0 rfl)).trans ?_
      refine (tz_g_iconst (v := 1) rfl (tz_in0 rfl)).trans ?_
      refine (tz_g_bipush (v := 99) rfl (tz_in0 rfl)).trans ?_
      refine (tz_g_cv2I (m2 := 72) (rc := 1) rfl rfl rfl rfl rfl rfl (by decide) (tz_in0 rfl)).trans ?_
      refine tz_jI (fun y4 A4 => ?_)
      refine (tz_g_istore (L2 := [some (.ref 122), some (.int y1), some (.int y2), some (.int y3), some (.int y4)]) rfl rfl (tz_in0 rfl)).trans ?_
      refine (tz_g_aload_n rfl (tz_in0 rfl)).trans ?_
      refine (tz_g_geti rfl rfl rfl (tz_in0 rfl)).trans ?_
      refine (tz_g_iconst (v := (-1)) rfl (tz_in0 rfl)).trans ?_
      refine (tz_g_ic_ne (t := 70) (by decide) (tz_in0 rfl)).trans ?_
      refine tz_cg ?_ ?_
      · skip
        exact tz_g_ret0 (tz_in0 rfl) rfl
      · skip
        refine (tz_g_aload_n rfl (tz_in0 rfl)).trans ?_
        refine (tz_g_getr (j := 124) rfl rfl rfl rfl rfl (tz_in0 rfl)).trans ?_
        refine (tz_g_iload_n rfl (tz_in0 rfl)).trans ?_
        refine (tz_g_iload_n rfl (tz_in0 rfl)).trans ?_
        refine (tz_g_iload_n rfl (tz_in0 rfl)).trans ?_
        refine (tz_g_iload rfl (tz_in0 rfl)).trans ?_
        refine (tz_g_cv4I (m2 := 42) (rc := 1) rfl rfl rfl rfl rfl rfl (by decide) (tz_in0 rfl)).trans ?_
        refine tz_jI (fun y5 A5 => ?_)
        refine (tz_g_pop rfl (tz_in0 rfl)).trans ?_
        exact tz_g_ret0 (tz_in0 rfl) rfl
    · skip
      refine (tz_g_aload_n rfl (tz_in0 rfl)).trans ?_
      refine (tz_g_aload_n rfl (tz_in0 rfl)).trans ?_
      refine (tz_g_geti rfl rfl rfl (tz_in0 rfl)).trans ?_
      refine (tz_g_puti rfl rfl rfl (tz_in0 rfl)).trans ?_
      refine (tz_g_aload_n rfl (tz_in0 rfl)).trans ?_
      refine (tz_g_iconst (v := 1) rfl (tz_in0 rfl)).trans ?_
      refine (tz_g_bipush (v := 99) rfl (tz_in0 rfl)).trans ?_
      refine (tz_g_cv2I (m2 := 72) (rc := 1) rfl rfl rfl rfl rfl rfl (by decide) (tz_in0 rfl)).trans ?_
      refine tz_jI (fun y4 A4 => ?_)
      refine (tz_g_istore (L2 := [some (.ref 122), some (.int y1), some (.int y2), some (.int y3), some (.int y4)]) rfl rfl (tz_in0 rfl)).trans ?_
      refine (tz_g_aload_n rfl (tz_in0 rfl)).trans ?_
      refine (tz_g_geti rfl rfl rfl (tz_in0 rfl)).trans ?_
      refine (tz_g_iconst (v := (-1)) rfl (tz_in0 rfl)).trans ?_
      refine (tz_g_ic_ne (t := 70) (by decide) (tz_in0 rfl)).trans ?_
      refine tz_cg ?_ ?_
      · skip
        exact tz_g_ret0 (tz_in0 rfl) rfl
      · skip
        refine (tz_g_aload_n rfl (tz_in0 rfl)).trans ?_
        refine (tz_g_getr (j := 124) rfl rfl rfl rfl rfl (tz_in0 rfl)).trans ?_
        refine (tz_g_iload_n rfl (tz_in0 rfl)).trans ?_
        refine (tz_g_iload_n rfl (tz_in0 rfl)).trans ?_
        refine (tz_g_iload_n rfl (tz_in0 rfl)).trans ?_
        refine (tz_g_iload rfl (tz_in0 rfl)).trans ?_
        refine (tz_g_cv4I (m2 := 42) (rc := 1) rfl rfl rfl rfl rfl rfl (by decide) (tz_in0 rfl)).trans ?_
        refine tz_jI (fun y5 A5 => ?_)
        refine (tz_g_pop rfl (tz_in0 rfl)).trans ?_
        exact tz_g_ret0 (tz_in0 rfl) rfl

theorem e_X9_goOn (b : Nat) (x1 : Int32) (hb : tz_sky b) (A : tz_Mem) : f_X9_goOn b x1 A =
  tz_bV (f_X10_goOn b x1 A) (fun A1 =>
tz_bI (f_X10_hillOfStorm b x1 A1) (fun y2 A2 =>
if x1 < 0 ∨ 4 ≤ (Int32.toNatClampNeg x1) then none else
if x1 < 0 ∨ 4 ≤ (Int32.toNatClampNeg x1) then none else
q_X9_goOn_40 b x1 y2 (tz_g A2 (b + 14) (Int32.toNatClampNeg x1)) 0 (tz_s A2 (b + 14) (Int32.toNatClampNeg x1) 0))) := by
  obtain rfl | rfl | rfl | rfl | rfl := hb
  all_goals
    refine (tz_Fe (L := [some (.ref _), some (.int x1), none, none, none, none]) rfl).trans ?_
    refine (tz_g_aload_n rfl (tz_in0 rfl)).trans ?_
    refine (tz_g_getr (j := _) rfl rfl rfl rfl rfl (tz_in0 rfl)).trans ?_
    refine (tz_g_iload_n rfl (tz_in0 rfl)).trans ?_
    refine (tz_g_cv1V (m2 := 83) (rc := 0) rfl rfl rfl rfl rfl rfl (by decide) (tz_in0 rfl)).trans ?_
    refine tz_jV (fun A1 => ?_)
    refine (tz_g_aload_n rfl (tz_in0 rfl)).trans ?_
    refine (tz_g_getr (j := _) rfl rfl rfl rfl rfl (tz_in0 rfl)).trans ?_
    refine (tz_g_iload_n rfl (tz_in0 rfl)).trans ?_
    refine (tz_g_cv1I (m2 := 46) (rc := 1) rfl rfl rfl rfl rfl rfl (by decide) (tz_in0 rfl)).trans ?_
    refine tz_jI (fun y2 A2 => ?_)
    refine (tz_g_istore_n (L2 := [some (.ref _), some (.int x1), some (.int y2), none, none, none]) rfl rfl (tz_in0 rfl)).trans ?_
    refine (tz_g_aload_n rfl (tz_in0 rfl)).trans ?_
    refine (tz_g_getr (j := _) rfl rfl rfl rfl rfl (tz_in0 rfl)).trans ?_
    refine (tz_g_getr (j := _) rfl rfl rfl rfl rfl (tz_in0 rfl)).trans ?_
    refine (tz_g_iload_n rfl (tz_in0 rfl)).trans ?_
    refine (tz_g_iald (n := 4) rfl rfl rfl (tz_in0 rfl)).trans ?_
    refine tz_cn1 ?_
    refine (tz_g_istore_n (L2 := [some (.ref _), some (.int x1), some (.int y2), some (.int _), none, none]) rfl rfl (tz_in0 rfl)).trans ?_
    refine (tz_g_aload_n rfl (tz_in0 rfl)).trans ?_
    refine (tz_g_getr (j := _) rfl rfl rfl rfl rfl (tz_in0 rfl)).trans ?_
    refine (tz_g_getr (j := _) rfl rfl rfl rfl rfl (tz_in0 rfl)).trans ?_
    refine (tz_g_iload_n rfl (tz_in0 rfl)).trans ?_
    refine (tz_g_iconst (v := 0) rfl (tz_in0 rfl)).trans ?_
    refine (tz_g_iast (n := 4) rfl rfl rfl (tz_in0 rfl)).trans ?_
    refine tz_cn1 ?_
    refine (tz_g_iconst (v := 0) rfl (tz_in0 rfl)).trans ?_
    refine (tz_g_istore (L2 := [some (.ref _), some (.int x1), some (.int y2), some (.int _), some (.int 0), none]) rfl rfl (tz_in0 rfl)).trans ?_
    exact tz_Gm (L2 := [some (.ref _), some (.int x1), some (.int y2), some (.int _), some (.int 0), none]) rfl rfl rfl rfl

theorem e_X9_goOn_40 (b : Nat) (z1 : Int32) (z2 : Int32) (z3 : Int32) (z4 : Int32) (hb : tz_sky b) (A : tz_Mem) : q_X9_goOn_40 b z1 z2 z3 z4 A =
  if (tz_g A (b + 15) 0) ≤ z4 then
  if z2 < 0 ∨ 8 ≤ (Int32.toNatClampNeg z2) then none else
  if (tz_g A (b + 4) (Int32.toNatClampNeg z2)) = 0 then
    some (none, A)
  else
    tz_bV (f_X9_takeUp b z1 z2 A) (fun A1 =>
    some (none, A1))
else
  if z3 = 0 then
    if z2 < 0 ∨ 8 ≤ (Int32.toNatClampNeg z2) then none else
    if (tz_g A (b + 4) (Int32.toNatClampNeg z2)) = 0 then
      some (none, A)
    else
      tz_bV (f_X9_takeUp b z1 z2 A) (fun A1 =>
      some (none, A1))
  else
    if z4 < 0 ∨ 12 ≤ (Int32.toNatClampNeg z4) then none else
    if (z3 &&& (1 <<< ((tz_g A (b + 22) (Int32.toNatClampNeg z4)) &&& 31))) = 0 then
      q_X9_goOn_40 b z1 z2 z3 (z4 + 1) A
    else
      tz_bV (f_X9_sayLetter b (tz_g A (b + 22) (Int32.toNatClampNeg z4)) z2 A) (fun A1 =>
      q_X9_goOn_40 b z1 z2 (z3 &&& ((1 <<< ((tz_g A (b + 22) (Int32.toNatClampNeg z4)) &&& 31)) ^^^ (-1))) (z4 + 1) A1) := by
  obtain rfl | rfl | rfl | rfl | rfl := hb
  all_goals
    show tz_Go 82 40 _ [] A = _
    refine (tz_g_iload rfl (tz_inM rfl rfl rfl)).trans ?_
    refine (tz_g_aload_n rfl (tz_in0 rfl)).trans ?_
    refine (tz_g_getr (j := _) rfl rfl rfl rfl rfl (tz_in0 rfl)).trans ?_
    refine (tz_g_geti rfl rfl rfl (tz_in0 rfl)).trans ?_
    refine (tz_g_ic_ge (t := 99) (by decide) (tz_in0 rfl)).trans ?_
    refine tz_cg ?_ ?_
    · skip
      refine (tz_g_aload_n rfl (tz_in0 rfl)).trans ?_
      refine (tz_g_getr (j := _) rfl rfl rfl rfl rfl (tz_in0 rfl)).trans ?_
      refine (tz_g_getr (j := _) rfl rfl rfl rfl rfl (tz_in0 rfl)).trans ?_
      refine (tz_g_iload_n rfl (tz_in0 rfl)).trans ?_
      refine (tz_g_iald (n := 8) rfl rfl rfl (tz_in0 rfl)).trans ?_
      refine tz_cn1 ?_
      refine (tz_g_if_eq (t := 117) (by decide) (tz_in0 rfl)).trans ?_
      refine tz_cg ?_ ?_
      · skip
        exact tz_g_ret0 (tz_in0 rfl) rfl
      · skip
        refine (tz_g_aload_n rfl (tz_in0 rfl)).trans ?_
        refine (tz_g_iload_n rfl (tz_in0 rfl)).trans ?_
        refine (tz_g_iload_n rfl (tz_in0 rfl)).trans ?_
        refine (tz_g_cv2V (m2 := 92) (rc := 0) rfl rfl rfl rfl rfl rfl (by decide) (tz_in0 rfl)).trans ?_
        refine tz_jV (fun A1 => ?_)
        exact tz_g_ret0 (tz_in0 rfl) rfl
    · skip
      refine (tz_g_iload_n rfl (tz_in0 rfl)).trans ?_
      refine (tz_g_if_eq (t := 99) (by decide) (tz_in0 rfl)).trans ?_
      refine tz_cg ?_ ?_
      · skip
        refine (tz_g_aload_n rfl (tz_in0 rfl)).trans ?_
        refine (tz_g_getr (j := _) rfl rfl rfl rfl rfl (tz_in0 rfl)).trans ?_
        refine (tz_g_getr (j := _) rfl rfl rfl rfl rfl (tz_in0 rfl)).trans ?_
        refine (tz_g_iload_n rfl (tz_in0 rfl)).trans ?_
        refine (tz_g_iald (n := 8) rfl rfl rfl (tz_in0 rfl)).trans ?_
        refine tz_cn1 ?_
        refine (tz_g_if_eq (t := 117) (by decide) (tz_in0 rfl)).trans ?_
        refine tz_cg ?_ ?_
        · skip
          exact tz_g_ret0 (tz_in0 rfl) rfl
        · skip
          refine (tz_g_aload_n rfl (tz_in0 rfl)).trans ?_
          refine (tz_g_iload_n rfl (tz_in0 rfl)).trans ?_
          refine (tz_g_iload_n rfl (tz_in0 rfl)).trans ?_
          refine (tz_g_cv2V (m2 := 92) (rc := 0) rfl rfl rfl rfl rfl rfl (by decide) (tz_in0 rfl)).trans ?_
          refine tz_jV (fun A1 => ?_)
          exact tz_g_ret0 (tz_in0 rfl) rfl
      · skip
        refine (tz_g_aload_n rfl (tz_in0 rfl)).trans ?_
        refine (tz_g_getr (j := _) rfl rfl rfl rfl rfl (tz_in0 rfl)).trans ?_
        refine (tz_g_getr (j := _) rfl rfl rfl rfl rfl (tz_in0 rfl)).trans ?_
        refine (tz_g_iload rfl (tz_in0 rfl)).trans ?_
        refine (tz_g_iald (n := 12) rfl rfl rfl (tz_in0 rfl)).trans ?_
        refine tz_cn1 ?_
        refine (tz_g_istore (L2 := [some (.ref _), some (.int z1), some (.int z2), some (.int z3), some (.int z4), some (.int _)]) rfl rfl (tz_in0 rfl)).trans ?_
        refine (tz_g_iload_n rfl (tz_in0 rfl)).trans ?_
        refine (tz_g_iconst (v := 1) rfl (tz_in0 rfl)).trans ?_
        refine (tz_g_iload rfl (tz_in0 rfl)).trans ?_
        refine (tz_g_ishl (tz_in0 rfl)).trans ?_
        refine (tz_g_iand (tz_in0 rfl)).trans ?_
        refine (tz_g_if_eq (t := 93) (by decide) (tz_in0 rfl)).trans ?_
        refine tz_cg ?_ ?_
        · skip
          refine (tz_g_iinc (v := 1) (L2 := [some (.ref _), some (.int z1), some (.int z2), some (.int z3), some (.int (z4 + 1)), some (.int _)]) rfl rfl rfl rfl (tz_in0 rfl)).trans ?_
          refine (tz_g_goto (t := 40) (by decide) (tz_in0 rfl)).trans ?_
          exact tz_Gm (L2 := [some (.ref _), some (.int z1), some (.int z2), some (.int z3), some (.int (z4 + 1)), none]) rfl rfl rfl rfl
        · skip
          refine (tz_g_iload_n rfl (tz_in0 rfl)).trans ?_
          refine (tz_g_iconst (v := 1) rfl (tz_in0 rfl)).trans ?_
          refine (tz_g_iload rfl (tz_in0 rfl)).trans ?_
          refine (tz_g_ishl (tz_in0 rfl)).trans ?_
          refine (tz_g_iconst (v := (-1)) rfl (tz_in0 rfl)).trans ?_
          refine (tz_g_ixor (tz_in0 rfl)).trans ?_
          refine (tz_g_iand (tz_in0 rfl)).trans ?_
          refine (tz_g_istore_n (L2 := [some (.ref _), some (.int z1), some (.int z2), some (.int _), some (.int z4), some (.int _)]) rfl rfl (tz_in0 rfl)).trans ?_
          refine (tz_g_aload_n rfl (tz_in0 rfl)).trans ?_
          refine (tz_g_iload rfl (tz_in0 rfl)).trans ?_
          refine (tz_g_iload_n rfl (tz_in0 rfl)).trans ?_
          refine (tz_g_cv2V (m2 := 84) (rc := 0) rfl rfl rfl rfl rfl rfl (by decide) (tz_in0 rfl)).trans ?_
          refine tz_jV (fun A1 => ?_)
          refine (tz_g_iinc (v := 1) (L2 := [some (.ref _), some (.int z1), some (.int z2), some (.int _), some (.int (z4 + 1)), some (.int _)]) rfl rfl rfl rfl (tz_in0 rfl)).trans ?_
          refine (tz_g_goto (t := 40) (by decide) (tz_in0 rfl)).trans ?_
          exact tz_Gm (L2 := [some (.ref _), some (.int z1), some (.int z2), some (.int _), some (.int (z4 + 1)), none]) rfl rfl rfl rfl

theorem e_L_hour (A : tz_Mem) : f_L_hour A =
  if A.1 ≤ 157 then none else
q_L_hour_9 0 (tz_s A 157 3 ((tz_g A 157 3) + 1)) := by
  refine (tz_Fe (L := [some (.ref 157), some (.ref 158), none]) rfl).trans ?_
  refine (tz_g_aload_n rfl (tz_in0 rfl)).trans ?_
  refine (tz_g_iconst (v := 3) rfl (tz_in0 rfl)).trans ?_
  refine (tz_g_dup2a rfl rfl (tz_in0 rfl)).trans ?_
  refine tz_gB (c := A.1 ≤ 157) (fun q => tz_gx_iaload rfl (tz_in0 rfl) q) (fun hB0 => ?_)
  refine (tz_g_iald (n := 64) (by exact tz_okB hB0 rfl) rfl rfl (tz_in0 rfl)).trans ?_
  refine (if_neg (by decide)).trans ?_
  refine (tz_g_iconst (v := 1) rfl (tz_in0 rfl)).trans ?_
  refine (tz_g_iadd (tz_in0 rfl)).trans ?_
  refine (tz_g_iast (n := 64) (by exact tz_okB hB0 rfl) rfl rfl (tz_in0 rfl)).trans ?_
  refine (if_neg (by decide)).trans ?_
  refine (tz_g_iconst (v := 0) rfl (tz_in0 rfl)).trans ?_
  refine (tz_g_istore_n (L2 := [some (.ref 157), some (.ref 158), some (.int 0)]) rfl rfl (tz_in0 rfl)).trans ?_
  exact tz_Gm (L2 := [some (.ref 157), some (.ref 158), some (.int 0)]) rfl rfl rfl rfl

theorem e_L_hour_9 (z2 : Int32) (A : tz_Mem) : q_L_hour_9 z2 A =
  if A.1 ≤ 157 then none else
if (tz_g A 157 1) ≤ z2 then
  some (none, A)
else
  if ¬ (((tz_g A 157 7) >>> (z2 &&& 31)) &&& 1) = 0 then
    q_L_hour_49 z2 A
  else
    if (16 + z2) < 0 ∨ 64 ≤ (Int32.toNatClampNeg (16 + z2)) then none else
    if ((tz_g A 157 (Int32.toNatClampNeg (16 + z2))) - (tz_g A 157 (Int32.toNatClampNeg (16 + z2))) / 10 * 10) = 0 then none else
    if ¬ ((tz_g A 157 3) - (tz_g A 157 3) / ((tz_g A 157 (Int32.toNatClampNeg (16 + z2))) - (tz_g A 157 (Int32.toNatClampNeg (16 + z2))) / 10 * 10) * ((tz_g A 157 (Int32.toNatClampNeg (16 + z2))) - (tz_g A 157 (Int32.toNatClampNeg (16 + z2))) / 10 * 10)) = 0 then
      q_L_hour_49 z2 A
    else
      tz_bV (f_L_storm z2 A) (fun A1 =>
      q_L_hour_49 z2 A1) := by
  show tz_Go 124 9 [some (.ref 157), some (.ref 158), some (.int z2)] [] A = _
  refine (tz_g_iload_n rfl (tz_inM rfl rfl rfl)).trans ?_
  refine (tz_g_aload_n rfl (tz_in0 rfl)).trans ?_
  refine (tz_g_iconst (v := 1) rfl (tz_in0 rfl)).trans ?_
  refine tz_gB (c := A.1 ≤ 157) (fun q => tz_gx_iaload rfl (tz_in0 rfl) q) (fun hB1 => ?_)
  refine (tz_g_iald (n := 64) (by exact tz_okB hB1 rfl) rfl rfl (tz_in0 rfl)).trans ?_
  refine (if_neg (by decide)).trans ?_
  refine (tz_g_ic_ge (t := 55) (by decide) (tz_in0 rfl)).trans ?_
  refine tz_cg ?_ ?_
  · skip
    exact tz_g_ret0 (tz_in0 rfl) rfl
  · skip
    refine (tz_g_aload_n rfl (tz_in0 rfl)).trans ?_
    refine (tz_g_bipush (v := 7) rfl (tz_in0 rfl)).trans ?_
    refine (tz_g_iald (n := 64) (by exact tz_okB hB1 rfl) rfl rfl (tz_in0 rfl)).trans ?_
    refine (if_neg (by decide)).trans ?_
    refine (tz_g_iload_n rfl (tz_in0 rfl)).trans ?_
    refine (tz_g_ishr (tz_in0 rfl)).trans ?_
    refine (tz_g_iconst (v := 1) rfl (tz_in0 rfl)).trans ?_
    refine (tz_g_iand (tz_in0 rfl)).trans ?_
    refine (tz_g_if_ne (t := 49) (by decide) (tz_in0 rfl)).trans ?_
    refine tz_cg ?_ ?_
    · skip
      exact tz_Gm (L2 := [some (.ref 157), some (.ref 158), some (.int z2)]) rfl rfl rfl rfl
    · skip
      refine (tz_g_aload_n rfl (tz_in0 rfl)).trans ?_
      refine (tz_g_iconst (v := 3) rfl (tz_in0 rfl)).trans ?_
      refine (tz_g_iald (n := 64) (by exact tz_okB hB1 rfl) rfl rfl (tz_in0 rfl)).trans ?_
      refine (if_neg (by decide)).trans ?_
      refine (tz_g_aload_n rfl (tz_in0 rfl)).trans ?_
      refine (tz_g_bipush (v := 16) rfl (tz_in0 rfl)).trans ?_
      refine (tz_g_iload_n rfl (tz_in0 rfl)).trans ?_
      refine (tz_g_iadd (tz_in0 rfl)).trans ?_
      refine (tz_g_iald (n := 64) (by exact tz_okB hB1 rfl) rfl rfl (tz_in0 rfl)).trans ?_
      refine tz_cn1 ?_
      refine (tz_g_bipush (v := 10) rfl (tz_in0 rfl)).trans ?_
      refine (tz_g_iremK (by decide) (tz_in0 rfl)).trans ?_
      refine (tz_g_irem (tz_in0 rfl)).trans ?_
      refine tz_cn1 ?_
      refine (tz_g_if_ne (t := 49) (by decide) (tz_in0 rfl)).trans ?_
      refine tz_cg ?_ ?_
      · skip
        exact tz_Gm (L2 := [some (.ref 157), some (.ref 158), some (.int z2)]) rfl rfl rfl rfl
      · skip
        refine (tz_g_aload_n rfl (tz_in0 rfl)).trans ?_
        refine (tz_g_aload_n rfl (tz_in0 rfl)).trans ?_
        refine (tz_g_iload_n rfl (tz_in0 rfl)).trans ?_
        refine (tz_g_cs3V (m2 := 125) (rc := 0) rfl rfl rfl rfl rfl rfl (by decide) (tz_in0 rfl)).trans ?_
        refine tz_jV (fun A1 => ?_)
        exact tz_Gm (L2 := [some (.ref 157), some (.ref 158), some (.int z2)]) rfl rfl rfl rfl

theorem e_L_hour_49 (z2 : Int32) (A : tz_Mem) : q_L_hour_49 z2 A =
  q_L_hour_9 (z2 + 1) A := by
  show tz_Go 124 49 [some (.ref 157), some (.ref 158), some (.int z2)] [] A = _
  refine (tz_g_iinc (v := 1) (L2 := [some (.ref 157), some (.ref 158), some (.int (z2 + 1))]) rfl rfl rfl rfl (tz_inM rfl rfl rfl)).trans ?_
  refine (tz_g_goto (t := 9) (by decide) (tz_in0 rfl)).trans ?_
  exact tz_Gm (L2 := [some (.ref 157), some (.ref 158), some (.int (z2 + 1))]) rfl rfl rfl rfl

