theorem e_X11_refusalOfLetter (x1 : Int32) (x2 : Int32) (x3 : Int32) (x4 : Int32) (A : tz_Mem) : f_X11_refusalOfLetter x1 x2 x3 x4 A =
  tz_bI (f_X3_has 30 x2 A) (fun y1 A1 =>
if y1 = 0 then
  some (some (.int (-1)), A1)
else
  tz_bI (f_X3_has 30 x3 A1) (fun y2 A2 =>
  if ¬ y2 = 0 then
    tz_bI (f_X11_isWord x1 A2) (fun y3 A3 =>
    if y3 = 0 then
      some (some (.int (-6)), A3)
    else
      if x4 < 1 then
        some (some (.int (-6)), A3)
      else
        if 99 < x4 then
          some (some (.int (-6)), A3)
        else
          if ¬ x2 = x3 then
            tz_bI (f_X4_isFull 30 A3) (fun y4 A4 =>
            if y4 = 0 then
              some (some (.int 0), A4)
            else
              some (some (.int (-7)), A4))
          else
            some (some (.int (-6)), A3))
  else
    some (some (.int (-1)), A2))) := by
  refine (tz_Fe (L := [some (.ref 17), some (.int x1), some (.int x2), some (.int x3), some (.int x4)]) rfl).trans ?_
  refine (tz_g_aload_n rfl (tz_in0 rfl)).trans ?_
  refine (tz_g_getr (j := 30) rfl rfl rfl rfl rfl (tz_in0 rfl)).trans ?_
  refine (tz_g_getr (j := 31) rfl rfl rfl rfl rfl (tz_in0 rfl)).trans ?_
  refine (tz_g_iload_n rfl (tz_in0 rfl)).trans ?_
  refine (tz_g_cv1I (m2 := 28) (rc := 4) rfl rfl rfl rfl rfl rfl (by decide) (tz_in0 rfl)).trans ?_
  refine tz_jI (fun y1 A1 => ?_)
  refine (tz_g_if_eq (t := 28) (by decide) (tz_in0 rfl)).trans ?_
  refine tz_cg ?_ ?_
  · skip
    refine (tz_g_iconst (v := (-1)) rfl (tz_in0 rfl)).trans ?_
    exact tz_g_ret1 (tz_in0 rfl) rfl
  · skip
    refine (tz_g_aload_n rfl (tz_in0 rfl)).trans ?_
    refine (tz_g_getr (j := 30) rfl rfl rfl rfl rfl (tz_in0 rfl)).trans ?_
    refine (tz_g_getr (j := 31) rfl rfl rfl rfl rfl (tz_in0 rfl)).trans ?_
    refine (tz_g_iload_n rfl (tz_in0 rfl)).trans ?_
    refine (tz_g_cv1I (m2 := 28) (rc := 4) rfl rfl rfl rfl rfl rfl (by decide) (tz_in0 rfl)).trans ?_
    refine tz_jI (fun y2 A2 => ?_)
    refine (tz_g_if_ne (t := 30) (by decide) (tz_in0 rfl)).trans ?_
    refine tz_cg ?_ ?_
    · skip
      refine (tz_g_iload_n rfl (tz_in0 rfl)).trans ?_
      refine (tz_g_cs1I (m2 := 50) (rc := 4) rfl rfl rfl rfl rfl rfl (by decide) (tz_in0 rfl)).trans ?_
      refine tz_jI (fun y3 A3 => ?_)
      refine (tz_g_if_eq (t := 55) (by decide) (tz_in0 rfl)).trans ?_
      refine tz_cg ?_ ?_
      · skip
        refine (tz_g_bipush (v := (-6)) rfl (tz_in0 rfl)).trans ?_
        exact tz_g_ret1 (tz_in0 rfl) rfl
      · skip
        refine (tz_g_iload rfl (tz_in0 rfl)).trans ?_
        refine (tz_g_iconst (v := 1) rfl (tz_in0 rfl)).trans ?_
        refine (tz_g_ic_lt (t := 55) (by decide) (tz_in0 rfl)).trans ?_
        refine tz_cg ?_ ?_
        · skip
          refine (tz_g_bipush (v := (-6)) rfl (tz_in0 rfl)).trans ?_
          exact tz_g_ret1 (tz_in0 rfl) rfl
        · skip
          refine (tz_g_iload rfl (tz_in0 rfl)).trans ?_
          refine (tz_g_bipush (v := 99) rfl (tz_in0 rfl)).trans ?_
          refine (tz_g_ic_gt (t := 55) (by decide) (tz_in0 rfl)).trans ?_
          refine tz_cg ?_ ?_
          · skip
            refine (tz_g_bipush (v := (-6)) rfl (tz_in0 rfl)).trans ?_
            exact tz_g_ret1 (tz_in0 rfl) rfl
          · skip
            refine (tz_g_iload_n rfl (tz_in0 rfl)).trans ?_
            refine (tz_g_iload_n rfl (tz_in0 rfl)).trans ?_
            refine (tz_g_ic_ne (t := 58) (by decide) (tz_in0 rfl)).trans ?_
            refine tz_cg ?_ ?_
            · skip
              refine (tz_g_aload_n rfl (tz_in0 rfl)).trans ?_
              refine (tz_g_getr (j := 30) rfl rfl rfl rfl rfl (tz_in0 rfl)).trans ?_
              refine (tz_g_getr (j := 45) rfl rfl rfl rfl rfl (tz_in0 rfl)).trans ?_
              refine (tz_g_cv0I (m2 := 51) (rc := 4) rfl rfl rfl rfl rfl rfl (by decide) (tz_in0 rfl)).trans ?_
              refine tz_jI (fun y4 A4 => ?_)
              refine (tz_g_if_eq (t := 76) (by decide) (tz_in0 rfl)).trans ?_
              refine tz_cg ?_ ?_
              · skip
                refine (tz_g_iconst (v := 0) rfl (tz_in0 rfl)).trans ?_
                exact tz_g_ret1 (tz_in0 rfl) rfl
              · skip
                refine (tz_g_bipush (v := (-7)) rfl (tz_in0 rfl)).trans ?_
                refine (tz_g_goto (t := 77) (by decide) (tz_in0 rfl)).trans ?_
                exact tz_g_ret1 (tz_in0 rfl) rfl
            · skip
              refine (tz_g_bipush (v := (-6)) rfl (tz_in0 rfl)).trans ?_
              exact tz_g_ret1 (tz_in0 rfl) rfl
    · skip
      refine (tz_g_iconst (v := (-1)) rfl (tz_in0 rfl)).trans ?_
      exact tz_g_ret1 (tz_in0 rfl) rfl

theorem e_X9_addLetter (b : Nat) (x1 : Int32) (x2 : Int32) (x3 : Int32) (x4 : Int32) (hb : tz_sky b) (A : tz_Mem) : f_X9_addLetter b x1 x2 x3 x4 A =
  tz_bI (f_X4_add b x1 x2 x3 x4 A) (fun y1 A1 =>
if x2 < 0 ∨ 8 ≤ (Int32.toNatClampNeg x2) then none else
if x2 < 0 ∨ 8 ≤ (Int32.toNatClampNeg x2) then none else
some (some (.int y1), (tz_s A1 (b + 4) (Int32.toNatClampNeg x2) ((tz_g A1 (b + 4) (Int32.toNatClampNeg x2)) ||| (1 <<< (y1 &&& 31)))))) := by
  obtain rfl | rfl | rfl | rfl | rfl := hb
  all_goals
    refine (tz_Fe (L := [some (.ref _), some (.int x1), some (.int x2), some (.int x3), some (.int x4), none]) rfl).trans ?_
    refine (tz_g_aload_n rfl (tz_in0 rfl)).trans ?_
    refine (tz_g_getr (j := _) rfl rfl rfl rfl rfl (tz_in0 rfl)).trans ?_
    refine (tz_g_iload_n rfl (tz_in0 rfl)).trans ?_
    refine (tz_g_iload_n rfl (tz_in0 rfl)).trans ?_
    refine (tz_g_iload_n rfl (tz_in0 rfl)).trans ?_
    refine (tz_g_iload rfl (tz_in0 rfl)).trans ?_
    refine (tz_g_cv4I (m2 := 53) (rc := 1) rfl rfl rfl rfl rfl rfl (by decide) (tz_in0 rfl)).trans ?_
    refine tz_jI (fun y1 A1 => ?_)
    refine (tz_g_istore (L2 := [some (.ref _), some (.int x1), some (.int x2), some (.int x3), some (.int x4), some (.int y1)]) rfl rfl (tz_in0 rfl)).trans ?_
    refine (tz_g_aload_n rfl (tz_in0 rfl)).trans ?_
    refine (tz_g_getr (j := _) rfl rfl rfl rfl rfl (tz_in0 rfl)).trans ?_
    refine (tz_g_getr (j := _) rfl rfl rfl rfl rfl (tz_in0 rfl)).trans ?_
    refine (tz_g_iload_n rfl (tz_in0 rfl)).trans ?_
    refine (tz_g_dup2a rfl rfl (tz_in0 rfl)).trans ?_
    refine (tz_g_iald (n := 8) rfl rfl rfl (tz_in0 rfl)).trans ?_
    refine tz_cn1 ?_
    refine (tz_g_iconst (v := 1) rfl (tz_in0 rfl)).trans ?_
    refine (tz_g_iload rfl (tz_in0 rfl)).trans ?_
    refine (tz_g_ishl (tz_in0 rfl)).trans ?_
    refine (tz_g_ior (tz_in0 rfl)).trans ?_
    refine (tz_g_iast (n := 8) rfl rfl rfl (tz_in0 rfl)).trans ?_
    refine tz_cn1 ?_
    refine (tz_g_iload rfl (tz_in0 rfl)).trans ?_
    exact tz_g_ret1 (tz_in0 rfl) rfl

theorem e_X10_hillOfStorm (b : Nat) (x1 : Int32) (hb : tz_sky b) (A : tz_Mem) : f_X10_hillOfStorm b x1 A =
  if x1 < 0 ∨ 4 ≤ (Int32.toNatClampNeg x1) then none else
tz_bI (f_X10_wayHill b x1 (tz_g A (b + 13) (Int32.toNatClampNeg x1)) A) (fun y1 A1 =>
some (some (.int y1), A1)) := by
  obtain rfl | rfl | rfl | rfl | rfl := hb
  all_goals
    refine (tz_Fe (L := [some (.ref _), some (.int x1)]) rfl).trans ?_
    refine (tz_g_aload_n rfl (tz_in0 rfl)).trans ?_
    refine (tz_g_iload_n rfl (tz_in0 rfl)).trans ?_
    refine (tz_g_aload_n rfl (tz_in0 rfl)).trans ?_
    refine (tz_g_getr (j := _) rfl rfl rfl rfl rfl (tz_in0 rfl)).trans ?_
    refine (tz_g_iload_n rfl (tz_in0 rfl)).trans ?_
    refine (tz_g_iald (n := 4) rfl rfl rfl (tz_in0 rfl)).trans ?_
    refine tz_cn1 ?_
    refine (tz_g_cv2I (m2 := 57) (rc := 1) rfl rfl rfl rfl rfl rfl (by decide) (tz_in0 rfl)).trans ?_
    refine tz_jI (fun y1 A1 => ?_)
    exact tz_g_ret1 (tz_in0 rfl) rfl

theorem e_X11_wayOf (x1 : Int32) (x2 : Int32) (A : tz_Mem) : f_X11_wayOf x1 x2 A =
  if x2 < 10 then
  tz_bI (f_X11_refuse (-5) A) (fun y1 A1 =>
  some (some (.int y1), A1))
else
  if 15 < x2 then
    tz_bI (f_X11_refuse (-5) A) (fun y1 A1 =>
    some (some (.int y1), A1))
  else
    if x1 < 0 ∨ 4 ≤ (Int32.toNatClampNeg x1) then none else
    if (x2 - 10) < (tz_g A 41 (Int32.toNatClampNeg x1)) then
      tz_bI (f_X10_wayHill 30 x1 (x2 - 10) A) (fun y1 A1 =>
      some (some (.int y1), A1))
    else
      tz_bI (f_X11_refuse (-5) A) (fun y1 A1 =>
      some (some (.int y1), A1)) := by
  refine (tz_Fe (L := [some (.ref 17), some (.int x1), some (.int x2)]) rfl).trans ?_
  refine (tz_g_iload_n rfl (tz_in0 rfl)).trans ?_
  refine (tz_g_bipush (v := 10) rfl (tz_in0 rfl)).trans ?_
  refine (tz_g_ic_lt (t := 31) (by decide) (tz_in0 rfl)).trans ?_
  refine tz_cg ?_ ?_
  · skip
    refine (tz_g_aload_n rfl (tz_in0 rfl)).trans ?_
    refine (tz_g_bipush (v := (-5)) rfl (tz_in0 rfl)).trans ?_
    refine (tz_g_cv1I (m2 := 15) (rc := 1) rfl rfl rfl rfl rfl rfl (by decide) (tz_in0 rfl)).trans ?_
    refine tz_jI (fun y1 A1 => ?_)
    exact tz_g_ret1 (tz_in0 rfl) rfl
  · skip
    refine (tz_g_iload_n rfl (tz_in0 rfl)).trans ?_
    refine (tz_g_bipush (v := 15) rfl (tz_in0 rfl)).trans ?_
    refine (tz_g_ic_gt (t := 31) (by decide) (tz_in0 rfl)).trans ?_
    refine tz_cg ?_ ?_
    · skip
      refine (tz_g_aload_n rfl (tz_in0 rfl)).trans ?_
      refine (tz_g_bipush (v := (-5)) rfl (tz_in0 rfl)).trans ?_
      refine (tz_g_cv1I (m2 := 15) (rc := 1) rfl rfl rfl rfl rfl rfl (by decide) (tz_in0 rfl)).trans ?_
      refine tz_jI (fun y1 A1 => ?_)
      exact tz_g_ret1 (tz_in0 rfl) rfl
    · skip
      refine (tz_g_iload_n rfl (tz_in0 rfl)).trans ?_
      refine (tz_g_bipush (v := 10) rfl (tz_in0 rfl)).trans ?_
      refine (tz_g_isub (tz_in0 rfl)).trans ?_
      refine (tz_g_aload_n rfl (tz_in0 rfl)).trans ?_
      refine (tz_g_getr (j := 30) rfl rfl rfl rfl rfl (tz_in0 rfl)).trans ?_
      refine (tz_g_getr (j := 37) rfl rfl rfl rfl rfl (tz_in0 rfl)).trans ?_
      refine (tz_g_getr (j := 41) rfl rfl rfl rfl rfl (tz_in0 rfl)).trans ?_
      refine (tz_g_iload_n rfl (tz_in0 rfl)).trans ?_
      refine (tz_g_iald (n := 4) rfl rfl rfl (tz_in0 rfl)).trans ?_
      refine tz_cn1 ?_
      refine (tz_g_ic_lt (t := 38) (by decide) (tz_in0 rfl)).trans ?_
      refine tz_cg ?_ ?_
      · skip
        refine (tz_g_aload_n rfl (tz_in0 rfl)).trans ?_
        refine (tz_g_getr (j := 30) rfl rfl rfl rfl rfl (tz_in0 rfl)).trans ?_
        refine (tz_g_getr (j := 37) rfl rfl rfl rfl rfl (tz_in0 rfl)).trans ?_
        refine (tz_g_iload_n rfl (tz_in0 rfl)).trans ?_
        refine (tz_g_iload_n rfl (tz_in0 rfl)).trans ?_
        refine (tz_g_bipush (v := 10) rfl (tz_in0 rfl)).trans ?_
        refine (tz_g_isub (tz_in0 rfl)).trans ?_
        refine (tz_g_cv2I (m2 := 57) (rc := 1) rfl rfl rfl rfl rfl rfl (by decide) (tz_in0 rfl)).trans ?_
        refine tz_jI (fun y1 A1 => ?_)
        exact tz_g_ret1 (tz_in0 rfl) rfl
      · skip
        refine (tz_g_aload_n rfl (tz_in0 rfl)).trans ?_
        refine (tz_g_bipush (v := (-5)) rfl (tz_in0 rfl)).trans ?_
        refine (tz_g_cv1I (m2 := 15) (rc := 1) rfl rfl rfl rfl rfl rfl (by decide) (tz_in0 rfl)).trans ?_
        refine tz_jI (fun y1 A1 => ?_)
        exact tz_g_ret1 (tz_in0 rfl) rfl

theorem e_X11_letterOf (x1 : Int32) (x2 : Int32) (A : tz_Mem) : f_X11_letterOf x1 x2 A =
  tz_bI (f_X4_has 30 x1 A) (fun y1 A1 =>
if ¬ y1 = 0 then
  if x2 = 0 then
    if x1 < 0 ∨ 12 ≤ (Int32.toNatClampNeg x1) then none else
    some (some (.int (tz_g A1 46 (Int32.toNatClampNeg x1))), A1)
  else if x2 = 1 then
    if x1 < 0 ∨ 12 ≤ (Int32.toNatClampNeg x1) then none else
    some (some (.int (tz_g A1 47 (Int32.toNatClampNeg x1))), A1)
  else if x2 = 2 then
    if x1 < 0 ∨ 12 ≤ (Int32.toNatClampNeg x1) then none else
    some (some (.int (tz_g A1 48 (Int32.toNatClampNeg x1))), A1)
  else if x2 = 3 then
    if x1 < 0 ∨ 12 ≤ (Int32.toNatClampNeg x1) then none else
    some (some (.int (tz_g A1 49 (Int32.toNatClampNeg x1))), A1)
  else if x2 = 4 then
    if x1 < 0 ∨ 12 ≤ (Int32.toNatClampNeg x1) then none else
    some (some (.int (tz_g A1 50 (Int32.toNatClampNeg x1))), A1)
  else if x2 = 5 then
    if x1 < 0 ∨ 12 ≤ (Int32.toNatClampNeg x1) then none else
    some (some (.int (tz_g A1 51 (Int32.toNatClampNeg x1))), A1)
  else tz_bI (f_X11_refuse (-5) A1) (fun y2 A2 =>
  some (some (.int y2), A2))
else
  tz_bI (f_X11_refuse (-5) A1) (fun y2 A2 =>
  some (some (.int y2), A2))) := by
  refine (tz_Fe (L := [some (.ref 17), some (.int x1), some (.int x2)]) rfl).trans ?_
  refine (tz_g_aload_n rfl (tz_in0 rfl)).trans ?_
  refine (tz_g_getr (j := 30) rfl rfl rfl rfl rfl (tz_in0 rfl)).trans ?_
  refine (tz_g_getr (j := 45) rfl rfl rfl rfl rfl (tz_in0 rfl)).trans ?_
  refine (tz_g_iload_n rfl (tz_in0 rfl)).trans ?_
  refine (tz_g_cv1I (m2 := 62) (rc := 4) rfl rfl rfl rfl rfl rfl (by decide) (tz_in0 rfl)).trans ?_
  refine tz_jI (fun y1 A1 => ?_)
  refine (tz_g_if_ne (t := 21) (by decide) (tz_in0 rfl)).trans ?_
  refine tz_cg ?_ ?_
  · skip
    refine (tz_g_iload_n rfl (tz_in0 rfl)).trans ?_
    refine (tz_g_tsw (by decide) (tz_in0 rfl)).trans ?_
    refine tz_swc (v := 0) (by decide) ?_ ?_
    · refine (tz_tg (t := 60) (by decide)).trans ?_
      refine (tz_g_aload_n rfl (tz_in0 rfl)).trans ?_
      refine (tz_g_getr (j := 30) rfl rfl rfl rfl rfl (tz_in0 rfl)).trans ?_
      refine (tz_g_getr (j := 45) rfl rfl rfl rfl rfl (tz_in0 rfl)).trans ?_
      refine (tz_g_getr (j := 46) rfl rfl rfl rfl rfl (tz_in0 rfl)).trans ?_
      refine (tz_g_iload_n rfl (tz_in0 rfl)).trans ?_
      refine (tz_g_iald (n := 12) rfl rfl rfl (tz_in0 rfl)).trans ?_
      refine tz_cn1 ?_
      exact tz_g_ret1 (tz_in0 rfl) rfl
    refine tz_swc (v := 1) (by decide) ?_ ?_
    · refine (tz_tg (t := 73) (by decide)).trans ?_
      refine (tz_g_aload_n rfl (tz_in0 rfl)).trans ?_
      refine (tz_g_getr (j := 30) rfl rfl rfl rfl rfl (tz_in0 rfl)).trans ?_
      refine (tz_g_getr (j := 45) rfl rfl rfl rfl rfl (tz_in0 rfl)).trans ?_
      refine (tz_g_getr (j := 47) rfl rfl rfl rfl rfl (tz_in0 rfl)).trans ?_
      refine (tz_g_iload_n rfl (tz_in0 rfl)).trans ?_
      refine (tz_g_iald (n := 12) rfl rfl rfl (tz_in0 rfl)).trans ?_
      refine tz_cn1 ?_
      exact tz_g_ret1 (tz_in0 rfl) rfl
    refine tz_swc (v := 2) (by decide) ?_ ?_
    · refine (tz_tg (t := 86) (by decide)).trans ?_
      refine (tz_g_aload_n rfl (tz_in0 rfl)).trans ?_
      refine (tz_g_getr (j := 30) rfl rfl rfl rfl rfl (tz_in0 rfl)).trans ?_
      refine (tz_g_getr (j := 45) rfl rfl rfl rfl rfl (tz_in0 rfl)).trans ?_
      refine (tz_g_getr (j := 48) rfl rfl rfl rfl rfl (tz_in0 rfl)).trans ?_
      refine (tz_g_iload_n rfl (tz_in0 rfl)).trans ?_
      refine (tz_g_iald (n := 12) rfl rfl rfl (tz_in0 rfl)).trans ?_
      refine tz_cn1 ?_
      exact tz_g_ret1 (tz_in0 rfl) rfl
    refine tz_swc (v := 3) (by decide) ?_ ?_
    · refine (tz_tg (t := 99) (by decide)).trans ?_
      refine (tz_g_aload_n rfl (tz_in0 rfl)).trans ?_
      refine (tz_g_getr (j := 30) rfl rfl rfl rfl rfl (tz_in0 rfl)).trans ?_
      refine (tz_g_getr (j := 45) rfl rfl rfl rfl rfl (tz_in0 rfl)).trans ?_
      refine (tz_g_getr (j := 49) rfl rfl rfl rfl rfl (tz_in0 rfl)).trans ?_
      refine (tz_g_iload_n rfl (tz_in0 rfl)).trans ?_
      refine (tz_g_iald (n := 12) rfl rfl rfl (tz_in0 rfl)).trans ?_
      refine tz_cn1 ?_
      exact tz_g_ret1 (tz_in0 rfl) rfl
    refine tz_swc (v := 4) (by decide) ?_ ?_
    · refine (tz_tg (t := 112) (by decide)).trans ?_
      refine (tz_g_aload_n rfl (tz_in0 rfl)).trans ?_
      refine (tz_g_getr (j := 30) rfl rfl rfl rfl rfl (tz_in0 rfl)).trans ?_
      refine (tz_g_getr (j := 45) rfl rfl rfl rfl rfl (tz_in0 rfl)).trans ?_
      refine (tz_g_getr (j := 50) rfl rfl rfl rfl rfl (tz_in0 rfl)).trans ?_
      refine (tz_g_iload_n rfl (tz_in0 rfl)).trans ?_
      refine (tz_g_iald (n := 12) rfl rfl rfl (tz_in0 rfl)).trans ?_
      refine tz_cn1 ?_
      exact tz_g_ret1 (tz_in0 rfl) rfl
    refine tz_swc (v := 5) (by decide) ?_ ?_
    · refine (tz_tg (t := 125) (by decide)).trans ?_
      refine (tz_g_aload_n rfl (tz_in0 rfl)).trans ?_
      refine (tz_g_getr (j := 30) rfl rfl rfl rfl rfl (tz_in0 rfl)).trans ?_
      refine (tz_g_getr (j := 45) rfl rfl rfl rfl rfl (tz_in0 rfl)).trans ?_
      refine (tz_g_getr (j := 51) rfl rfl rfl rfl rfl (tz_in0 rfl)).trans ?_
      refine (tz_g_iload_n rfl (tz_in0 rfl)).trans ?_
      refine (tz_g_iald (n := 12) rfl rfl rfl (tz_in0 rfl)).trans ?_
      refine tz_cn1 ?_
      exact tz_g_ret1 (tz_in0 rfl) rfl
    refine tz_swd ?_
    refine (tz_tg (t := 138) (by decide)).trans ?_
    refine (tz_g_aload_n rfl (tz_in0 rfl)).trans ?_
    refine (tz_g_bipush (v := (-5)) rfl (tz_in0 rfl)).trans ?_
    refine (tz_g_cv1I (m2 := 15) (rc := 1) rfl rfl rfl rfl rfl rfl (by decide) (tz_in0 rfl)).trans ?_
    refine tz_jI (fun y2 A2 => ?_)
    exact tz_g_ret1 (tz_in0 rfl) rfl
  · skip
    refine (tz_g_aload_n rfl (tz_in0 rfl)).trans ?_
    refine (tz_g_bipush (v := (-5)) rfl (tz_in0 rfl)).trans ?_
    refine (tz_g_cv1I (m2 := 15) (rc := 1) rfl rfl rfl rfl rfl rfl (by decide) (tz_in0 rfl)).trans ?_
    refine tz_jI (fun y2 A2 => ?_)
    exact tz_g_ret1 (tz_in0 rfl) rfl

theorem e_X3_keptWord (b : Nat) (x1 : Int32) (x2 : Int32) (hb : tz_sky b) (A : tz_Mem) : f_X3_keptWord b x1 x2 A =
  if x1 < 0 ∨ 8 ≤ (Int32.toNatClampNeg x1) then none else
tz_bI (f_X3_countKept b x1 A) (fun y1 A1 =>
if ((x1 * 8) + ((((tz_g A (b + 5) (Int32.toNatClampNeg x1)) - y1) + x2) &&& 7)) < 0 ∨ 64 ≤ (Int32.toNatClampNeg ((x1 * 8) + ((((tz_g A (b + 5) (Int32.toNatClampNeg x1)) - y1) + x2) &&& 7))) then none else
some (some (.int (tz_g A1 (b + 6) (Int32.toNatClampNeg ((x1 * 8) + ((((tz_g A (b + 5) (Int32.toNatClampNeg x1)) - y1) + x2) &&& 7))))), A1)) := by
  obtain rfl | rfl | rfl | rfl | rfl := hb
  all_goals
    refine (tz_Fe (L := [some (.ref _), some (.int x1), some (.int x2), none]) rfl).trans ?_
    refine (tz_g_aload_n rfl (tz_in0 rfl)).trans ?_
    refine (tz_g_getr (j := _) rfl rfl rfl rfl rfl (tz_in0 rfl)).trans ?_
    refine (tz_g_iload_n rfl (tz_in0 rfl)).trans ?_
    refine (tz_g_iald (n := 8) rfl rfl rfl (tz_in0 rfl)).trans ?_
    refine tz_cn1 ?_
    refine (tz_g_aload_n rfl (tz_in0 rfl)).trans ?_
    refine (tz_g_iload_n rfl (tz_in0 rfl)).trans ?_
    refine (tz_g_cv1I (m2 := 64) (rc := 1) rfl rfl rfl rfl rfl rfl (by decide) (tz_in0 rfl)).trans ?_
    refine tz_jI (fun y1 A1 => ?_)
    refine (tz_g_isub (tz_in0 rfl)).trans ?_
    refine (tz_g_iload_n rfl (tz_in0 rfl)).trans ?_
    refine (tz_g_iadd (tz_in0 rfl)).trans ?_
    refine (tz_g_istore_n (L2 := [some (.ref _), some (.int x1), some (.int x2), some (.int _)]) rfl rfl (tz_in0 rfl)).trans ?_
    refine (tz_g_aload_n rfl (tz_in0 rfl)).trans ?_
    refine (tz_g_getr (j := _) rfl rfl rfl rfl rfl (tz_in0 rfl)).trans ?_
    refine (tz_g_iload_n rfl (tz_in0 rfl)).trans ?_
    refine (tz_g_bipush (v := 8) rfl (tz_in0 rfl)).trans ?_
    refine (tz_g_imul (tz_in0 rfl)).trans ?_
    refine (tz_g_iload_n rfl (tz_in0 rfl)).trans ?_
    refine (tz_g_bipush (v := 7) rfl (tz_in0 rfl)).trans ?_
    refine (tz_g_iand (tz_in0 rfl)).trans ?_
    refine (tz_g_iadd (tz_in0 rfl)).trans ?_
    refine (tz_g_iald (n := 64) rfl rfl rfl (tz_in0 rfl)).trans ?_
    refine tz_cn1 ?_
    exact tz_g_ret1 (tz_in0 rfl) rfl

theorem e_X9_become (b : Nat) (b2 : Nat) (hb : tz_sky b) (hb2 : tz_sky b2) (A : tz_Mem) : f_X9_become b b2 A =
  tz_bV (f_X3_become b b2 A) (fun A1 =>
tz_bV (f_X10_become b b2 A1) (fun A2 =>
tz_bV (f_X4_become b b2 A2) (fun A3 =>
some (none, (tz_sr (tz_s (tz_s (tz_s (tz_s A3 b 3 (tz_g A3 b2 3)) b 4 (tz_g (tz_s A3 b 3 (tz_g A3 b2 3)) b2 4)) b 5 (tz_g (tz_s (tz_s A3 b 3 (tz_g A3 b2 3)) b 4 (tz_g (tz_s A3 b 3 (tz_g A3 b2 3)) b2 4)) b2 5)) b 6 (-1)) b 7 0))))) := by
  obtain rfl | rfl | rfl | rfl | rfl := hb
  all_goals obtain rfl | rfl | rfl | rfl | rfl := hb2
  all_goals
    refine (tz_Fe (L := [some (.ref _), some (.ref _)]) rfl).trans ?_
    refine (tz_g_aload_n rfl (tz_in0 rfl)).trans ?_
    refine (tz_g_getr (j := _) rfl rfl rfl rfl rfl (tz_in0 rfl)).trans ?_
    refine (tz_g_aload_n rfl (tz_in0 rfl)).trans ?_
    refine (tz_g_getr (j := _) rfl rfl rfl rfl rfl (tz_in0 rfl)).trans ?_
    refine (tz_g_cv1V (m2 := 69) (rc := 0) rfl rfl rfl rfl rfl rfl (by decide) (tz_in0 rfl)).trans ?_
    refine tz_jV (fun A1 => ?_)
    refine (tz_g_aload_n rfl (tz_in0 rfl)).trans ?_
    refine (tz_g_getr (j := _) rfl rfl rfl rfl rfl (tz_in0 rfl)).trans ?_
    refine (tz_g_aload_n rfl (tz_in0 rfl)).trans ?_
    refine (tz_g_getr (j := _) rfl rfl rfl rfl rfl (tz_in0 rfl)).trans ?_
    refine (tz_g_cv1V (m2 := 70) (rc := 0) rfl rfl rfl rfl rfl rfl (by decide) (tz_in0 rfl)).trans ?_
    refine tz_jV (fun A2 => ?_)
    refine (tz_g_aload_n rfl (tz_in0 rfl)).trans ?_
    refine (tz_g_getr (j := _) rfl rfl rfl rfl rfl (tz_in0 rfl)).trans ?_
    refine (tz_g_aload_n rfl (tz_in0 rfl)).trans ?_
    refine (tz_g_getr (j := _) rfl rfl rfl rfl rfl (tz_in0 rfl)).trans ?_
    refine (tz_g_cv1V (m2 := 71) (rc := 0) rfl rfl rfl rfl rfl rfl (by decide) (tz_in0 rfl)).trans ?_
    refine tz_jV (fun A3 => ?_)
    refine (tz_g_aload_n rfl (tz_in0 rfl)).trans ?_
    refine (tz_g_aload_n rfl (tz_in0 rfl)).trans ?_
    refine (tz_g_geti rfl rfl rfl (tz_in0 rfl)).trans ?_
    refine (tz_g_puti rfl rfl rfl (tz_in0 rfl)).trans ?_
    refine (tz_g_aload_n rfl (tz_in0 rfl)).trans ?_
    refine (tz_g_aload_n rfl (tz_in0 rfl)).trans ?_
    refine (tz_g_geti rfl rfl rfl (tz_in0 rfl)).trans ?_
    refine (tz_g_puti rfl rfl rfl (tz_in0 rfl)).trans ?_
    refine (tz_g_aload_n rfl (tz_in0 rfl)).trans ?_
    refine (tz_g_aload_n rfl (tz_in0 rfl)).trans ?_
    refine (tz_g_geti rfl rfl rfl (tz_in0 rfl)).trans ?_
    refine (tz_g_puti rfl rfl rfl (tz_in0 rfl)).trans ?_
    refine (tz_g_aload_n rfl (tz_in0 rfl)).trans ?_
    refine (tz_g_iconst (v := (-1)) rfl (tz_in0 rfl)).trans ?_
    refine (tz_g_puti rfl rfl rfl (tz_in0 rfl)).trans ?_
    refine (tz_g_aload_n rfl (tz_in0 rfl)).trans ?_
    refine (tz_g_null (tz_in0 rfl)).trans ?_
    refine (tz_g_putn rfl rfl rfl (tz_in0 rfl)).trans ?_
    exact tz_g_ret0 (tz_in0 rfl) rfl

theorem e_J0_length_s5 (A : tz_Mem) : f_J0_length_s5 A =
  tz_bI (f_J0_coder_s5 A) (fun y1 A1 =>
some (some (.int (4 >>> (y1 &&& 31))), A1)) := by
  refine (tz_Fe (L := [some (.ref 5)]) rfl).trans ?_
  refine (tz_g_aload_n rfl (tz_in0 rfl)).trans ?_
  refine (tz_g_getr (j := 11) rfl rfl rfl rfl rfl (tz_in0 rfl)).trans ?_
  refine (tz_g_alen (v := 4) rfl rfl (tz_in0 rfl)).trans ?_
  refine (tz_g_aload_n rfl (tz_in0 rfl)).trans ?_
  refine (tz_g_cv0I (m2 := 77) (rc := 6) rfl rfl rfl rfl rfl rfl (by decide) (tz_in0 rfl)).trans ?_
  refine tz_jI (fun y1 A1 => ?_)
  refine (tz_g_ishr (tz_in0 rfl)).trans ?_
  exact tz_g_ret1 (tz_in0 rfl) rfl

theorem e_J0_length_s6 (A : tz_Mem) : f_J0_length_s6 A =
  tz_bI (f_J0_coder_s6 A) (fun y1 A1 =>
some (some (.int (5 >>> (y1 &&& 31))), A1)) := by
  refine (tz_Fe (L := [some (.ref 6)]) rfl).trans ?_
  refine (tz_g_aload_n rfl (tz_in0 rfl)).trans ?_
  refine (tz_g_getr (j := 12) rfl rfl rfl rfl rfl (tz_in0 rfl)).trans ?_
  refine (tz_g_alen (v := 5) rfl rfl (tz_in0 rfl)).trans ?_
  refine (tz_g_aload_n rfl (tz_in0 rfl)).trans ?_
  refine (tz_g_cv0I (m2 := 77) (rc := 6) rfl rfl rfl rfl rfl rfl (by decide) (tz_in0 rfl)).trans ?_
  refine tz_jI (fun y1 A1 => ?_)
  refine (tz_g_ishr (tz_in0 rfl)).trans ?_
  exact tz_g_ret1 (tz_in0 rfl) rfl

theorem e_J0_length_s7 (A : tz_Mem) : f_J0_length_s7 A =
  tz_bI (f_J0_coder_s7 A) (fun y1 A1 =>
some (some (.int (6 >>> (y1 &&& 31))), A1)) := by
  refine (tz_Fe (L := [some (.ref 7)]) rfl).trans ?_
  refine (tz_g_aload_n rfl (tz_in0 rfl)).trans ?_
  refine (tz_g_getr (j := 13) rfl rfl rfl rfl rfl (tz_in0 rfl)).trans ?_
  refine (tz_g_alen (v := 6) rfl rfl (tz_in0 rfl)).trans ?_
  refine (tz_g_aload_n rfl (tz_in0 rfl)).trans ?_
  refine (tz_g_cv0I (m2 := 77) (rc := 6) rfl rfl rfl rfl rfl rfl (by decide) (tz_in0 rfl)).trans ?_
  refine tz_jI (fun y1 A1 => ?_)
  refine (tz_g_ishr (tz_in0 rfl)).trans ?_
  exact tz_g_ret1 (tz_in0 rfl) rfl

theorem e_J0_length_s8 (A : tz_Mem) : f_J0_length_s8 A =
  tz_bI (f_J0_coder_s8 A) (fun y1 A1 =>
some (some (.int (4 >>> (y1 &&& 31))), A1)) := by
  refine (tz_Fe (L := [some (.ref 8)]) rfl).trans ?_
  refine (tz_g_aload_n rfl (tz_in0 rfl)).trans ?_
  refine (tz_g_getr (j := 14) rfl rfl rfl rfl rfl (tz_in0 rfl)).trans ?_
  refine (tz_g_alen (v := 4) rfl rfl (tz_in0 rfl)).trans ?_
  refine (tz_g_aload_n rfl (tz_in0 rfl)).trans ?_
  refine (tz_g_cv0I (m2 := 77) (rc := 6) rfl rfl rfl rfl rfl rfl (by decide) (tz_in0 rfl)).trans ?_
  refine tz_jI (fun y1 A1 => ?_)
  refine (tz_g_ishr (tz_in0 rfl)).trans ?_
  exact tz_g_ret1 (tz_in0 rfl) rfl

theorem e_J0_length_s9 (A : tz_Mem) : f_J0_length_s9 A =
  tz_bI (f_J0_coder_s9 A) (fun y1 A1 =>
some (some (.int (4 >>> (y1 &&& 31))), A1)) := by
  refine (tz_Fe (L := [some (.ref 9)]) rfl).trans ?_
  refine (tz_g_aload_n rfl (tz_in0 rfl)).trans ?_
  refine (tz_g_getr (j := 15) rfl rfl rfl rfl rfl (tz_in0 rfl)).trans ?_
  refine (tz_g_alen (v := 4) rfl rfl (tz_in0 rfl)).trans ?_
  refine (tz_g_aload_n rfl (tz_in0 rfl)).trans ?_
  refine (tz_g_cv0I (m2 := 77) (rc := 6) rfl rfl rfl rfl rfl rfl (by decide) (tz_in0 rfl)).trans ?_
  refine tz_jI (fun y1 A1 => ?_)
  refine (tz_g_ishr (tz_in0 rfl)).trans ?_
  exact tz_g_ret1 (tz_in0 rfl) rfl

theorem e_J0_length_s10 (A : tz_Mem) : f_J0_length_s10 A =
  tz_bI (f_J0_coder_s10 A) (fun y1 A1 =>
some (some (.int (3 >>> (y1 &&& 31))), A1)) := by
  refine (tz_Fe (L := [some (.ref 10)]) rfl).trans ?_
  refine (tz_g_aload_n rfl (tz_in0 rfl)).trans ?_
  refine (tz_g_getr (j := 16) rfl rfl rfl rfl rfl (tz_in0 rfl)).trans ?_
  refine (tz_g_alen (v := 3) rfl rfl (tz_in0 rfl)).trans ?_
  refine (tz_g_aload_n rfl (tz_in0 rfl)).trans ?_
  refine (tz_g_cv0I (m2 := 77) (rc := 6) rfl rfl rfl rfl rfl rfl (by decide) (tz_in0 rfl)).trans ?_
  refine tz_jI (fun y1 A1 => ?_)
  refine (tz_g_ishr (tz_in0 rfl)).trans ?_
  exact tz_g_ret1 (tz_in0 rfl) rfl

theorem e_J0_checkIndex (x1 : Int32) (x2 : Int32) (A : tz_Mem) : f_J0_checkIndex x1 x2 A =
  tz_bI (f_J3_checkIndex x1 x2 A) (fun y1 A1 =>
some (none, A1)) := by
  refine (tz_Fe (L := [some (.int x1), some (.int x2)]) rfl).trans ?_
  refine (tz_g_iload_n rfl (tz_in0 rfl)).trans ?_
  refine (tz_g_iload_n rfl (tz_in0 rfl)).trans ?_
  refine (tz_g_gets2 rfl (tz_in0 rfl)).trans ?_
  refine (tz_g_cs3I (m2 := 82) (rc := 1) rfl rfl rfl rfl rfl rfl (by decide) (tz_in0 rfl)).trans ?_
  refine tz_jI (fun y1 A1 => ?_)
  refine (tz_g_pop rfl (tz_in0 rfl)).trans ?_
  exact tz_g_ret0 (tz_in0 rfl) rfl

theorem e_X7_hasRoomFor (x1 : Int32) (A : tz_Mem) : f_X7_hasRoomFor x1 A =
  if x1 = 0 then
  tz_bI (f_X3_isFull 124 A) (fun y1 A1 =>
  if ¬ y1 = 0 then
    some (some (.int 0), A1)
  else
    some (some (.int 1), A1))
else if x1 = 1 then
  tz_bI (f_X10_isFull 124 A) (fun y1 A1 =>
  if ¬ y1 = 0 then
    some (some (.int 0), A1)
  else
    some (some (.int 1), A1))
else if x1 = 2 then
  tz_bI (f_X4_isFull 124 A) (fun y1 A1 =>
  if ¬ y1 = 0 then
    some (some (.int 0), A1)
  else
    some (some (.int 1), A1))
else some (some (.int 1), A) := by
  refine (tz_Fe (L := [some (.ref 122), some (.int x1)]) rfl).trans ?_
  refine (tz_g_iload_n rfl (tz_in0 rfl)).trans ?_
  refine (tz_g_tsw (by decide) (tz_in0 rfl)).trans ?_
  refine tz_swc (v := 0) (by decide) ?_ ?_
  · refine (tz_tg (t := 28) (by decide)).trans ?_
    refine (tz_g_aload_n rfl (tz_in0 rfl)).trans ?_
    refine (tz_g_getr (j := 124) rfl rfl rfl rfl rfl (tz_in0 rfl)).trans ?_
    refine (tz_g_getr (j := 125) rfl rfl rfl rfl rfl (tz_in0 rfl)).trans ?_
    refine (tz_g_cv0I (m2 := 38) (rc := 4) rfl rfl rfl rfl rfl rfl (by decide) (tz_in0 rfl)).trans ?_
    refine tz_jI (fun y1 A1 => ?_)
    refine (tz_g_if_ne (t := 45) (by decide) (tz_in0 rfl)).trans ?_
    refine tz_cg ?_ ?_
    · skip
      refine (tz_g_iconst (v := 0) rfl (tz_in0 rfl)).trans ?_
      exact tz_g_ret4K (by decide) (tz_in0 rfl) rfl
    · skip
      refine (tz_g_iconst (v := 1) rfl (tz_in0 rfl)).trans ?_
      refine (tz_g_goto (t := 46) (by decide) (tz_in0 rfl)).trans ?_
      exact tz_g_ret4K (by decide) (tz_in0 rfl) rfl
  refine tz_swc (v := 1) (by decide) ?_ ?_
  · refine (tz_tg (t := 47) (by decide)).trans ?_
    refine (tz_g_aload_n rfl (tz_in0 rfl)).trans ?_
    refine (tz_g_getr (j := 124) rfl rfl rfl rfl rfl (tz_in0 rfl)).trans ?_
    refine (tz_g_getr (j := 131) rfl rfl rfl rfl rfl (tz_in0 rfl)).trans ?_
    refine (tz_g_cv0I (m2 := 45) (rc := 4) rfl rfl rfl rfl rfl rfl (by decide) (tz_in0 rfl)).trans ?_
    refine tz_jI (fun y1 A1 => ?_)
    refine (tz_g_if_ne (t := 64) (by decide) (tz_in0 rfl)).trans ?_
    refine tz_cg ?_ ?_
    · skip
      refine (tz_g_iconst (v := 0) rfl (tz_in0 rfl)).trans ?_
      exact tz_g_ret4K (by decide) (tz_in0 rfl) rfl
    · skip
      refine (tz_g_iconst (v := 1) rfl (tz_in0 rfl)).trans ?_
      refine (tz_g_goto (t := 65) (by decide) (tz_in0 rfl)).trans ?_
      exact tz_g_ret4K (by decide) (tz_in0 rfl) rfl
  refine tz_swc (v := 2) (by decide) ?_ ?_
  · refine (tz_tg (t := 66) (by decide)).trans ?_
    refine (tz_g_aload_n rfl (tz_in0 rfl)).trans ?_
    refine (tz_g_getr (j := 124) rfl rfl rfl rfl rfl (tz_in0 rfl)).trans ?_
    refine (tz_g_getr (j := 139) rfl rfl rfl rfl rfl (tz_in0 rfl)).trans ?_
    refine (tz_g_cv0I (m2 := 51) (rc := 4) rfl rfl rfl rfl rfl rfl (by decide) (tz_in0 rfl)).trans ?_
    refine tz_jI (fun y1 A1 => ?_)
    refine (tz_g_if_ne (t := 83) (by decide) (tz_in0 rfl)).trans ?_
    refine tz_cg ?_ ?_
    · skip
      refine (tz_g_iconst (v := 0) rfl (tz_in0 rfl)).trans ?_
      exact tz_g_ret4K (by decide) (tz_in0 rfl) rfl
    · skip
      refine (tz_g_iconst (v := 1) rfl (tz_in0 rfl)).trans ?_
      refine (tz_g_goto (t := 84) (by decide) (tz_in0 rfl)).trans ?_
      exact tz_g_ret4K (by decide) (tz_in0 rfl) rfl
  refine tz_swd ?_
  refine (tz_tg (t := 85) (by decide)).trans ?_
  refine (tz_g_iconst (v := 1) rfl (tz_in0 rfl)).trans ?_
  exact tz_g_ret4K (by decide) (tz_in0 rfl) rfl

theorem e_X7_readNumber (x1 : Int32) (x2 : Int32) (A : tz_Mem) : f_X7_readNumber x1 x2 A =
  if (tz_g A 122 0) = (-1) then
  tz_bI (f_X7_stands 32 A) (fun y1 A1 =>
  if ¬ y1 = 0 then
    q_X7_readNumber_52 x1 x2 0 0 (tz_s (tz_s A1 122 5 ((tz_g A1 122 5) + 1)) 122 6 (tz_g (tz_s A1 122 5 ((tz_g A1 122 5) + 1)) 122 5))
  else
    some (some (.int (-1)), (tz_s A1 122 0 (tz_g A1 122 5))))
else
  some (some (.int (-1)), A) := by
  refine (tz_Fe (L := [some (.ref 122), some (.int x1), some (.int x2), none, none]) rfl).trans ?_
  refine (tz_g_aload_n rfl (tz_in0 rfl)).trans ?_
  refine (tz_g_geti rfl rfl rfl (tz_in0 rfl)).trans ?_
  refine (tz_g_iconst (v := (-1)) rfl (tz_in0 rfl)).trans ?_
  refine (tz_g_ic_eq (t := 10) (by decide) (tz_in0 rfl)).trans ?_
  refine tz_cg ?_ ?_
  · skip
    refine (tz_g_aload_n rfl (tz_in0 rfl)).trans ?_
    refine (tz_g_bipush (v := 32) rfl (tz_in0 rfl)).trans ?_
    refine (tz_g_cv1I (m2 := 86) (rc := 4) rfl rfl rfl rfl rfl rfl (by decide) (tz_in0 rfl)).trans ?_
    refine tz_jI (fun y1 A1 => ?_)
    refine (tz_g_if_ne (t := 29) (by decide) (tz_in0 rfl)).trans ?_
    refine tz_cg ?_ ?_
    · skip
      refine (tz_g_aload_n rfl (tz_in0 rfl)).trans ?_
      refine (tz_g_dup rfl (tz_in0 rfl)).trans ?_
      refine (tz_g_geti rfl rfl rfl (tz_in0 rfl)).trans ?_
      refine (tz_g_iconst (v := 1) rfl (tz_in0 rfl)).trans ?_
      refine (tz_g_iadd (tz_in0 rfl)).trans ?_
      refine (tz_g_puti rfl rfl rfl (tz_in0 rfl)).trans ?_
      refine (tz_g_aload_n rfl (tz_in0 rfl)).trans ?_
      refine (tz_g_aload_n rfl (tz_in0 rfl)).trans ?_
      refine (tz_g_geti rfl rfl rfl (tz_in0 rfl)).trans ?_
      refine (tz_g_puti rfl rfl rfl (tz_in0 rfl)).trans ?_
      refine (tz_g_iconst (v := 0) rfl (tz_in0 rfl)).trans ?_
      refine (tz_g_istore_n (L2 := [some (.ref 122), some (.int x1), some (.int x2), some (.int 0), none]) rfl rfl (tz_in0 rfl)).trans ?_
      refine (tz_g_iconst (v := 0) rfl (tz_in0 rfl)).trans ?_
      refine (tz_g_istore (L2 := [some (.ref 122), some (.int x1), some (.int x2), some (.int 0), some (.int 0)]) rfl rfl (tz_in0 rfl)).trans ?_
      exact tz_Gm (L2 := [some (.ref 122), some (.int x1), some (.int x2), some (.int 0), some (.int 0)]) rfl rfl rfl rfl
    · skip
      refine (tz_g_aload_n rfl (tz_in0 rfl)).trans ?_
      refine (tz_g_aload_n rfl (tz_in0 rfl)).trans ?_
      refine (tz_g_geti rfl rfl rfl (tz_in0 rfl)).trans ?_
      refine (tz_g_puti rfl rfl rfl (tz_in0 rfl)).trans ?_
      refine (tz_g_iconst (v := (-1)) rfl (tz_in0 rfl)).trans ?_
      exact tz_g_ret1 (tz_in0 rfl) rfl
  · skip
    refine (tz_g_iconst (v := (-1)) rfl (tz_in0 rfl)).trans ?_
    exact tz_g_ret1 (tz_in0 rfl) rfl

theorem e_X7_readNumber_52 (z1 : Int32) (z2 : Int32) (z3 : Int32) (z4 : Int32) (A : tz_Mem) : q_X7_readNumber_52 z1 z2 z3 z4 A =
  if 4 ≤ z4 then
  if (tz_g A 122 5) = (tz_g A 122 6) then
    some (some (.int (-1)), (tz_s A 122 0 (tz_g A 122 6)))
  else
    if z3 < z1 then
      some (some (.int (-1)), (tz_s A 122 0 (tz_g A 122 6)))
    else
      if z3 ≤ z2 then
        some (some (.int z3), A)
      else
        some (some (.int (-1)), (tz_s A 122 0 (tz_g A 122 6)))
else
  tz_bI (f_X7_digitStands A) (fun y1 A1 =>
  if y1 = 0 then
    if (tz_g A1 122 5) = (tz_g A1 122 6) then
      some (some (.int (-1)), (tz_s A1 122 0 (tz_g A1 122 6)))
    else
      if z3 < z1 then
        some (some (.int (-1)), (tz_s A1 122 0 (tz_g A1 122 6)))
      else
        if z3 ≤ z2 then
          some (some (.int z3), A1)
        else
          some (some (.int (-1)), (tz_s A1 122 0 (tz_g A1 122 6)))
  else
    if (tz_g A1 122 5) < 0 ∨ 160 ≤ (Int32.toNatClampNeg (tz_g A1 122 5)) then none else
    q_X7_readNumber_52 z1 z2 (((z3 * 10) + (tz_g A1 123 (Int32.toNatClampNeg (tz_g A1 122 5)))) - 48) (z4 + 1) (tz_s A1 122 5 ((tz_g A1 122 5) + 1))) := by
  show tz_Go 85 52 [some (.ref 122), some (.int z1), some (.int z2), some (.int z3), some (.int z4)] [] A = _
  refine (tz_g_iload rfl (tz_inM rfl rfl rfl)).trans ?_
  refine (tz_g_iconst (v := 4) rfl (tz_in0 rfl)).trans ?_
  refine (tz_g_ic_ge (t := 99) (by decide) (tz_in0 rfl)).trans ?_
  refine tz_cg ?_ ?_
  · skip
    refine (tz_g_aload_n rfl (tz_in0 rfl)).trans ?_
    refine (tz_g_geti rfl rfl rfl (tz_in0 rfl)).trans ?_
    refine (tz_g_aload_n rfl (tz_in0 rfl)).trans ?_
    refine (tz_g_geti rfl rfl rfl (tz_in0 rfl)).trans ?_
    refine (tz_g_ic_eq (t := 120) (by decide) (tz_in0 rfl)).trans ?_
    refine tz_cg ?_ ?_
    · skip
      refine (tz_g_aload_n rfl (tz_in0 rfl)).trans ?_
      refine (tz_g_aload_n rfl (tz_in0 rfl)).trans ?_
      refine (tz_g_geti rfl rfl rfl (tz_in0 rfl)).trans ?_
      refine (tz_g_puti rfl rfl rfl (tz_in0 rfl)).trans ?_
      refine (tz_g_iconst (v := (-1)) rfl (tz_in0 rfl)).trans ?_
      exact tz_g_ret1 (tz_in0 rfl) rfl
    · skip
      refine (tz_g_iload_n rfl (tz_in0 rfl)).trans ?_
      refine (tz_g_iload_n rfl (tz_in0 rfl)).trans ?_
      refine (tz_g_ic_lt (t := 120) (by decide) (tz_in0 rfl)).trans ?_
      refine tz_cg ?_ ?_
      · skip
        refine (tz_g_aload_n rfl (tz_in0 rfl)).trans ?_
        refine (tz_g_aload_n rfl (tz_in0 rfl)).trans ?_
        refine (tz_g_geti rfl rfl rfl (tz_in0 rfl)).trans ?_
        refine (tz_g_puti rfl rfl rfl (tz_in0 rfl)).trans ?_
        refine (tz_g_iconst (v := (-1)) rfl (tz_in0 rfl)).trans ?_
        exact tz_g_ret1 (tz_in0 rfl) rfl
      · skip
        refine (tz_g_iload_n rfl (tz_in0 rfl)).trans ?_
        refine (tz_g_iload_n rfl (tz_in0 rfl)).trans ?_
        refine (tz_g_ic_le (t := 130) (by decide) (tz_in0 rfl)).trans ?_
        refine tz_cg ?_ ?_
        · skip
          refine (tz_g_iload_n rfl (tz_in0 rfl)).trans ?_
          exact tz_g_ret1 (tz_in0 rfl) rfl
        · skip
          refine (tz_g_aload_n rfl (tz_in0 rfl)).trans ?_
          refine (tz_g_aload_n rfl (tz_in0 rfl)).trans ?_
          refine (tz_g_geti rfl rfl rfl (tz_in0 rfl)).trans ?_
          refine (tz_g_puti rfl rfl rfl (tz_in0 rfl)).trans ?_
          refine (tz_g_iconst (v := (-1)) rfl (tz_in0 rfl)).trans ?_
          exact tz_g_ret1 (tz_in0 rfl) rfl
  · skip
    refine (tz_g_aload_n rfl (tz_in0 rfl)).trans ?_
    refine (tz_g_cv0I (m2 := 87) (rc := 4) rfl rfl rfl rfl rfl rfl (by decide) (tz_in0 rfl)).trans ?_
    refine tz_jI (fun y1 A1 => ?_)
    refine (tz_g_if_eq (t := 99) (by decide) (tz_in0 rfl)).trans ?_
    refine tz_cg ?_ ?_
    · skip
      refine (tz_g_aload_n rfl (tz_in0 rfl)).trans ?_
      refine (tz_g_geti rfl rfl rfl (tz_in0 rfl)).trans ?_
      refine (tz_g_aload_n rfl (tz_in0 rfl)).trans ?_
      refine (tz_g_geti rfl rfl rfl (tz_in0 rfl)).trans ?_
      refine (tz_g_ic_eq (t := 120) (by decide) (tz_in0 rfl)).trans ?_
      refine tz_cg ?_ ?_
      · skip
        refine (tz_g_aload_n rfl (tz_in0 rfl)).trans ?_
        refine (tz_g_aload_n rfl (tz_in0 rfl)).trans ?_
        refine (tz_g_geti rfl rfl rfl (tz_in0 rfl)).trans ?_
        refine (tz_g_puti rfl rfl rfl (tz_in0 rfl)).trans ?_
        refine (tz_g_iconst (v := (-1)) rfl (tz_in0 rfl)).trans ?_
        exact tz_g_ret1 (tz_in0 rfl) rfl
      · skip
        refine (tz_g_iload_n rfl (tz_in0 rfl)).trans ?_
        refine (tz_g_iload_n rfl (tz_in0 rfl)).trans ?_
        refine (tz_g_ic_lt (t := 120) (by decide) (tz_in0 rfl)).trans ?_
        refine tz_cg ?_ ?_
        · skip
          refine (tz_g_aload_n rfl (tz_in0 rfl)).trans ?_
          refine (tz_g_aload_n rfl (tz_in0 rfl)).trans ?_
          refine (tz_g_geti rfl rfl rfl (tz_in0 rfl)).trans ?_
          refine (tz_g_puti rfl rfl rfl (tz_in0 rfl)).trans ?_
          refine (tz_g_iconst (v := (-1)) rfl (tz_in0 rfl)).trans ?_
          exact tz_g_ret1 (tz_in0 rfl) rfl
        · skip
          refine (tz_g_iload_n rfl (tz_in0 rfl)).trans ?_
          refine (tz_g_iload_n rfl (tz_in0 rfl)).trans ?_
          refine (tz_g_ic_le (t := 130) (by decide) (tz_in0 rfl)).trans ?_
          refine tz_cg ?_ ?_
          · skip
            refine (tz_g_iload_n rfl (tz_in0 rfl)).trans ?_
            exact tz_g_ret1 (tz_in0 rfl) rfl
          · skip
            refine (tz_g_aload_n rfl (tz_in0 rfl)).trans ?_
            refine (tz_g_aload_n rfl (tz_in0 rfl)).trans ?_
            refine (tz_g_geti rfl rfl rfl (tz_in0 rfl)).trans ?_
            refine (tz_g_puti rfl rfl rfl (tz_in0 rfl)).trans ?_
            refine (tz_g_iconst (v := (-1)) rfl (tz_in0 rfl)).trans ?_
            exact tz_g_ret1 (tz_in0 rfl) rfl
    · skip
      refine (tz_g_iload_n rfl (tz_in0 rfl)).trans ?_
      refine (tz_g_bipush (v := 10) rfl (tz_in0 rfl)).trans ?_
      refine (tz_g_imul (tz_in0 rfl)).trans ?_
      refine (tz_g_aload_n rfl (tz_in0 rfl)).trans ?_
      refine (tz_g_getr (j := 123) rfl rfl rfl rfl rfl (tz_in0 rfl)).trans ?_
      refine (tz_g_aload_n rfl (tz_in0 rfl)).trans ?_
      refine (tz_g_geti rfl rfl rfl (tz_in0 rfl)).trans ?_
      refine (tz_g_iald (n := 160) rfl rfl rfl (tz_in0 rfl)).trans ?_
      refine tz_cn1 ?_
      refine (tz_g_iadd (tz_in0 rfl)).trans ?_
      refine (tz_g_bipush (v := 48) rfl (tz_in0 rfl)).trans ?_
      refine (tz_g_isub (tz_in0 rfl)).trans ?_
      refine (tz_g_istore_n (L2 := [some (.ref 122), some (.int z1), some (.int z2), some (.int (((z3 * 10) + (tz_g A1 123 (Int32.toNatClampNeg (tz_g A1 122 5)))) - 48)), some (.int z4)]) rfl rfl (tz_in0 rfl)).trans ?_
      refine (tz_g_aload_n rfl (tz_in0 rfl)).trans ?_
      refine (tz_g_dup rfl (tz_in0 rfl)).trans ?_
      refine (tz_g_geti rfl rfl rfl (tz_in0 rfl)).trans ?_
      refine (tz_g_iconst (v := 1) rfl (tz_in0 rfl)).trans ?_
      refine (tz_g_iadd (tz_in0 rfl)).trans ?_
      refine (tz_g_puti rfl rfl rfl (tz_in0 rfl)).trans ?_
      refine (tz_g_iinc (v := 1) (L2 := [some (.ref 122), some (.int z1), some (.int z2), some (.int (((z3 * 10) + (tz_g A1 123 (Int32.toNatClampNeg (tz_g A1 122 5)))) - 48)), some (.int (z4 + 1))]) rfl rfl rfl rfl (tz_in0 rfl)).trans ?_
      refine (tz_g_goto (t := 52) (by decide) (tz_in0 rfl)).trans ?_
      exact tz_Gm (L2 := [some (.ref 122), some (.int z1), some (.int z2), some (.int (((z3 * 10) + (tz_g A1 123 (Int32.toNatClampNeg (tz_g A1 122 5)))) - 48)), some (.int (z4 + 1))]) rfl rfl rfl rfl

theorem e_X5_listen (x1 : Int32) (x2 : Int32) (x3 : Int32) (x4 : Int32) (A : tz_Mem) : f_X5_listen x1 x2 x3 x4 A =
  if x2 = (tz_g A 151 3) then
  q_X5_listen_12 x3 x4 0 A
else
  some (none, A) := by
  refine (tz_Fe (L := [some (.ref 151), some (.int x1), some (.int x2), some (.int x3), some (.int x4), none]) rfl).trans ?_
  refine (tz_g_iload_n rfl (tz_in0 rfl)).trans ?_
  refine (tz_g_aload_n rfl (tz_in0 rfl)).trans ?_
  refine (tz_g_geti rfl rfl rfl (tz_in0 rfl)).trans ?_
  refine (tz_g_ic_eq (t := 9) (by decide) (tz_in0 rfl)).trans ?_
  refine tz_cg ?_ ?_
  · skip
    refine (tz_g_iconst (v := 0) rfl (tz_in0 rfl)).trans ?_
    refine (tz_g_istore (L2 := [some (.ref 151), some (.int x1), some (.int x2), some (.int x3), some (.int x4), some (.int 0)]) rfl rfl (tz_in0 rfl)).trans ?_
    exact tz_Gm (L2 := [some (.ref 151), none, none, some (.int x3), some (.int x4), some (.int 0)]) rfl rfl rfl rfl
  · skip
    exact tz_g_ret0 (tz_in0 rfl) rfl

theorem e_X5_listen_12 (z3 : Int32) (z4 : Int32) (z5 : Int32) (A : tz_Mem) : q_X5_listen_12 z3 z4 z5 A =
  if z4 ≤ z5 then
  some (none, A)
else
  tz_bI (f_X5_listens A) (fun y1 A1 =>
  if y1 = 0 then
    some (none, A1)
  else
    if (tz_g A1 151 0) < 0 ∨ 40 ≤ (Int32.toNatClampNeg (tz_g A1 151 0)) then none else
    if ¬ (tz_g A1 152 (Int32.toNatClampNeg (tz_g A1 151 0))) = z3 then
      q_X5_listen_12 z3 z4 (z5 + 1) (tz_s A1 151 4 1)
    else
      q_X5_listen_12 z3 z4 (z5 + 1) (tz_s A1 151 0 ((tz_g A1 151 0) + 1))) := by
  show tz_Go 100 12 [some (.ref 151), none, none, some (.int z3), some (.int z4), some (.int z5)] [] A = _
  refine (tz_g_iload rfl (tz_inM rfl rfl rfl)).trans ?_
  refine (tz_g_iload rfl (tz_in0 rfl)).trans ?_
  refine (tz_g_ic_ge (t := 63) (by decide) (tz_in0 rfl)).trans ?_
  refine tz_cg ?_ ?_
  · skip
    exact tz_g_ret0 (tz_in0 rfl) rfl
  · skip
    refine (tz_g_aload_n rfl (tz_in0 rfl)).trans ?_
    refine (tz_g_cv0I (m2 := 101) (rc := 4) rfl rfl rfl rfl rfl rfl (by decide) (tz_in0 rfl)).trans ?_
    refine tz_jI (fun y1 A1 => ?_)
    refine (tz_g_if_eq (t := 63) (by decide) (tz_in0 rfl)).trans ?_
    refine tz_cg ?_ ?_
    · skip
      exact tz_g_ret0 (tz_in0 rfl) rfl
    · skip
      refine (tz_g_aload_n rfl (tz_in0 rfl)).trans ?_
      refine (tz_g_getr (j := 152) rfl rfl rfl rfl rfl (tz_in0 rfl)).trans ?_
      refine (tz_g_aload_n rfl (tz_in0 rfl)).trans ?_
      refine (tz_g_geti rfl rfl rfl (tz_in0 rfl)).trans ?_
      refine (tz_g_iald (n := 40) rfl rfl rfl (tz_in0 rfl)).trans ?_
      refine tz_cn1 ?_
      refine (tz_g_iload_n rfl (tz_in0 rfl)).trans ?_
      refine (tz_g_ic_ne (t := 52) (by decide) (tz_in0 rfl)).trans ?_
      refine tz_cg ?_ ?_
      · skip
        refine (tz_g_aload_n rfl (tz_in0 rfl)).trans ?_
        refine (tz_g_iconst (v := 1) rfl (tz_in0 rfl)).trans ?_
        refine (tz_g_putz rfl rfl rfl (by decide) (tz_in0 rfl)).trans ?_
        refine (tz_g_iinc (v := 1) (L2 := [some (.ref 151), none, none, some (.int z3), some (.int z4), some (.int (z5 + 1))]) rfl rfl rfl rfl (tz_in0 rfl)).trans ?_
        refine (tz_g_goto (t := 12) (by decide) (tz_in0 rfl)).trans ?_
        exact tz_Gm (L2 := [some (.ref 151), none, none, some (.int z3), some (.int z4), some (.int (z5 + 1))]) rfl rfl rfl rfl
      · skip
        refine (tz_g_aload_n rfl (tz_in0 rfl)).trans ?_
        refine (tz_g_dup rfl (tz_in0 rfl)).trans ?_
        refine (tz_g_geti rfl rfl rfl (tz_in0 rfl)).trans ?_
        refine (tz_g_iconst (v := 1) rfl (tz_in0 rfl)).trans ?_
        refine (tz_g_iadd (tz_in0 rfl)).trans ?_
        refine (tz_g_puti rfl rfl rfl (tz_in0 rfl)).trans ?_
        refine (tz_g_goto (t := 57) (by decide) (tz_in0 rfl)).trans ?_
        refine (tz_g_iinc (v := 1) (L2 := [some (.ref 151), none, none, some (.int z3), some (.int z4), some (.int (z5 + 1))]) rfl rfl rfl rfl (tz_in0 rfl)).trans ?_
        refine (tz_g_goto (t := 12) (by decide) (tz_in0 rfl)).trans ?_
        exact tz_Gm (L2 := [some (.ref 151), none, none, some (.int z3), some (.int z4), some (.int (z5 + 1))]) rfl rfl rfl rfl

theorem e_X7_goesOn (A : tz_Mem) : f_X7_goesOn A =
  if ¬ (tz_g A 122 0) = (-1) then
  some (some (.int 0), A)
else
  if (tz_g A 122 5) < (tz_g A 122 4) then
    tz_bI (f_X7_stands 59 A) (fun y1 A1 =>
    if ¬ y1 = 0 then
      some (some (.int 1), (tz_s A1 122 5 ((tz_g A1 122 5) + 1)))
    else
      some (some (.int 0), (tz_s A1 122 0 (tz_g A1 122 5))))
  else
    some (some (.int 0), A) := by
  refine (tz_Fe (L := [some (.ref 122)]) rfl).trans ?_
  refine (tz_g_aload_n rfl (tz_in0 rfl)).trans ?_
  refine (tz_g_geti rfl rfl rfl (tz_in0 rfl)).trans ?_
  refine (tz_g_iconst (v := (-1)) rfl (tz_in0 rfl)).trans ?_
  refine (tz_g_ic_ne (t := 19) (by decide) (tz_in0 rfl)).trans ?_
  refine tz_cg ?_ ?_
  · skip
    refine (tz_g_iconst (v := 0) rfl (tz_in0 rfl)).trans ?_
    exact tz_g_ret4K (by decide) (tz_in0 rfl) rfl
  · skip
    refine (tz_g_aload_n rfl (tz_in0 rfl)).trans ?_
    refine (tz_g_geti rfl rfl rfl (tz_in0 rfl)).trans ?_
    refine (tz_g_aload_n rfl (tz_in0 rfl)).trans ?_
    refine (tz_g_geti rfl rfl rfl (tz_in0 rfl)).trans ?_
    refine (tz_g_ic_lt (t := 21) (by decide) (tz_in0 rfl)).trans ?_
    refine tz_cg ?_ ?_
    · skip
      refine (tz_g_aload_n rfl (tz_in0 rfl)).trans ?_
      refine (tz_g_bipush (v := 59) rfl (tz_in0 rfl)).trans ?_
      refine (tz_g_cv1I (m2 := 86) (rc := 4) rfl rfl rfl rfl rfl rfl (by decide) (tz_in0 rfl)).trans ?_
      refine tz_jI (fun y1 A1 => ?_)
      refine (tz_g_if_ne (t := 40) (by decide) (tz_in0 rfl)).trans ?_
      refine tz_cg ?_ ?_
      · skip
        refine (tz_g_aload_n rfl (tz_in0 rfl)).trans ?_
        refine (tz_g_dup rfl (tz_in0 rfl)).trans ?_
        refine (tz_g_geti rfl rfl rfl (tz_in0 rfl)).trans ?_
        refine (tz_g_iconst (v := 1) rfl (tz_in0 rfl)).trans ?_
        refine (tz_g_iadd (tz_in0 rfl)).trans ?_
        refine (tz_g_puti rfl rfl rfl (tz_in0 rfl)).trans ?_
        refine (tz_g_iconst (v := 1) rfl (tz_in0 rfl)).trans ?_
        exact tz_g_ret4K (by decide) (tz_in0 rfl) rfl
      · skip
        refine (tz_g_aload_n rfl (tz_in0 rfl)).trans ?_
        refine (tz_g_aload_n rfl (tz_in0 rfl)).trans ?_
        refine (tz_g_geti rfl rfl rfl (tz_in0 rfl)).trans ?_
        refine (tz_g_puti rfl rfl rfl (tz_in0 rfl)).trans ?_
        refine (tz_g_iconst (v := 0) rfl (tz_in0 rfl)).trans ?_
        exact tz_g_ret4K (by decide) (tz_in0 rfl) rfl
    · skip
      refine (tz_g_iconst (v := 0) rfl (tz_in0 rfl)).trans ?_
      exact tz_g_ret4K (by decide) (tz_in0 rfl) rfl

theorem e_X11_refuseLower (x1 : Int32) (A : tz_Mem) : f_X11_refuseLower x1 A =
  tz_bI (f_X11_refuse x1 A) (fun y1 A1 =>
some (some (.int (y1 - 10)), A1)) := by
  refine (tz_Fe (L := [some (.ref 17), some (.int x1)]) rfl).trans ?_
  refine (tz_g_aload_n rfl (tz_in0 rfl)).trans ?_
  refine (tz_g_iload_n rfl (tz_in0 rfl)).trans ?_
  refine (tz_g_cv1I (m2 := 15) (rc := 1) rfl rfl rfl rfl rfl rfl (by decide) (tz_in0 rfl)).trans ?_
  refine tz_jI (fun y1 A1 => ?_)
  refine (tz_g_bipush (v := 10) rfl (tz_in0 rfl)).trans ?_
  refine (tz_g_isub (tz_in0 rfl)).trans ?_
  exact tz_g_ret1 (tz_in0 rfl) rfl

theorem e_X10_spread (b : Nat) (x1 : Int32) (x2 : Int32) (hb : tz_sky b) (A : tz_Mem) : f_X10_spread b x1 x2 A =
  q_X10_spread_5 b x2 x1 0 A := by
  obtain rfl | rfl | rfl | rfl | rfl := hb
  all_goals
    refine (tz_Fe (L := [some (.ref _), some (.int x1), some (.int x2), none, none, none, none, none]) rfl).trans ?_
    refine (tz_g_iload_n rfl (tz_in0 rfl)).trans ?_
    refine (tz_g_istore_n (L2 := [some (.ref _), some (.int x1), some (.int x2), some (.int x1), none, none, none, none]) rfl rfl (tz_in0 rfl)).trans ?_
    refine (tz_g_iconst (v := 0) rfl (tz_in0 rfl)).trans ?_
    refine (tz_g_istore (L2 := [some (.ref _), some (.int x1), some (.int x2), some (.int x1), some (.int 0), none, none, none]) rfl rfl (tz_in0 rfl)).trans ?_
    exact tz_Gm (L2 := [some (.ref _), none, some (.int x2), some (.int x1), some (.int 0), none, none, none]) rfl rfl rfl rfl

theorem e_X10_spread_5 (b : Nat) (z2 : Int32) (z3 : Int32) (z4 : Int32) (hb : tz_sky b) (A : tz_Mem) : q_X10_spread_5 b z2 z3 z4 A =
  if (tz_g A (b + 7) 0) ≤ z4 then
  some (some (.int z3), A)
else
  if z4 < 0 ∨ 4 ≤ (Int32.toNatClampNeg z4) then none else
  tz_bI (f_X10_wayHill b z4 ((tz_g A (b + 11) (Int32.toNatClampNeg z4)) - 1) A) (fun y1 A1 =>
  q_X10_spread_34 b z2 z3 z4 y1 0 A1) := by
  obtain rfl | rfl | rfl | rfl | rfl := hb
  all_goals
    show tz_Go 126 5 _ [] A = _
    refine (tz_g_iload rfl (tz_inM rfl rfl rfl)).trans ?_
    refine (tz_g_aload_n rfl (tz_in0 rfl)).trans ?_
    refine (tz_g_geti rfl rfl rfl (tz_in0 rfl)).trans ?_
    refine (tz_g_ic_ge (t := 99) (by decide) (tz_in0 rfl)).trans ?_
    refine tz_cg ?_ ?_
    · skip
      refine (tz_g_iload_n rfl (tz_in0 rfl)).trans ?_
      exact tz_g_ret1 (tz_in0 rfl) rfl
    · skip
      refine (tz_g_aload_n rfl (tz_in0 rfl)).trans ?_
      refine (tz_g_iload rfl (tz_in0 rfl)).trans ?_
      refine (tz_g_aload_n rfl (tz_in0 rfl)).trans ?_
      refine (tz_g_getr (j := _) rfl rfl rfl rfl rfl (tz_in0 rfl)).trans ?_
      refine (tz_g_iload rfl (tz_in0 rfl)).trans ?_
      refine (tz_g_iald (n := 4) rfl rfl rfl (tz_in0 rfl)).trans ?_
      refine tz_cn1 ?_
      refine (tz_g_iconst (v := 1) rfl (tz_in0 rfl)).trans ?_
      refine (tz_g_isub (tz_in0 rfl)).trans ?_
      refine (tz_g_cv2I (m2 := 57) (rc := 1) rfl rfl rfl rfl rfl rfl (by decide) (tz_in0 rfl)).trans ?_
      refine tz_jI (fun y1 A1 => ?_)
      refine (tz_g_istore (L2 := [some (.ref _), none, some (.int z2), some (.int z3), some (.int z4), some (.int y1), none, none]) rfl rfl (tz_in0 rfl)).trans ?_
      refine (tz_g_iconst (v := 0) rfl (tz_in0 rfl)).trans ?_
      refine (tz_g_istore (L2 := [some (.ref _), none, some (.int z2), some (.int z3), some (.int z4), some (.int y1), some (.int 0), none]) rfl rfl (tz_in0 rfl)).trans ?_
      exact tz_Gm (L2 := [some (.ref _), none, some (.int z2), some (.int z3), some (.int z4), some (.int y1), some (.int 0), none]) rfl rfl rfl rfl

theorem e_X10_spread_34 (b : Nat) (z2 : Int32) (z3 : Int32) (z4 : Int32) (z5 : Int32) (z6 : Int32) (hb : tz_sky b) (A : tz_Mem) : q_X10_spread_34 b z2 z3 z4 z5 z6 A =
  if z4 < 0 ∨ 4 ≤ (Int32.toNatClampNeg z4) then none else
if (tz_g A (b + 11) (Int32.toNatClampNeg z4)) ≤ z6 then
  q_X10_spread_5 b z2 z3 (z4 + 1) A
else
  if z4 < 0 ∨ 4 ≤ (Int32.toNatClampNeg z4) then none else
  if (tz_g A (b + 9) (Int32.toNatClampNeg z4)) < z2 then
    q_X10_spread_5 b z2 z3 (z4 + 1) A
  else
    tz_bI (f_X10_wayHill b z4 z6 A) (fun y1 A1 =>
    if (z3 &&& (1 <<< (z5 &&& 31))) = 0 then
      q_X10_spread_34 b z2 z3 z4 y1 (z6 + 1) A1
    else
      q_X10_spread_34 b z2 (z3 ||| (1 <<< (y1 &&& 31))) z4 y1 (z6 + 1) A1) := by
  obtain rfl | rfl | rfl | rfl | rfl := hb
  all_goals
    show tz_Go 126 34 _ [] A = _
    refine (tz_g_iload rfl (tz_inM rfl rfl rfl)).trans ?_
    refine (tz_g_aload_n rfl (tz_in0 rfl)).trans ?_
    refine (tz_g_getr (j := _) rfl rfl rfl rfl rfl (tz_in0 rfl)).trans ?_
    refine (tz_g_iload rfl (tz_in0 rfl)).trans ?_
    refine (tz_g_iald (n := 4) rfl rfl rfl (tz_in0 rfl)).trans ?_
    refine tz_cn1 ?_
    refine (tz_g_ic_ge (t := 93) (by decide) (tz_in0 rfl)).trans ?_
    refine tz_cg ?_ ?_
    · skip
      refine (tz_g_iinc (v := 1) (L2 := [some (.ref _), none, some (.int z2), some (.int z3), some (.int (z4 + 1)), some (.int z5), some (.int z6), none]) rfl rfl rfl rfl (tz_in0 rfl)).trans ?_
      refine (tz_g_goto (t := 5) (by decide) (tz_in0 rfl)).trans ?_
      exact tz_Gm (L2 := [some (.ref _), none, some (.int z2), some (.int z3), some (.int (z4 + 1)), none, none, none]) rfl rfl rfl rfl
    · skip
      refine (tz_g_aload_n rfl (tz_in0 rfl)).trans ?_
      refine (tz_g_getr (j := _) rfl rfl rfl rfl rfl (tz_in0 rfl)).trans ?_
      refine (tz_g_iload rfl (tz_in0 rfl)).trans ?_
      refine (tz_g_iald (n := 4) rfl rfl rfl (tz_in0 rfl)).trans ?_
      refine tz_cn1 ?_
      refine (tz_g_iload_n rfl (tz_in0 rfl)).trans ?_
      refine (tz_g_ic_lt (t := 93) (by decide) (tz_in0 rfl)).trans ?_
      refine tz_cg ?_ ?_
      · skip
        refine (tz_g_iinc (v := 1) (L2 := [some (.ref _), none, some (.int z2), some (.int z3), some (.int (z4 + 1)), some (.int z5), some (.int z6), none]) rfl rfl rfl rfl (tz_in0 rfl)).trans ?_
        refine (tz_g_goto (t := 5) (by decide) (tz_in0 rfl)).trans ?_
        exact tz_Gm (L2 := [some (.ref _), none, some (.int z2), some (.int z3), some (.int (z4 + 1)), none, none, none]) rfl rfl rfl rfl
      · skip
        refine (tz_g_aload_n rfl (tz_in0 rfl)).trans ?_
        refine (tz_g_iload rfl (tz_in0 rfl)).trans ?_
        refine (tz_g_iload rfl (tz_in0 rfl)).trans ?_
        refine (tz_g_cv2I (m2 := 57) (rc := 1) rfl rfl rfl rfl rfl rfl (by decide) (tz_in0 rfl)).trans ?_
        refine tz_jI (fun y1 A1 => ?_)
        refine (tz_g_istore (L2 := [some (.ref _), none, some (.int z2), some (.int z3), some (.int z4), some (.int z5), some (.int z6), some (.int y1)]) rfl rfl (tz_in0 rfl)).trans ?_
        refine (tz_g_iload_n rfl (tz_in0 rfl)).trans ?_
        refine (tz_g_iconst (v := 1) rfl (tz_in0 rfl)).trans ?_
        refine (tz_g_iload rfl (tz_in0 rfl)).trans ?_
        refine (tz_g_ishl (tz_in0 rfl)).trans ?_
        refine (tz_g_iand (tz_in0 rfl)).trans ?_
        refine (tz_g_if_eq (t := 83) (by decide) (tz_in0 rfl)).trans ?_
        refine tz_cg ?_ ?_
        · skip
          refine (tz_g_iload rfl (tz_in0 rfl)).trans ?_
          refine (tz_g_istore (L2 := [some (.ref _), none, some (.int z2), some (.int z3), some (.int z4), some (.int y1), some (.int z6), some (.int y1)]) rfl rfl (tz_in0 rfl)).trans ?_
          refine (tz_g_iinc (v := 1) (L2 := [some (.ref _), none, some (.int z2), some (.int z3), some (.int z4), some (.int y1), some (.int (z6 + 1)), some (.int y1)]) rfl rfl rfl rfl (tz_in0 rfl)).trans ?_
          refine (tz_g_goto (t := 34) (by decide) (tz_in0 rfl)).trans ?_
          exact tz_Gm (L2 := [some (.ref _), none, some (.int z2), some (.int z3), some (.int z4), some (.int y1), some (.int (z6 + 1)), none]) rfl rfl rfl rfl
        · skip
          refine (tz_g_iload_n rfl (tz_in0 rfl)).trans ?_
          refine (tz_g_iconst (v := 1) rfl (tz_in0 rfl)).trans ?_
          refine (tz_g_iload rfl (tz_in0 rfl)).trans ?_
          refine (tz_g_ishl (tz_in0 rfl)).trans ?_
          refine (tz_g_ior (tz_in0 rfl)).trans ?_
          refine (tz_g_istore_n (L2 := [some (.ref _), none, some (.int z2), some (.int (z3 ||| (1 <<< (y1 &&& 31)))), some (.int z4), some (.int z5), some (.int z6), some (.int y1)]) rfl rfl (tz_in0 rfl)).trans ?_
          refine (tz_g_iload rfl (tz_in0 rfl)).trans ?_
          refine (tz_g_istore (L2 := [some (.ref _), none, some (.int z2), some (.int (z3 ||| (1 <<< (y1 &&& 31)))), some (.int z4), some (.int y1), some (.int z6), some (.int y1)]) rfl rfl (tz_in0 rfl)).trans ?_
          refine (tz_g_iinc (v := 1) (L2 := [some (.ref _), none, some (.int z2), some (.int (z3 ||| (1 <<< (y1 &&& 31)))), some (.int z4), some (.int y1), some (.int (z6 + 1)), some (.int y1)]) rfl rfl rfl rfl (tz_in0 rfl)).trans ?_
          refine (tz_g_goto (t := 34) (by decide) (tz_in0 rfl)).trans ?_
          exact tz_Gm (L2 := [some (.ref _), none, some (.int z2), some (.int (z3 ||| (1 <<< (y1 &&& 31)))), some (.int z4), some (.int y1), some (.int (z6 + 1)), none]) rfl rfl rfl rfl

theorem e_X11_burn (x1 : Int32) (A : tz_Mem) : f_X11_burn x1 A =
  tz_bI (f_X4_has 30 x1 A) (fun y1 A1 =>
if ¬ y1 = 0 then
  tz_bI (f_X9_burnLetter 30 x1 A1) (fun y2 A2 =>
  if y2 = 0 then
    some (some (.int 0), A2)
  else
    some (some (.int 1), A2))
else
  tz_bI (f_X11_refuse (-5) A1) (fun y2 A2 =>
  some (some (.int y2), A2))) := by
  refine (tz_Fe (L := [some (.ref 17), some (.int x1)]) rfl).trans ?_
  refine (tz_g_aload_n rfl (tz_in0 rfl)).trans ?_
  refine (tz_g_getr (j := 30) rfl rfl rfl rfl rfl (tz_in0 rfl)).trans ?_
  refine (tz_g_getr (j := 45) rfl rfl rfl rfl rfl (tz_in0 rfl)).trans ?_
  refine (tz_g_iload_n rfl (tz_in0 rfl)).trans ?_
  refine (tz_g_cv1I (m2 := 62) (rc := 4) rfl rfl rfl rfl rfl rfl (by decide) (tz_in0 rfl)).trans ?_
  refine tz_jI (fun y1 A1 => ?_)
  refine (tz_g_if_ne (t := 21) (by decide) (tz_in0 rfl)).trans ?_
  refine tz_cg ?_ ?_
  · skip
    refine (tz_g_aload_n rfl (tz_in0 rfl)).trans ?_
    refine (tz_g_getr (j := 30) rfl rfl rfl rfl rfl (tz_in0 rfl)).trans ?_
    refine (tz_g_iload_n rfl (tz_in0 rfl)).trans ?_
    refine (tz_g_cv1I (m2 := 105) (rc := 4) rfl rfl rfl rfl rfl rfl (by decide) (tz_in0 rfl)).trans ?_
    refine tz_jI (fun y2 A2 => ?_)
    refine (tz_g_if_eq (t := 36) (by decide) (tz_in0 rfl)).trans ?_
    refine tz_cg ?_ ?_
    · skip
      refine (tz_g_iconst (v := 0) rfl (tz_in0 rfl)).trans ?_
      exact tz_g_ret1 (tz_in0 rfl) rfl
    · skip
      refine (tz_g_iconst (v := 1) rfl (tz_in0 rfl)).trans ?_
      refine (tz_g_goto (t := 37) (by decide) (tz_in0 rfl)).trans ?_
      exact tz_g_ret1 (tz_in0 rfl) rfl
  · skip
    refine (tz_g_aload_n rfl (tz_in0 rfl)).trans ?_
    refine (tz_g_bipush (v := (-5)) rfl (tz_in0 rfl)).trans ?_
    refine (tz_g_cv1I (m2 := 15) (rc := 1) rfl rfl rfl rfl rfl rfl (by decide) (tz_in0 rfl)).trans ?_
    refine tz_jI (fun y2 A2 => ?_)
    exact tz_g_ret1 (tz_in0 rfl) rfl

theorem e_X11_dry (x1 : Int32) (A : tz_Mem) : f_X11_dry x1 A =
  if x1 < 0 then
  tz_bI (f_X11_refuse (-6) A) (fun y1 A1 =>
  some (some (.int y1), A1))
else
  if x1 ≤ 100 then
    some (some (.int (tz_g A 30 4)), (tz_s A 30 4 x1))
  else
    tz_bI (f_X11_refuse (-6) A) (fun y1 A1 =>
    some (some (.int y1), A1)) := by
  refine (tz_Fe (L := [some (.ref 17), some (.int x1), none]) rfl).trans ?_
  refine (tz_g_iload_n rfl (tz_in0 rfl)).trans ?_
  refine (tz_g_if_lt (t := 10) (by decide) (tz_in0 rfl)).trans ?_
  refine tz_cg ?_ ?_
  · skip
    refine (tz_g_aload_n rfl (tz_in0 rfl)).trans ?_
    refine (tz_g_bipush (v := (-6)) rfl (tz_in0 rfl)).trans ?_
    refine (tz_g_cv1I (m2 := 15) (rc := 1) rfl rfl rfl rfl rfl rfl (by decide) (tz_in0 rfl)).trans ?_
    refine tz_jI (fun y1 A1 => ?_)
    exact tz_g_ret1 (tz_in0 rfl) rfl
  · skip
    refine (tz_g_iload_n rfl (tz_in0 rfl)).trans ?_
    refine (tz_g_bipush (v := 100) rfl (tz_in0 rfl)).trans ?_
    refine (tz_g_ic_le (t := 17) (by decide) (tz_in0 rfl)).trans ?_
    refine tz_cg ?_ ?_
    · skip
      refine (tz_g_aload_n rfl (tz_in0 rfl)).trans ?_
      refine (tz_g_getr (j := 30) rfl rfl rfl rfl rfl (tz_in0 rfl)).trans ?_
      refine (tz_g_geti rfl rfl rfl (tz_in0 rfl)).trans ?_
      refine (tz_g_istore_n (L2 := [some (.ref 17), some (.int x1), some (.int (tz_g A 30 4))]) rfl rfl (tz_in0 rfl)).trans ?_
      refine (tz_g_aload_n rfl (tz_in0 rfl)).trans ?_
      refine (tz_g_getr (j := 30) rfl rfl rfl rfl rfl (tz_in0 rfl)).trans ?_
      refine (tz_g_iload_n rfl (tz_in0 rfl)).trans ?_
      refine (tz_g_puti rfl rfl rfl (tz_in0 rfl)).trans ?_
      refine (tz_g_iload_n rfl (tz_in0 rfl)).trans ?_
      exact tz_g_ret1 (tz_in0 rfl) rfl
    · skip
      refine (tz_g_aload_n rfl (tz_in0 rfl)).trans ?_
      refine (tz_g_bipush (v := (-6)) rfl (tz_in0 rfl)).trans ?_
      refine (tz_g_cv1I (m2 := 15) (rc := 1) rfl rfl rfl rfl rfl rfl (by decide) (tz_in0 rfl)).trans ?_
      refine tz_jI (fun y1 A1 => ?_)
      exact tz_g_ret1 (tz_in0 rfl) rfl

theorem e_X0_kindWithBody (x1 : Int32) (x2 : Int32) (A : tz_Mem) : f_X0_kindWithBody x1 x2 A =
  q_X0_kindWithBody_4 x1 x2 0 A := by
  refine (tz_Fe (L := [some (.int x1), some (.int x2), none, none]) rfl).trans ?_
  refine (tz_g_iload_n rfl (tz_in0 rfl)).trans ?_
  refine (tz_g_istore_n (L2 := [some (.int x1), some (.int x2), some (.int x2), none]) rfl rfl (tz_in0 rfl)).trans ?_
  refine (tz_g_iconst (v := 0) rfl (tz_in0 rfl)).trans ?_
  refine (tz_g_istore_n (L2 := [some (.int x1), some (.int x2), some (.int x2), some (.int 0)]) rfl rfl (tz_in0 rfl)).trans ?_
  exact tz_Gm (L2 := [some (.int x1), none, some (.int x2), some (.int 0)]) rfl rfl rfl rfl

theorem e_X0_kindWithBody_4 (z0 : Int32) (z2 : Int32) (z3 : Int32) (A : tz_Mem) : q_X0_kindWithBody_4 z0 z2 z3 A =
  if 7 ≤ z3 then
  some (some (.int (if z2 < 0 then 0 else z2)), A)
else
  if z2 ≤ 0 then
    some (some (.int (if z2 < 0 then 0 else z2)), A)
  else
    tz_bI (f_X0_bodyOf z0 z2 A) (fun y1 A1 =>
    if ¬ y1 = 0 then
      some (some (.int (if z2 < 0 then 0 else z2)), A1)
    else
      if z2 < 0 ∨ 7 ≤ (Int32.toNatClampNeg z2) then none else
      q_X0_kindWithBody_4 z0 (tz_XT 1 (Int32.toNatClampNeg z2)) (z3 + 1) A1) := by
  show tz_Go 153 4 [some (.int z0), none, some (.int z2), some (.int z3)] [] A = _
  refine (tz_g_iload_n rfl (tz_inM rfl rfl rfl)).trans ?_
  refine (tz_g_gets0 (j := 1) rfl (tz_in0 rfl)).trans ?_
  refine (tz_g_alen (v := 7) rfl rfl (tz_in0 rfl)).trans ?_
  refine (tz_g_ic_ge (t := 36) (by decide) (tz_in0 rfl)).trans ?_
  refine tz_cg ?_ ?_
  · skip
    refine (tz_g_iload_n rfl (tz_in0 rfl)).trans ?_
    refine (tz_g_iconst (v := 0) rfl (tz_in0 rfl)).trans ?_
    refine (tz_g_max rfl rfl rfl (tz_in0 rfl)).trans ?_
    exact tz_g_ret1 (tz_in0 rfl) rfl
  · skip
    refine (tz_g_iload_n rfl (tz_in0 rfl)).trans ?_
    refine (tz_g_if_le (t := 36) (by decide) (tz_in0 rfl)).trans ?_
    refine tz_cg ?_ ?_
    · skip
      refine (tz_g_iload_n rfl (tz_in0 rfl)).trans ?_
      refine (tz_g_iconst (v := 0) rfl (tz_in0 rfl)).trans ?_
      refine (tz_g_max rfl rfl rfl (tz_in0 rfl)).trans ?_
      exact tz_g_ret1 (tz_in0 rfl) rfl
    · skip
      refine (tz_g_iload_n rfl (tz_in0 rfl)).trans ?_
      refine (tz_g_iload_n rfl (tz_in0 rfl)).trans ?_
      refine (tz_g_cs2I (m2 := 154) (rc := 1) rfl rfl rfl rfl rfl rfl (by decide) (tz_in0 rfl)).trans ?_
      refine tz_jI (fun y1 A1 => ?_)
      refine (tz_g_if_ne (t := 36) (by decide) (tz_in0 rfl)).trans ?_
      refine tz_cg ?_ ?_
      · skip
        refine (tz_g_iload_n rfl (tz_in0 rfl)).trans ?_
        refine (tz_g_iconst (v := 0) rfl (tz_in0 rfl)).trans ?_
        refine (tz_g_max rfl rfl rfl (tz_in0 rfl)).trans ?_
        exact tz_g_ret1 (tz_in0 rfl) rfl
      · skip
        refine (tz_g_gets0 (j := 1) rfl (tz_in0 rfl)).trans ?_
        refine (tz_g_iload_n rfl (tz_in0 rfl)).trans ?_
        refine (tz_g_ialx (n := 7) rfl rfl rfl (tz_in0 rfl)).trans ?_
        refine tz_cn1 ?_
        refine (tz_g_istore_n (L2 := [some (.int z0), none, some (.int (tz_XT 1 (Int32.toNatClampNeg z2))), some (.int z3)]) rfl rfl (tz_in0 rfl)).trans ?_
        refine (tz_g_iinc (v := 1) (L2 := [some (.int z0), none, some (.int (tz_XT 1 (Int32.toNatClampNeg z2))), some (.int (z3 + 1))]) rfl rfl rfl rfl (tz_in0 rfl)).trans ?_
        refine (tz_g_goto (t := 4) (by decide) (tz_in0 rfl)).trans ?_
        exact tz_Gm (L2 := [some (.int z0), none, some (.int (tz_XT 1 (Int32.toNatClampNeg z2))), some (.int (z3 + 1))]) rfl rfl rfl rfl

theorem e_X11_trace (x1 : Int32) (A : tz_Mem) : f_X11_trace x1 A =
  if x1 < 0 then
  some (some (.int (-1)), A)
else
  tz_bI (f_X0_countKept A) (fun y1 A1 =>
  if y1 ≤ x1 then
    some (some (.int (-1)), A1)
  else
    if x1 < 0 ∨ 20 ≤ (Int32.toNatClampNeg x1) then none else
    some (some (.int (tz_g A1 149 (Int32.toNatClampNeg x1))), A1)) := by
  refine (tz_Fe (L := [some (.ref 17), some (.int x1)]) rfl).trans ?_
  refine (tz_g_iload_n rfl (tz_in0 rfl)).trans ?_
  refine (tz_g_if_lt (t := 27) (by decide) (tz_in0 rfl)).trans ?_
  refine tz_cg ?_ ?_
  · skip
    refine (tz_g_iconst (v := (-1)) rfl (tz_in0 rfl)).trans ?_
    exact tz_g_ret1 (tz_in0 rfl) rfl
  · skip
    refine (tz_g_iload_n rfl (tz_in0 rfl)).trans ?_
    refine (tz_g_aload_n rfl (tz_in0 rfl)).trans ?_
    refine (tz_g_getr (j := 148) rfl rfl rfl rfl rfl (tz_in0 rfl)).trans ?_
    refine (tz_g_cv0I (m2 := 157) (rc := 1) rfl rfl rfl rfl rfl rfl (by decide) (tz_in0 rfl)).trans ?_
    refine tz_jI (fun y1 A1 => ?_)
    refine (tz_g_ic_ge (t := 27) (by decide) (tz_in0 rfl)).trans ?_
    refine tz_cg ?_ ?_
    · skip
      refine (tz_g_iconst (v := (-1)) rfl (tz_in0 rfl)).trans ?_
      exact tz_g_ret1 (tz_in0 rfl) rfl
    · skip
      refine (tz_g_aload_n rfl (tz_in0 rfl)).trans ?_
      refine (tz_g_getr (j := 148) rfl rfl rfl rfl rfl (tz_in0 rfl)).trans ?_
      refine (tz_g_getr (j := 149) rfl rfl rfl rfl rfl (tz_in0 rfl)).trans ?_
      refine (tz_g_iload_n rfl (tz_in0 rfl)).trans ?_
      refine (tz_g_iald (n := 20) rfl rfl rfl (tz_in0 rfl)).trans ?_
      refine tz_cn1 ?_
      refine (tz_g_goto (t := 28) (by decide) (tz_in0 rfl)).trans ?_
      exact tz_g_ret1 (tz_in0 rfl) rfl

theorem e_X8_dropHillsFrom (x1 : Int32) (A : tz_Mem) : f_X8_dropHillsFrom x1 A =
  q_X8_dropHillsFrom_2 x1 0 A := by
  refine (tz_Fe (L := [some (.ref 18), some (.int x1), none]) rfl).trans ?_
  refine (tz_g_iconst (v := 0) rfl (tz_in0 rfl)).trans ?_
  refine (tz_g_istore_n (L2 := [some (.ref 18), some (.int x1), some (.int 0)]) rfl rfl (tz_in0 rfl)).trans ?_
  exact tz_Gm (L2 := [some (.ref 18), some (.int x1), some (.int 0)]) rfl rfl rfl rfl

theorem e_X8_dropHillsFrom_2 (z1 : Int32) (z2 : Int32) (A : tz_Mem) : q_X8_dropHillsFrom_2 z1 z2 A =
  if 8 ≤ z2 then
  some (none, A)
else
  tz_bI (f_X8_holdsRow z2 A) (fun y1 A1 =>
  if ¬ y1 = 0 then
    q_X8_dropHillsFrom_2 z1 (z2 + 1) A1
  else
    if z2 < 0 ∨ 8 ≤ (Int32.toNatClampNeg z2) then none else
    if (tz_g A1 19 (Int32.toNatClampNeg z2)) < z1 then
      q_X8_dropHillsFrom_2 z1 (z2 + 1) A1
    else
      if z2 < 0 ∨ 8 ≤ (Int32.toNatClampNeg z2) then none else
      q_X8_dropHillsFrom_2 z1 (z2 + 1) (tz_s A1 19 (Int32.toNatClampNeg z2) (-1))) := by
  show tz_Go 160 2 [some (.ref 18), some (.int z1), some (.int z2)] [] A = _
  refine (tz_g_iload_n rfl (tz_inM rfl rfl rfl)).trans ?_
  refine (tz_g_bipush (v := 8) rfl (tz_in0 rfl)).trans ?_
  refine (tz_g_ic_ge (t := 39) (by decide) (tz_in0 rfl)).trans ?_
  refine tz_cg ?_ ?_
  · skip
    exact tz_g_ret0 (tz_in0 rfl) rfl
  · skip
    refine (tz_g_aload_n rfl (tz_in0 rfl)).trans ?_
    refine (tz_g_iload_n rfl (tz_in0 rfl)).trans ?_
    refine (tz_g_cv1I (m2 := 20) (rc := 4) rfl rfl rfl rfl rfl rfl (by decide) (tz_in0 rfl)).trans ?_
    refine tz_jI (fun y1 A1 => ?_)
    refine (tz_g_if_ne (t := 33) (by decide) (tz_in0 rfl)).trans ?_
    refine tz_cg ?_ ?_
    · skip
      refine (tz_g_iinc (v := 1) (L2 := [some (.ref 18), some (.int z1), some (.int (z2 + 1))]) rfl rfl rfl rfl (tz_in0 rfl)).trans ?_
      refine (tz_g_goto (t := 2) (by decide) (tz_in0 rfl)).trans ?_
      exact tz_Gm (L2 := [some (.ref 18), some (.int z1), some (.int (z2 + 1))]) rfl rfl rfl rfl
    · skip
      refine (tz_g_aload_n rfl (tz_in0 rfl)).trans ?_
      refine (tz_g_getr (j := 19) rfl rfl rfl rfl rfl (tz_in0 rfl)).trans ?_
      refine (tz_g_iload_n rfl (tz_in0 rfl)).trans ?_
      refine (tz_g_iald (n := 8) rfl rfl rfl (tz_in0 rfl)).trans ?_
      refine tz_cn1 ?_
      refine (tz_g_iload_n rfl (tz_in0 rfl)).trans ?_
      refine (tz_g_ic_lt (t := 33) (by decide) (tz_in0 rfl)).trans ?_
      refine tz_cg ?_ ?_
      · skip
        refine (tz_g_iinc (v := 1) (L2 := [some (.ref 18), some (.int z1), some (.int (z2 + 1))]) rfl rfl rfl rfl (tz_in0 rfl)).trans ?_
        refine (tz_g_goto (t := 2) (by decide) (tz_in0 rfl)).trans ?_
        exact tz_Gm (L2 := [some (.ref 18), some (.int z1), some (.int (z2 + 1))]) rfl rfl rfl rfl
      · skip
        refine (tz_g_aload_n rfl (tz_in0 rfl)).trans ?_
        refine (tz_g_getr (j := 19) rfl rfl rfl rfl rfl (tz_in0 rfl)).trans ?_
        refine (tz_g_iload_n rfl (tz_in0 rfl)).trans ?_
        refine (tz_g_iconst (v := (-1)) rfl (tz_in0 rfl)).trans ?_
        refine (tz_g_iast (n := 8) rfl rfl rfl (tz_in0 rfl)).trans ?_
        refine tz_cn1 ?_
        refine (tz_g_iinc (v := 1) (L2 := [some (.ref 18), some (.int z1), some (.int (z2 + 1))]) rfl rfl rfl rfl (tz_in0 rfl)).trans ?_
        refine (tz_g_goto (t := 2) (by decide) (tz_in0 rfl)).trans ?_
        exact tz_Gm (L2 := [some (.ref 18), some (.int z1), some (.int (z2 + 1))]) rfl rfl rfl rfl

theorem e_X11_status (x1 : Int32) (A : tz_Mem) : f_X11_status x1 A =
  if x1 = 0 then
  some (some (.int (tz_g A 31 0)), A)
else if x1 = 1 then
  some (some (.int (tz_g A 37 0)), A)
else if x1 = 2 then
  some (some (.int (tz_g A 45 0)), A)
else if x1 = 3 then
  tz_bI (f_X4_countWhere 30 200 A) (fun y1 A1 =>
  some (some (.int y1), A1))
else if x1 = 4 then
  tz_bI (f_X4_countWhere 30 300 A) (fun y1 A1 =>
  some (some (.int y1), A1))
else if x1 = 5 then
  some (some (.int (tz_g A 30 3)), A)
else if x1 = 6 then
  some (some (.int (tz_g A 30 4)), A)
else if x1 = 7 then
  some (some (.int (tz_g A 30 5)), A)
else if x1 = 8 then
  tz_bI (f_X3_countEver 30 A) (fun y1 A1 =>
  some (some (.int y1), A1))
else if x1 = 9 then
  some (some (.int (tz_g A 148 0)), A)
else if x1 ≤ 10 then
  some (some (.int (-1)), A)
else
  if 17 < x1 then
    some (some (.int (-1)), A)
  else
    if (x1 - 10) < 0 ∨ 8 ≤ (Int32.toNatClampNeg (x1 - 10)) then none else
    some (some (.int (tz_g A 156 (Int32.toNatClampNeg (x1 - 10)))), A) := by
  refine (tz_Fe (L := [some (.ref 17), some (.int x1)]) rfl).trans ?_
  refine (tz_g_iload_n rfl (tz_in0 rfl)).trans ?_
  refine (tz_g_tsw (by decide) (tz_in0 rfl)).trans ?_
  refine tz_swc (v := 0) (by decide) ?_ ?_
  · refine (tz_tg (t := 56) (by decide)).trans ?_
    refine (tz_g_aload_n rfl (tz_in0 rfl)).trans ?_
    refine (tz_g_getr (j := 30) rfl rfl rfl rfl rfl (tz_in0 rfl)).trans ?_
    refine (tz_g_getr (j := 31) rfl rfl rfl rfl rfl (tz_in0 rfl)).trans ?_
    refine (tz_g_geti rfl rfl rfl (tz_in0 rfl)).trans ?_
    exact tz_g_ret1 (tz_in0 rfl) rfl
  refine tz_swc (v := 1) (by decide) ?_ ?_
  · refine (tz_tg (t := 67) (by decide)).trans ?_
    refine (tz_g_aload_n rfl (tz_in0 rfl)).trans ?_
    refine (tz_g_getr (j := 30) rfl rfl rfl rfl rfl (tz_in0 rfl)).trans ?_
    refine (tz_g_getr (j := 37) rfl rfl rfl rfl rfl (tz_in0 rfl)).trans ?_
    refine (tz_g_geti rfl rfl rfl (tz_in0 rfl)).trans ?_
    exact tz_g_ret1 (tz_in0 rfl) rfl
  refine tz_swc (v := 2) (by decide) ?_ ?_
  · refine (tz_tg (t := 78) (by decide)).trans ?_
    refine (tz_g_aload_n rfl (tz_in0 rfl)).trans ?_
    refine (tz_g_getr (j := 30) rfl rfl rfl rfl rfl (tz_in0 rfl)).trans ?_
    refine (tz_g_getr (j := 45) rfl rfl rfl rfl rfl (tz_in0 rfl)).trans ?_
    refine (tz_g_geti rfl rfl rfl (tz_in0 rfl)).trans ?_
    exact tz_g_ret1 (tz_in0 rfl) rfl
  refine tz_swc (v := 3) (by decide) ?_ ?_
  · refine (tz_tg (t := 89) (by decide)).trans ?_
    refine (tz_g_aload_n rfl (tz_in0 rfl)).trans ?_
    refine (tz_g_getr (j := 30) rfl rfl rfl rfl rfl (tz_in0 rfl)).trans ?_
    refine (tz_g_getr (j := 45) rfl rfl rfl rfl rfl (tz_in0 rfl)).trans ?_
    refine (tz_g_sipush (v := 200) rfl (tz_in0 rfl)).trans ?_
    refine (tz_g_cv1I (m2 := 135) (rc := 1) rfl rfl rfl rfl rfl rfl (by decide) (tz_in0 rfl)).trans ?_
    refine tz_jI (fun y1 A1 => ?_)
    exact tz_g_ret1 (tz_in0 rfl) rfl
  refine tz_swc (v := 4) (by decide) ?_ ?_
  · refine (tz_tg (t := 103) (by decide)).trans ?_
    refine (tz_g_aload_n rfl (tz_in0 rfl)).trans ?_
    refine (tz_g_getr (j := 30) rfl rfl rfl rfl rfl (tz_in0 rfl)).trans ?_
    refine (tz_g_getr (j := 45) rfl rfl rfl rfl rfl (tz_in0 rfl)).trans ?_
    refine (tz_g_sipush (v := 300) rfl (tz_in0 rfl)).trans ?_
    refine (tz_g_cv1I (m2 := 135) (rc := 1) rfl rfl rfl rfl rfl rfl (by decide) (tz_in0 rfl)).trans ?_
    refine tz_jI (fun y1 A1 => ?_)
    exact tz_g_ret1 (tz_in0 rfl) rfl
  refine tz_swc (v := 5) (by decide) ?_ ?_
  · refine (tz_tg (t := 117) (by decide)).trans ?_
    refine (tz_g_aload_n rfl (tz_in0 rfl)).trans ?_
    refine (tz_g_getr (j := 30) rfl rfl rfl rfl rfl (tz_in0 rfl)).trans ?_
    refine (tz_g_geti rfl rfl rfl (tz_in0 rfl)).trans ?_
    exact tz_g_ret1 (tz_in0 rfl) rfl
  refine tz_swc (v := 6) (by decide) ?_ ?_
  · refine (tz_tg (t := 125) (by decide)).trans ?_
    refine (tz_g_aload_n rfl (tz_in0 rfl)).trans ?_
    refine (tz_g_getr (j := 30) rfl rfl rfl rfl rfl (tz_in0 rfl)).trans ?_
    refine (tz_g_geti rfl rfl rfl (tz_in0 rfl)).trans ?_
    exact tz_g_ret1 (tz_in0 rfl) rfl
  refine tz_swc (v := 7) (by decide) ?_ ?_
  · refine (tz_tg (t := 133) (by decide)).trans ?_
    refine (tz_g_aload_n rfl (tz_in0 rfl)).trans ?_
    refine (tz_g_getr (j := 30) rfl rfl rfl rfl rfl (tz_in0 rfl)).trans ?_
    refine (tz_g_geti rfl rfl rfl (tz_in0 rfl)).trans ?_
    exact tz_g_ret1 (tz_in0 rfl) rfl
  refine tz_swc (v := 8) (by decide) ?_ ?_
  · refine (tz_tg (t := 141) (by decide)).trans ?_
    refine (tz_g_aload_n rfl (tz_in0 rfl)).trans ?_
    refine (tz_g_getr (j := 30) rfl rfl rfl rfl rfl (tz_in0 rfl)).trans ?_
    refine (tz_g_getr (j := 31) rfl rfl rfl rfl rfl (tz_in0 rfl)).trans ?_
    refine (tz_g_cv0I (m2 := 162) (rc := 1) rfl rfl rfl rfl rfl rfl (by decide) (tz_in0 rfl)).trans ?_
    refine tz_jI (fun y1 A1 => ?_)
    exact tz_g_ret1 (tz_in0 rfl) rfl
  refine tz_swc (v := 9) (by decide) ?_ ?_
  · refine (tz_tg (t := 152) (by decide)).trans ?_
    refine (tz_g_aload_n rfl (tz_in0 rfl)).trans ?_
    refine (tz_g_getr (j := 148) rfl rfl rfl rfl rfl (tz_in0 rfl)).trans ?_
    refine (tz_g_geti rfl rfl rfl (tz_in0 rfl)).trans ?_
    exact tz_g_ret1 (tz_in0 rfl) rfl
  refine tz_swd ?_
  refine (tz_tg (t := 160) (by decide)).trans ?_
  refine (tz_g_iload_n rfl (tz_in0 rfl)).trans ?_
  refine (tz_g_bipush (v := 10) rfl (tz_in0 rfl)).trans ?_
  refine (tz_g_ic_le (t := 184) (by decide) (tz_in0 rfl)).trans ?_
  refine tz_cg ?_ ?_
  · skip
    refine (tz_g_iconst (v := (-1)) rfl (tz_in0 rfl)).trans ?_
    exact tz_g_ret1 (tz_in0 rfl) rfl
  · skip
    refine (tz_g_iload_n rfl (tz_in0 rfl)).trans ?_
    refine (tz_g_bipush (v := 17) rfl (tz_in0 rfl)).trans ?_
    refine (tz_g_ic_gt (t := 184) (by decide) (tz_in0 rfl)).trans ?_
    refine tz_cg ?_ ?_
    · skip
      refine (tz_g_iconst (v := (-1)) rfl (tz_in0 rfl)).trans ?_
      exact tz_g_ret1 (tz_in0 rfl) rfl
    · skip
      refine (tz_g_aload_n rfl (tz_in0 rfl)).trans ?_
      refine (tz_g_getr (j := 156) rfl rfl rfl rfl rfl (tz_in0 rfl)).trans ?_
      refine (tz_g_iload_n rfl (tz_in0 rfl)).trans ?_
      refine (tz_g_bipush (v := 10) rfl (tz_in0 rfl)).trans ?_
      refine (tz_g_isub (tz_in0 rfl)).trans ?_
      refine (tz_g_iald (n := 8) rfl rfl rfl (tz_in0 rfl)).trans ?_
      refine tz_cn1 ?_
      refine (tz_g_goto (t := 185) (by decide) (tz_in0 rfl)).trans ?_
      exact tz_g_ret1 (tz_in0 rfl) rfl

theorem e_X12_row (x1 : Int32) (x2 : Int32) (x3 : Int32) (A : tz_Mem) : f_X12_row x1 x2 x3 A =
  tz_bI (f_X12_within x1 0 7 A) (fun y1 A1 =>
if ¬ y1 = 0 then
  if 0 ≤ x3 then
    tz_bI (f_X12_within x2 0 3 A1) (fun y2 A2 =>
    if ¬ y2 = 0 then
      if x3 ≤ 160 then
        if x1 < 0 ∨ 8 ≤ (Int32.toNatClampNeg x1) then none else
        if x1 < 0 ∨ 8 ≤ (Int32.toNatClampNeg x1) then none else
        q_X12_row_77 x1 0 (tz_s (tz_s A2 158 (Int32.toNatClampNeg x1) (100 + x2)) 159 (Int32.toNatClampNeg x1) x3)
      else
        tz_bI (f_X12_no (-7) A2) (fun y3 A3 =>
        some (some (.int y3), A3))
    else
      tz_bI (f_X12_no (-6) A2) (fun y3 A3 =>
      some (some (.int y3), A3)))
  else
    tz_bI (f_X12_no (-4) A1) (fun y2 A2 =>
    some (some (.int y2), A2))
else
  tz_bI (f_X12_no (-1) A1) (fun y2 A2 =>
  some (some (.int y2), A2))) := by
  refine (tz_Fe (L := [some (.ref 157), some (.int x1), some (.int x2), some (.int x3), none]) rfl).trans ?_
  refine (tz_g_iload_n rfl (tz_in0 rfl)).trans ?_
  refine (tz_g_iconst (v := 0) rfl (tz_in0 rfl)).trans ?_
  refine (tz_g_bipush (v := 7) rfl (tz_in0 rfl)).trans ?_
  refine (tz_g_cs3I (m2 := 165) (rc := 4) rfl rfl rfl rfl rfl rfl (by decide) (tz_in0 rfl)).trans ?_
  refine tz_jI (fun y1 A1 => ?_)
  refine (tz_g_if_ne (t := 16) (by decide) (tz_in0 rfl)).trans ?_
  refine tz_cg ?_ ?_
  · skip
    refine (tz_g_iload_n rfl (tz_in0 rfl)).trans ?_
    refine (tz_g_if_ge (t := 27) (by decide) (tz_in0 rfl)).trans ?_
    refine tz_cg ?_ ?_
    · skip
      refine (tz_g_iload_n rfl (tz_in0 rfl)).trans ?_
      refine (tz_g_iconst (v := 0) rfl (tz_in0 rfl)).trans ?_
      refine (tz_g_iconst (v := 3) rfl (tz_in0 rfl)).trans ?_
      refine (tz_g_cs3I (m2 := 165) (rc := 4) rfl rfl rfl rfl rfl rfl (by decide) (tz_in0 rfl)).trans ?_
      refine tz_jI (fun y2 A2 => ?_)
      refine (tz_g_if_ne (t := 43) (by decide) (tz_in0 rfl)).trans ?_
      refine tz_cg ?_ ?_
      · skip
        refine (tz_g_iload_n rfl (tz_in0 rfl)).trans ?_
        refine (tz_g_sipush (v := 160) rfl (tz_in0 rfl)).trans ?_
        refine (tz_g_ic_le (t := 57) (by decide) (tz_in0 rfl)).trans ?_
        refine tz_cg ?_ ?_
        · skip
          refine (tz_g_aload_n rfl (tz_in0 rfl)).trans ?_
          refine (tz_g_getr (j := 158) rfl rfl rfl rfl rfl (tz_in0 rfl)).trans ?_
          refine (tz_g_iload_n rfl (tz_in0 rfl)).trans ?_
          refine (tz_g_bipush (v := 100) rfl (tz_in0 rfl)).trans ?_
          refine (tz_g_iload_n rfl (tz_in0 rfl)).trans ?_
          refine (tz_g_iadd (tz_in0 rfl)).trans ?_
          refine (tz_g_iast (n := 8) rfl rfl rfl (tz_in0 rfl)).trans ?_
          refine tz_cn1 ?_
          refine (tz_g_aload_n rfl (tz_in0 rfl)).trans ?_
          refine (tz_g_getr (j := 159) rfl rfl rfl rfl rfl (tz_in0 rfl)).trans ?_
          refine (tz_g_iload_n rfl (tz_in0 rfl)).trans ?_
          refine (tz_g_iload_n rfl (tz_in0 rfl)).trans ?_
          refine (tz_g_iast (n := 8) rfl rfl rfl (tz_in0 rfl)).trans ?_
          refine tz_cn1 ?_
          refine (tz_g_iconst (v := 0) rfl (tz_in0 rfl)).trans ?_
          refine (tz_g_istore (L2 := [some (.ref 157), some (.int x1), some (.int x2), some (.int x3), some (.int 0)]) rfl rfl (tz_in0 rfl)).trans ?_
          exact tz_Gm (L2 := [some (.ref 157), some (.int x1), none, none, some (.int 0)]) rfl rfl rfl rfl
        · skip
          refine (tz_g_aload_n rfl (tz_in0 rfl)).trans ?_
          refine (tz_g_bipush (v := (-7)) rfl (tz_in0 rfl)).trans ?_
          refine (tz_g_cv1I (m2 := 166) (rc := 1) rfl rfl rfl rfl rfl rfl (by decide) (tz_in0 rfl)).trans ?_
          refine tz_jI (fun y3 A3 => ?_)
          exact tz_g_ret1 (tz_in0 rfl) rfl
      · skip
        refine (tz_g_aload_n rfl (tz_in0 rfl)).trans ?_
        refine (tz_g_bipush (v := (-6)) rfl (tz_in0 rfl)).trans ?_
        refine (tz_g_cv1I (m2 := 166) (rc := 1) rfl rfl rfl rfl rfl rfl (by decide) (tz_in0 rfl)).trans ?_
        refine tz_jI (fun y3 A3 => ?_)
        exact tz_g_ret1 (tz_in0 rfl) rfl
    · skip
      refine (tz_g_aload_n rfl (tz_in0 rfl)).trans ?_
      refine (tz_g_bipush (v := (-4)) rfl (tz_in0 rfl)).trans ?_
      refine (tz_g_cv1I (m2 := 166) (rc := 1) rfl rfl rfl rfl rfl rfl (by decide) (tz_in0 rfl)).trans ?_
      refine tz_jI (fun y2 A2 => ?_)
      exact tz_g_ret1 (tz_in0 rfl) rfl
  · skip
    refine (tz_g_aload_n rfl (tz_in0 rfl)).trans ?_
    refine (tz_g_iconst (v := (-1)) rfl (tz_in0 rfl)).trans ?_
    refine (tz_g_cv1I (m2 := 166) (rc := 1) rfl rfl rfl rfl rfl rfl (by decide) (tz_in0 rfl)).trans ?_
    refine tz_jI (fun y2 A2 => ?_)
    exact tz_g_ret1 (tz_in0 rfl) rfl

theorem e_X12_row_77 (z1 : Int32) (z4 : Int32) (A : tz_Mem) : q_X12_row_77 z1 z4 A =
  if 160 ≤ z4 then
  some (some (.int 1), A)
else
  if ((160 * z1) + z4) < 0 ∨ 1280 ≤ (Int32.toNatClampNeg ((160 * z1) + z4)) then none else
  q_X12_row_77 z1 (z4 + 1) (tz_sl A 160 (Int32.toNatClampNeg ((160 * z1) + z4)) 0) := by
  show tz_Go 164 77 [some (.ref 157), some (.int z1), none, none, some (.int z4)] [] A = _
  refine (tz_g_iload rfl (tz_inM rfl rfl rfl)).trans ?_
  refine (tz_g_sipush (v := 160) rfl (tz_in0 rfl)).trans ?_
  refine (tz_g_ic_ge (t := 105) (by decide) (tz_in0 rfl)).trans ?_
  refine tz_cg ?_ ?_
  · skip
    refine (tz_g_iconst (v := 1) rfl (tz_in0 rfl)).trans ?_
    exact tz_g_ret1 (tz_in0 rfl) rfl
  · skip
    refine (tz_g_aload_n rfl (tz_in0 rfl)).trans ?_
    refine (tz_g_getr (j := 160) rfl rfl rfl rfl rfl (tz_in0 rfl)).trans ?_
    refine (tz_g_sipush (v := 160) rfl (tz_in0 rfl)).trans ?_
    refine (tz_g_iload_n rfl (tz_in0 rfl)).trans ?_
    refine (tz_g_imul (tz_in0 rfl)).trans ?_
    refine (tz_g_iload rfl (tz_in0 rfl)).trans ?_
    refine (tz_g_iadd (tz_in0 rfl)).trans ?_
    refine (tz_g_lconst (v := 0) rfl (tz_in0 rfl)).trans ?_
    refine (tz_g_last (n := 1280) rfl rfl (tz_in0 rfl)).trans ?_
    refine tz_cn1 ?_
    refine (tz_g_iinc (v := 1) (L2 := [some (.ref 157), some (.int z1), none, none, some (.int (z4 + 1))]) rfl rfl rfl rfl (tz_in0 rfl)).trans ?_
    refine (tz_g_goto (t := 77) (by decide) (tz_in0 rfl)).trans ?_
    exact tz_Gm (L2 := [some (.ref 157), some (.int z1), none, none, some (.int (z4 + 1))]) rfl rfl rfl rfl

theorem e_X12_noRow (x1 : Int32) (A : tz_Mem) : f_X12_noRow x1 A =
  tz_bI (f_X12_within x1 0 7 A) (fun y1 A1 =>
if ¬ y1 = 0 then
  if x1 < 0 ∨ 8 ≤ (Int32.toNatClampNeg x1) then none else
  if (tz_g A1 158 (Int32.toNatClampNeg x1)) < 0 then
    if x1 < 0 ∨ 8 ≤ (Int32.toNatClampNeg x1) then none else
    if 0 ≤ (tz_g A1 158 (Int32.toNatClampNeg x1)) then
      some (some (.int 0), A1)
    else
      some (some (.int (-3)), A1)
  else
    tz_bI (f_X12_isRow x1 A1) (fun y2 A2 =>
    if ¬ y2 = 0 then
      if x1 < 0 ∨ 8 ≤ (Int32.toNatClampNeg x1) then none else
      if 0 ≤ (tz_g A2 158 (Int32.toNatClampNeg x1)) then
        some (some (.int 0), A2)
      else
        some (some (.int (-3)), A2)
    else
      some (some (.int (-2)), A2))
else
  some (some (.int (-1)), A1)) := by
  refine (tz_Fe (L := [some (.ref 157), some (.int x1)]) rfl).trans ?_
  refine (tz_g_iload_n rfl (tz_in0 rfl)).trans ?_
  refine (tz_g_iconst (v := 0) rfl (tz_in0 rfl)).trans ?_
  refine (tz_g_bipush (v := 7) rfl (tz_in0 rfl)).trans ?_
  refine (tz_g_cs3I (m2 := 165) (rc := 4) rfl rfl rfl rfl rfl rfl (by decide) (tz_in0 rfl)).trans ?_
  refine tz_jI (fun y1 A1 => ?_)
  refine (tz_g_if_ne (t := 12) (by decide) (tz_in0 rfl)).trans ?_
  refine tz_cg ?_ ?_
  · skip
    refine (tz_g_aload_n rfl (tz_in0 rfl)).trans ?_
    refine (tz_g_getr (j := 158) rfl rfl rfl rfl rfl (tz_in0 rfl)).trans ?_
    refine (tz_g_iload_n rfl (tz_in0 rfl)).trans ?_
    refine (tz_g_iald (n := 8) rfl rfl rfl (tz_in0 rfl)).trans ?_
    refine tz_cn1 ?_
    refine (tz_g_if_lt (t := 32) (by decide) (tz_in0 rfl)).trans ?_
    refine tz_cg ?_ ?_
    · skip
      refine (tz_g_aload_n rfl (tz_in0 rfl)).trans ?_
      refine (tz_g_getr (j := 158) rfl rfl rfl rfl rfl (tz_in0 rfl)).trans ?_
      refine (tz_g_iload_n rfl (tz_in0 rfl)).trans ?_
      refine (tz_g_iald (n := 8) rfl rfl rfl (tz_in0 rfl)).trans ?_
      refine tz_cn1 ?_
      refine (tz_g_if_ge (t := 46) (by decide) (tz_in0 rfl)).trans ?_
      refine tz_cg ?_ ?_
      · skip
        refine (tz_g_iconst (v := 0) rfl (tz_in0 rfl)).trans ?_
        exact tz_g_ret1 (tz_in0 rfl) rfl
      · skip
        refine (tz_g_bipush (v := (-3)) rfl (tz_in0 rfl)).trans ?_
        refine (tz_g_goto (t := 47) (by decide) (tz_in0 rfl)).trans ?_
        exact tz_g_ret1 (tz_in0 rfl) rfl
    · skip
      refine (tz_g_aload_n rfl (tz_in0 rfl)).trans ?_
      refine (tz_g_iload_n rfl (tz_in0 rfl)).trans ?_
      refine (tz_g_cv1I (m2 := 169) (rc := 4) rfl rfl rfl rfl rfl rfl (by decide) (tz_in0 rfl)).trans ?_
      refine tz_jI (fun y2 A2 => ?_)
      refine (tz_g_if_ne (t := 32) (by decide) (tz_in0 rfl)).trans ?_
      refine tz_cg ?_ ?_
      · skip
        refine (tz_g_aload_n rfl (tz_in0 rfl)).trans ?_
        refine (tz_g_getr (j := 158) rfl rfl rfl rfl rfl (tz_in0 rfl)).trans ?_
        refine (tz_g_iload_n rfl (tz_in0 rfl)).trans ?_
        refine (tz_g_iald (n := 8) rfl rfl rfl (tz_in0 rfl)).trans ?_
        refine tz_cn1 ?_
        refine (tz_g_if_ge (t := 46) (by decide) (tz_in0 rfl)).trans ?_
        refine tz_cg ?_ ?_
        · skip
          refine (tz_g_iconst (v := 0) rfl (tz_in0 rfl)).trans ?_
          exact tz_g_ret1 (tz_in0 rfl) rfl
        · skip
          refine (tz_g_bipush (v := (-3)) rfl (tz_in0 rfl)).trans ?_
          refine (tz_g_goto (t := 47) (by decide) (tz_in0 rfl)).trans ?_
          exact tz_g_ret1 (tz_in0 rfl) rfl
      · skip
        refine (tz_g_bipush (v := (-2)) rfl (tz_in0 rfl)).trans ?_
        exact tz_g_ret1 (tz_in0 rfl) rfl
  · skip
    refine (tz_g_iconst (v := (-1)) rfl (tz_in0 rfl)).trans ?_
    exact tz_g_ret1 (tz_in0 rfl) rfl

theorem e_X12_copy (x1 : Int32) (x2 : Int32) (x3 : Int32) (x4 : Int32) (x5 : Int32) (A : tz_Mem) : f_X12_copy x1 x2 x3 x4 x5 A =
  tz_bI (f_X12_within x1 0 7 A) (fun y1 A1 =>
if y1 = 0 then
  tz_bI (f_X12_no (-1) A1) (fun y2 A2 =>
  some (some (.int y2), A2))
else
  tz_bI (f_X12_within x2 0 7 A1) (fun y2 A2 =>
  if ¬ y2 = 0 then
    if x1 < 0 ∨ 8 ≤ (Int32.toNatClampNeg x1) then none else
    if (tz_g A2 158 (Int32.toNatClampNeg x1)) < 0 then
      if x2 < 0 ∨ 8 ≤ (Int32.toNatClampNeg x2) then none else
      if (tz_g A2 158 (Int32.toNatClampNeg x2)) < 0 then
        tz_bI (f_X12_isRow x1 A2) (fun y3 A3 =>
        if y3 = 0 then
          if x1 < 0 ∨ 8 ≤ (Int32.toNatClampNeg x1) then none else
          if (tz_g A3 158 (Int32.toNatClampNeg x1)) < 0 then
            tz_bI (f_X12_no (-3) A3) (fun y4 A4 =>
            some (some (.int y4), A4))
          else
            if x2 < 0 ∨ 8 ≤ (Int32.toNatClampNeg x2) then none else
            if 0 ≤ (tz_g A3 158 (Int32.toNatClampNeg x2)) then
              if 0 ≤ x5 then
                if x3 < 0 then
                  tz_bI (f_X12_no (-5) A3) (fun y4 A4 =>
                  some (some (.int y4), A4))
                else
                  if x4 < 0 then
                    tz_bI (f_X12_no (-5) A3) (fun y4 A4 =>
                    some (some (.int y4), A4))
                  else
                    if x1 < 0 ∨ 8 ≤ (Int32.toNatClampNeg x1) then none else
                    if 0 < (lg_cmp ((Int32.toInt64 x3) + (Int32.toInt64 x5)) (Int32.toInt64 (tz_g A3 159 (Int32.toNatClampNeg x1)))) then
                      tz_bI (f_X12_no (-5) A3) (fun y4 A4 =>
                      some (some (.int y4), A4))
                    else
                      if x2 < 0 ∨ 8 ≤ (Int32.toNatClampNeg x2) then none else
                      if (lg_cmp ((Int32.toInt64 x4) + (Int32.toInt64 x5)) (Int32.toInt64 (tz_g A3 159 (Int32.toNatClampNeg x2)))) ≤ 0 then
                        if ¬ x1 = x2 then
                          q_X12_copy_251 x1 x2 x3 x4 x5 0 A3
                        else
                          if x4 ≤ x3 then
                            q_X12_copy_251 x1 x2 x3 x4 x5 0 A3
                          else
                            q_X12_copy_203 x1 x2 x3 x4 (x5 - 1) A3
                      else
                        tz_bI (f_X12_no (-5) A3) (fun y4 A4 =>
                        some (some (.int y4), A4))
              else
                tz_bI (f_X12_no (-4) A3) (fun y4 A4 =>
                some (some (.int y4), A4))
            else
              tz_bI (f_X12_no (-3) A3) (fun y4 A4 =>
              some (some (.int y4), A4))
        else
          tz_bI (f_X12_isRow x2 A3) (fun y4 A4 =>
          if y4 = 0 then
            if x1 < 0 ∨ 8 ≤ (Int32.toNatClampNeg x1) then none else
            if (tz_g A4 158 (Int32.toNatClampNeg x1)) < 0 then
              tz_bI (f_X12_no (-3) A4) (fun y5 A5 =>
              some (some (.int y5), A5))
            else
              if x2 < 0 ∨ 8 ≤ (Int32.toNatClampNeg x2) then none else
              if 0 ≤ (tz_g A4 158 (Int32.toNatClampNeg x2)) then
                if 0 ≤ x5 then
                  if x3 < 0 then
                    tz_bI (f_X12_no (-5) A4) (fun y5 A5 =>
                    some (some (.int y5), A5))
                  else
                    if x4 < 0 then
                      tz_bI (f_X12_no (-5) A4) (fun y5 A5 =>
                      some (some (.int y5), A5))
                    else
                      if x1 < 0 ∨ 8 ≤ (Int32.toNatClampNeg x1) then none else
                      if 0 < (lg_cmp ((Int32.toInt64 x3) + (Int32.toInt64 x5)) (Int32.toInt64 (tz_g A4 159 (Int32.toNatClampNeg x1)))) then
                        tz_bI (f_X12_no (-5) A4) (fun y5 A5 =>
                        some (some (.int y5), A5))
                      else
                        if x2 < 0 ∨ 8 ≤ (Int32.toNatClampNeg x2) then none else
                        if (lg_cmp ((Int32.toInt64 x4) + (Int32.toInt64 x5)) (Int32.toInt64 (tz_g A4 159 (Int32.toNatClampNeg x2)))) ≤ 0 then
                          if ¬ x1 = x2 then
                            q_X12_copy_251 x1 x2 x3 x4 x5 0 A4
                          else
                            if x4 ≤ x3 then
                              q_X12_copy_251 x1 x2 x3 x4 x5 0 A4
                            else
                              q_X12_copy_203 x1 x2 x3 x4 (x5 - 1) A4
                        else
                          tz_bI (f_X12_no (-5) A4) (fun y5 A5 =>
                          some (some (.int y5), A5))
                else
                  tz_bI (f_X12_no (-4) A4) (fun y5 A5 =>
                  some (some (.int y5), A5))
              else
                tz_bI (f_X12_no (-3) A4) (fun y5 A5 =>
                some (some (.int y5), A5))
          else
            if x1 < 0 ∨ 8 ≤ (Int32.toNatClampNeg x1) then none else
            if x2 < 0 ∨ 8 ≤ (Int32.toNatClampNeg x2) then none else
            if (tz_g A4 158 (Int32.toNatClampNeg x1)) = (tz_g A4 158 (Int32.toNatClampNeg x2)) then
              if x1 < 0 ∨ 8 ≤ (Int32.toNatClampNeg x1) then none else
              if (tz_g A4 158 (Int32.toNatClampNeg x1)) < 0 then
                tz_bI (f_X12_no (-3) A4) (fun y5 A5 =>
                some (some (.int y5), A5))
              else
                if x2 < 0 ∨ 8 ≤ (Int32.toNatClampNeg x2) then none else
                if 0 ≤ (tz_g A4 158 (Int32.toNatClampNeg x2)) then
                  if 0 ≤ x5 then
                    if x3 < 0 then
                      tz_bI (f_X12_no (-5) A4) (fun y5 A5 =>
                      some (some (.int y5), A5))
                    else
                      if x4 < 0 then
                        tz_bI (f_X12_no (-5) A4) (fun y5 A5 =>
                        some (some (.int y5), A5))
                      else
                        if x1 < 0 ∨ 8 ≤ (Int32.toNatClampNeg x1) then none else
                        if 0 < (lg_cmp ((Int32.toInt64 x3) + (Int32.toInt64 x5)) (Int32.toInt64 (tz_g A4 159 (Int32.toNatClampNeg x1)))) then
                          tz_bI (f_X12_no (-5) A4) (fun y5 A5 =>
                          some (some (.int y5), A5))
                        else
                          if x2 < 0 ∨ 8 ≤ (Int32.toNatClampNeg x2) then none else
                          if (lg_cmp ((Int32.toInt64 x4) + (Int32.toInt64 x5)) (Int32.toInt64 (tz_g A4 159 (Int32.toNatClampNeg x2)))) ≤ 0 then
                            if ¬ x1 = x2 then
                              q_X12_copy_251 x1 x2 x3 x4 x5 0 A4
                            else
                              if x4 ≤ x3 then
                                q_X12_copy_251 x1 x2 x3 x4 x5 0 A4
                              else
                                q_X12_copy_203 x1 x2 x3 x4 (x5 - 1) A4
                          else
                            tz_bI (f_X12_no (-5) A4) (fun y5 A5 =>
                            some (some (.int y5), A5))
                  else
                    tz_bI (f_X12_no (-4) A4) (fun y5 A5 =>
                    some (some (.int y5), A5))
                else
                  tz_bI (f_X12_no (-3) A4) (fun y5 A5 =>
                  some (some (.int y5), A5))
            else
              tz_bI (f_X12_no (-2) A4) (fun y5 A5 =>
              some (some (.int y5), A5))))
      else
        tz_bI (f_X12_isRow x2 A2) (fun y3 A3 =>
        if y3 = 0 then
          tz_bI (f_X12_no (-2) A3) (fun y4 A4 =>
          some (some (.int y4), A4))
        else
          tz_bI (f_X12_isRow x1 A3) (fun y4 A4 =>
          if y4 = 0 then
            if x1 < 0 ∨ 8 ≤ (Int32.toNatClampNeg x1) then none else
            if (tz_g A4 158 (Int32.toNatClampNeg x1)) < 0 then
              tz_bI (f_X12_no (-3) A4) (fun y5 A5 =>
              some (some (.int y5), A5))
            else
              if x2 < 0 ∨ 8 ≤ (Int32.toNatClampNeg x2) then none else
              if 0 ≤ (tz_g A4 158 (Int32.toNatClampNeg x2)) then
                if 0 ≤ x5 then
                  if x3 < 0 then
                    tz_bI (f_X12_no (-5) A4) (fun y5 A5 =>
                    some (some (.int y5), A5))
                  else
                    if x4 < 0 then
                      tz_bI (f_X12_no (-5) A4) (fun y5 A5 =>
                      some (some (.int y5), A5))
                    else
                      if x1 < 0 ∨ 8 ≤ (Int32.toNatClampNeg x1) then none else
                      if 0 < (lg_cmp ((Int32.toInt64 x3) + (Int32.toInt64 x5)) (Int32.toInt64 (tz_g A4 159 (Int32.toNatClampNeg x1)))) then
                        tz_bI (f_X12_no (-5) A4) (fun y5 A5 =>
                        some (some (.int y5), A5))
                      else
                        if x2 < 0 ∨ 8 ≤ (Int32.toNatClampNeg x2) then none else
                        if (lg_cmp ((Int32.toInt64 x4) + (Int32.toInt64 x5)) (Int32.toInt64 (tz_g A4 159 (Int32.toNatClampNeg x2)))) ≤ 0 then
                          if ¬ x1 = x2 then
                            q_X12_copy_251 x1 x2 x3 x4 x5 0 A4
                          else
                            if x4 ≤ x3 then
                              q_X12_copy_251 x1 x2 x3 x4 x5 0 A4
                            else
                              q_X12_copy_203 x1 x2 x3 x4 (x5 - 1) A4
                        else
                          tz_bI (f_X12_no (-5) A4) (fun y5 A5 =>
                          some (some (.int y5), A5))
                else
                  tz_bI (f_X12_no (-4) A4) (fun y5 A5 =>
                  some (some (.int y5), A5))
              else
                tz_bI (f_X12_no (-3) A4) (fun y5 A5 =>
                some (some (.int y5), A5))
          else
            tz_bI (f_X12_isRow x2 A4) (fun y5 A5 =>
            if y5 = 0 then
              if x1 < 0 ∨ 8 ≤ (Int32.toNatClampNeg x1) then none else
              if (tz_g A5 158 (Int32.toNatClampNeg x1)) < 0 then
                tz_bI (f_X12_no (-3) A5) (fun y6 A6 =>
                some (some (.int y6), A6))
              else
                if x2 < 0 ∨ 8 ≤ (Int32.toNatClampNeg x2) then none else
                if 0 ≤ (tz_g A5 158 (Int32.toNatClampNeg x2)) then
                  if 0 ≤ x5 then
                    if x3 < 0 then
                      tz_bI (f_X12_no (-5) A5) (fun y6 A6 =>
                      some (some (.int y6), A6))
                    else
                      if x4 < 0 then
                        tz_bI (f_X12_no (-5) A5) (fun y6 A6 =>
                        some (some (.int y6), A6))
                      else
                        if x1 < 0 ∨ 8 ≤ (Int32.toNatClampNeg x1) then none else
                        if 0 < (lg_cmp ((Int32.toInt64 x3) + (Int32.toInt64 x5)) (Int32.toInt64 (tz_g A5 159 (Int32.toNatClampNeg x1)))) then
                          tz_bI (f_X12_no (-5) A5) (fun y6 A6 =>
                          some (some (.int y6), A6))
                        else
                          if x2 < 0 ∨ 8 ≤ (Int32.toNatClampNeg x2) then none else
                          if (lg_cmp ((Int32.toInt64 x4) + (Int32.toInt64 x5)) (Int32.toInt64 (tz_g A5 159 (Int32.toNatClampNeg x2)))) ≤ 0 then
                            if ¬ x1 = x2 then
                              q_X12_copy_251 x1 x2 x3 x4 x5 0 A5
                            else
                              if x4 ≤ x3 then
                                q_X12_copy_251 x1 x2 x3 x4 x5 0 A5
                              else
                                q_X12_copy_203 x1 x2 x3 x4 (x5 - 1) A5
                          else
                            tz_bI (f_X12_no (-5) A5) (fun y6 A6 =>
                            some (some (.int y6), A6))
                  else
                    tz_bI (f_X12_no (-4) A5) (fun y6 A6 =>
                    some (some (.int y6), A6))
                else
                  tz_bI (f_X12_no (-3) A5) (fun y6 A6 =>
                  some (some (.int y6), A6))
            else
              if x1 < 0 ∨ 8 ≤ (Int32.toNatClampNeg x1) then none else
              if x2 < 0 ∨ 8 ≤ (Int32.toNatClampNeg x2) then none else
              if (tz_g A5 158 (Int32.toNatClampNeg x1)) = (tz_g A5 158 (Int32.toNatClampNeg x2)) then
                if x1 < 0 ∨ 8 ≤ (Int32.toNatClampNeg x1) then none else
                if (tz_g A5 158 (Int32.toNatClampNeg x1)) < 0 then
                  tz_bI (f_X12_no (-3) A5) (fun y6 A6 =>
                  some (some (.int y6), A6))
                else
                  if x2 < 0 ∨ 8 ≤ (Int32.toNatClampNeg x2) then none else
                  if 0 ≤ (tz_g A5 158 (Int32.toNatClampNeg x2)) then
                    if 0 ≤ x5 then
                      if x3 < 0 then
                        tz_bI (f_X12_no (-5) A5) (fun y6 A6 =>
                        some (some (.int y6), A6))
                      else
                        if x4 < 0 then
                          tz_bI (f_X12_no (-5) A5) (fun y6 A6 =>
                          some (some (.int y6), A6))
                        else
                          if x1 < 0 ∨ 8 ≤ (Int32.toNatClampNeg x1) then none else
                          if 0 < (lg_cmp ((Int32.toInt64 x3) + (Int32.toInt64 x5)) (Int32.toInt64 (tz_g A5 159 (Int32.toNatClampNeg x1)))) then
                            tz_bI (f_X12_no (-5) A5) (fun y6 A6 =>
                            some (some (.int y6), A6))
                          else
                            if x2 < 0 ∨ 8 ≤ (Int32.toNatClampNeg x2) then none else
                            if (lg_cmp ((Int32.toInt64 x4) + (Int32.toInt64 x5)) (Int32.toInt64 (tz_g A5 159 (Int32.toNatClampNeg x2)))) ≤ 0 then
                              if ¬ x1 = x2 then
                                q_X12_copy_251 x1 x2 x3 x4 x5 0 A5
                              else
                                if x4 ≤ x3 then
                                  q_X12_copy_251 x1 x2 x3 x4 x5 0 A5
                                else
                                  q_X12_copy_203 x1 x2 x3 x4 (x5 - 1) A5
                            else
                              tz_bI (f_X12_no (-5) A5) (fun y6 A6 =>
                              some (some (.int y6), A6))
                    else
                      tz_bI (f_X12_no (-4) A5) (fun y6 A6 =>
                      some (some (.int y6), A6))
                  else
                    tz_bI (f_X12_no (-3) A5) (fun y6 A6 =>
                    some (some (.int y6), A6))
              else
                tz_bI (f_X12_no (-2) A5) (fun y6 A6 =>
                some (some (.int y6), A6)))))
    else
      tz_bI (f_X12_isRow x1 A2) (fun y3 A3 =>
      if y3 = 0 then
        tz_bI (f_X12_no (-2) A3) (fun y4 A4 =>
        some (some (.int y4), A4))
      else
        if x2 < 0 ∨ 8 ≤ (Int32.toNatClampNeg x2) then none else
        if (tz_g A3 158 (Int32.toNatClampNeg x2)) < 0 then
          tz_bI (f_X12_isRow x1 A3) (fun y4 A4 =>
          if y4 = 0 then
            if x1 < 0 ∨ 8 ≤ (Int32.toNatClampNeg x1) then none else
            if (tz_g A4 158 (Int32.toNatClampNeg x1)) < 0 then
              tz_bI (f_X12_no (-3) A4) (fun y5 A5 =>
              some (some (.int y5), A5))
            else
              if x2 < 0 ∨ 8 ≤ (Int32.toNatClampNeg x2) then none else
              if 0 ≤ (tz_g A4 158 (Int32.toNatClampNeg x2)) then
                if 0 ≤ x5 then
                  if x3 < 0 then
                    tz_bI (f_X12_no (-5) A4) (fun y5 A5 =>
                    some (some (.int y5), A5))
                  else
                    if x4 < 0 then
                      tz_bI (f_X12_no (-5) A4) (fun y5 A5 =>
                      some (some (.int y5), A5))
                    else
                      if x1 < 0 ∨ 8 ≤ (Int32.toNatClampNeg x1) then none else
                      if 0 < (lg_cmp ((Int32.toInt64 x3) + (Int32.toInt64 x5)) (Int32.toInt64 (tz_g A4 159 (Int32.toNatClampNeg x1)))) then
                        tz_bI (f_X12_no (-5) A4) (fun y5 A5 =>
                        some (some (.int y5), A5))
                      else
                        if x2 < 0 ∨ 8 ≤ (Int32.toNatClampNeg x2) then none else
                        if (lg_cmp ((Int32.toInt64 x4) + (Int32.toInt64 x5)) (Int32.toInt64 (tz_g A4 159 (Int32.toNatClampNeg x2)))) ≤ 0 then
                          if ¬ x1 = x2 then
                            q_X12_copy_251 x1 x2 x3 x4 x5 0 A4
                          else
                            if x4 ≤ x3 then
                              q_X12_copy_251 x1 x2 x3 x4 x5 0 A4
                            else
                              q_X12_copy_203 x1 x2 x3 x4 (x5 - 1) A4
                        else
                          tz_bI (f_X12_no (-5) A4) (fun y5 A5 =>
                          some (some (.int y5), A5))
                else
                  tz_bI (f_X12_no (-4) A4) (fun y5 A5 =>
                  some (some (.int y5), A5))
              else
                tz_bI (f_X12_no (-3) A4) (fun y5 A5 =>
                some (some (.int y5), A5))
          else
            tz_bI (f_X12_isRow x2 A4) (fun y5 A5 =>
            if y5 = 0 then
              if x1 < 0 ∨ 8 ≤ (Int32.toNatClampNeg x1) then none else
              if (tz_g A5 158 (Int32.toNatClampNeg x1)) < 0 then
                tz_bI (f_X12_no (-3) A5) (fun y6 A6 =>
                some (some (.int y6), A6))
              else
                if x2 < 0 ∨ 8 ≤ (Int32.toNatClampNeg x2) then none else
                if 0 ≤ (tz_g A5 158 (Int32.toNatClampNeg x2)) then
                  if 0 ≤ x5 then
                    if x3 < 0 then
                      tz_bI (f_X12_no (-5) A5) (fun y6 A6 =>
                      some (some (.int y6), A6))
                    else
                      if x4 < 0 then
                        tz_bI (f_X12_no (-5) A5) (fun y6 A6 =>
                        some (some (.int y6), A6))
                      else
                        if x1 < 0 ∨ 8 ≤ (Int32.toNatClampNeg x1) then none else
                        if 0 < (lg_cmp ((Int32.toInt64 x3) + (Int32.toInt64 x5)) (Int32.toInt64 (tz_g A5 159 (Int32.toNatClampNeg x1)))) then
                          tz_bI (f_X12_no (-5) A5) (fun y6 A6 =>
                          some (some (.int y6), A6))
                        else
                          if x2 < 0 ∨ 8 ≤ (Int32.toNatClampNeg x2) then none else
                          if (lg_cmp ((Int32.toInt64 x4) + (Int32.toInt64 x5)) (Int32.toInt64 (tz_g A5 159 (Int32.toNatClampNeg x2)))) ≤ 0 then
                            if ¬ x1 = x2 then
                              q_X12_copy_251 x1 x2 x3 x4 x5 0 A5
                            else
                              if x4 ≤ x3 then
                                q_X12_copy_251 x1 x2 x3 x4 x5 0 A5
                              else
                                q_X12_copy_203 x1 x2 x3 x4 (x5 - 1) A5
                          else
                            tz_bI (f_X12_no (-5) A5) (fun y6 A6 =>
                            some (some (.int y6), A6))
                  else
                    tz_bI (f_X12_no (-4) A5) (fun y6 A6 =>
                    some (some (.int y6), A6))
                else
                  tz_bI (f_X12_no (-3) A5) (fun y6 A6 =>
                  some (some (.int y6), A6))
            else
              if x1 < 0 ∨ 8 ≤ (Int32.toNatClampNeg x1) then none else
              if x2 < 0 ∨ 8 ≤ (Int32.toNatClampNeg x2) then none else
              if (tz_g A5 158 (Int32.toNatClampNeg x1)) = (tz_g A5 158 (Int32.toNatClampNeg x2)) then
                if x1 < 0 ∨ 8 ≤ (Int32.toNatClampNeg x1) then none else
                if (tz_g A5 158 (Int32.toNatClampNeg x1)) < 0 then
                  tz_bI (f_X12_no (-3) A5) (fun y6 A6 =>
                  some (some (.int y6), A6))
                else
                  if x2 < 0 ∨ 8 ≤ (Int32.toNatClampNeg x2) then none else
                  if 0 ≤ (tz_g A5 158 (Int32.toNatClampNeg x2)) then
                    if 0 ≤ x5 then
                      if x3 < 0 then
                        tz_bI (f_X12_no (-5) A5) (fun y6 A6 =>
                        some (some (.int y6), A6))
                      else
                        if x4 < 0 then
                          tz_bI (f_X12_no (-5) A5) (fun y6 A6 =>
                          some (some (.int y6), A6))
                        else
                          if x1 < 0 ∨ 8 ≤ (Int32.toNatClampNeg x1) then none else
                          if 0 < (lg_cmp ((Int32.toInt64 x3) + (Int32.toInt64 x5)) (Int32.toInt64 (tz_g A5 159 (Int32.toNatClampNeg x1)))) then
                            tz_bI (f_X12_no (-5) A5) (fun y6 A6 =>
                            some (some (.int y6), A6))
                          else
                            if x2 < 0 ∨ 8 ≤ (Int32.toNatClampNeg x2) then none else
                            if (lg_cmp ((Int32.toInt64 x4) + (Int32.toInt64 x5)) (Int32.toInt64 (tz_g A5 159 (Int32.toNatClampNeg x2)))) ≤ 0 then
                              if ¬ x1 = x2 then
                                q_X12_copy_251 x1 x2 x3 x4 x5 0 A5
                              else
                                if x4 ≤ x3 then
                                  q_X12_copy_251 x1 x2 x3 x4 x5 0 A5
                                else
                                  q_X12_copy_203 x1 x2 x3 x4 (x5 - 1) A5
                            else
                              tz_bI (f_X12_no (-5) A5) (fun y6 A6 =>
                              some (some (.int y6), A6))
                    else
                      tz_bI (f_X12_no (-4) A5) (fun y6 A6 =>
                      some (some (.int y6), A6))
                  else
                    tz_bI (f_X12_no (-3) A5) (fun y6 A6 =>
                    some (some (.int y6), A6))
              else
                tz_bI (f_X12_no (-2) A5) (fun y6 A6 =>
                some (some (.int y6), A6))))
        else
          tz_bI (f_X12_isRow x2 A3) (fun y4 A4 =>
          if y4 = 0 then
            tz_bI (f_X12_no (-2) A4) (fun y5 A5 =>
            some (some (.int y5), A5))
          else
            tz_bI (f_X12_isRow x1 A4) (fun y5 A5 =>
            if y5 = 0 then
              if x1 < 0 ∨ 8 ≤ (Int32.toNatClampNeg x1) then none else
              if (tz_g A5 158 (Int32.toNatClampNeg x1)) < 0 then
                tz_bI (f_X12_no (-3) A5) (fun y6 A6 =>
                some (some (.int y6), A6))
              else
                if x2 < 0 ∨ 8 ≤ (Int32.toNatClampNeg x2) then none else
                if 0 ≤ (tz_g A5 158 (Int32.toNatClampNeg x2)) then
                  if 0 ≤ x5 then
                    if x3 < 0 then
                      tz_bI (f_X12_no (-5) A5) (fun y6 A6 =>
                      some (some (.int y6), A6))
                    else
                      if x4 < 0 then
                        tz_bI (f_X12_no (-5) A5) (fun y6 A6 =>
                        some (some (.int y6), A6))
                      else
                        if x1 < 0 ∨ 8 ≤ (Int32.toNatClampNeg x1) then none else
                        if 0 < (lg_cmp ((Int32.toInt64 x3) + (Int32.toInt64 x5)) (Int32.toInt64 (tz_g A5 159 (Int32.toNatClampNeg x1)))) then
                          tz_bI (f_X12_no (-5) A5) (fun y6 A6 =>
                          some (some (.int y6), A6))
                        else
                          if x2 < 0 ∨ 8 ≤ (Int32.toNatClampNeg x2) then none else
                          if (lg_cmp ((Int32.toInt64 x4) + (Int32.toInt64 x5)) (Int32.toInt64 (tz_g A5 159 (Int32.toNatClampNeg x2)))) ≤ 0 then
                            if ¬ x1 = x2 then
                              q_X12_copy_251 x1 x2 x3 x4 x5 0 A5
                            else
                              if x4 ≤ x3 then
                                q_X12_copy_251 x1 x2 x3 x4 x5 0 A5
                              else
                                q_X12_copy_203 x1 x2 x3 x4 (x5 - 1) A5
                          else
                            tz_bI (f_X12_no (-5) A5) (fun y6 A6 =>
                            some (some (.int y6), A6))
                  else
                    tz_bI (f_X12_no (-4) A5) (fun y6 A6 =>
                    some (some (.int y6), A6))
                else
                  tz_bI (f_X12_no (-3) A5) (fun y6 A6 =>
                  some (some (.int y6), A6))
            else
              tz_bI (f_X12_isRow x2 A5) (fun y6 A6 =>
              if y6 = 0 then
                if x1 < 0 ∨ 8 ≤ (Int32.toNatClampNeg x1) then none else
                if (tz_g A6 158 (Int32.toNatClampNeg x1)) < 0 then
                  tz_bI (f_X12_no (-3) A6) (fun y7 A7 =>
                  some (some (.int y7), A7))
                else
                  if x2 < 0 ∨ 8 ≤ (Int32.toNatClampNeg x2) then none else
                  if 0 ≤ (tz_g A6 158 (Int32.toNatClampNeg x2)) then
                    if 0 ≤ x5 then
                      if x3 < 0 then
                        tz_bI (f_X12_no (-5) A6) (fun y7 A7 =>
                        some (some (.int y7), A7))
                      else
                        if x4 < 0 then
                          tz_bI (f_X12_no (-5) A6) (fun y7 A7 =>
                          some (some (.int y7), A7))
                        else
                          if x1 < 0 ∨ 8 ≤ (Int32.toNatClampNeg x1) then none else
                          if 0 < (lg_cmp ((Int32.toInt64 x3) + (Int32.toInt64 x5)) (Int32.toInt64 (tz_g A6 159 (Int32.toNatClampNeg x1)))) then
                            tz_bI (f_X12_no (-5) A6) (fun y7 A7 =>
                            some (some (.int y7), A7))
                          else
                            if x2 < 0 ∨ 8 ≤ (Int32.toNatClampNeg x2) then none else
                            if (lg_cmp ((Int32.toInt64 x4) + (Int32.toInt64 x5)) (Int32.toInt64 (tz_g A6 159 (Int32.toNatClampNeg x2)))) ≤ 0 then
                              if ¬ x1 = x2 then
                                q_X12_copy_251 x1 x2 x3 x4 x5 0 A6
                              else
                                if x4 ≤ x3 then
                                  q_X12_copy_251 x1 x2 x3 x4 x5 0 A6
                                else
                                  q_X12_copy_203 x1 x2 x3 x4 (x5 - 1) A6
                            else
                              tz_bI (f_X12_no (-5) A6) (fun y7 A7 =>
                              some (some (.int y7), A7))
                    else
                      tz_bI (f_X12_no (-4) A6) (fun y7 A7 =>
                      some (some (.int y7), A7))
                  else
                    tz_bI (f_X12_no (-3) A6) (fun y7 A7 =>
                    some (some (.int y7), A7))
              else
                if x1 < 0 ∨ 8 ≤ (Int32.toNatClampNeg x1) then none else
                if x2 < 0 ∨ 8 ≤ (Int32.toNatClampNeg x2) then none else
                if (tz_g A6 158 (Int32.toNatClampNeg x1)) = (tz_g A6 158 (Int32.toNatClampNeg x2)) then
                  if x1 < 0 ∨ 8 ≤ (Int32.toNatClampNeg x1) then none else
                  if (tz_g A6 158 (Int32.toNatClampNeg x1)) < 0 then
                    tz_bI (f_X12_no (-3) A6) (fun y7 A7 =>
                    some (some (.int y7), A7))
                  else
                    if x2 < 0 ∨ 8 ≤ (Int32.toNatClampNeg x2) then none else
                    if 0 ≤ (tz_g A6 158 (Int32.toNatClampNeg x2)) then
                      if 0 ≤ x5 then
                        if x3 < 0 then
                          tz_bI (f_X12_no (-5) A6) (fun y7 A7 =>
                          some (some (.int y7), A7))
                        else
                          if x4 < 0 then
                            tz_bI (f_X12_no (-5) A6) (fun y7 A7 =>
                            some (some (.int y7), A7))
                          else
                            if x1 < 0 ∨ 8 ≤ (Int32.toNatClampNeg x1) then none else
                            if 0 < (lg_cmp ((Int32.toInt64 x3) + (Int32.toInt64 x5)) (Int32.toInt64 (tz_g A6 159 (Int32.toNatClampNeg x1)))) then
                              tz_bI (f_X12_no (-5) A6) (fun y7 A7 =>
                              some (some (.int y7), A7))
                            else
                              if x2 < 0 ∨ 8 ≤ (Int32.toNatClampNeg x2) then none else
                              if (lg_cmp ((Int32.toInt64 x4) + (Int32.toInt64 x5)) (Int32.toInt64 (tz_g A6 159 (Int32.toNatClampNeg x2)))) ≤ 0 then
                                if ¬ x1 = x2 then
                                  q_X12_copy_251 x1 x2 x3 x4 x5 0 A6
                                else
                                  if x4 ≤ x3 then
                                    q_X12_copy_251 x1 x2 x3 x4 x5 0 A6
                                  else
                                    q_X12_copy_203 x1 x2 x3 x4 (x5 - 1) A6
                              else
                                tz_bI (f_X12_no (-5) A6) (fun y7 A7 =>
                                some (some (.int y7), A7))
                      else
                        tz_bI (f_X12_no (-4) A6) (fun y7 A7 =>
                        some (some (.int y7), A7))
                    else
                      tz_bI (f_X12_no (-3) A6) (fun y7 A7 =>
                      some (some (.int y7), A7))
                else
                  tz_bI (f_X12_no (-2) A6) (fun y7 A7 =>
                  some (some (.int y7), A7))))))
  else
    tz_bI (f_X12_no (-1) A2) (fun y3 A3 =>
    some (some (.int y3), A3)))) := by
  refine (tz_Fe (L := [some (.ref 157), some (.int x1), some (.int x2), some (.int x3), some (.int x4), some (.int x5), none]) rfl).trans ?_
  refine (tz_g_iload_n rfl (tz_in0 rfl)).trans ?_
  refine (tz_g_iconst (v := 0) rfl (tz_in0 rfl)).trans ?_
  refine (tz_g_bipush (v := 7) rfl (tz_in0 rfl)).trans ?_
  refine (tz_g_cs3I (m2 := 165) (rc := 4) rfl rfl rfl rfl rfl rfl (by decide) (tz_in0 rfl)).trans ?_
  refine tz_jI (fun y1 A1 => ?_)
  refine (tz_g_if_eq (t := 20) (by decide) (tz_in0 rfl)).trans ?_
  refine tz_cg ?_ ?_
  · skip
    refine (tz_g_aload_n rfl (tz_in0 rfl)).trans ?_
    refine (tz_g_iconst (v := (-1)) rfl (tz_in0 rfl)).trans ?_
    refine (tz_g_cv1I (m2 := 166) (rc := 1) rfl rfl rfl rfl rfl rfl (by decide) (tz_in0 rfl)).trans ?_
    refine tz_jI (fun y2 A2 => ?_)
    exact tz_g_ret1 (tz_in0 rfl) rfl
  · skip
    refine (tz_g_iload_n rfl (tz_in0 rfl)).trans ?_
    refine (tz_g_iconst (v := 0) rfl (tz_in0 rfl)).trans ?_
    refine (tz_g_bipush (v := 7) rfl (tz_in0 rfl)).trans ?_
    refine (tz_g_cs3I (m2 := 165) (rc := 4) rfl rfl rfl rfl rfl rfl (by decide) (tz_in0 rfl)).trans ?_
    refine tz_jI (fun y2 A2 => ?_)
    refine (tz_g_if_ne (t := 26) (by decide) (tz_in0 rfl)).trans ?_
    refine tz_cg ?_ ?_
    · skip
      refine (tz_g_aload_n rfl (tz_in0 rfl)).trans ?_
      refine (tz_g_getr (j := 158) rfl rfl rfl rfl rfl (tz_in0 rfl)).trans ?_
      refine (tz_g_iload_n rfl (tz_in0 rfl)).trans ?_
      refine (tz_g_iald (n := 8) rfl rfl rfl (tz_in0 rfl)).trans ?_
      refine tz_cn1 ?_
      refine (tz_g_if_lt (t := 43) (by decide) (tz_in0 rfl)).trans ?_
      refine tz_cg ?_ ?_
      · skip
        refine (tz_g_aload_n rfl (tz_in0 rfl)).trans ?_
        refine (tz_g_getr (j := 158) rfl rfl rfl rfl rfl (tz_in0 rfl)).trans ?_
        refine (tz_g_iload_n rfl (tz_in0 rfl)).trans ?_
        refine (tz_g_iald (n := 8) rfl rfl rfl (tz_in0 rfl)).trans ?_
        refine tz_cn1 ?_
        refine (tz_g_if_lt (t := 60) (by decide) (tz_in0 rfl)).trans ?_
        refine tz_cg ?_ ?_
        · skip
          refine (tz_g_aload_n rfl (tz_in0 rfl)).trans ?_
          refine (tz_g_iload_n rfl (tz_in0 rfl)).trans ?_
          refine (tz_g_cv1I (m2 := 169) (rc := 4) rfl rfl rfl rfl rfl rfl (by decide) (tz_in0 rfl)).trans ?_
          refine tz_jI (fun y3 A3 => ?_)
          refine (tz_g_if_eq (t := 98) (by decide) (tz_in0 rfl)).trans ?_
          refine tz_cg ?_ ?_
          · skip
            refine (tz_g_aload_n rfl (tz_in0 rfl)).trans ?_
            refine (tz_g_getr (j := 158) rfl rfl rfl rfl rfl (tz_in0 rfl)).trans ?_
            refine (tz_g_iload_n rfl (tz_in0 rfl)).trans ?_
            refine (tz_g_iald (n := 8) rfl rfl rfl (tz_in0 rfl)).trans ?_
            refine tz_cn1 ?_
            refine (tz_g_if_lt (t := 116) (by decide) (tz_in0 rfl)).trans ?_
            refine tz_cg ?_ ?_
            · skip
              refine (tz_g_aload_n rfl (tz_in0 rfl)).trans ?_
              refine (tz_g_bipush (v := (-3)) rfl (tz_in0 rfl)).trans ?_
              refine (tz_g_cv1I (m2 := 166) (rc := 1) rfl rfl rfl rfl rfl rfl (by decide) (tz_in0 rfl)).trans ?_
              refine tz_jI (fun y4 A4 => ?_)
              exact tz_g_ret1 (tz_in0 rfl) rfl
            · skip
              refine (tz_g_aload_n rfl (tz_in0 rfl)).trans ?_
              refine (tz_g_getr (j := 158) rfl rfl rfl rfl rfl (tz_in0 rfl)).trans ?_
              refine (tz_g_iload_n rfl (tz_in0 rfl)).trans ?_
              refine (tz_g_iald (n := 8) rfl rfl rfl (tz_in0 rfl)).trans ?_
              refine tz_cn1 ?_
              refine (tz_g_if_ge (t := 123) (by decide) (tz_in0 rfl)).trans ?_
              refine tz_cg ?_ ?_
              · skip
                refine (tz_g_iload rfl (tz_in0 rfl)).trans ?_
                refine (tz_g_if_ge (t := 135) (by decide) (tz_in0 rfl)).trans ?_
                refine tz_cg ?_ ?_
                · skip
                  refine (tz_g_iload_n rfl (tz_in0 rfl)).trans ?_
                  refine (tz_g_if_lt (t := 179) (by decide) (tz_in0 rfl)).trans ?_
                  refine tz_cg ?_ ?_
                  · skip
                    refine (tz_g_aload_n rfl (tz_in0 rfl)).trans ?_
                    refine (tz_g_bipush (v := (-5)) rfl (tz_in0 rfl)).trans ?_
                    refine (tz_g_cv1I (m2 := 166) (rc := 1) rfl rfl rfl rfl rfl rfl (by decide) (tz_in0 rfl)).trans ?_
                    refine tz_jI (fun y4 A4 => ?_)
                    exact tz_g_ret1 (tz_in0 rfl) rfl
                  · skip
                    refine (tz_g_iload rfl (tz_in0 rfl)).trans ?_
                    refine (tz_g_if_lt (t := 179) (by decide) (tz_in0 rfl)).trans ?_
                    refine tz_cg ?_ ?_
                    · skip
                      refine (tz_g_aload_n rfl (tz_in0 rfl)).trans ?_
                      refine (tz_g_bipush (v := (-5)) rfl (tz_in0 rfl)).trans ?_
                      refine (tz_g_cv1I (m2 := 166) (rc := 1) rfl rfl rfl rfl rfl rfl (by decide) (tz_in0 rfl)).trans ?_
                      refine tz_jI (fun y4 A4 => ?_)
                      exact tz_g_ret1 (tz_in0 rfl) rfl
                    · skip
                      refine (tz_g_iload_n rfl (tz_in0 rfl)).trans ?_
                      refine (tz_g_i2l (tz_in0 rfl)).trans ?_
                      refine (tz_g_iload rfl (tz_in0 rfl)).trans ?_
                      refine (tz_g_i2l (tz_in0 rfl)).trans ?_
                      refine (tz_g_ladd (tz_in0 rfl)).trans ?_
                      refine (tz_g_aload_n rfl (tz_in0 rfl)).trans ?_
                      refine (tz_g_getr (j := 159) rfl rfl rfl rfl rfl (tz_in0 rfl)).trans ?_
                      refine (tz_g_iload_n rfl (tz_in0 rfl)).trans ?_
                      refine (tz_g_iald (n := 8) rfl rfl rfl (tz_in0 rfl)).trans ?_
                      refine tz_cn1 ?_
                      refine (tz_g_i2l (tz_in0 rfl)).trans ?_
                      refine (tz_g_lcmp (tz_in0 rfl)).trans ?_
                      refine (tz_g_if_gt (t := 179) (by decide) (tz_in0 rfl)).trans ?_
                      refine tz_cg ?_ ?_
                      · skip
                        refine (tz_g_aload_n rfl (tz_in0 rfl)).trans ?_
                        refine (tz_g_bipush (v := (-5)) rfl (tz_in0 rfl)).trans ?_
                        refine (tz_g_cv1I (m2 := 166) (rc := 1) rfl rfl rfl rfl rfl rfl (by decide) (tz_in0 rfl)).trans ?_
                        refine tz_jI (fun y4 A4 => ?_)
                        exact tz_g_ret1 (tz_in0 rfl) rfl
                      · skip
                        refine (tz_g_iload rfl (tz_in0 rfl)).trans ?_
                        refine (tz_g_i2l (tz_in0 rfl)).trans ?_
                        refine (tz_g_iload rfl (tz_in0 rfl)).trans ?_
                        refine (tz_g_i2l (tz_in0 rfl)).trans ?_
                        refine (tz_g_ladd (tz_in0 rfl)).trans ?_
                        refine (tz_g_aload_n rfl (tz_in0 rfl)).trans ?_
                        refine (tz_g_getr (j := 159) rfl rfl rfl rfl rfl (tz_in0 rfl)).trans ?_
                        refine (tz_g_iload_n rfl (tz_in0 rfl)).trans ?_
                        refine (tz_g_iald (n := 8) rfl rfl rfl (tz_in0 rfl)).trans ?_
                        refine tz_cn1 ?_
                        refine (tz_g_i2l (tz_in0 rfl)).trans ?_
                        refine (tz_g_lcmp (tz_in0 rfl)).trans ?_
                        refine (tz_g_if_le (t := 186) (by decide) (tz_in0 rfl)).trans ?_
                        refine tz_cg ?_ ?_
                        · skip
                          refine (tz_g_iload_n rfl (tz_in0 rfl)).trans ?_
                          refine (tz_g_iload_n rfl (tz_in0 rfl)).trans ?_
                          refine (tz_g_ic_ne (t := 248) (by decide) (tz_in0 rfl)).trans ?_
                          refine tz_cg ?_ ?_
                          · skip
                            refine (tz_g_iconst (v := 0) rfl (tz_in0 rfl)).trans ?_
                            refine (tz_g_istore (L2 := [some (.ref 157), some (.int x1), some (.int x2), some (.int x3), some (.int x4), some (.int x5), some (.int 0)]) rfl rfl (tz_in0 rfl)).trans ?_
                            exact tz_Gm (L2 := [some (.ref 157), some (.int x1), some (.int x2), some (.int x3), some (.int x4), some (.int x5), some (.int 0)]) rfl rfl rfl rfl
                          · skip
                            refine (tz_g_iload_n rfl (tz_in0 rfl)).trans ?_
                            refine (tz_g_iload rfl (tz_in0 rfl)).trans ?_
                            refine (tz_g_ic_ge (t := 248) (by decide) (tz_in0 rfl)).trans ?_
                            refine tz_cg ?_ ?_
                            · skip
                              refine (tz_g_iconst (v := 0) rfl (tz_in0 rfl)).trans ?_
                              refine (tz_g_istore (L2 := [some (.ref 157), some (.int x1), some (.int x2), some (.int x3), some (.int x4), some (.int x5), some (.int 0)]) rfl rfl (tz_in0 rfl)).trans ?_
                              exact tz_Gm (L2 := [some (.ref 157), some (.int x1), some (.int x2), some (.int x3), some (.int x4), some (.int x5), some (.int 0)]) rfl rfl rfl rfl
                            · skip
                              refine (tz_g_iload rfl (tz_in0 rfl)).trans ?_
                              refine (tz_g_iconst (v := 1) rfl (tz_in0 rfl)).trans ?_
                              refine (tz_g_isub (tz_in0 rfl)).trans ?_
                              refine (tz_g_istore (L2 := [some (.ref 157), some (.int x1), some (.int x2), some (.int x3), some (.int x4), some (.int x5), some (.int (x5 - 1))]) rfl rfl (tz_in0 rfl)).trans ?_
                              exact tz_Gm (L2 := [some (.ref 157), some (.int x1), some (.int x2), some (.int x3), some (.int x4), none, some (.int (x5 - 1))]) rfl rfl rfl rfl
                        · skip
                          refine (tz_g_aload_n rfl (tz_in0 rfl)).trans ?_
                          refine (tz_g_bipush (v := (-5)) rfl (tz_in0 rfl)).trans ?_
                          refine (tz_g_cv1I (m2 := 166) (rc := 1) rfl rfl rfl rfl rfl rfl (by decide) (tz_in0 rfl)).trans ?_
                          refine tz_jI (fun y4 A4 => ?_)
                          exact tz_g_ret1 (tz_in0 rfl) rfl
                · skip
                  refine (tz_g_aload_n rfl (tz_in0 rfl)).trans ?_
                  refine (tz_g_bipush (v := (-4)) rfl (tz_in0 rfl)).trans ?_
                  refine (tz_g_cv1I (m2 := 166) (rc := 1) rfl rfl rfl rfl rfl rfl (by decide) (tz_in0 rfl)).trans ?_
                  refine tz_jI (fun y4 A4 => ?_)
                  exact tz_g_ret1 (tz_in0 rfl) rfl
              · skip
                refine (tz_g_aload_n rfl (tz_in0 rfl)).trans ?_
                refine (tz_g_bipush (v := (-3)) rfl (tz_in0 rfl)).trans ?_
                refine (tz_g_cv1I (m2 := 166) (rc := 1) rfl rfl rfl rfl rfl rfl (by decide) (tz_in0 rfl)).trans ?_
                refine tz_jI (fun y4 A4 => ?_)
                exact tz_g_ret1 (tz_in0 rfl) rfl
          · skip
            refine (tz_g_aload_n rfl (tz_in0 rfl)).trans ?_
            refine (tz_g_iload_n rfl (tz_in0 rfl)).trans ?_
            refine (tz_g_cv1I (m2 := 169) (rc := 4) rfl rfl rfl rfl rfl rfl (by decide) (tz_in0 rfl)).trans ?_
            refine tz_jI (fun y4 A4 => ?_)
            refine (tz_g_if_eq (t := 98) (by decide) (tz_in0 rfl)).trans ?_
            refine tz_cg ?_ ?_
            · skip
              refine (tz_g_aload_n rfl (tz_in0 rfl)).trans ?_
              refine (tz_g_getr (j := 158) rfl rfl rfl rfl rfl (tz_in0 rfl)).trans ?_
              refine (tz_g_iload_n rfl (tz_in0 rfl)).trans ?_
              refine (tz_g_iald (n := 8) rfl rfl rfl (tz_in0 rfl)).trans ?_
              refine tz_cn1 ?_
              refine (tz_g_if_lt (t := 116) (by decide) (tz_in0 rfl)).trans ?_
              refine tz_cg ?_ ?_
              · skip
                refine (tz_g_aload_n rfl (tz_in0 rfl)).trans ?_
                refine (tz_g_bipush (v := (-3)) rfl (tz_in0 rfl)).trans ?_
                refine (tz_g_cv1I (m2 := 166) (rc := 1) rfl rfl rfl rfl rfl rfl (by decide) (tz_in0 rfl)).trans ?_
                refine tz_jI (fun y5 A5 => ?_)
                exact tz_g_ret1 (tz_in0 rfl) rfl
              · skip
                refine (tz_g_aload_n rfl (tz_in0 rfl)).trans ?_
                refine (tz_g_getr (j := 158) rfl rfl rfl rfl rfl (tz_in0 rfl)).trans ?_
                refine (tz_g_iload_n rfl (tz_in0 rfl)).trans ?_
                refine (tz_g_iald (n := 8) rfl rfl rfl (tz_in0 rfl)).trans ?_
                refine tz_cn1 ?_
                refine (tz_g_if_ge (t := 123) (by decide) (tz_in0 rfl)).trans ?_
                refine tz_cg ?_ ?_
                · skip
                  refine (tz_g_iload rfl (tz_in0 rfl)).trans ?_
                  refine (tz_g_if_ge (t := 135) (by decide) (tz_in0 rfl)).trans ?_
                  refine tz_cg ?_ ?_
                  · skip
                    refine (tz_g_iload_n rfl (tz_in0 rfl)).trans ?_
                    refine (tz_g_if_lt (t := 179) (by decide) (tz_in0 rfl)).trans ?_
                    refine tz_cg ?_ ?_
                    · skip
                      refine (tz_g_aload_n rfl (tz_in0 rfl)).trans ?_
                      refine (tz_g_bipush (v := (-5)) rfl (tz_in0 rfl)).trans ?_
                      refine (tz_g_cv1I (m2 := 166) (rc := 1) rfl rfl rfl rfl rfl rfl (by decide) (tz_in0 rfl)).trans ?_
                      refine tz_jI (fun y5 A5 => ?_)
                      exact tz_g_ret1 (tz_in0 rfl) rfl
                    · skip
                      refine (tz_g_iload rfl (tz_in0 rfl)).trans ?_
                      refine (tz_g_if_lt (t := 179) (by decide) (tz_in0 rfl)).trans ?_
                      refine tz_cg ?_ ?_
                      · skip
                        refine (tz_g_aload_n rfl (tz_in0 rfl)).trans ?_
                        refine (tz_g_bipush (v := (-5)) rfl (tz_in0 rfl)).trans ?_
                        refine (tz_g_cv1I (m2 := 166) (rc := 1) rfl rfl rfl rfl rfl rfl (by decide) (tz_in0 rfl)).trans ?_
                        refine tz_jI (fun y5 A5 => ?_)
                        exact tz_g_ret1 (tz_in0 rfl) rfl
                      · skip
                        refine (tz_g_iload_n rfl (tz_in0 rfl)).trans ?_
                        refine (tz_g_i2l (tz_in0 rfl)).trans ?_
                        refine (tz_g_iload rfl (tz_in0 rfl)).trans ?_
                        refine (tz_g_i2l (tz_in0 rfl)).trans ?_
                        refine (tz_g_ladd (tz_in0 rfl)).trans ?_
                        refine (tz_g_aload_n rfl (tz_in0 rfl)).trans ?_
                        refine (tz_g_getr (j := 159) rfl rfl rfl rfl rfl (tz_in0 rfl)).trans ?_
                        refine (tz_g_iload_n rfl (tz_in0 rfl)).trans ?_
                        refine (tz_g_iald (n := 8) rfl rfl rfl (tz_in0 rfl)).trans ?_
                        refine tz_cn1 ?_
                        refine (tz_g_i2l (tz_in0 rfl)).trans ?_
                        refine (tz_g_lcmp (tz_in0 rfl)).trans ?_
                        refine (tz_g_if_gt (t := 179) (by decide) (tz_in0 rfl)).trans ?_
                        refine tz_cg ?_ ?_
                        · skip
                          refine (tz_g_aload_n rfl (tz_in0 rfl)).trans ?_
                          refine (tz_g_bipush (v := (-5)) rfl (tz_in0 rfl)).trans ?_
                          refine (tz_g_cv1I (m2 := 166) (rc := 1) rfl rfl rfl rfl rfl rfl (by decide) (tz_in0 rfl)).trans ?_
                          refine tz_jI (fun y5 A5 => ?_)
                          exact tz_g_ret1 (tz_in0 rfl) rfl
                        · skip
                          refine (tz_g_iload rfl (tz_in0 rfl)).trans ?_
                          refine (tz_g_i2l (tz_in0 rfl)).trans ?_
                          refine (tz_g_iload rfl (tz_in0 rfl)).trans ?_
                          refine (tz_g_i2l (tz_in0 rfl)).trans ?_
                          refine (tz_g_ladd (tz_in0 rfl)).trans ?_
                          refine (tz_g_aload_n rfl (tz_in0 rfl)).trans ?_
                          refine (tz_g_getr (j := 159) rfl rfl rfl rfl rfl (tz_in0 rfl)).trans ?_
                          refine (tz_g_iload_n rfl (tz_in0 rfl)).trans ?_
                          refine (tz_g_iald (n := 8) rfl rfl rfl (tz_in0 rfl)).trans ?_
                          refine tz_cn1 ?_
                          refine (tz_g_i2l (tz_in0 rfl)).trans ?_
                          refine (tz_g_lcmp (tz_in0 rfl)).trans ?_
                          refine (tz_g_if_le (t := 186) (by decide) (tz_in0 rfl)).trans ?_
                          refine tz_cg ?_ ?_
                          · skip
                            refine (tz_g_iload_n rfl (tz_in0 rfl)).trans ?_
                            refine (tz_g_iload_n rfl (tz_in0 rfl)).trans ?_
                            refine (tz_g_ic_ne (t := 248) (by decide) (tz_in0 rfl)).trans ?_
                            refine tz_cg ?_ ?_
                            · skip
                              refine (tz_g_iconst (v := 0) rfl (tz_in0 rfl)).trans ?_
                              refine (tz_g_istore (L2 := [some (.ref 157), some (.int x1), some (.int x2), some (.int x3), some (.int x4), some (.int x5), some (.int 0)]) rfl rfl (tz_in0 rfl)).trans ?_
                              exact tz_Gm (L2 := [some (.ref 157), some (.int x1), some (.int x2), some (.int x3), some (.int x4), some (.int x5), some (.int 0)]) rfl rfl rfl rfl
                            · skip
                              refine (tz_g_iload_n rfl (tz_in0 rfl)).trans ?_
                              refine (tz_g_iload rfl (tz_in0 rfl)).trans ?_
                              refine (tz_g_ic_ge (t := 248) (by decide) (tz_in0 rfl)).trans ?_
                              refine tz_cg ?_ ?_
                              · skip
                                refine (tz_g_iconst (v := 0) rfl (tz_in0 rfl)).trans ?_
                                refine (tz_g_istore (L2 := [some (.ref 157), some (.int x1), some (.int x2), some (.int x3), some (.int x4), some (.int x5), some (.int 0)]) rfl rfl (tz_in0 rfl)).trans ?_
                                exact tz_Gm (L2 := [some (.ref 157), some (.int x1), some (.int x2), some (.int x3), some (.int x4), some (.int x5), some (.int 0)]) rfl rfl rfl rfl
                              · skip
                                refine (tz_g_iload rfl (tz_in0 rfl)).trans ?_
                                refine (tz_g_iconst (v := 1) rfl (tz_in0 rfl)).trans ?_
                                refine (tz_g_isub (tz_in0 rfl)).trans ?_
                                refine (tz_g_istore (L2 := [some (.ref 157), some (.int x1), some (.int x2), some (.int x3), some (.int x4), some (.int x5), some (.int (x5 - 1))]) rfl rfl (tz_in0 rfl)).trans ?_
                                exact tz_Gm (L2 := [some (.ref 157), some (.int x1), some (.int x2), some (.int x3), some (.int x4), none, some (.int (x5 - 1))]) rfl rfl rfl rfl
                          · skip
                            refine (tz_g_aload_n rfl (tz_in0 rfl)).trans ?_
                            refine (tz_g_bipush (v := (-5)) rfl (tz_in0 rfl)).trans ?_
                            refine (tz_g_cv1I (m2 := 166) (rc := 1) rfl rfl rfl rfl rfl rfl (by decide) (tz_in0 rfl)).trans ?_
                            refine tz_jI (fun y5 A5 => ?_)
                            exact tz_g_ret1 (tz_in0 rfl) rfl
                  · skip
                    refine (tz_g_aload_n rfl (tz_in0 rfl)).trans ?_
                    refine (tz_g_bipush (v := (-4)) rfl (tz_in0 rfl)).trans ?_
                    refine (tz_g_cv1I (m2 := 166) (rc := 1) rfl rfl rfl rfl rfl rfl (by decide) (tz_in0 rfl)).trans ?_
                    refine tz_jI (fun y5 A5 => ?_)
                    exact tz_g_ret1 (tz_in0 rfl) rfl
                · skip
                  refine (tz_g_aload_n rfl (tz_in0 rfl)).trans ?_
                  refine (tz_g_bipush (v := (-3)) rfl (tz_in0 rfl)).trans ?_
                  refine (tz_g_cv1I (m2 := 166) (rc := 1) rfl rfl rfl rfl rfl rfl (by decide) (tz_in0 rfl)).trans ?_
                  refine tz_jI (fun y5 A5 => ?_)
                  exact tz_g_ret1 (tz_in0 rfl) rfl
            · skip
              refine (tz_g_aload_n rfl (tz_in0 rfl)).trans ?_
              refine (tz_g_getr (j := 158) rfl rfl rfl rfl rfl (tz_in0 rfl)).trans ?_
              refine (tz_g_iload_n rfl (tz_in0 rfl)).trans ?_
              refine (tz_g_iald (n := 8) rfl rfl rfl (tz_in0 rfl)).trans ?_
              refine tz_cn1 ?_
              refine (tz_g_aload_n rfl (tz_in0 rfl)).trans ?_
              refine (tz_g_getr (j := 158) rfl rfl rfl rfl rfl (tz_in0 rfl)).trans ?_
              refine (tz_g_iload_n rfl (tz_in0 rfl)).trans ?_
              refine (tz_g_iald (n := 8) rfl rfl rfl (tz_in0 rfl)).trans ?_
              refine tz_cn1 ?_
              refine (tz_g_ic_eq (t := 98) (by decide) (tz_in0 rfl)).trans ?_
              refine tz_cg ?_ ?_
              · skip
                refine (tz_g_aload_n rfl (tz_in0 rfl)).trans ?_
                refine (tz_g_getr (j := 158) rfl rfl rfl rfl rfl (tz_in0 rfl)).trans ?_
                refine (tz_g_iload_n rfl (tz_in0 rfl)).trans ?_
                refine (tz_g_iald (n := 8) rfl rfl rfl (tz_in0 rfl)).trans ?_
                refine tz_cn1 ?_
                refine (tz_g_if_lt (t := 116) (by decide) (tz_in0 rfl)).trans ?_
                refine tz_cg ?_ ?_
                · skip
                  refine (tz_g_aload_n rfl (tz_in0 rfl)).trans ?_
                  refine (tz_g_bipush (v := (-3)) rfl (tz_in0 rfl)).trans ?_
                  refine (tz_g_cv1I (m2 := 166) (rc := 1) rfl rfl rfl rfl rfl rfl (by decide) (tz_in0 rfl)).trans ?_
                  refine tz_jI (fun y5 A5 => ?_)
                  exact tz_g_ret1 (tz_in0 rfl) rfl
                · skip
                  refine (tz_g_aload_n rfl (tz_in0 rfl)).trans ?_
                  refine (tz_g_getr (j := 158) rfl rfl rfl rfl rfl (tz_in0 rfl)).trans ?_
                  refine (tz_g_iload_n rfl (tz_in0 rfl)).trans ?_
                  refine (tz_g_iald (n := 8) rfl rfl rfl (tz_in0 rfl)).trans ?_
                  refine tz_cn1 ?_
                  refine (tz_g_if_ge (t := 123) (by decide) (tz_in0 rfl)).trans ?_
                  refine tz_cg ?_ ?_
                  · skip
                    refine (tz_g_iload rfl (tz_in0 rfl)).trans ?_
                    refine (tz_g_if_ge (t := 135) (by decide) (tz_in0 rfl)).trans ?_
                    refine tz_cg ?_ ?_
                    · skip
                      refine (tz_g_iload_n rfl (tz_in0 rfl)).trans ?_
                      refine (tz_g_if_lt (t := 179) (by decide) (tz_in0 rfl)).trans ?_
                      refine tz_cg ?_ ?_
                      · skip
                        refine (tz_g_aload_n rfl (tz_in0 rfl)).trans ?_
                        refine (tz_g_bipush (v := (-5)) rfl (tz_in0 rfl)).trans ?_
                        refine (tz_g_cv1I (m2 := 166) (rc := 1) rfl rfl rfl rfl rfl rfl (by decide) (tz_in0 rfl)).trans ?_
                        refine tz_jI (fun y5 A5 => ?_)
                        exact tz_g_ret1 (tz_in0 rfl) rfl
                      · skip
                        refine (tz_g_iload rfl (tz_in0 rfl)).trans ?_
                        refine (tz_g_if_lt (t := 179) (by decide) (tz_in0 rfl)).trans ?_
                        refine tz_cg ?_ ?_
                        · skip
                          refine (tz_g_aload_n rfl (tz_in0 rfl)).trans ?_
                          refine (tz_g_bipush (v := (-5)) rfl (tz_in0 rfl)).trans ?_
                          refine (tz_g_cv1I (m2 := 166) (rc := 1) rfl rfl rfl rfl rfl rfl (by decide) (tz_in0 rfl)).trans ?_
                          refine tz_jI (fun y5 A5 => ?_)
                          exact tz_g_ret1 (tz_in0 rfl) rfl
                        · skip
                          refine (tz_g_iload_n rfl (tz_in0 rfl)).trans ?_
                          refine (tz_g_i2l (tz_in0 rfl)).trans ?_
                          refine (tz_g_iload rfl (tz_in0 rfl)).trans ?_
                          refine (tz_g_i2l (tz_in0 rfl)).trans ?_
                          refine (tz_g_ladd (tz_in0 rfl)).trans ?_
                          refine (tz_g_aload_n rfl (tz_in0 rfl)).trans ?_
                          refine (tz_g_getr (j := 159) rfl rfl rfl rfl rfl (tz_in0 rfl)).trans ?_
                          refine (tz_g_iload_n rfl (tz_in0 rfl)).trans ?_
                          refine (tz_g_iald (n := 8) rfl rfl rfl (tz_in0 rfl)).trans ?_
                          refine tz_cn1 ?_
                          refine (tz_g_i2l (tz_in0 rfl)).trans ?_
                          refine (tz_g_lcmp (tz_in0 rfl)).trans ?_
                          refine (tz_g_if_gt (t := 179) (by decide) (tz_in0 rfl)).trans ?_
                          refine tz_cg ?_ ?_
                          · skip
                            refine (tz_g_aload_n rfl (tz_in0 rfl)).trans ?_
                            refine (tz_g_bipush (v := (-5)) rfl (tz_in0 rfl)).trans ?_
                            refine (tz_g_cv1I (m2 := 166) (rc := 1) rfl rfl rfl rfl rfl rfl (by decide) (tz_in0 rfl)).trans ?_
                            refine tz_jI (fun y5 A5 => ?_)
                            exact tz_g_ret1 (tz_in0 rfl) rfl
                          · skip
                            refine (tz_g_iload rfl (tz_in0 rfl)).trans ?_
                            refine (tz_g_i2l (tz_in0 rfl)).trans ?_
                            refine (tz_g_iload rfl (tz_in0 rfl)).trans ?_
                            refine (tz_g_i2l (tz_in0 rfl)).trans ?_
                            refine (tz_g_ladd (tz_in0 rfl)).trans ?_
                            refine (tz_g_aload_n rfl (tz_in0 rfl)).trans ?_
                            refine (tz_g_getr (j := 159) rfl rfl rfl rfl rfl (tz_in0 rfl)).trans ?_
                            refine (tz_g_iload_n rfl (tz_in0 rfl)).trans ?_
                            refine (tz_g_iald (n := 8) rfl rfl rfl (tz_in0 rfl)).trans ?_
                            refine tz_cn1 ?_
                            refine (tz_g_i2l (tz_in0 rfl)).trans ?_
                            refine (tz_g_lcmp (tz_in0 rfl)).trans ?_
                            refine (tz_g_if_le (t := 186) (by decide) (tz_in0 rfl)).trans ?_
                            refine tz_cg ?_ ?_
                            · skip
                              refine (tz_g_iload_n rfl (tz_in0 rfl)).trans ?_
                              refine (tz_g_iload_n rfl (tz_in0 rfl)).trans ?_
                              refine (tz_g_ic_ne (t := 248) (by decide) (tz_in0 rfl)).trans ?_
                              refine tz_cg ?_ ?_
                              · skip
                                refine (tz_g_iconst (v := 0) rfl (tz_in0 rfl)).trans ?_
                                refine (tz_g_istore (L2 := [some (.ref 157), some (.int x1), some (.int x2), some (.int x3), some (.int x4), some (.int x5), some (.int 0)]) rfl rfl (tz_in0 rfl)).trans ?_
                                exact tz_Gm (L2 := [some (.ref 157), some (.int x1), some (.int x2), some (.int x3), some (.int x4), some (.int x5), some (.int 0)]) rfl rfl rfl rfl
                              · skip
                                refine (tz_g_iload_n rfl (tz_in0 rfl)).trans ?_
                                refine (tz_g_iload rfl (tz_in0 rfl)).trans ?_
                                refine (tz_g_ic_ge (t := 248) (by decide) (tz_in0 rfl)).trans ?_
                                refine tz_cg ?_ ?_
                                · skip
                                  refine (tz_g_iconst (v := 0) rfl (tz_in0 rfl)).trans ?_
                                  refine (tz_g_istore (L2 := [some (.ref 157), some (.int x1), some (.int x2), some (.int x3), some (.int x4), some (.int x5), some (.int 0)]) rfl rfl (tz_in0 rfl)).trans ?_
                                  exact tz_Gm (L2 := [some (.ref 157), some (.int x1), some (.int x2), some (.int x3), some (.int x4), some (.int x5), some (.int 0)]) rfl rfl rfl rfl
                                · skip
                                  refine (tz_g_iload rfl (tz_in0 rfl)).trans ?_
                                  refine (tz_g_iconst (v := 1) rfl (tz_in0 rfl)).trans ?_
                                  refine (tz_g_isub (tz_in0 rfl)).trans ?_
                                  refine (tz_g_istore (L2 := [some (.ref 157), some (.int x1), some (.int x2), some (.int x3), some (.int x4), some (.int x5), some (.int (x5 - 1))]) rfl rfl (tz_in0 rfl)).trans ?_
                                  exact tz_Gm (L2 := [some (.ref 157), some (.int x1), some (.int x2), some (.int x3), some (.int x4), none, some (.int (x5 - 1))]) rfl rfl rfl rfl
                            · skip
                              refine (tz_g_aload_n rfl (tz_in0 rfl)).trans ?_
                              refine (tz_g_bipush (v := (-5)) rfl (tz_in0 rfl)).trans ?_
                              refine (tz_g_cv1I (m2 := 166) (rc := 1) rfl rfl rfl rfl rfl rfl (by decide) (tz_in0 rfl)).trans ?_
                              refine tz_jI (fun y5 A5 => ?_)
                              exact tz_g_ret1 (tz_in0 rfl) rfl
                    · skip
                      refine (tz_g_aload_n rfl (tz_in0 rfl)).trans ?_
                      refine (tz_g_bipush (v := (-4)) rfl (tz_in0 rfl)).trans ?_
                      refine (tz_g_cv1I (m2 := 166) (rc := 1) rfl rfl rfl rfl rfl rfl (by decide) (tz_in0 rfl)).trans ?_
                      refine tz_jI (fun y5 A5 => ?_)
                      exact tz_g_ret1 (tz_in0 rfl) rfl
                  · skip
                    refine (tz_g_aload_n rfl (tz_in0 rfl)).trans ?_
                    refine (tz_g_bipush (v := (-3)) rfl (tz_in0 rfl)).trans ?_
                    refine (tz_g_cv1I (m2 := 166) (rc := 1) rfl rfl rfl rfl rfl rfl (by decide) (tz_in0 rfl)).trans ?_
                    refine tz_jI (fun y5 A5 => ?_)
                    exact tz_g_ret1 (tz_in0 rfl) rfl
              · skip
                refine (tz_g_aload_n rfl (tz_in0 rfl)).trans ?_
                refine (tz_g_bipush (v := (-2)) rfl (tz_in0 rfl)).trans ?_
                refine (tz_g_cv1I (m2 := 166) (rc := 1) rfl rfl rfl rfl rfl rfl (by decide) (tz_in0 rfl)).trans ?_
                refine tz_jI (fun y5 A5 => ?_)
                exact tz_g_ret1 (tz_in0 rfl) rfl
        · skip
          refine (tz_g_aload_n rfl (tz_in0 rfl)).trans ?_
          refine (tz_g_iload_n rfl (tz_in0 rfl)).trans ?_
          refine (tz_g_cv1I (m2 := 169) (rc := 4) rfl rfl rfl rfl rfl rfl (by decide) (tz_in0 rfl)).trans ?_
          refine tz_jI (fun y3 A3 => ?_)
          refine (tz_g_if_eq (t := 91) (by decide) (tz_in0 rfl)).trans ?_
          refine tz_cg ?_ ?_
          · skip
            refine (tz_g_aload_n rfl (tz_in0 rfl)).trans ?_
            refine (tz_g_bipush (v := (-2)) rfl (tz_in0 rfl)).trans ?_
            refine (tz_g_cv1I (m2 := 166) (rc := 1) rfl rfl rfl rfl rfl rfl (by decide) (tz_in0 rfl)).trans ?_
            refine tz_jI (fun y4 A4 => ?_)
            exact tz_g_ret1 (tz_in0 rfl) rfl
          · skip
            refine (tz_g_aload_n rfl (tz_in0 rfl)).trans ?_
            refine (tz_g_iload_n rfl (tz_in0 rfl)).trans ?_
            refine (tz_g_cv1I (m2 := 169) (rc := 4) rfl rfl rfl rfl rfl rfl (by decide) (tz_in0 rfl)).trans ?_
            refine tz_jI (fun y4 A4 => ?_)
            refine (tz_g_if_eq (t := 98) (by decide) (tz_in0 rfl)).trans ?_
            refine tz_cg ?_ ?_
            · skip
              refine (tz_g_aload_n rfl (tz_in0 rfl)).trans ?_
              refine (tz_g_getr (j := 158) rfl rfl rfl rfl rfl (tz_in0 rfl)).trans ?_
              refine (tz_g_iload_n rfl (tz_in0 rfl)).trans ?_
              refine (tz_g_iald (n := 8) rfl rfl rfl (tz_in0 rfl)).trans ?_
              refine tz_cn1 ?_
              refine (tz_g_if_lt (t := 116) (by decide) (tz_in0 rfl)).trans ?_
              refine tz_cg ?_ ?_
              · skip
                refine (tz_g_aload_n rfl (tz_in0 rfl)).trans ?_
                refine (tz_g_bipush (v := (-3)) rfl (tz_in0 rfl)).trans ?_
                refine (tz_g_cv1I (m2 := 166) (rc := 1) rfl rfl rfl rfl rfl rfl (by decide) (tz_in0 rfl)).trans ?_
                refine tz_jI (fun y5 A5 => ?_)
                exact tz_g_ret1 (tz_in0 rfl) rfl
              · skip
                refine (tz_g_aload_n rfl (tz_in0 rfl)).trans ?_
                refine (tz_g_getr (j := 158) rfl rfl rfl rfl rfl (tz_in0 rfl)).trans ?_
                refine (tz_g_iload_n rfl (tz_in0 rfl)).trans ?_
                refine (tz_g_iald (n := 8) rfl rfl rfl (tz_in0 rfl)).trans ?_
                refine tz_cn1 ?_
                refine (tz_g_if_ge (t := 123) (by decide) (tz_in0 rfl)).trans ?_
                refine tz_cg ?_ ?_
                · skip
                  refine (tz_g_iload rfl (tz_in0 rfl)).trans ?_
                  refine (tz_g_if_ge (t := 135) (by decide) (tz_in0 rfl)).trans ?_
                  refine tz_cg ?_ ?_
                  · skip
                    refine (tz_g_iload_n rfl (tz_in0 rfl)).trans ?_
                    refine (tz_g_if_lt (t := 179) (by decide) (tz_in0 rfl)).trans ?_
                    refine tz_cg ?_ ?_
                    · skip
                      refine (tz_g_aload_n rfl (tz_in0 rfl)).trans ?_
                      refine (tz_g_bipush (v := (-5)) rfl (tz_in0 rfl)).trans ?_
                      refine (tz_g_cv1I (m2 := 166) (rc := 1) rfl rfl rfl rfl rfl rfl (by decide) (tz_in0 rfl)).trans ?_
                      refine tz_jI (fun y5 A5 => ?_)
                      exact tz_g_ret1 (tz_in0 rfl) rfl
                    · skip
                      refine (tz_g_iload rfl (tz_in0 rfl)).trans ?_
                      refine (tz_g_if_lt (t := 179) (by decide) (tz_in0 rfl)).trans ?_
                      refine tz_cg ?_ ?_
                      · skip
                        refine (tz_g_aload_n rfl (tz_in0 rfl)).trans ?_
                        refine (tz_g_bipush (v := (-5)) rfl (tz_in0 rfl)).trans ?_
                        refine (tz_g_cv1I (m2 := 166) (rc := 1) rfl rfl rfl rfl rfl rfl (by decide) (tz_in0 rfl)).trans ?_
                        refine tz_jI (fun y5 A5 => ?_)
                        exact tz_g_ret1 (tz_in0 rfl) rfl
                      · skip
                        refine (tz_g_iload_n rfl (tz_in0 rfl)).trans ?_
                        refine (tz_g_i2l (tz_in0 rfl)).trans ?_
                        refine (tz_g_iload rfl (tz_in0 rfl)).trans ?_
                        refine (tz_g_i2l (tz_in0 rfl)).trans ?_
                        refine (tz_g_ladd (tz_in0 rfl)).trans ?_
                        refine (tz_g_aload_n rfl (tz_in0 rfl)).trans ?_
                        refine (tz_g_getr (j := 159) rfl rfl rfl rfl rfl (tz_in0 rfl)).trans ?_
                        refine (tz_g_iload_n rfl (tz_in0 rfl)).trans ?_
                        refine (tz_g_iald (n := 8) rfl rfl rfl (tz_in0 rfl)).trans ?_
                        refine tz_cn1 ?_
                        refine (tz_g_i2l (tz_in0 rfl)).trans ?_
                        refine (tz_g_lcmp (tz_in0 rfl)).trans ?_
                        refine (tz_g_if_gt (t := 179) (by decide) (tz_in0 rfl)).trans ?_
                        refine tz_cg ?_ ?_
                        · skip
                          refine (tz_g_aload_n rfl (tz_in0 rfl)).trans ?_
                          refine (tz_g_bipush (v := (-5)) rfl (tz_in0 rfl)).trans ?_
                          refine (tz_g_cv1I (m2 := 166) (rc := 1) rfl rfl rfl rfl rfl rfl (by decide) (tz_in0 rfl)).trans ?_
                          refine tz_jI (fun y5 A5 => ?_)
                          exact tz_g_ret1 (tz_in0 rfl) rfl
                        · skip
                          refine (tz_g_iload rfl (tz_in0 rfl)).trans ?_
                          refine (tz_g_i2l (tz_in0 rfl)).trans ?_
                          refine (tz_g_iload rfl (tz_in0 rfl)).trans ?_
                          refine (tz_g_i2l (tz_in0 rfl)).trans ?_
                          refine (tz_g_ladd (tz_in0 rfl)).trans ?_
                          refine (tz_g_aload_n rfl (tz_in0 rfl)).trans ?_
                          refine (tz_g_getr (j := 159) rfl rfl rfl rfl rfl (tz_in0 rfl)).trans ?_
                          refine (tz_g_iload_n rfl (tz_in0 rfl)).trans ?_
                          refine (tz_g_iald (n := 8) rfl rfl rfl (tz_in0 rfl)).trans ?_
                          refine tz_cn1 ?_
                          refine (tz_g_i2l (tz_in0 rfl)).trans ?_
                          refine (tz_g_lcmp (tz_in0 rfl)).trans ?_
                          refine (tz_g_if_le (t := 186) (by decide) (tz_in0 rfl)).trans ?_
                          refine tz_cg ?_ ?_
                          · skip
                            refine (tz_g_iload_n rfl (tz_in0 rfl)).trans ?_
                            refine (tz_g_iload_n rfl (tz_in0 rfl)).trans ?_
                            refine (tz_g_ic_ne (t := 248) (by decide) (tz_in0 rfl)).trans ?_
                            refine tz_cg ?_ ?_
                            · skip
                              refine (tz_g_iconst (v := 0) rfl (tz_in0 rfl)).trans ?_
                              refine (tz_g_istore (L2 := [some (.ref 157), some (.int x1), some (.int x2), some (.int x3), some (.int x4), some (.int x5), some (.int 0)]) rfl rfl (tz_in0 rfl)).trans ?_
                              exact tz_Gm (L2 := [some (.ref 157), some (.int x1), some (.int x2), some (.int x3), some (.int x4), some (.int x5), some (.int 0)]) rfl rfl rfl rfl
                            · skip
                              refine (tz_g_iload_n rfl (tz_in0 rfl)).trans ?_
                              refine (tz_g_iload rfl (tz_in0 rfl)).trans ?_
                              refine (tz_g_ic_ge (t := 248) (by decide) (tz_in0 rfl)).trans ?_
                              refine tz_cg ?_ ?_
                              · skip
                                refine (tz_g_iconst (v := 0) rfl (tz_in0 rfl)).trans ?_
                                refine (tz_g_istore (L2 := [some (.ref 157), some (.int x1), some (.int x2), some (.int x3), some (.int x4), some (.int x5), some (.int 0)]) rfl rfl (tz_in0 rfl)).trans ?_
                                exact tz_Gm (L2 := [some (.ref 157), some (.int x1), some (.int x2), some (.int x3), some (.int x4), some (.int x5), some (.int 0)]) rfl rfl rfl rfl
                              · skip
                                refine (tz_g_iload rfl (tz_in0 rfl)).trans ?_
                                refine (tz_g_iconst (v := 1) rfl (tz_in0 rfl)).trans ?_
                                refine (tz_g_isub (tz_in0 rfl)).trans ?_
                                refine (tz_g_istore (L2 := [some (.ref 157), some (.int x1), some (.int x2), some (.int x3), some (.int x4), some (.int x5), some (.int (x5 - 1))]) rfl rfl (tz_in0 rfl)).trans ?_
                                exact tz_Gm (L2 := [some (.ref 157), some (.int x1), some (.int x2), some (.int x3), some (.int x4), none, some (.int (x5 - 1))]) rfl rfl rfl rfl
                          · skip
                            refine (tz_g_aload_n rfl (tz_in0 rfl)).trans ?_
                            refine (tz_g_bipush (v := (-5)) rfl (tz_in0 rfl)).trans ?_
                            refine (tz_g_cv1I (m2 := 166) (rc := 1) rfl rfl rfl rfl rfl rfl (by decide) (tz_in0 rfl)).trans ?_
                            refine tz_jI (fun y5 A5 => ?_)
                            exact tz_g_ret1 (tz_in0 rfl) rfl
                  · skip
                    refine (tz_g_aload_n rfl (tz_in0 rfl)).trans ?_
                    refine (tz_g_bipush (v := (-4)) rfl (tz_in0 rfl)).trans ?_
                    refine (tz_g_cv1I (m2 := 166) (rc := 1) rfl rfl rfl rfl rfl rfl (by decide) (tz_in0 rfl)).trans ?_
                    refine tz_jI (fun y5 A5 => ?_)
                    exact tz_g_ret1 (tz_in0 rfl) rfl
                · skip
                  refine (tz_g_aload_n rfl (tz_in0 rfl)).trans ?_
                  refine (tz_g_bipush (v := (-3)) rfl (tz_in0 rfl)).trans ?_
                  refine (tz_g_cv1I (m2 := 166) (rc := 1) rfl rfl rfl rfl rfl rfl (by decide) (tz_in0 rfl)).trans ?_
                  refine tz_jI (fun y5 A5 => ?_)
                  exact tz_g_ret1 (tz_in0 rfl) rfl
            · skip
              refine (tz_g_aload_n rfl (tz_in0 rfl)).trans ?_
              refine (tz_g_iload_n rfl (tz_in0 rfl)).trans ?_
              refine (tz_g_cv1I (m2 := 169) (rc := 4) rfl rfl rfl rfl rfl rfl (by decide) (tz_in0 rfl)).trans ?_
              refine tz_jI (fun y5 A5 => ?_)
              refine (tz_g_if_eq (t := 98) (by decide) (tz_in0 rfl)).trans ?_
              refine tz_cg ?_ ?_
              · skip
                refine (tz_g_aload_n rfl (tz_in0 rfl)).trans ?_
                refine (tz_g_getr (j := 158) rfl rfl rfl rfl rfl (tz_in0 rfl)).trans ?_
                refine (tz_g_iload_n rfl (tz_in0 rfl)).trans ?_
                refine (tz_g_iald (n := 8) rfl rfl rfl (tz_in0 rfl)).trans ?_
                refine tz_cn1 ?_
                refine (tz_g_if_lt (t := 116) (by decide) (tz_in0 rfl)).trans ?_
                refine tz_cg ?_ ?_
                · skip
                  refine (tz_g_aload_n rfl (tz_in0 rfl)).trans ?_
                  refine (tz_g_bipush (v := (-3)) rfl (tz_in0 rfl)).trans ?_
                  refine (tz_g_cv1I (m2 := 166) (rc := 1) rfl rfl rfl rfl rfl rfl (by decide) (tz_in0 rfl)).trans ?_
                  refine tz_jI (fun y6 A6 => ?_)
                  exact tz_g_ret1 (tz_in0 rfl) rfl
                · skip
                  refine (tz_g_aload_n rfl (tz_in0 rfl)).trans ?_
                  refine (tz_g_getr (j := 158) rfl rfl rfl rfl rfl (tz_in0 rfl)).trans ?_
                  refine (tz_g_iload_n rfl (tz_in0 rfl)).trans ?_
                  refine (tz_g_iald (n := 8) rfl rfl rfl (tz_in0 rfl)).trans ?_
                  refine tz_cn1 ?_
                  refine (tz_g_if_ge (t := 123) (by decide) (tz_in0 rfl)).trans ?_
                  refine tz_cg ?_ ?_
                  · skip
                    refine (tz_g_iload rfl (tz_in0 rfl)).trans ?_
                    refine (tz_g_if_ge (t := 135) (by decide) (tz_in0 rfl)).trans ?_
                    refine tz_cg ?_ ?_
                    · skip
                      refine (tz_g_iload_n rfl (tz_in0 rfl)).trans ?_
                      refine (tz_g_if_lt (t := 179) (by decide) (tz_in0 rfl)).trans ?_
                      refine tz_cg ?_ ?_
                      · skip
                        refine (tz_g_aload_n rfl (tz_in0 rfl)).trans ?_
                        refine (tz_g_bipush (v := (-5)) rfl (tz_in0 rfl)).trans ?_
                        refine (tz_g_cv1I (m2 := 166) (rc := 1) rfl rfl rfl rfl rfl rfl (by decide) (tz_in0 rfl)).trans ?_
                        refine tz_jI (fun y6 A6 => ?_)
                        exact tz_g_ret1 (tz_in0 rfl) rfl
                      · skip
                        refine (tz_g_iload rfl (tz_in0 rfl)).trans ?_
                        refine (tz_g_if_lt (t := 179) (by decide) (tz_in0 rfl)).trans ?_
                        refine tz_cg ?_ ?_
                        · skip
                          refine (tz_g_aload_n rfl (tz_in0 rfl)).trans ?_
                          refine (tz_g_bipush (v := (-5)) rfl (tz_in0 rfl)).trans ?_
                          refine (tz_g_cv1I (m2 := 166) (rc := 1) rfl rfl rfl rfl rfl rfl (by decide) (tz_in0 rfl)).trans ?_
                          refine tz_jI (fun y6 A6 => ?_)
                          exact tz_g_ret1 (tz_in0 rfl) rfl
                        · skip
                          refine (tz_g_iload_n rfl (tz_in0 rfl)).trans ?_
                          refine (tz_g_i2l (tz_in0 rfl)).trans ?_
                          refine (tz_g_iload rfl (tz_in0 rfl)).trans ?_
                          refine (tz_g_i2l (tz_in0 rfl)).trans ?_
                          refine (tz_g_ladd (tz_in0 rfl)).trans ?_
                          refine (tz_g_aload_n rfl (tz_in0 rfl)).trans ?_
                          refine (tz_g_getr (j := 159) rfl rfl rfl rfl rfl (tz_in0 rfl)).trans ?_
                          refine (tz_g_iload_n rfl (tz_in0 rfl)).trans ?_
                          refine (tz_g_iald (n := 8) rfl rfl rfl (tz_in0 rfl)).trans ?_
                          refine tz_cn1 ?_
                          refine (tz_g_i2l (tz_in0 rfl)).trans ?_
                          refine (tz_g_lcmp (tz_in0 rfl)).trans ?_
                          refine (tz_g_if_gt (t := 179) (by decide) (tz_in0 rfl)).trans ?_
                          refine tz_cg ?_ ?_
                          · skip
                            refine (tz_g_aload_n rfl (tz_in0 rfl)).trans ?_
                            refine (tz_g_bipush (v := (-5)) rfl (tz_in0 rfl)).trans ?_
                            refine (tz_g_cv1I (m2 := 166) (rc := 1) rfl rfl rfl rfl rfl rfl (by decide) (tz_in0 rfl)).trans ?_
                            refine tz_jI (fun y6 A6 => ?_)
                            exact tz_g_ret1 (tz_in0 rfl) rfl
                          · skip
                            refine (tz_g_iload rfl (tz_in0 rfl)).trans ?_
                            refine (tz_g_i2l (tz_in0 rfl)).trans ?_
                            refine (tz_g_iload rfl (tz_in0 rfl)).trans ?_
                            refine (tz_g_i2l (tz_in0 rfl)).trans ?_
                            refine (tz_g_ladd (tz_in0 rfl)).trans ?_
                            refine (tz_g_aload_n rfl (tz_in0 rfl)).trans ?_
                            refine (tz_g_getr (j := 159) rfl rfl rfl rfl rfl (tz_in0 rfl)).trans ?_
                            refine (tz_g_iload_n rfl (tz_in0 rfl)).trans ?_
                            refine (tz_g_iald (n := 8) rfl rfl rfl (tz_in0 rfl)).trans ?_
                            refine tz_cn1 ?_
                            refine (tz_g_i2l (tz_in0 rfl)).trans ?_
                            refine (tz_g_lcmp (tz_in0 rfl)).trans ?_
                            refine (tz_g_if_le (t := 186) (by decide) (tz_in0 rfl)).trans ?_
                            refine tz_cg ?_ ?_
                            · skip
                              refine (tz_g_iload_n rfl (tz_in0 rfl)).trans ?_
                              refine (tz_g_iload_n rfl (tz_in0 rfl)).trans ?_
                              refine (tz_g_ic_ne (t := 248) (by decide) (tz_in0 rfl)).trans ?_
                              refine tz_cg ?_ ?_
                              · skip
                                refine (tz_g_iconst (v := 0) rfl (tz_in0 rfl)).trans ?_
                                refine (tz_g_istore (L2 := [some (.ref 157), some (.int x1), some (.int x2), some (.int x3), some (.int x4), some (.int x5), some (.int 0)]) rfl rfl (tz_in0 rfl)).trans ?_
                                exact tz_Gm (L2 := [some (.ref 157), some (.int x1), some (.int x2), some (.int x3), some (.int x4), some (.int x5), some (.int 0)]) rfl rfl rfl rfl
                              · skip
                                refine (tz_g_iload_n rfl (tz_in0 rfl)).trans ?_
                                refine (tz_g_iload rfl (tz_in0 rfl)).trans ?_
                                refine (tz_g_ic_ge (t := 248) (by decide) (tz_in0 rfl)).trans ?_
                                refine tz_cg ?_ ?_
                                · skip
                                  refine (tz_g_iconst (v := 0) rfl (tz_in0 rfl)).trans ?_
                                  refine (tz_g_istore (L2 := [some (.ref 157), some (.int x1), some (.int x2), some (.int x3), some (.int x4), some (.int x5), some (.int 0)]) rfl rfl (tz_in0 rfl)).trans ?_
                                  exact tz_Gm (L2 := [some (.ref 157), some (.int x1), some (.int x2), some (.int x3), some (.int x4), some (.int x5), some (.int 0)]) rfl rfl rfl rfl
                                · skip
                                  refine (tz_g_iload rfl (tz_in0 rfl)).trans ?_
                                  refine (tz_g_iconst (v := 1) rfl (tz_in0 rfl)).trans ?_
                                  refine (tz_g_isub (tz_in0 rfl)).trans ?_
                                  refine (tz_g_istore (L2 := [some (.ref 157), some (.int x1), some (.int x2), some (.int x3), some (.int x4), some (.int x5), some (.int (x5 - 1))]) rfl rfl (tz_in0 rfl)).trans ?_
                                  exact tz_Gm (L2 := [some (.ref 157), some (.int x1), some (.int x2), some (.int x3), some (.int x4), none, some (.int (x5 - 1))]) rfl rfl rfl rfl
                            · skip
                              refine (tz_g_aload_n rfl (tz_in0 rfl)).trans ?_
                              refine (tz_g_bipush (v := (-5)) rfl (tz_in0 rfl)).trans ?_
                              refine (tz_g_cv1I (m2 := 166) (rc := 1) rfl rfl rfl rfl rfl rfl (by decide) (tz_in0 rfl)).trans ?_
                              refine tz_jI (fun y6 A6 => ?_)
                              exact tz_g_ret1 (tz_in0 rfl) rfl
                    · skip
                      refine (tz_g_aload_n rfl (tz_in0 rfl)).trans ?_
                      refine (tz_g_bipush (v := (-4)) rfl (tz_in0 rfl)).trans ?_
                      refine (tz_g_cv1I (m2 := 166) (rc := 1) rfl rfl rfl rfl rfl rfl (by decide) (tz_in0 rfl)).trans ?_
                      refine tz_jI (fun y6 A6 => ?_)
                      exact tz_g_ret1 (tz_in0 rfl) rfl
                  · skip
                    refine (tz_g_aload_n rfl (tz_in0 rfl)).trans ?_
                    refine (tz_g_bipush (v := (-3)) rfl (tz_in0 rfl)).trans ?_
                    refine (tz_g_cv1I (m2 := 166) (rc := 1) rfl rfl rfl rfl rfl rfl (by decide) (tz_in0 rfl)).trans ?_
                    refine tz_jI (fun y6 A6 => ?_)
                    exact tz_g_ret1 (tz_in0 rfl) rfl
              · skip
                refine (tz_g_aload_n rfl (tz_in0 rfl)).trans ?_
                refine (tz_g_getr (j := 158) rfl rfl rfl rfl rfl (tz_in0 rfl)).trans ?_
                refine (tz_g_iload_n rfl (tz_in0 rfl)).trans ?_
                refine (tz_g_iald (n := 8) rfl rfl rfl (tz_in0 rfl)).trans ?_
                refine tz_cn1 ?_
                refine (tz_g_aload_n rfl (tz_in0 rfl)).trans ?_
                refine (tz_g_getr (j := 158) rfl rfl rfl rfl rfl (tz_in0 rfl)).trans ?_
                refine (tz_g_iload_n rfl (tz_in0 rfl)).trans ?_
                refine (tz_g_iald (n := 8) rfl rfl rfl (tz_in0 rfl)).trans ?_
                refine tz_cn1 ?_
                refine (tz_g_ic_eq (t := 98) (by decide) (tz_in0 rfl)).trans ?_
                refine tz_cg ?_ ?_
                · skip
                  refine (tz_g_aload_n rfl (tz_in0 rfl)).trans ?_
                  refine (tz_g_getr (j := 158) rfl rfl rfl rfl rfl (tz_in0 rfl)).trans ?_
                  refine (tz_g_iload_n rfl (tz_in0 rfl)).trans ?_
                  refine (tz_g_iald (n := 8) rfl rfl rfl (tz_in0 rfl)).trans ?_
                  refine tz_cn1 ?_
                  refine (tz_g_if_lt (t := 116) (by decide) (tz_in0 rfl)).trans ?_
                  refine tz_cg ?_ ?_
                  · skip
                    refine (tz_g_aload_n rfl (tz_in0 rfl)).trans ?_
                    refine (tz_g_bipush (v := (-3)) rfl (tz_in0 rfl)).trans ?_
                    refine (tz_g_cv1I (m2 := 166) (rc := 1) rfl rfl rfl rfl rfl rfl (by decide) (tz_in0 rfl)).trans ?_
                    refine tz_jI (fun y6 A6 => ?_)
                    exact tz_g_ret1 (tz_in0 rfl) rfl
                  · skip
                    refine (tz_g_aload_n rfl (tz_in0 rfl)).trans ?_
                    refine (tz_g_getr (j := 158) rfl rfl rfl rfl rfl (tz_in0 rfl)).trans ?_
                    refine (tz_g_iload_n rfl (tz_in0 rfl)).trans ?_
                    refine (tz_g_iald (n := 8) rfl rfl rfl (tz_in0 rfl)).trans ?_
                    refine tz_cn1 ?_
                    refine (tz_g_if_ge (t := 123) (by decide) (tz_in0 rfl)).trans ?_
                    refine tz_cg ?_ ?_
                    · skip
                      refine (tz_g_iload rfl (tz_in0 rfl)).trans ?_
                      refine (tz_g_if_ge (t := 135) (by decide) (tz_in0 rfl)).trans ?_
                      refine tz_cg ?_ ?_
                      · skip
                        refine (tz_g_iload_n rfl (tz_in0 rfl)).trans ?_
                        refine (tz_g_if_lt (t := 179) (by decide) (tz_in0 rfl)).trans ?_
                        refine tz_cg ?_ ?_
                        · skip
                          refine (tz_g_aload_n rfl (tz_in0 rfl)).trans ?_
                          refine (tz_g_bipush (v := (-5)) rfl (tz_in0 rfl)).trans ?_
                          refine (tz_g_cv1I (m2 := 166) (rc := 1) rfl rfl rfl rfl rfl rfl (by decide) (tz_in0 rfl)).trans ?_
                          refine tz_jI (fun y6 A6 => ?_)
                          exact tz_g_ret1 (tz_in0 rfl) rfl
                        · skip
                          refine (tz_g_iload rfl (tz_in0 rfl)).trans ?_
                          refine (tz_g_if_lt (t := 179) (by decide) (tz_in0 rfl)).trans ?_
                          refine tz_cg ?_ ?_
                          · skip
                            refine (tz_g_aload_n rfl (tz_in0 rfl)).trans ?_
                            refine (tz_g_bipush (v := (-5)) rfl (tz_in0 rfl)).trans ?_
                            refine (tz_g_cv1I (m2 := 166) (rc := 1) rfl rfl rfl rfl rfl rfl (by decide) (tz_in0 rfl)).trans ?_
                            refine tz_jI (fun y6 A6 => ?_)
                            exact tz_g_ret1 (tz_in0 rfl) rfl
                          · skip
                            refine (tz_g_iload_n rfl (tz_in0 rfl)).trans ?_
                            refine (tz_g_i2l (tz_in0 rfl)).trans ?_
                            refine (tz_g_iload rfl (tz_in0 rfl)).trans ?_
                            refine (tz_g_i2l (tz_in0 rfl)).trans ?_
                            refine (tz_g_ladd (tz_in0 rfl)).trans ?_
                            refine (tz_g_aload_n rfl (tz_in0 rfl)).trans ?_
                            refine (tz_g_getr (j := 159) rfl rfl rfl rfl rfl (tz_in0 rfl)).trans ?_
                            refine (tz_g_iload_n rfl (tz_in0 rfl)).trans ?_
                            refine (tz_g_iald (n := 8) rfl rfl rfl (tz_in0 rfl)).trans ?_
                            refine tz_cn1 ?_
                            refine (tz_g_i2l (tz_in0 rfl)).trans ?_
                            refine (tz_g_lcmp (tz_in0 rfl)).trans ?_
                            refine (tz_g_if_gt (t := 179) (by decide) (tz_in0 rfl)).trans ?_
                            refine tz_cg ?_ ?_
                            · skip
                              refine (tz_g_aload_n rfl (tz_in0 rfl)).trans ?_
                              refine (tz_g_bipush (v := (-5)) rfl (tz_in0 rfl)).trans ?_
                              refine (tz_g_cv1I (m2 := 166) (rc := 1) rfl rfl rfl rfl rfl rfl (by decide) (tz_in0 rfl)).trans ?_
                              refine tz_jI (fun y6 A6 => ?_)
                              exact tz_g_ret1 (tz_in0 rfl) rfl
                            · skip
                              refine (tz_g_iload rfl (tz_in0 rfl)).trans ?_
                              refine (tz_g_i2l (tz_in0 rfl)).trans ?_
                              refine (tz_g_iload rfl (tz_in0 rfl)).trans ?_
                              refine (tz_g_i2l (tz_in0 rfl)).trans ?_
                              refine (tz_g_ladd (tz_in0 rfl)).trans ?_
                              refine (tz_g_aload_n rfl (tz_in0 rfl)).trans ?_
                              refine (tz_g_getr (j := 159) rfl rfl rfl rfl rfl (tz_in0 rfl)).trans ?_
                              refine (tz_g_iload_n rfl (tz_in0 rfl)).trans ?_
                              refine (tz_g_iald (n := 8) rfl rfl rfl (tz_in0 rfl)).trans ?_
                              refine tz_cn1 ?_
                              refine (tz_g_i2l (tz_in0 rfl)).trans ?_
                              refine (tz_g_lcmp (tz_in0 rfl)).trans ?_
                              refine (tz_g_if_le (t := 186) (by decide) (tz_in0 rfl)).trans ?_
                              refine tz_cg ?_ ?_
                              · skip
                                refine (tz_g_iload_n rfl (tz_in0 rfl)).trans ?_
                                refine (tz_g_iload_n rfl (tz_in0 rfl)).trans ?_
                                refine (tz_g_ic_ne (t := 248) (by decide) (tz_in0 rfl)).trans ?_
                                refine tz_cg ?_ ?_
                                · skip
                                  refine (tz_g_iconst (v := 0) rfl (tz_in0 rfl)).trans ?_
                                  refine (tz_g_istore (L2 := [some (.ref 157), some (.int x1), some (.int x2), some (.int x3), some (.int x4), some (.int x5), some (.int 0)]) rfl rfl (tz_in0 rfl)).trans ?_
                                  exact tz_Gm (L2 := [some (.ref 157), some (.int x1), some (.int x2), some (.int x3), some (.int x4), some (.int x5), some (.int 0)]) rfl rfl rfl rfl
                                · skip
                                  refine (tz_g_iload_n rfl (tz_in0 rfl)).trans ?_
                                  refine (tz_g_iload rfl (tz_in0 rfl)).trans ?_
                                  refine (tz_g_ic_ge (t := 248) (by decide) (tz_in0 rfl)).trans ?_
                                  refine tz_cg ?_ ?_
                                  · skip
                                    refine (tz_g_iconst (v := 0) rfl (tz_in0 rfl)).trans ?_
                                    refine (tz_g_istore (L2 := [some (.ref 157), some (.int x1), some (.int x2), some (.int x3), some (.int x4), some (.int x5), some (.int 0)]) rfl rfl (tz_in0 rfl)).trans ?_
                                    exact tz_Gm (L2 := [some (.ref 157), some (.int x1), some (.int x2), some (.int x3), some (.int x4), some (.int x5), some (.int 0)]) rfl rfl rfl rfl
                                  · skip
                                    refine (tz_g_iload rfl (tz_in0 rfl)).trans ?_
                                    refine (tz_g_iconst (v := 1) rfl (tz_in0 rfl)).trans ?_
                                    refine (tz_g_isub (tz_in0 rfl)).trans ?_
                                    refine (tz_g_istore (L2 := [some (.ref 157), some (.int x1), some (.int x2), some (.int x3), some (.int x4), some (.int x5), some (.int (x5 - 1))]) rfl rfl (tz_in0 rfl)).trans ?_
                                    exact tz_Gm (L2 := [some (.ref 157), some (.int x1), some (.int x2), some (.int x3), some (.int x4), none, some (.int (x5 - 1))]) rfl rfl rfl rfl
                              · skip
                                refine (tz_g_aload_n rfl (tz_in0 rfl)).trans ?_
                                refine (tz_g_bipush (v := (-5)) rfl (tz_in0 rfl)).trans ?_
                                refine (tz_g_cv1I (m2 := 166) (rc := 1) rfl rfl rfl rfl rfl rfl (by decide) (tz_in0 rfl)).trans ?_
                                refine tz_jI (fun y6 A6 => ?_)
                                exact tz_g_ret1 (tz_in0 rfl) rfl
                      · skip
                        refine (tz_g_aload_n rfl (tz_in0 rfl)).trans ?_
                        refine (tz_g_bipush (v := (-4)) rfl (tz_in0 rfl)).trans ?_
                        refine (tz_g_cv1I (m2 := 166) (rc := 1) rfl rfl rfl rfl rfl rfl (by decide) (tz_in0 rfl)).trans ?_
                        refine tz_jI (fun y6 A6 => ?_)
                        exact tz_g_ret1 (tz_in0 rfl) rfl
                    · skip
                      refine (tz_g_aload_n rfl (tz_in0 rfl)).trans ?_
                      refine (tz_g_bipush (v := (-3)) rfl (tz_in0 rfl)).trans ?_
                      refine (tz_g_cv1I (m2 := 166) (rc := 1) rfl rfl rfl rfl rfl rfl (by decide) (tz_in0 rfl)).trans ?_
                      refine tz_jI (fun y6 A6 => ?_)
                      exact tz_g_ret1 (tz_in0 rfl) rfl
                · skip
                  refine (tz_g_aload_n rfl (tz_in0 rfl)).trans ?_
                  refine (tz_g_bipush (v := (-2)) rfl (tz_in0 rfl)).trans ?_
                  refine (tz_g_cv1I (m2 := 166) (rc := 1) rfl rfl rfl rfl rfl rfl (by decide) (tz_in0 rfl)).trans ?_
                  refine tz_jI (fun y6 A6 => ?_)
                  exact tz_g_ret1 (tz_in0 rfl) rfl
      · skip
        refine (tz_g_aload_n rfl (tz_in0 rfl)).trans ?_
        refine (tz_g_iload_n rfl (tz_in0 rfl)).trans ?_
        refine (tz_g_cv1I (m2 := 169) (rc := 4) rfl rfl rfl rfl rfl rfl (by decide) (tz_in0 rfl)).trans ?_
        refine tz_jI (fun y3 A3 => ?_)
        refine (tz_g_if_eq (t := 91) (by decide) (tz_in0 rfl)).trans ?_
        refine tz_cg ?_ ?_
        · skip
          refine (tz_g_aload_n rfl (tz_in0 rfl)).trans ?_
          refine (tz_g_bipush (v := (-2)) rfl (tz_in0 rfl)).trans ?_
          refine (tz_g_cv1I (m2 := 166) (rc := 1) rfl rfl rfl rfl rfl rfl (by decide) (tz_in0 rfl)).trans ?_
          refine tz_jI (fun y4 A4 => ?_)
          exact tz_g_ret1 (tz_in0 rfl) rfl
        · skip
          refine (tz_g_aload_n rfl (tz_in0 rfl)).trans ?_
          refine (tz_g_getr (j := 158) rfl rfl rfl rfl rfl (tz_in0 rfl)).trans ?_
          refine (tz_g_iload_n rfl (tz_in0 rfl)).trans ?_
          refine (tz_g_iald (n := 8) rfl rfl rfl (tz_in0 rfl)).trans ?_
          refine tz_cn1 ?_
          refine (tz_g_if_lt (t := 60) (by decide) (tz_in0 rfl)).trans ?_
          refine tz_cg ?_ ?_
          · skip
            refine (tz_g_aload_n rfl (tz_in0 rfl)).trans ?_
            refine (tz_g_iload_n rfl (tz_in0 rfl)).trans ?_
            refine (tz_g_cv1I (m2 := 169) (rc := 4) rfl rfl rfl rfl rfl rfl (by decide) (tz_in0 rfl)).trans ?_
            refine tz_jI (fun y4 A4 => ?_)
            refine (tz_g_if_eq (t := 98) (by decide) (tz_in0 rfl)).trans ?_
            refine tz_cg ?_ ?_
            · skip
              refine (tz_g_aload_n rfl (tz_in0 rfl)).trans ?_
              refine (tz_g_getr (j := 158) rfl rfl rfl rfl rfl (tz_in0 rfl)).trans ?_
              refine (tz_g_iload_n rfl (tz_in0 rfl)).trans ?_
              refine (tz_g_iald (n := 8) rfl rfl rfl (tz_in0 rfl)).trans ?_
              refine tz_cn1 ?_
              refine (tz_g_if_lt (t := 116) (by decide) (tz_in0 rfl)).trans ?_
              refine tz_cg ?_ ?_
              · skip
                refine (tz_g_aload_n rfl (tz_in0 rfl)).trans ?_
                refine (tz_g_bipush (v := (-3)) rfl (tz_in0 rfl)).trans ?_
                refine (tz_g_cv1I (m2 := 166) (rc := 1) rfl rfl rfl rfl rfl rfl (by decide) (tz_in0 rfl)).trans ?_
                refine tz_jI (fun y5 A5 => ?_)
                exact tz_g_ret1 (tz_in0 rfl) rfl
              · skip
                refine (tz_g_aload_n rfl (tz_in0 rfl)).trans ?_
                refine (tz_g_getr (j := 158) rfl rfl rfl rfl rfl (tz_in0 rfl)).trans ?_
                refine (tz_g_iload_n rfl (tz_in0 rfl)).trans ?_
                refine (tz_g_iald (n := 8) rfl rfl rfl (tz_in0 rfl)).trans ?_
                refine tz_cn1 ?_
                refine (tz_g_if_ge (t := 123) (by decide) (tz_in0 rfl)).trans ?_
                refine tz_cg ?_ ?_
                · skip
                  refine (tz_g_iload rfl (tz_in0 rfl)).trans ?_
                  refine (tz_g_if_ge (t := 135) (by decide) (tz_in0 rfl)).trans ?_
                  refine tz_cg ?_ ?_
                  · skip
                    refine (tz_g_iload_n rfl (tz_in0 rfl)).trans ?_
                    refine (tz_g_if_lt (t := 179) (by decide) (tz_in0 rfl)).trans ?_
                    refine tz_cg ?_ ?_
                    · skip
                      refine (tz_g_aload_n rfl (tz_in0 rfl)).trans ?_
                      refine (tz_g_bipush (v := (-5)) rfl (tz_in0 rfl)).trans ?_
                      refine (tz_g_cv1I (m2 := 166) (rc := 1) rfl rfl rfl rfl rfl rfl (by decide) (tz_in0 rfl)).trans ?_
                      refine tz_jI (fun y5 A5 => ?_)
                      exact tz_g_ret1 (tz_in0 rfl) rfl
                    · skip
                      refine (tz_g_iload rfl (tz_in0 rfl)).trans ?_
                      refine (tz_g_if_lt (t := 179) (by decide) (tz_in0 rfl)).trans ?_
                      refine tz_cg ?_ ?_
                      · skip
                        refine (tz_g_aload_n rfl (tz_in0 rfl)).trans ?_
                        refine (tz_g_bipush (v := (-5)) rfl (tz_in0 rfl)).trans ?_
                        refine (tz_g_cv1I (m2 := 166) (rc := 1) rfl rfl rfl rfl rfl rfl (by decide) (tz_in0 rfl)).trans ?_
                        refine tz_jI (fun y5 A5 => ?_)
                        exact tz_g_ret1 (tz_in0 rfl) rfl
                      · skip
                        refine (tz_g_iload_n rfl (tz_in0 rfl)).trans ?_
                        refine (tz_g_i2l (tz_in0 rfl)).trans ?_
                        refine (tz_g_iload rfl (tz_in0 rfl)).trans ?_
                        refine (tz_g_i2l (tz_in0 rfl)).trans ?_
                        refine (tz_g_ladd (tz_in0 rfl)).trans ?_
                        refine (tz_g_aload_n rfl (tz_in0 rfl)).trans ?_
                        refine (tz_g_getr (j := 159) rfl rfl rfl rfl rfl (tz_in0 rfl)).trans ?_
                        refine (tz_g_iload_n rfl (tz_in0 rfl)).trans ?_
                        refine (tz_g_iald (n := 8) rfl rfl rfl (tz_in0 rfl)).trans ?_
                        refine tz_cn1 ?_
                        refine (tz_g_i2l (tz_in0 rfl)).trans ?_
                        refine (tz_g_lcmp (tz_in0 rfl)).trans ?_
                        refine (tz_g_if_gt (t := 179) (by decide) (tz_in0 rfl)).trans ?_
                        refine tz_cg ?_ ?_
                        · skip
                          refine (tz_g_aload_n rfl (tz_in0 rfl)).trans ?_
                          refine (tz_g_bipush (v := (-5)) rfl (tz_in0 rfl)).trans ?_
                          refine (tz_g_cv1I (m2 := 166) (rc := 1) rfl rfl rfl rfl rfl rfl (by decide) (tz_in0 rfl)).trans ?_
                          refine tz_jI (fun y5 A5 => ?_)
                          exact tz_g_ret1 (tz_in0 rfl) rfl
                        · skip
                          refine (tz_g_iload rfl (tz_in0 rfl)).trans ?_
                          refine (tz_g_i2l (tz_in0 rfl)).trans ?_
                          refine (tz_g_iload rfl (tz_in0 rfl)).trans ?_
                          refine (tz_g_i2l (tz_in0 rfl)).trans ?_
                          refine (tz_g_ladd (tz_in0 rfl)).trans ?_
                          refine (tz_g_aload_n rfl (tz_in0 rfl)).trans ?_
                          refine (tz_g_getr (j := 159) rfl rfl rfl rfl rfl (tz_in0 rfl)).trans ?_
                          refine (tz_g_iload_n rfl (tz_in0 rfl)).trans ?_
                          refine (tz_g_iald (n := 8) rfl rfl rfl (tz_in0 rfl)).trans ?_
                          refine tz_cn1 ?_
                          refine (tz_g_i2l (tz_in0 rfl)).trans ?_
                          refine (tz_g_lcmp (tz_in0 rfl)).trans ?_
                          refine (tz_g_if_le (t := 186) (by decide) (tz_in0 rfl)).trans ?_
                          refine tz_cg ?_ ?_
                          · skip
                            refine (tz_g_iload_n rfl (tz_in0 rfl)).trans ?_
                            refine (tz_g_iload_n rfl (tz_in0 rfl)).trans ?_
                            refine (tz_g_ic_ne (t := 248) (by decide) (tz_in0 rfl)).trans ?_
                            refine tz_cg ?_ ?_
                            · skip
                              refine (tz_g_iconst (v := 0) rfl (tz_in0 rfl)).trans ?_
                              refine (tz_g_istore (L2 := [some (.ref 157), some (.int x1), some (.int x2), some (.int x3), some (.int x4), some (.int x5), some (.int 0)]) rfl rfl (tz_in0 rfl)).trans ?_
                              exact tz_Gm (L2 := [some (.ref 157), some (.int x1), some (.int x2), some (.int x3), some (.int x4), some (.int x5), some (.int 0)]) rfl rfl rfl rfl
                            · skip
                              refine (tz_g_iload_n rfl (tz_in0 rfl)).trans ?_
                              refine (tz_g_iload rfl (tz_in0 rfl)).trans ?_
                              refine (tz_g_ic_ge (t := 248) (by decide) (tz_in0 rfl)).trans ?_
                              refine tz_cg ?_ ?_
                              · skip
                                refine (tz_g_iconst (v := 0) rfl (tz_in0 rfl)).trans ?_
                                refine (tz_g_istore (L2 := [some (.ref 157), some (.int x1), some (.int x2), some (.int x3), some (.int x4), some (.int x5), some (.int 0)]) rfl rfl (tz_in0 rfl)).trans ?_
                                exact tz_Gm (L2 := [some (.ref 157), some (.int x1), some (.int x2), some (.int x3), some (.int x4), some (.int x5), some (.int 0)]) rfl rfl rfl rfl
                              · skip
                                refine (tz_g_iload rfl (tz_in0 rfl)).trans ?_
                                refine (tz_g_iconst (v := 1) rfl (tz_in0 rfl)).trans ?_
                                refine (tz_g_isub (tz_in0 rfl)).trans ?_
                                refine (tz_g_istore (L2 := [some (.ref 157), some (.int x1), some (.int x2), some (.int x3), some (.int x4), some (.int x5), some (.int (x5 - 1))]) rfl rfl (tz_in0 rfl)).trans ?_
                                exact tz_Gm (L2 := [some (.ref 157), some (.int x1), some (.int x2), some (.int x3), some (.int x4), none, some (.int (x5 - 1))]) rfl rfl rfl rfl
                          · skip
                            refine (tz_g_aload_n rfl (tz_in0 rfl)).trans ?_
                            refine (tz_g_bipush (v := (-5)) rfl (tz_in0 rfl)).trans ?_
                            refine (tz_g_cv1I (m2 := 166) (rc := 1) rfl rfl rfl rfl rfl rfl (by decide) (tz_in0 rfl)).trans ?_
                            refine tz_jI (fun y5 A5 => ?_)
                            exact tz_g_ret1 (tz_in0 rfl) rfl
                  · skip
                    refine (tz_g_aload_n rfl (tz_in0 rfl)).trans ?_
                    refine (tz_g_bipush (v := (-4)) rfl (tz_in0 rfl)).trans ?_
                    refine (tz_g_cv1I (m2 := 166) (rc := 1) rfl rfl rfl rfl rfl rfl (by decide) (tz_in0 rfl)).trans ?_
                    refine tz_jI (fun y5 A5 => ?_)
                    exact tz_g_ret1 (tz_in0 rfl) rfl
                · skip
                  refine (tz_g_aload_n rfl (tz_in0 rfl)).trans ?_
                  refine (tz_g_bipush (v := (-3)) rfl (tz_in0 rfl)).trans ?_
                  refine (tz_g_cv1I (m2 := 166) (rc := 1) rfl rfl rfl rfl rfl rfl (by decide) (tz_in0 rfl)).trans ?_
                  refine tz_jI (fun y5 A5 => ?_)
                  exact tz_g_ret1 (tz_in0 rfl) rfl
            · skip
              refine (tz_g_aload_n rfl (tz_in0 rfl)).trans ?_
              refine (tz_g_iload_n rfl (tz_in0 rfl)).trans ?_
              refine (tz_g_cv1I (m2 := 169) (rc := 4) rfl rfl rfl rfl rfl rfl (by decide) (tz_in0 rfl)).trans ?_
              refine tz_jI (fun y5 A5 => ?_)
              refine (tz_g_if_eq (t := 98) (by decide) (tz_in0 rfl)).trans ?_
              refine tz_cg ?_ ?_
              · skip
                refine (tz_g_aload_n rfl (tz_in0 rfl)).trans ?_
                refine (tz_g_getr (j := 158) rfl rfl rfl rfl rfl (tz_in0 rfl)).trans ?_
                refine (tz_g_iload_n rfl (tz_in0 rfl)).trans ?_
                refine (tz_g_iald (n := 8) rfl rfl rfl (tz_in0 rfl)).trans ?_
                refine tz_cn1 ?_
                refine (tz_g_if_lt (t := 116) (by decide) (tz_in0 rfl)).trans ?_
                refine tz_cg ?_ ?_
                · skip
                  refine (tz_g_aload_n rfl (tz_in0 rfl)).trans ?_
                  refine (tz_g_bipush (v := (-3)) rfl (tz_in0 rfl)).trans ?_
                  refine (tz_g_cv1I (m2 := 166) (rc := 1) rfl rfl rfl rfl rfl rfl (by decide) (tz_in0 rfl)).trans ?_
                  refine tz_jI (fun y6 A6 => ?_)
                  exact tz_g_ret1 (tz_in0 rfl) rfl
                · skip
                  refine (tz_g_aload_n rfl (tz_in0 rfl)).trans ?_
                  refine (tz_g_getr (j := 158) rfl rfl rfl rfl rfl (tz_in0 rfl)).trans ?_
                  refine (tz_g_iload_n rfl (tz_in0 rfl)).trans ?_
                  refine (tz_g_iald (n := 8) rfl rfl rfl (tz_in0 rfl)).trans ?_
                  refine tz_cn1 ?_
                  refine (tz_g_if_ge (t := 123) (by decide) (tz_in0 rfl)).trans ?_
                  refine tz_cg ?_ ?_
                  · skip
                    refine (tz_g_iload rfl (tz_in0 rfl)).trans ?_
                    refine (tz_g_if_ge (t := 135) (by decide) (tz_in0 rfl)).trans ?_
                    refine tz_cg ?_ ?_
                    · skip
                      refine (tz_g_iload_n rfl (tz_in0 rfl)).trans ?_
                      refine (tz_g_if_lt (t := 179) (by decide) (tz_in0 rfl)).trans ?_
                      refine tz_cg ?_ ?_
                      · skip
                        refine (tz_g_aload_n rfl (tz_in0 rfl)).trans ?_
                        refine (tz_g_bipush (v := (-5)) rfl (tz_in0 rfl)).trans ?_
                        refine (tz_g_cv1I (m2 := 166) (rc := 1) rfl rfl rfl rfl rfl rfl (by decide) (tz_in0 rfl)).trans ?_
                        refine tz_jI (fun y6 A6 => ?_)
                        exact tz_g_ret1 (tz_in0 rfl) rfl
                      · skip
                        refine (tz_g_iload rfl (tz_in0 rfl)).trans ?_
                        refine (tz_g_if_lt (t := 179) (by decide) (tz_in0 rfl)).trans ?_
                        refine tz_cg ?_ ?_
                        · skip
                          refine (tz_g_aload_n rfl (tz_in0 rfl)).trans ?_
                          refine (tz_g_bipush (v := (-5)) rfl (tz_in0 rfl)).trans ?_
                          refine (tz_g_cv1I (m2 := 166) (rc := 1) rfl rfl rfl rfl rfl rfl (by decide) (tz_in0 rfl)).trans ?_
                          refine tz_jI (fun y6 A6 => ?_)
                          exact tz_g_ret1 (tz_in0 rfl) rfl
                        · skip
                          refine (tz_g_iload_n rfl (tz_in0 rfl)).trans ?_
                          refine (tz_g_i2l (tz_in0 rfl)).trans ?_
                          refine (tz_g_iload rfl (tz_in0 rfl)).trans ?_
                          refine (tz_g_i2l (tz_in0 rfl)).trans ?_
                          refine (tz_g_ladd (tz_in0 rfl)).trans ?_
                          refine (tz_g_aload_n rfl (tz_in0 rfl)).trans ?_
                          refine (tz_g_getr (j := 159) rfl rfl rfl rfl rfl (tz_in0 rfl)).trans ?_
                          refine (tz_g_iload_n rfl (tz_in0 rfl)).trans ?_
                          refine (tz_g_iald (n := 8) rfl rfl rfl (tz_in0 rfl)).trans ?_
                          refine tz_cn1 ?_
                          refine (tz_g_i2l (tz_in0 rfl)).trans ?_
                          refine (tz_g_lcmp (tz_in0 rfl)).trans ?_
                          refine (tz_g_if_gt (t := 179) (by decide) (tz_in0 rfl)).trans ?_
                          refine tz_cg ?_ ?_
                          · skip
                            refine (tz_g_aload_n rfl (tz_in0 rfl)).trans ?_
                            refine (tz_g_bipush (v := (-5)) rfl (tz_in0 rfl)).trans ?_
                            refine (tz_g_cv1I (m2 := 166) (rc := 1) rfl rfl rfl rfl rfl rfl (by decide) (tz_in0 rfl)).trans ?_
                            refine tz_jI (fun y6 A6 => ?_)
                            exact tz_g_ret1 (tz_in0 rfl) rfl
                          · skip
                            refine (tz_g_iload rfl (tz_in0 rfl)).trans ?_
                            refine (tz_g_i2l (tz_in0 rfl)).trans ?_
                            refine (tz_g_iload rfl (tz_in0 rfl)).trans ?_
                            refine (tz_g_i2l (tz_in0 rfl)).trans ?_
                            refine (tz_g_ladd (tz_in0 rfl)).trans ?_
                            refine (tz_g_aload_n rfl (tz_in0 rfl)).trans ?_
                            refine (tz_g_getr (j := 159) rfl rfl rfl rfl rfl (tz_in0 rfl)).trans ?_
                            refine (tz_g_iload_n rfl (tz_in0 rfl)).trans ?_
                            refine (tz_g_iald (n := 8) rfl rfl rfl (tz_in0 rfl)).trans ?_
                            refine tz_cn1 ?_
                            refine (tz_g_i2l (tz_in0 rfl)).trans ?_
                            refine (tz_g_lcmp (tz_in0 rfl)).trans ?_
                            refine (tz_g_if_le (t := 186) (by decide) (tz_in0 rfl)).trans ?_
                            refine tz_cg ?_ ?_
                            · skip
                              refine (tz_g_iload_n rfl (tz_in0 rfl)).trans ?_
                              refine (tz_g_iload_n rfl (tz_in0 rfl)).trans ?_
                              refine (tz_g_ic_ne (t := 248) (by decide) (tz_in0 rfl)).trans ?_
                              refine tz_cg ?_ ?_
                              · skip
                                refine (tz_g_iconst (v := 0) rfl (tz_in0 rfl)).trans ?_
                                refine (tz_g_istore (L2 := [some (.ref 157), some (.int x1), some (.int x2), some (.int x3), some (.int x4), some (.int x5), some (.int 0)]) rfl rfl (tz_in0 rfl)).trans ?_
                                exact tz_Gm (L2 := [some (.ref 157), some (.int x1), some (.int x2), some (.int x3), some (.int x4), some (.int x5), some (.int 0)]) rfl rfl rfl rfl
                              · skip
                                refine (tz_g_iload_n rfl (tz_in0 rfl)).trans ?_
                                refine (tz_g_iload rfl (tz_in0 rfl)).trans ?_
                                refine (tz_g_ic_ge (t := 248) (by decide) (tz_in0 rfl)).trans ?_
                                refine tz_cg ?_ ?_
                                · skip
                                  refine (tz_g_iconst (v := 0) rfl (tz_in0 rfl)).trans ?_
                                  refine (tz_g_istore (L2 := [some (.ref 157), some (.int x1), some (.int x2), some (.int x3), some (.int x4), some (.int x5), some (.int 0)]) rfl rfl (tz_in0 rfl)).trans ?_
                                  exact tz_Gm (L2 := [some (.ref 157), some (.int x1), some (.int x2), some (.int x3), some (.int x4), some (.int x5), some (.int 0)]) rfl rfl rfl rfl
                                · skip
                                  refine (tz_g_iload rfl (tz_in0 rfl)).trans ?_
                                  refine (tz_g_iconst (v := 1) rfl (tz_in0 rfl)).trans ?_
                                  refine (tz_g_isub (tz_in0 rfl)).trans ?_
                                  refine (tz_g_istore (L2 := [some (.ref 157), some (.int x1), some (.int x2), some (.int x3), some (.int x4), some (.int x5), some (.int (x5 - 1))]) rfl rfl (tz_in0 rfl)).trans ?_
                                  exact tz_Gm (L2 := [some (.ref 157), some (.int x1), some (.int x2), some (.int x3), some (.int x4), none, some (.int (x5 - 1))]) rfl rfl rfl rfl
                            · skip
                              refine (tz_g_aload_n rfl (tz_in0 rfl)).trans ?_
                              refine (tz_g_bipush (v := (-5)) rfl (tz_in0 rfl)).trans ?_
                              refine (tz_g_cv1I (m2 := 166) (rc := 1) rfl rfl rfl rfl rfl rfl (by decide) (tz_in0 rfl)).trans ?_
                              refine tz_jI (fun y6 A6 => ?_)
                              exact tz_g_ret1 (tz_in0 rfl) rfl
                    · skip
                      refine (tz_g_aload_n rfl (tz_in0 rfl)).trans ?_
                      refine (tz_g_bipush (v := (-4)) rfl (tz_in0 rfl)).trans ?_
                      refine (tz_g_cv1I (m2 := 166) (rc := 1) rfl rfl rfl rfl rfl rfl (by decide) (tz_in0 rfl)).trans ?_
                      refine tz_jI (fun y6 A6 => ?_)
                      exact tz_g_ret1 (tz_in0 rfl) rfl
                  · skip
                    refine (tz_g_aload_n rfl (tz_in0 rfl)).trans ?_
                    refine (tz_g_bipush (v := (-3)) rfl (tz_in0 rfl)).trans ?_
                    refine (tz_g_cv1I (m2 := 166) (rc := 1) rfl rfl rfl rfl rfl rfl (by decide) (tz_in0 rfl)).trans ?_
                    refine tz_jI (fun y6 A6 => ?_)
                    exact tz_g_ret1 (tz_in0 rfl) rfl
              · skip
                refine (tz_g_aload_n rfl (tz_in0 rfl)).trans ?_
                refine (tz_g_getr (j := 158) rfl rfl rfl rfl rfl (tz_in0 rfl)).trans ?_
                refine (tz_g_iload_n rfl (tz_in0 rfl)).trans ?_
                refine (tz_g_iald (n := 8) rfl rfl rfl (tz_in0 rfl)).trans ?_
                refine tz_cn1 ?_
                refine (tz_g_aload_n rfl (tz_in0 rfl)).trans ?_
                refine (tz_g_getr (j := 158) rfl rfl rfl rfl rfl (tz_in0 rfl)).trans ?_
                refine (tz_g_iload_n rfl (tz_in0 rfl)).trans ?_
                refine (tz_g_iald (n := 8) rfl rfl rfl (tz_in0 rfl)).trans ?_
                refine tz_cn1 ?_
                refine (tz_g_ic_eq (t := 98) (by decide) (tz_in0 rfl)).trans ?_
                refine tz_cg ?_ ?_
                · skip
                  refine (tz_g_aload_n rfl (tz_in0 rfl)).trans ?_
                  refine (tz_g_getr (j := 158) rfl rfl rfl rfl rfl (tz_in0 rfl)).trans ?_
                  refine (tz_g_iload_n rfl (tz_in0 rfl)).trans ?_
                  refine (tz_g_iald (n := 8) rfl rfl rfl (tz_in0 rfl)).trans ?_
                  refine tz_cn1 ?_
                  refine (tz_g_if_lt (t := 116) (by decide) (tz_in0 rfl)).trans ?_
                  refine tz_cg ?_ ?_
                  · skip
                    refine (tz_g_aload_n rfl (tz_in0 rfl)).trans ?_
                    refine (tz_g_bipush (v := (-3)) rfl (tz_in0 rfl)).trans ?_
                    refine (tz_g_cv1I (m2 := 166) (rc := 1) rfl rfl rfl rfl rfl rfl (by decide) (tz_in0 rfl)).trans ?_
                    refine tz_jI (fun y6 A6 => ?_)
                    exact tz_g_ret1 (tz_in0 rfl) rfl
                  · skip
                    refine (tz_g_aload_n rfl (tz_in0 rfl)).trans ?_
                    refine (tz_g_getr (j := 158) rfl rfl rfl rfl rfl (tz_in0 rfl)).trans ?_
                    refine (tz_g_iload_n rfl (tz_in0 rfl)).trans ?_
                    refine (tz_g_iald (n := 8) rfl rfl rfl (tz_in0 rfl)).trans ?_
                    refine tz_cn1 ?_
                    refine (tz_g_if_ge (t := 123) (by decide) (tz_in0 rfl)).trans ?_
                    refine tz_cg ?_ ?_
                    · skip
                      refine (tz_g_iload rfl (tz_in0 rfl)).trans ?_
                      refine (tz_g_if_ge (t := 135) (by decide) (tz_in0 rfl)).trans ?_
                      refine tz_cg ?_ ?_
                      · skip
                        refine (tz_g_iload_n rfl (tz_in0 rfl)).trans ?_
                        refine (tz_g_if_lt (t := 179) (by decide) (tz_in0 rfl)).trans ?_
                        refine tz_cg ?_ ?_
                        · skip
                          refine (tz_g_aload_n rfl (tz_in0 rfl)).trans ?_
                          refine (tz_g_bipush (v := (-5)) rfl (tz_in0 rfl)).trans ?_
                          refine (tz_g_cv1I (m2 := 166) (rc := 1) rfl rfl rfl rfl rfl rfl (by decide) (tz_in0 rfl)).trans ?_
                          refine tz_jI (fun y6 A6 => ?_)
                          exact tz_g_ret1 (tz_in0 rfl) rfl
                        · skip
                          refine (tz_g_iload rfl (tz_in0 rfl)).trans ?_
                          refine (tz_g_if_lt (t := 179) (by decide) (tz_in0 rfl)).trans ?_
                          refine tz_cg ?_ ?_
                          · skip
                            refine (tz_g_aload_n rfl (tz_in0 rfl)).trans ?_
                            refine (tz_g_bipush (v := (-5)) rfl (tz_in0 rfl)).trans ?_
                            refine (tz_g_cv1I (m2 := 166) (rc := 1) rfl rfl rfl rfl rfl rfl (by decide) (tz_in0 rfl)).trans ?_
                            refine tz_jI (fun y6 A6 => ?_)
                            exact tz_g_ret1 (tz_in0 rfl) rfl
                          · skip
                            refine (tz_g_iload_n rfl (tz_in0 rfl)).trans ?_
                            refine (tz_g_i2l (tz_in0 rfl)).trans ?_
                            refine (tz_g_iload rfl (tz_in0 rfl)).trans ?_
                            refine (tz_g_i2l (tz_in0 rfl)).trans ?_
                            refine (tz_g_ladd (tz_in0 rfl)).trans ?_
                            refine (tz_g_aload_n rfl (tz_in0 rfl)).trans ?_
                            refine (tz_g_getr (j := 159) rfl rfl rfl rfl rfl (tz_in0 rfl)).trans ?_
                            refine (tz_g_iload_n rfl (tz_in0 rfl)).trans ?_
                            refine (tz_g_iald (n := 8) rfl rfl rfl (tz_in0 rfl)).trans ?_
                            refine tz_cn1 ?_
                            refine (tz_g_i2l (tz_in0 rfl)).trans ?_
                            refine (tz_g_lcmp (tz_in0 rfl)).trans ?_
                            refine (tz_g_if_gt (t := 179) (by decide) (tz_in0 rfl)).trans ?_
                            refine tz_cg ?_ ?_
                            · skip
                              refine (tz_g_aload_n rfl (tz_in0 rfl)).trans ?_
                              refine (tz_g_bipush (v := (-5)) rfl (tz_in0 rfl)).trans ?_
                              refine (tz_g_cv1I (m2 := 166) (rc := 1) rfl rfl rfl rfl rfl rfl (by decide) (tz_in0 rfl)).trans ?_
                              refine tz_jI (fun y6 A6 => ?_)
                              exact tz_g_ret1 (tz_in0 rfl) rfl
                            · skip
                              refine (tz_g_iload rfl (tz_in0 rfl)).trans ?_
                              refine (tz_g_i2l (tz_in0 rfl)).trans ?_
                              refine (tz_g_iload rfl (tz_in0 rfl)).trans ?_
                              refine (tz_g_i2l (tz_in0 rfl)).trans ?_
                              refine (tz_g_ladd (tz_in0 rfl)).trans ?_
                              refine (tz_g_aload_n rfl (tz_in0 rfl)).trans ?_
                              refine (tz_g_getr (j := 159) rfl rfl rfl rfl rfl (tz_in0 rfl)).trans ?_
                              refine (tz_g_iload_n rfl (tz_in0 rfl)).trans ?_
                              refine (tz_g_iald (n := 8) rfl rfl rfl (tz_in0 rfl)).trans ?_
                              refine tz_cn1 ?_
                              refine (tz_g_i2l (tz_in0 rfl)).trans ?_
                              refine (tz_g_lcmp (tz_in0 rfl)).trans ?_
                              refine (tz_g_if_le (t := 186) (by decide) (tz_in0 rfl)).trans ?_
                              refine tz_cg ?_ ?_
                              · skip
                                refine (tz_g_iload_n rfl (tz_in0 rfl)).trans ?_
                                refine (tz_g_iload_n rfl (tz_in0 rfl)).trans ?_
                                refine (tz_g_ic_ne (t := 248) (by decide) (tz_in0 rfl)).trans ?_
                                refine tz_cg ?_ ?_
                                · skip
                                  refine (tz_g_iconst (v := 0) rfl (tz_in0 rfl)).trans ?_
                                  refine (tz_g_istore (L2 := [some (.ref 157), some (.int x1), some (.int x2), some (.int x3), some (.int x4), some (.int x5), some (.int 0)]) rfl rfl (tz_in0 rfl)).trans ?_
                                  exact tz_Gm (L2 := [some (.ref 157), some (.int x1), some (.int x2), some (.int x3), some (.int x4), some (.int x5), some (.int 0)]) rfl rfl rfl rfl
                                · skip
                                  refine (tz_g_iload_n rfl (tz_in0 rfl)).trans ?_
                                  refine (tz_g_iload rfl (tz_in0 rfl)).trans ?_
                                  refine (tz_g_ic_ge (t := 248) (by decide) (tz_in0 rfl)).trans ?_
                                  refine tz_cg ?_ ?_
                                  · skip
                                    refine (tz_g_iconst (v := 0) rfl (tz_in0 rfl)).trans ?_
                                    refine (tz_g_istore (L2 := [some (.ref 157), some (.int x1), some (.int x2), some (.int x3), some (.int x4), some (.int x5), some (.int 0)]) rfl rfl (tz_in0 rfl)).trans ?_
                                    exact tz_Gm (L2 := [some (.ref 157), some (.int x1), some (.int x2), some (.int x3), some (.int x4), some (.int x5), some (.int 0)]) rfl rfl rfl rfl
                                  · skip
                                    refine (tz_g_iload rfl (tz_in0 rfl)).trans ?_
                                    refine (tz_g_iconst (v := 1) rfl (tz_in0 rfl)).trans ?_
                                    refine (tz_g_isub (tz_in0 rfl)).trans ?_
                                    refine (tz_g_istore (L2 := [some (.ref 157), some (.int x1), some (.int x2), some (.int x3), some (.int x4), some (.int x5), some (.int (x5 - 1))]) rfl rfl (tz_in0 rfl)).trans ?_
                                    exact tz_Gm (L2 := [some (.ref 157), some (.int x1), some (.int x2), some (.int x3), some (.int x4), none, some (.int (x5 - 1))]) rfl rfl rfl rfl
                              · skip
                                refine (tz_g_aload_n rfl (tz_in0 rfl)).trans ?_
                                refine (tz_g_bipush (v := (-5)) rfl (tz_in0 rfl)).trans ?_
                                refine (tz_g_cv1I (m2 := 166) (rc := 1) rfl rfl rfl rfl rfl rfl (by decide) (tz_in0 rfl)).trans ?_
                                refine tz_jI (fun y6 A6 => ?_)
                                exact tz_g_ret1 (tz_in0 rfl) rfl
                      · skip
                        refine (tz_g_aload_n rfl (tz_in0 rfl)).trans ?_
                        refine (tz_g_bipush (v := (-4)) rfl (tz_in0 rfl)).trans ?_
                        refine (tz_g_cv1I (m2 := 166) (rc := 1) rfl rfl rfl rfl rfl rfl (by decide) (tz_in0 rfl)).trans ?_
                        refine tz_jI (fun y6 A6 => ?_)
                        exact tz_g_ret1 (tz_in0 rfl) rfl
                    · skip
                      refine (tz_g_aload_n rfl (tz_in0 rfl)).trans ?_
                      refine (tz_g_bipush (v := (-3)) rfl (tz_in0 rfl)).trans ?_
                      refine (tz_g_cv1I (m2 := 166) (rc := 1) rfl rfl rfl rfl rfl rfl (by decide) (tz_in0 rfl)).trans ?_
                      refine tz_jI (fun y6 A6 => ?_)
                      exact tz_g_ret1 (tz_in0 rfl) rfl
                · skip
                  refine (tz_g_aload_n rfl (tz_in0 rfl)).trans ?_
                  refine (tz_g_bipush (v := (-2)) rfl (tz_in0 rfl)).trans ?_
                  refine (tz_g_cv1I (m2 := 166) (rc := 1) rfl rfl rfl rfl rfl rfl (by decide) (tz_in0 rfl)).trans ?_
                  refine tz_jI (fun y6 A6 => ?_)
                  exact tz_g_ret1 (tz_in0 rfl) rfl
          · skip
            refine (tz_g_aload_n rfl (tz_in0 rfl)).trans ?_
            refine (tz_g_iload_n rfl (tz_in0 rfl)).trans ?_
            refine (tz_g_cv1I (m2 := 169) (rc := 4) rfl rfl rfl rfl rfl rfl (by decide) (tz_in0 rfl)).trans ?_
            refine tz_jI (fun y4 A4 => ?_)
            refine (tz_g_if_eq (t := 91) (by decide) (tz_in0 rfl)).trans ?_
            refine tz_cg ?_ ?_
            · skip
              refine (tz_g_aload_n rfl (tz_in0 rfl)).trans ?_
              refine (tz_g_bipush (v := (-2)) rfl (tz_in0 rfl)).trans ?_
              refine (tz_g_cv1I (m2 := 166) (rc := 1) rfl rfl rfl rfl rfl rfl (by decide) (tz_in0 rfl)).trans ?_
              refine tz_jI (fun y5 A5 => ?_)
              exact tz_g_ret1 (tz_in0 rfl) rfl
            · skip
              refine (tz_g_aload_n rfl (tz_in0 rfl)).trans ?_
              refine (tz_g_iload_n rfl (tz_in0 rfl)).trans ?_
              refine (tz_g_cv1I (m2 := 169) (rc := 4) rfl rfl rfl rfl rfl rfl (by decide) (tz_in0 rfl)).trans ?_
              refine tz_jI (fun y5 A5 => ?_)
              refine (tz_g_if_eq (t := 98) (by decide) (tz_in0 rfl)).trans ?_
              refine tz_cg ?_ ?_
              · skip
                refine (tz_g_aload_n rfl (tz_in0 rfl)).trans ?_
                refine (tz_g_getr (j := 158) rfl rfl rfl rfl rfl (tz_in0 rfl)).trans ?_
                refine (tz_g_iload_n rfl (tz_in0 rfl)).trans ?_
                refine (tz_g_iald (n := 8) rfl rfl rfl (tz_in0 rfl)).trans ?_
                refine tz_cn1 ?_
                refine (tz_g_if_lt (t := 116) (by decide) (tz_in0 rfl)).trans ?_
                refine tz_cg ?_ ?_
                · skip
                  refine (tz_g_aload_n rfl (tz_in0 rfl)).trans ?_
                  refine (tz_g_bipush (v := (-3)) rfl (tz_in0 rfl)).trans ?_
                  refine (tz_g_cv1I (m2 := 166) (rc := 1) rfl rfl rfl rfl rfl rfl (by decide) (tz_in0 rfl)).trans ?_
                  refine tz_jI (fun y6 A6 => ?_)
                  exact tz_g_ret1 (tz_in0 rfl) rfl
                · skip
                  refine (tz_g_aload_n rfl (tz_in0 rfl)).trans ?_
                  refine (tz_g_getr (j := 158) rfl rfl rfl rfl rfl (tz_in0 rfl)).trans ?_
                  refine (tz_g_iload_n rfl (tz_in0 rfl)).trans ?_
                  refine (tz_g_iald (n := 8) rfl rfl rfl (tz_in0 rfl)).trans ?_
                  refine tz_cn1 ?_
                  refine (tz_g_if_ge (t := 123) (by decide) (tz_in0 rfl)).trans ?_
                  refine tz_cg ?_ ?_
                  · skip
                    refine (tz_g_iload rfl (tz_in0 rfl)).trans ?_
                    refine (tz_g_if_ge (t := 135) (by decide) (tz_in0 rfl)).trans ?_
                    refine tz_cg ?_ ?_
                    · skip
                      refine (tz_g_iload_n rfl (tz_in0 rfl)).trans ?_
                      refine (tz_g_if_lt (t := 179) (by decide) (tz_in0 rfl)).trans ?_
                      refine tz_cg ?_ ?_
                      · skip
                        refine (tz_g_aload_n rfl (tz_in0 rfl)).trans ?_
                        refine (tz_g_bipush (v := (-5)) rfl (tz_in0 rfl)).trans ?_
                        refine (tz_g_cv1I (m2 := 166) (rc := 1) rfl rfl rfl rfl rfl rfl (by decide) (tz_in0 rfl)).trans ?_
                        refine tz_jI (fun y6 A6 => ?_)
                        exact tz_g_ret1 (tz_in0 rfl) rfl
                      · skip
                        refine (tz_g_iload rfl (tz_in0 rfl)).trans ?_
                        refine (tz_g_if_lt (t := 179) (by decide) (tz_in0 rfl)).trans ?_
                        refine tz_cg ?_ ?_
                        · skip
                          refine (tz_g_aload_n rfl (tz_in0 rfl)).trans ?_
                          refine (tz_g_bipush (v := (-5)) rfl (tz_in0 rfl)).trans ?_
                          refine (tz_g_cv1I (m2 := 166) (rc := 1) rfl rfl rfl rfl rfl rfl (by decide) (tz_in0 rfl)).trans ?_
                          refine tz_jI (fun y6 A6 => ?_)
                          exact tz_g_ret1 (tz_in0 rfl) rfl
                        · skip
                          refine (tz_g_iload_n rfl (tz_in0 rfl)).trans ?_
                          refine (tz_g_i2l (tz_in0 rfl)).trans ?_
                          refine (tz_g_iload rfl (tz_in0 rfl)).trans ?_
                          refine (tz_g_i2l (tz_in0 rfl)).trans ?_
                          refine (tz_g_ladd (tz_in0 rfl)).trans ?_
                          refine (tz_g_aload_n rfl (tz_in0 rfl)).trans ?_
                          refine (tz_g_getr (j := 159) rfl rfl rfl rfl rfl (tz_in0 rfl)).trans ?_
                          refine (tz_g_iload_n rfl (tz_in0 rfl)).trans ?_
                          refine (tz_g_iald (n := 8) rfl rfl rfl (tz_in0 rfl)).trans ?_
                          refine tz_cn1 ?_
                          refine (tz_g_i2l (tz_in0 rfl)).trans ?_
                          refine (tz_g_lcmp (tz_in0 rfl)).trans ?_
                          refine (tz_g_if_gt (t := 179) (by decide) (tz_in0 rfl)).trans ?_
                          refine tz_cg ?_ ?_
                          · skip
                            refine (tz_g_aload_n rfl (tz_in0 rfl)).trans ?_
                            refine (tz_g_bipush (v := (-5)) rfl (tz_in0 rfl)).trans ?_
                            refine (tz_g_cv1I (m2 := 166) (rc := 1) rfl rfl rfl rfl rfl rfl (by decide) (tz_in0 rfl)).trans ?_
                            refine tz_jI (fun y6 A6 => ?_)
                            exact tz_g_ret1 (tz_in0 rfl) rfl
                          · skip
                            refine (tz_g_iload rfl (tz_in0 rfl)).trans ?_
                            refine (tz_g_i2l (tz_in0 rfl)).trans ?_
                            refine (tz_g_iload rfl (tz_in0 rfl)).trans ?_
                            refine (tz_g_i2l (tz_in0 rfl)).trans ?_
                            refine (tz_g_ladd (tz_in0 rfl)).trans ?_
                            refine (tz_g_aload_n rfl (tz_in0 rfl)).trans ?_
                            refine (tz_g_getr (j := 159) rfl rfl rfl rfl rfl (tz_in0 rfl)).trans ?_
                            refine (tz_g_iload_n rfl (tz_in0 rfl)).trans ?_
                            refine (tz_g_iald (n := 8) rfl rfl rfl (tz_in0 rfl)).trans ?_
                            refine tz_cn1 ?_
                            refine (tz_g_i2l (tz_in0 rfl)).trans ?_
                            refine (tz_g_lcmp (tz_in0 rfl)).trans ?_
                            refine (tz_g_if_le (t := 186) (by decide) (tz_in0 rfl)).trans ?_
                            refine tz_cg ?_ ?_
                            · skip
                              refine (tz_g_iload_n rfl (tz_in0 rfl)).trans ?_
                              refine (tz_g_iload_n rfl (tz_in0 rfl)).trans ?_
                              refine (tz_g_ic_ne (t := 248) (by decide) (tz_in0 rfl)).trans ?_
                              refine tz_cg ?_ ?_
                              · skip
                                refine (tz_g_iconst (v := 0) rfl (tz_in0 rfl)).trans ?_
                                refine (tz_g_istore (L2 := [some (.ref 157), some (.int x1), some (.int x2), some (.int x3), some (.int x4), some (.int x5), some (.int 0)]) rfl rfl (tz_in0 rfl)).trans ?_
                                exact tz_Gm (L2 := [some (.ref 157), some (.int x1), some (.int x2), some (.int x3), some (.int x4), some (.int x5), some (.int 0)]) rfl rfl rfl rfl
                              · skip
                                refine (tz_g_iload_n rfl (tz_in0 rfl)).trans ?_
                                refine (tz_g_iload rfl (tz_in0 rfl)).trans ?_
                                refine (tz_g_ic_ge (t := 248) (by decide) (tz_in0 rfl)).trans ?_
                                refine tz_cg ?_ ?_
                                · skip
                                  refine (tz_g_iconst (v := 0) rfl (tz_in0 rfl)).trans ?_
                                  refine (tz_g_istore (L2 := [some (.ref 157), some (.int x1), some (.int x2), some (.int x3), some (.int x4), some (.int x5), some (.int 0)]) rfl rfl (tz_in0 rfl)).trans ?_
                                  exact tz_Gm (L2 := [some (.ref 157), some (.int x1), some (.int x2), some (.int x3), some (.int x4), some (.int x5), some (.int 0)]) rfl rfl rfl rfl
                                · skip
                                  refine (tz_g_iload rfl (tz_in0 rfl)).trans ?_
                                  refine (tz_g_iconst (v := 1) rfl (tz_in0 rfl)).trans ?_
                                  refine (tz_g_isub (tz_in0 rfl)).trans ?_
                                  refine (tz_g_istore (L2 := [some (.ref 157), some (.int x1), some (.int x2), some (.int x3), some (.int x4), some (.int x5), some (.int (x5 - 1))]) rfl rfl (tz_in0 rfl)).trans ?_
                                  exact tz_Gm (L2 := [some (.ref 157), some (.int x1), some (.int x2), some (.int x3), some (.int x4), none, some (.int (x5 - 1))]) rfl rfl rfl rfl
                            · skip
                              refine (tz_g_aload_n rfl (tz_in0 rfl)).trans ?_
                              refine (tz_g_bipush (v := (-5)) rfl (tz_in0 rfl)).trans ?_
                              refine (tz_g_cv1I (m2 := 166) (rc := 1) rfl rfl rfl rfl rfl rfl (by decide) (tz_in0 rfl)).trans ?_
                              refine tz_jI (fun y6 A6 => ?_)
                              exact tz_g_ret1 (tz_in0 rfl) rfl
                    · skip
                      refine (tz_g_aload_n rfl (tz_in0 rfl)).trans ?_
                      refine (tz_g_bipush (v := (-4)) rfl (tz_in0 rfl)).trans ?_
                      refine (tz_g_cv1I (m2 := 166) (rc := 1) rfl rfl rfl rfl rfl rfl (by decide) (tz_in0 rfl)).trans ?_
                      refine tz_jI (fun y6 A6 => ?_)
                      exact tz_g_ret1 (tz_in0 rfl) rfl
                  · skip
                    refine (tz_g_aload_n rfl (tz_in0 rfl)).trans ?_
                    refine (tz_g_bipush (v := (-3)) rfl (tz_in0 rfl)).trans ?_
                    refine (tz_g_cv1I (m2 := 166) (rc := 1) rfl rfl rfl rfl rfl rfl (by decide) (tz_in0 rfl)).trans ?_
                    refine tz_jI (fun y6 A6 => ?_)
                    exact tz_g_ret1 (tz_in0 rfl) rfl
              · skip
                refine (tz_g_aload_n rfl (tz_in0 rfl)).trans ?_
                refine (tz_g_iload_n rfl (tz_in0 rfl)).trans ?_
                refine (tz_g_cv1I (m2 := 169) (rc := 4) rfl rfl rfl rfl rfl rfl (by decide) (tz_in0 rfl)).trans ?_
                refine tz_jI (fun y6 A6 => ?_)
                refine (tz_g_if_eq (t := 98) (by decide) (tz_in0 rfl)).trans ?_
                refine tz_cg ?_ ?_
                · skip
                  refine (tz_g_aload_n rfl (tz_in0 rfl)).trans ?_
                  refine (tz_g_getr (j := 158) rfl rfl rfl rfl rfl (tz_in0 rfl)).trans ?_
                  refine (tz_g_iload_n rfl (tz_in0 rfl)).trans ?_
                  refine (tz_g_iald (n := 8) rfl rfl rfl (tz_in0 rfl)).trans ?_
                  refine tz_cn1 ?_
                  refine (tz_g_if_lt (t := 116) (by decide) (tz_in0 rfl)).trans ?_
                  refine tz_cg ?_ ?_
                  · skip
                    refine (tz_g_aload_n rfl (tz_in0 rfl)).trans ?_
                    refine (tz_g_bipush (v := (-3)) rfl (tz_in0 rfl)).trans ?_
                    refine (tz_g_cv1I (m2 := 166) (rc := 1) rfl rfl rfl rfl rfl rfl (by decide) (tz_in0 rfl)).trans ?_
                    refine tz_jI (fun y7 A7 => ?_)
                    exact tz_g_ret1 (tz_in0 rfl) rfl
                  · skip
                    refine (tz_g_aload_n rfl (tz_in0 rfl)).trans ?_
                    refine (tz_g_getr (j := 158) rfl rfl rfl rfl rfl (tz_in0 rfl)).trans ?_
                    refine (tz_g_iload_n rfl (tz_in0 rfl)).trans ?_
                    refine (tz_g_iald (n := 8) rfl rfl rfl (tz_in0 rfl)).trans ?_
                    refine tz_cn1 ?_
                    refine (tz_g_if_ge (t := 123) (by decide) (tz_in0 rfl)).trans ?_
                    refine tz_cg ?_ ?_
                    · skip
                      refine (tz_g_iload rfl (tz_in0 rfl)).trans ?_
                      refine (tz_g_if_ge (t := 135) (by decide) (tz_in0 rfl)).trans ?_
                      refine tz_cg ?_ ?_
                      · skip
                        refine (tz_g_iload_n rfl (tz_in0 rfl)).trans ?_
                        refine (tz_g_if_lt (t := 179) (by decide) (tz_in0 rfl)).trans ?_
                        refine tz_cg ?_ ?_
                        · skip
                          refine (tz_g_aload_n rfl (tz_in0 rfl)).trans ?_
                          refine (tz_g_bipush (v := (-5)) rfl (tz_in0 rfl)).trans ?_
                          refine (tz_g_cv1I (m2 := 166) (rc := 1) rfl rfl rfl rfl rfl rfl (by decide) (tz_in0 rfl)).trans ?_
                          refine tz_jI (fun y7 A7 => ?_)
                          exact tz_g_ret1 (tz_in0 rfl) rfl
                        · skip
                          refine (tz_g_iload rfl (tz_in0 rfl)).trans ?_
                          refine (tz_g_if_lt (t := 179) (by decide) (tz_in0 rfl)).trans ?_
                          refine tz_cg ?_ ?_
                          · skip
                            refine (tz_g_aload_n rfl (tz_in0 rfl)).trans ?_
                            refine (tz_g_bipush (v := (-5)) rfl (tz_in0 rfl)).trans ?_
                            refine (tz_g_cv1I (m2 := 166) (rc := 1) rfl rfl rfl rfl rfl rfl (by decide) (tz_in0 rfl)).trans ?_
                            refine tz_jI (fun y7 A7 => ?_)
                            exact tz_g_ret1 (tz_in0 rfl) rfl
                          · skip
                            refine (tz_g_iload_n rfl (tz_in0 rfl)).trans ?_
                            refine (tz_g_i2l (tz_in0 rfl)).trans ?_
                            refine (tz_g_iload rfl (tz_in0 rfl)).trans ?_
                            refine (tz_g_i2l (tz_in0 rfl)).trans ?_
                            refine (tz_g_ladd (tz_in0 rfl)).trans ?_
                            refine (tz_g_aload_n rfl (tz_in0 rfl)).trans ?_
                            refine (tz_g_getr (j := 159) rfl rfl rfl rfl rfl (tz_in0 rfl)).trans ?_
                            refine (tz_g_iload_n rfl (tz_in0 rfl)).trans ?_
                            refine (tz_g_iald (n := 8) rfl rfl rfl (tz_in0 rfl)).trans ?_
                            refine tz_cn1 ?_
                            refine (tz_g_i2l (tz_in0 rfl)).trans ?_
                            refine (tz_g_lcmp (tz_in0 rfl)).trans ?_
                            refine (tz_g_if_gt (t := 179) (by decide) (tz_in0 rfl)).trans ?_
                            refine tz_cg ?_ ?_
                            · skip
                              refine (tz_g_aload_n rfl (tz_in0 rfl)).trans ?_
                              refine (tz_g_bipush (v := (-5)) rfl (tz_in0 rfl)).trans ?_
                              refine (tz_g_cv1I (m2 := 166) (rc := 1) rfl rfl rfl rfl rfl rfl (by decide) (tz_in0 rfl)).trans ?_
                              refine tz_jI (fun y7 A7 => ?_)
                              exact tz_g_ret1 (tz_in0 rfl) rfl
                            · skip
                              refine (tz_g_iload rfl (tz_in0 rfl)).trans ?_
                              refine (tz_g_i2l (tz_in0 rfl)).trans ?_
                              refine (tz_g_iload rfl (tz_in0 rfl)).trans ?_
                              refine (tz_g_i2l (tz_in0 rfl)).trans ?_
                              refine (tz_g_ladd (tz_in0 rfl)).trans ?_
                              refine (tz_g_aload_n rfl (tz_in0 rfl)).trans ?_
                              refine (tz_g_getr (j := 159) rfl rfl rfl rfl rfl (tz_in0 rfl)).trans ?_
                              refine (tz_g_iload_n rfl (tz_in0 rfl)).trans ?_
                              refine (tz_g_iald (n := 8) rfl rfl rfl (tz_in0 rfl)).trans ?_
                              refine tz_cn1 ?_
                              refine (tz_g_i2l (tz_in0 rfl)).trans ?_
                              refine (tz_g_lcmp (tz_in0 rfl)).trans ?_
                              refine (tz_g_if_le (t := 186) (by decide) (tz_in0 rfl)).trans ?_
                              refine tz_cg ?_ ?_
                              · skip
                                refine (tz_g_iload_n rfl (tz_in0 rfl)).trans ?_
                                refine (tz_g_iload_n rfl (tz_in0 rfl)).trans ?_
                                refine (tz_g_ic_ne (t := 248) (by decide) (tz_in0 rfl)).trans ?_
                                refine tz_cg ?_ ?_
                                · skip
                                  refine (tz_g_iconst (v := 0) rfl (tz_in0 rfl)).trans ?_
                                  refine (tz_g_istore (L2 := [some (.ref 157), some (.int x1), some (.int x2), some (.int x3), some (.int x4), some (.int x5), some (.int 0)]) rfl rfl (tz_in0 rfl)).trans ?_
                                  exact tz_Gm (L2 := [some (.ref 157), some (.int x1), some (.int x2), some (.int x3), some (.int x4), some (.int x5), some (.int 0)]) rfl rfl rfl rfl
                                · skip
                                  refine (tz_g_iload_n rfl (tz_in0 rfl)).trans ?_
                                  refine (tz_g_iload rfl (tz_in0 rfl)).trans ?_
                                  refine (tz_g_ic_ge (t := 248) (by decide) (tz_in0 rfl)).trans ?_
                                  refine tz_cg ?_ ?_
                                  · skip
                                    refine (tz_g_iconst (v := 0) rfl (tz_in0 rfl)).trans ?_
                                    refine (tz_g_istore (L2 := [some (.ref 157), some (.int x1), some (.int x2), some (.int x3), some (.int x4), some (.int x5), some (.int 0)]) rfl rfl (tz_in0 rfl)).trans ?_
                                    exact tz_Gm (L2 := [some (.ref 157), some (.int x1), some (.int x2), some (.int x3), some (.int x4), some (.int x5), some (.int 0)]) rfl rfl rfl rfl
                                  · skip
                                    refine (tz_g_iload rfl (tz_in0 rfl)).trans ?_
                                    refine (tz_g_iconst (v := 1) rfl (tz_in0 rfl)).trans ?_
                                    refine (tz_g_isub (tz_in0 rfl)).trans ?_
                                    refine (tz_g_istore (L2 := [some (.ref 157), some (.int x1), some (.int x2), some (.int x3), some (.int x4), some (.int x5), some (.int (x5 - 1))]) rfl rfl (tz_in0 rfl)).trans ?_
                                    exact tz_Gm (L2 := [some (.ref 157), some (.int x1), some (.int x2), some (.int x3), some (.int x4), none, some (.int (x5 - 1))]) rfl rfl rfl rfl
                              · skip
                                refine (tz_g_aload_n rfl (tz_in0 rfl)).trans ?_
                                refine (tz_g_bipush (v := (-5)) rfl (tz_in0 rfl)).trans ?_
                                refine (tz_g_cv1I (m2 := 166) (rc := 1) rfl rfl rfl rfl rfl rfl (by decide) (tz_in0 rfl)).trans ?_
                                refine tz_jI (fun y7 A7 => ?_)
                                exact tz_g_ret1 (tz_in0 rfl) rfl
                      · skip
                        refine (tz_g_aload_n rfl (tz_in0 rfl)).trans ?_
                        refine (tz_g_bipush (v := (-4)) rfl (tz_in0 rfl)).trans ?_
                        refine (tz_g_cv1I (m2 := 166) (rc := 1) rfl rfl rfl rfl rfl rfl (by decide) (tz_in0 rfl)).trans ?_
                        refine tz_jI (fun y7 A7 => ?_)
                        exact tz_g_ret1 (tz_in0 rfl) rfl
                    · skip
                      refine (tz_g_aload_n rfl (tz_in0 rfl)).trans ?_
                      refine (tz_g_bipush (v := (-3)) rfl (tz_in0 rfl)).trans ?_
                      refine (tz_g_cv1I (m2 := 166) (rc := 1) rfl rfl rfl rfl rfl rfl (by decide) (tz_in0 rfl)).trans ?_
                      refine tz_jI (fun y7 A7 => ?_)
                      exact tz_g_ret1 (tz_in0 rfl) rfl
                · skip
                  refine (tz_g_aload_n rfl (tz_in0 rfl)).trans ?_
                  refine (tz_g_getr (j := 158) rfl rfl rfl rfl rfl (tz_in0 rfl)).trans ?_
                  refine (tz_g_iload_n rfl (tz_in0 rfl)).trans ?_
                  refine (tz_g_iald (n := 8) rfl rfl rfl (tz_in0 rfl)).trans ?_
                  refine tz_cn1 ?_
                  refine (tz_g_aload_n rfl (tz_in0 rfl)).trans ?_
                  refine (tz_g_getr (j := 158) rfl rfl rfl rfl rfl (tz_in0 rfl)).trans ?_
                  refine (tz_g_iload_n rfl (tz_in0 rfl)).trans ?_
                  refine (tz_g_iald (n := 8) rfl rfl rfl (tz_in0 rfl)).trans ?_
                  refine tz_cn1 ?_
                  refine (tz_g_ic_eq (t := 98) (by decide) (tz_in0 rfl)).trans ?_
                  refine tz_cg ?_ ?_
                  · skip
                    refine (tz_g_aload_n rfl (tz_in0 rfl)).trans ?_
                    refine (tz_g_getr (j := 158) rfl rfl rfl rfl rfl (tz_in0 rfl)).trans ?_
                    refine (tz_g_iload_n rfl (tz_in0 rfl)).trans ?_
                    refine (tz_g_iald (n := 8) rfl rfl rfl (tz_in0 rfl)).trans ?_
                    refine tz_cn1 ?_
                    refine (tz_g_if_lt (t := 116) (by decide) (tz_in0 rfl)).trans ?_
                    refine tz_cg ?_ ?_
                    · skip
                      refine (tz_g_aload_n rfl (tz_in0 rfl)).trans ?_
                      refine (tz_g_bipush (v := (-3)) rfl (tz_in0 rfl)).trans ?_
                      refine (tz_g_cv1I (m2 := 166) (rc := 1) rfl rfl rfl rfl rfl rfl (by decide) (tz_in0 rfl)).trans ?_
                      refine tz_jI (fun y7 A7 => ?_)
                      exact tz_g_ret1 (tz_in0 rfl) rfl
                    · skip
                      refine (tz_g_aload_n rfl (tz_in0 rfl)).trans ?_
                      refine (tz_g_getr (j := 158) rfl rfl rfl rfl rfl (tz_in0 rfl)).trans ?_
                      refine (tz_g_iload_n rfl (tz_in0 rfl)).trans ?_
                      refine (tz_g_iald (n := 8) rfl rfl rfl (tz_in0 rfl)).trans ?_
                      refine tz_cn1 ?_
                      refine (tz_g_if_ge (t := 123) (by decide) (tz_in0 rfl)).trans ?_
                      refine tz_cg ?_ ?_
                      · skip
                        refine (tz_g_iload rfl (tz_in0 rfl)).trans ?_
                        refine (tz_g_if_ge (t := 135) (by decide) (tz_in0 rfl)).trans ?_
                        refine tz_cg ?_ ?_
                        · skip
                          refine (tz_g_iload_n rfl (tz_in0 rfl)).trans ?_
                          refine (tz_g_if_lt (t := 179) (by decide) (tz_in0 rfl)).trans ?_
                          refine tz_cg ?_ ?_
                          · skip
                            refine (tz_g_aload_n rfl (tz_in0 rfl)).trans ?_
                            refine (tz_g_bipush (v := (-5)) rfl (tz_in0 rfl)).trans ?_
                            refine (tz_g_cv1I (m2 := 166) (rc := 1) rfl rfl rfl rfl rfl rfl (by decide) (tz_in0 rfl)).trans ?_
                            refine tz_jI (fun y7 A7 => ?_)
                            exact tz_g_ret1 (tz_in0 rfl) rfl
                          · skip
                            refine (tz_g_iload rfl (tz_in0 rfl)).trans ?_
                            refine (tz_g_if_lt (t := 179) (by decide) (tz_in0 rfl)).trans ?_
                            refine tz_cg ?_ ?_
                            · skip
                              refine (tz_g_aload_n rfl (tz_in0 rfl)).trans ?_
                              refine (tz_g_bipush (v := (-5)) rfl (tz_in0 rfl)).trans ?_
                              refine (tz_g_cv1I (m2 := 166) (rc := 1) rfl rfl rfl rfl rfl rfl (by decide) (tz_in0 rfl)).trans ?_
                              refine tz_jI (fun y7 A7 => ?_)
                              exact tz_g_ret1 (tz_in0 rfl) rfl
                            · skip
                              refine (tz_g_iload_n rfl (tz_in0 rfl)).trans ?_
                              refine (tz_g_i2l (tz_in0 rfl)).trans ?_
                              refine (tz_g_iload rfl (tz_in0 rfl)).trans ?_
                              refine (tz_g_i2l (tz_in0 rfl)).trans ?_
                              refine (tz_g_ladd (tz_in0 rfl)).trans ?_
                              refine (tz_g_aload_n rfl (tz_in0 rfl)).trans ?_
                              refine (tz_g_getr (j := 159) rfl rfl rfl rfl rfl (tz_in0 rfl)).trans ?_
                              refine (tz_g_iload_n rfl (tz_in0 rfl)).trans ?_
                              refine (tz_g_iald (n := 8) rfl rfl rfl (tz_in0 rfl)).trans ?_
                              refine tz_cn1 ?_
                              refine (tz_g_i2l (tz_in0 rfl)).trans ?_
                              refine (tz_g_lcmp (tz_in0 rfl)).trans ?_
                              refine (tz_g_if_gt (t := 179) (by decide) (tz_in0 rfl)).trans ?_
                              refine tz_cg ?_ ?_
                              · skip
                                refine (tz_g_aload_n rfl (tz_in0 rfl)).trans ?_
                                refine (tz_g_bipush (v := (-5)) rfl (tz_in0 rfl)).trans ?_
                                refine (tz_g_cv1I (m2 := 166) (rc := 1) rfl rfl rfl rfl rfl rfl (by decide) (tz_in0 rfl)).trans ?_
                                refine tz_jI (fun y7 A7 => ?_)
                                exact tz_g_ret1 (tz_in0 rfl) rfl
                              · skip
                                refine (tz_g_iload rfl (tz_in0 rfl)).trans ?_
                                refine (tz_g_i2l (tz_in0 rfl)).trans ?_
                                refine (tz_g_iload rfl (tz_in0 rfl)).trans ?_
                                refine (tz_g_i2l (tz_in0 rfl)).trans ?_
                                refine (tz_g_ladd (tz_in0 rfl)).trans ?_
                                refine (tz_g_aload_n rfl (tz_in0 rfl)).trans ?_
                                refine (tz_g_getr (j := 159) rfl rfl rfl rfl rfl (tz_in0 rfl)).trans ?_
                                refine (tz_g_iload_n rfl (tz_in0 rfl)).trans ?_
                                refine (tz_g_iald (n := 8) rfl rfl rfl (tz_in0 rfl)).trans ?_
                                refine tz_cn1 ?_
                                refine (tz_g_i2l (tz_in0 rfl)).trans ?_
                                refine (tz_g_lcmp (tz_in0 rfl)).trans ?_
                                refine (tz_g_if_le (t := 186) (by decide) (tz_in0 rfl)).trans ?_
                                refine tz_cg ?_ ?_
                                · skip
                                  refine (tz_g_iload_n rfl (tz_in0 rfl)).trans ?_
                                  refine (tz_g_iload_n rfl (tz_in0 rfl)).trans ?_
                                  refine (tz_g_ic_ne (t := 248) (by decide) (tz_in0 rfl)).trans ?_
                                  refine tz_cg ?_ ?_
                                  · skip
                                    refine (tz_g_iconst (v := 0) rfl (tz_in0 rfl)).trans ?_
                                    refine (tz_g_istore (L2 := [some (.ref 157), some (.int x1), some (.int x2), some (.int x3), some (.int x4), some (.int x5), some (.int 0)]) rfl rfl (tz_in0 rfl)).trans ?_
                                    exact tz_Gm (L2 := [some (.ref 157), some (.int x1), some (.int x2), some (.int x3), some (.int x4), some (.int x5), some (.int 0)]) rfl rfl rfl rfl
                                  · skip
                                    refine (tz_g_iload_n rfl (tz_in0 rfl)).trans ?_
                                    refine (tz_g_iload rfl (tz_in0 rfl)).trans ?_
                                    refine (tz_g_ic_ge (t := 248) (by decide) (tz_in0 rfl)).trans ?_
                                    refine tz_cg ?_ ?_
                                    · skip
                                      refine (tz_g_iconst (v := 0) rfl (tz_in0 rfl)).trans ?_
                                      refine (tz_g_istore (L2 := [some (.ref 157), some (.int x1), some (.int x2), some (.int x3), some (.int x4), some (.int x5), some (.int 0)]) rfl rfl (tz_in0 rfl)).trans ?_
                                      exact tz_Gm (L2 := [some (.ref 157), some (.int x1), some (.int x2), some (.int x3), some (.int x4), some (.int x5), some (.int 0)]) rfl rfl rfl rfl
                                    · skip
                                      refine (tz_g_iload rfl (tz_in0 rfl)).trans ?_
                                      refine (tz_g_iconst (v := 1) rfl (tz_in0 rfl)).trans ?_
                                      refine (tz_g_isub (tz_in0 rfl)).trans ?_
                                      refine (tz_g_istore (L2 := [some (.ref 157), some (.int x1), some (.int x2), some (.int x3), some (.int x4), some (.int x5), some (.int (x5 - 1))]) rfl rfl (tz_in0 rfl)).trans ?_
                                      exact tz_Gm (L2 := [some (.ref 157), some (.int x1), some (.int x2), some (.int x3), some (.int x4), none, some (.int (x5 - 1))]) rfl rfl rfl rfl
                                · skip
                                  refine (tz_g_aload_n rfl (tz_in0 rfl)).trans ?_
                                  refine (tz_g_bipush (v := (-5)) rfl (tz_in0 rfl)).trans ?_
                                  refine (tz_g_cv1I (m2 := 166) (rc := 1) rfl rfl rfl rfl rfl rfl (by decide) (tz_in0 rfl)).trans ?_
                                  refine tz_jI (fun y7 A7 => ?_)
                                  exact tz_g_ret1 (tz_in0 rfl) rfl
                        · skip
                          refine (tz_g_aload_n rfl (tz_in0 rfl)).trans ?_
                          refine (tz_g_bipush (v := (-4)) rfl (tz_in0 rfl)).trans ?_
                          refine (tz_g_cv1I (m2 := 166) (rc := 1) rfl rfl rfl rfl rfl rfl (by decide) (tz_in0 rfl)).trans ?_
                          refine tz_jI (fun y7 A7 => ?_)
                          exact tz_g_ret1 (tz_in0 rfl) rfl
                      · skip
                        refine (tz_g_aload_n rfl (tz_in0 rfl)).trans ?_
                        refine (tz_g_bipush (v := (-3)) rfl (tz_in0 rfl)).trans ?_
                        refine (tz_g_cv1I (m2 := 166) (rc := 1) rfl rfl rfl rfl rfl rfl (by decide) (tz_in0 rfl)).trans ?_
                        refine tz_jI (fun y7 A7 => ?_)
                        exact tz_g_ret1 (tz_in0 rfl) rfl
                  · skip
                    refine (tz_g_aload_n rfl (tz_in0 rfl)).trans ?_
                    refine (tz_g_bipush (v := (-2)) rfl (tz_in0 rfl)).trans ?_
                    refine (tz_g_cv1I (m2 := 166) (rc := 1) rfl rfl rfl rfl rfl rfl (by decide) (tz_in0 rfl)).trans ?_
                    refine tz_jI (fun y7 A7 => ?_)
                    exact tz_g_ret1 (tz_in0 rfl) rfl
    · skip
      refine (tz_g_aload_n rfl (tz_in0 rfl)).trans ?_
      refine (tz_g_iconst (v := (-1)) rfl (tz_in0 rfl)).trans ?_
      refine (tz_g_cv1I (m2 := 166) (rc := 1) rfl rfl rfl rfl rfl rfl (by decide) (tz_in0 rfl)).trans ?_
      refine tz_jI (fun y3 A3 => ?_)
      exact tz_g_ret1 (tz_in0 rfl) rfl

theorem e_X12_copy_251 (z1 : Int32) (z2 : Int32) (z3 : Int32) (z4 : Int32) (z5 : Int32) (z6 : Int32) (A : tz_Mem) : q_X12_copy_251 z1 z2 z3 z4 z5 z6 A =
  if z5 ≤ z6 then
  some (some (.int 1), A)
else
  if (((160 * z1) + z3) + z6) < 0 ∨ 1280 ≤ (Int32.toNatClampNeg (((160 * z1) + z3) + z6)) then none else
  if (((160 * z2) + z4) + z6) < 0 ∨ 1280 ≤ (Int32.toNatClampNeg (((160 * z2) + z4) + z6)) then none else
  q_X12_copy_251 z1 z2 z3 z4 z5 (z6 + 1) (tz_sl A 160 (Int32.toNatClampNeg (((160 * z2) + z4) + z6)) (tz_gl A 160 (Int32.toNatClampNeg (((160 * z1) + z3) + z6)))) := by
  show tz_Go 170 251 [some (.ref 157), some (.int z1), some (.int z2), some (.int z3), some (.int z4), some (.int z5), some (.int z6)] [] A = _
  refine (tz_g_iload rfl (tz_inM rfl rfl rfl)).trans ?_
  refine (tz_g_iload rfl (tz_in0 rfl)).trans ?_
  refine (tz_g_ic_ge (t := 295) (by decide) (tz_in0 rfl)).trans ?_
  refine tz_cg ?_ ?_
  · skip
    refine (tz_g_iconst (v := 1) rfl (tz_in0 rfl)).trans ?_
    exact tz_g_ret1 (tz_in0 rfl) rfl
  · skip
    refine (tz_g_aload_n rfl (tz_in0 rfl)).trans ?_
    refine (tz_g_getr (j := 160) rfl rfl rfl rfl rfl (tz_in0 rfl)).trans ?_
    refine (tz_g_sipush (v := 160) rfl (tz_in0 rfl)).trans ?_
    refine (tz_g_iload_n rfl (tz_in0 rfl)).trans ?_
    refine (tz_g_imul (tz_in0 rfl)).trans ?_
    refine (tz_g_iload rfl (tz_in0 rfl)).trans ?_
    refine (tz_g_iadd (tz_in0 rfl)).trans ?_
    refine (tz_g_iload rfl (tz_in0 rfl)).trans ?_
    refine (tz_g_iadd (tz_in0 rfl)).trans ?_
    refine (tz_g_aload_n rfl (tz_in0 rfl)).trans ?_
    refine (tz_g_getr (j := 160) rfl rfl rfl rfl rfl (tz_in0 rfl)).trans ?_
    refine (tz_g_sipush (v := 160) rfl (tz_in0 rfl)).trans ?_
    refine (tz_g_iload_n rfl (tz_in0 rfl)).trans ?_
    refine (tz_g_imul (tz_in0 rfl)).trans ?_
    refine (tz_g_iload_n rfl (tz_in0 rfl)).trans ?_
    refine (tz_g_iadd (tz_in0 rfl)).trans ?_
    refine (tz_g_iload rfl (tz_in0 rfl)).trans ?_
    refine (tz_g_iadd (tz_in0 rfl)).trans ?_
    refine (tz_g_lald (n := 1280) rfl rfl (tz_in0 rfl)).trans ?_
    refine tz_cn1 ?_
    refine (tz_g_last (n := 1280) rfl rfl (tz_in0 rfl)).trans ?_
    refine tz_cn1 ?_
    refine (tz_g_iinc (v := 1) (L2 := [some (.ref 157), some (.int z1), some (.int z2), some (.int z3), some (.int z4), some (.int z5), some (.int (z6 + 1))]) rfl rfl rfl rfl (tz_in0 rfl)).trans ?_
    refine (tz_g_goto (t := 251) (by decide) (tz_in0 rfl)).trans ?_
    exact tz_Gm (L2 := [some (.ref 157), some (.int z1), some (.int z2), some (.int z3), some (.int z4), some (.int z5), some (.int (z6 + 1))]) rfl rfl rfl rfl

theorem e_X12_copy_203 (z1 : Int32) (z2 : Int32) (z3 : Int32) (z4 : Int32) (z6 : Int32) (A : tz_Mem) : q_X12_copy_203 z1 z2 z3 z4 z6 A =
  if z6 < 0 then
  some (some (.int 1), A)
else
  if (((160 * z1) + z3) + z6) < 0 ∨ 1280 ≤ (Int32.toNatClampNeg (((160 * z1) + z3) + z6)) then none else
  if (((160 * z2) + z4) + z6) < 0 ∨ 1280 ≤ (Int32.toNatClampNeg (((160 * z2) + z4) + z6)) then none else
  q_X12_copy_203 z1 z2 z3 z4 (z6 + (-1)) (tz_sl A 160 (Int32.toNatClampNeg (((160 * z2) + z4) + z6)) (tz_gl A 160 (Int32.toNatClampNeg (((160 * z1) + z3) + z6)))) := by
  show tz_Go 170 203 [some (.ref 157), some (.int z1), some (.int z2), some (.int z3), some (.int z4), none, some (.int z6)] [] A = _
  refine (tz_g_iload rfl (tz_inM rfl rfl rfl)).trans ?_
  refine (tz_g_if_lt (t := 245) (by decide) (tz_in0 rfl)).trans ?_
  refine tz_cg ?_ ?_
  · skip
    refine (tz_g_goto (t := 295) (by decide) (tz_in0 rfl)).trans ?_
    refine (tz_g_iconst (v := 1) rfl (tz_in0 rfl)).trans ?_
    exact tz_g_ret1 (tz_in0 rfl) rfl
  · skip
    refine (tz_g_aload_n rfl (tz_in0 rfl)).trans ?_
    refine (tz_g_getr (j := 160) rfl rfl rfl rfl rfl (tz_in0 rfl)).trans ?_
    refine (tz_g_sipush (v := 160) rfl (tz_in0 rfl)).trans ?_
    refine (tz_g_iload_n rfl (tz_in0 rfl)).trans ?_
    refine (tz_g_imul (tz_in0 rfl)).trans ?_
    refine (tz_g_iload rfl (tz_in0 rfl)).trans ?_
    refine (tz_g_iadd (tz_in0 rfl)).trans ?_
    refine (tz_g_iload rfl (tz_in0 rfl)).trans ?_
    refine (tz_g_iadd (tz_in0 rfl)).trans ?_
    refine (tz_g_aload_n rfl (tz_in0 rfl)).trans ?_
    refine (tz_g_getr (j := 160) rfl rfl rfl rfl rfl (tz_in0 rfl)).trans ?_
    refine (tz_g_sipush (v := 160) rfl (tz_in0 rfl)).trans ?_
    refine (tz_g_iload_n rfl (tz_in0 rfl)).trans ?_
    refine (tz_g_imul (tz_in0 rfl)).trans ?_
    refine (tz_g_iload_n rfl (tz_in0 rfl)).trans ?_
    refine (tz_g_iadd (tz_in0 rfl)).trans ?_
    refine (tz_g_iload rfl (tz_in0 rfl)).trans ?_
    refine (tz_g_iadd (tz_in0 rfl)).trans ?_
    refine (tz_g_lald (n := 1280) rfl rfl (tz_in0 rfl)).trans ?_
    refine tz_cn1 ?_
    refine (tz_g_last (n := 1280) rfl rfl (tz_in0 rfl)).trans ?_
    refine tz_cn1 ?_
    refine (tz_g_iinc (v := (-1)) (L2 := [some (.ref 157), some (.int z1), some (.int z2), some (.int z3), some (.int z4), none, some (.int (z6 + (-1)))]) rfl rfl rfl rfl (tz_in0 rfl)).trans ?_
    refine (tz_g_goto (t := 203) (by decide) (tz_in0 rfl)).trans ?_
    exact tz_Gm (L2 := [some (.ref 157), some (.int z1), some (.int z2), some (.int z3), some (.int z4), none, some (.int (z6 + (-1)))]) rfl rfl rfl rfl

