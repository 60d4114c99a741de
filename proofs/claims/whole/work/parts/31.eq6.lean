theorem e_X12_word__s5 (x2 : Int32) (A : tz_Mem) : f_X12_word__s5 x2 A =
  tz_bI (f_X12_word_s5 A) (fun y1 A1 =>
if y1 = 0 then
  if y1 = 0 then
    some (some (.int 0), A1)
  else
    if x2 = 0 then
      some (some (.int 0), A1)
    else
      some (some (.int 1), A1)
else
  if ¬ x2 = 0 then
    if y1 = 0 then
      some (some (.int 0), A1)
    else
      if x2 = 0 then
        some (some (.int 0), A1)
      else
        some (some (.int 1), A1)
  else
    if y1 = 0 then
      some (some (.int 0), (tz_s A1 157 40 (tz_g A 157 40)))
    else
      if x2 = 0 then
        some (some (.int 0), (tz_s A1 157 40 (tz_g A 157 40)))
      else
        some (some (.int 1), (tz_s A1 157 40 (tz_g A 157 40)))) := by
  refine (tz_Fe (L := [some (.ref 157), some (.ref 5), some (.int x2), none, none]) rfl).trans ?_
  refine (tz_g_aload_n rfl (tz_in0 rfl)).trans ?_
  refine (tz_g_geti rfl rfl rfl (tz_in0 rfl)).trans ?_
  refine (tz_g_istore_n (L2 := [some (.ref 157), some (.ref 5), some (.int x2), some (.int (tz_g A 157 40)), none]) rfl rfl (tz_in0 rfl)).trans ?_
  refine (tz_g_aload_n rfl (tz_in0 rfl)).trans ?_
  refine (tz_g_aload_n rfl (tz_in0 rfl)).trans ?_
  refine (tz_g_cv1I (m2 := 199) (rc := 4) rfl rfl rfl rfl rfl rfl (by decide) (tz_in0 rfl)).trans ?_
  refine tz_jI (fun y1 A1 => ?_)
  refine (tz_g_istore (L2 := [some (.ref 157), some (.ref 5), some (.int x2), some (.int (tz_g A 157 40)), some (.int y1)]) rfl rfl (tz_in0 rfl)).trans ?_
  refine (tz_g_iload rfl (tz_in0 rfl)).trans ?_
  refine (tz_g_if_eq (t := 26) (by decide) (tz_in0 rfl)).trans ?_
  refine tz_cg ?_ ?_
  · skip
    refine (tz_g_iload rfl (tz_in0 rfl)).trans ?_
    refine (tz_g_if_eq (t := 39) (by decide) (tz_in0 rfl)).trans ?_
    refine tz_cg ?_ ?_
    · skip
      refine (tz_g_iconst (v := 0) rfl (tz_in0 rfl)).trans ?_
      exact tz_g_ret4K (by decide) (tz_in0 rfl) rfl
    · skip
      refine (tz_g_iload_n rfl (tz_in0 rfl)).trans ?_
      refine (tz_g_if_eq (t := 39) (by decide) (tz_in0 rfl)).trans ?_
      refine tz_cg ?_ ?_
      · skip
        refine (tz_g_iconst (v := 0) rfl (tz_in0 rfl)).trans ?_
        exact tz_g_ret4K (by decide) (tz_in0 rfl) rfl
      · skip
        refine (tz_g_iconst (v := 1) rfl (tz_in0 rfl)).trans ?_
        refine (tz_g_goto (t := 40) (by decide) (tz_in0 rfl)).trans ?_
        exact tz_g_ret4K (by decide) (tz_in0 rfl) rfl
  · skip
    refine (tz_g_iload_n rfl (tz_in0 rfl)).trans ?_
    refine (tz_g_if_ne (t := 26) (by decide) (tz_in0 rfl)).trans ?_
    refine tz_cg ?_ ?_
    · skip
      refine (tz_g_iload rfl (tz_in0 rfl)).trans ?_
      refine (tz_g_if_eq (t := 39) (by decide) (tz_in0 rfl)).trans ?_
      refine tz_cg ?_ ?_
      · skip
        refine (tz_g_iconst (v := 0) rfl (tz_in0 rfl)).trans ?_
        exact tz_g_ret4K (by decide) (tz_in0 rfl) rfl
      · skip
        refine (tz_g_iload_n rfl (tz_in0 rfl)).trans ?_
        refine (tz_g_if_eq (t := 39) (by decide) (tz_in0 rfl)).trans ?_
        refine tz_cg ?_ ?_
        · skip
          refine (tz_g_iconst (v := 0) rfl (tz_in0 rfl)).trans ?_
          exact tz_g_ret4K (by decide) (tz_in0 rfl) rfl
        · skip
          refine (tz_g_iconst (v := 1) rfl (tz_in0 rfl)).trans ?_
          refine (tz_g_goto (t := 40) (by decide) (tz_in0 rfl)).trans ?_
          exact tz_g_ret4K (by decide) (tz_in0 rfl) rfl
    · skip
      refine (tz_g_aload_n rfl (tz_in0 rfl)).trans ?_
      refine (tz_g_iload_n rfl (tz_in0 rfl)).trans ?_
      refine (tz_g_puti rfl rfl rfl (tz_in0 rfl)).trans ?_
      refine (tz_g_iload rfl (tz_in0 rfl)).trans ?_
      refine (tz_g_if_eq (t := 39) (by decide) (tz_in0 rfl)).trans ?_
      refine tz_cg ?_ ?_
      · skip
        refine (tz_g_iconst (v := 0) rfl (tz_in0 rfl)).trans ?_
        exact tz_g_ret4K (by decide) (tz_in0 rfl) rfl
      · skip
        refine (tz_g_iload_n rfl (tz_in0 rfl)).trans ?_
        refine (tz_g_if_eq (t := 39) (by decide) (tz_in0 rfl)).trans ?_
        refine tz_cg ?_ ?_
        · skip
          refine (tz_g_iconst (v := 0) rfl (tz_in0 rfl)).trans ?_
          exact tz_g_ret4K (by decide) (tz_in0 rfl) rfl
        · skip
          refine (tz_g_iconst (v := 1) rfl (tz_in0 rfl)).trans ?_
          refine (tz_g_goto (t := 40) (by decide) (tz_in0 rfl)).trans ?_
          exact tz_g_ret4K (by decide) (tz_in0 rfl) rfl

theorem e_X12_word__s6 (x2 : Int32) (A : tz_Mem) : f_X12_word__s6 x2 A =
  tz_bI (f_X12_word_s6 A) (fun y1 A1 =>
if y1 = 0 then
  if y1 = 0 then
    some (some (.int 0), A1)
  else
    if x2 = 0 then
      some (some (.int 0), A1)
    else
      some (some (.int 1), A1)
else
  if ¬ x2 = 0 then
    if y1 = 0 then
      some (some (.int 0), A1)
    else
      if x2 = 0 then
        some (some (.int 0), A1)
      else
        some (some (.int 1), A1)
  else
    if y1 = 0 then
      some (some (.int 0), (tz_s A1 157 40 (tz_g A 157 40)))
    else
      if x2 = 0 then
        some (some (.int 0), (tz_s A1 157 40 (tz_g A 157 40)))
      else
        some (some (.int 1), (tz_s A1 157 40 (tz_g A 157 40)))) := by
  refine (tz_Fe (L := [some (.ref 157), some (.ref 6), some (.int x2), none, none]) rfl).trans ?_
  refine (tz_g_aload_n rfl (tz_in0 rfl)).trans ?_
  refine (tz_g_geti rfl rfl rfl (tz_in0 rfl)).trans ?_
  refine (tz_g_istore_n (L2 := [some (.ref 157), some (.ref 6), some (.int x2), some (.int (tz_g A 157 40)), none]) rfl rfl (tz_in0 rfl)).trans ?_
  refine (tz_g_aload_n rfl (tz_in0 rfl)).trans ?_
  refine (tz_g_aload_n rfl (tz_in0 rfl)).trans ?_
  refine (tz_g_cv1I (m2 := 199) (rc := 4) rfl rfl rfl rfl rfl rfl (by decide) (tz_in0 rfl)).trans ?_
  refine tz_jI (fun y1 A1 => ?_)
  refine (tz_g_istore (L2 := [some (.ref 157), some (.ref 6), some (.int x2), some (.int (tz_g A 157 40)), some (.int y1)]) rfl rfl (tz_in0 rfl)).trans ?_
  refine (tz_g_iload rfl (tz_in0 rfl)).trans ?_
  refine (tz_g_if_eq (t := 26) (by decide) (tz_in0 rfl)).trans ?_
  refine tz_cg ?_ ?_
  · skip
    refine (tz_g_iload rfl (tz_in0 rfl)).trans ?_
    refine (tz_g_if_eq (t := 39) (by decide) (tz_in0 rfl)).trans ?_
    refine tz_cg ?_ ?_
    · skip
      refine (tz_g_iconst (v := 0) rfl (tz_in0 rfl)).trans ?_
      exact tz_g_ret4K (by decide) (tz_in0 rfl) rfl
    · skip
      refine (tz_g_iload_n rfl (tz_in0 rfl)).trans ?_
      refine (tz_g_if_eq (t := 39) (by decide) (tz_in0 rfl)).trans ?_
      refine tz_cg ?_ ?_
      · skip
        refine (tz_g_iconst (v := 0) rfl (tz_in0 rfl)).trans ?_
        exact tz_g_ret4K (by decide) (tz_in0 rfl) rfl
      · skip
        refine (tz_g_iconst (v := 1) rfl (tz_in0 rfl)).trans ?_
        refine (tz_g_goto (t := 40) (by decide) (tz_in0 rfl)).trans ?_
        exact tz_g_ret4K (by decide) (tz_in0 rfl) rfl
  · skip
    refine (tz_g_iload_n rfl (tz_in0 rfl)).trans ?_
    refine (tz_g_if_ne (t := 26) (by decide) (tz_in0 rfl)).trans ?_
    refine tz_cg ?_ ?_
    · skip
      refine (tz_g_iload rfl (tz_in0 rfl)).trans ?_
      refine (tz_g_if_eq (t := 39) (by decide) (tz_in0 rfl)).trans ?_
      refine tz_cg ?_ ?_
      · skip
        refine (tz_g_iconst (v := 0) rfl (tz_in0 rfl)).trans ?_
        exact tz_g_ret4K (by decide) (tz_in0 rfl) rfl
      · skip
        refine (tz_g_iload_n rfl (tz_in0 rfl)).trans ?_
        refine (tz_g_if_eq (t := 39) (by decide) (tz_in0 rfl)).trans ?_
        refine tz_cg ?_ ?_
        · skip
          refine (tz_g_iconst (v := 0) rfl (tz_in0 rfl)).trans ?_
          exact tz_g_ret4K (by decide) (tz_in0 rfl) rfl
        · skip
          refine (tz_g_iconst (v := 1) rfl (tz_in0 rfl)).trans ?_
          refine (tz_g_goto (t := 40) (by decide) (tz_in0 rfl)).trans ?_
          exact tz_g_ret4K (by decide) (tz_in0 rfl) rfl
    · skip
      refine (tz_g_aload_n rfl (tz_in0 rfl)).trans ?_
      refine (tz_g_iload_n rfl (tz_in0 rfl)).trans ?_
      refine (tz_g_puti rfl rfl rfl (tz_in0 rfl)).trans ?_
      refine (tz_g_iload rfl (tz_in0 rfl)).trans ?_
      refine (tz_g_if_eq (t := 39) (by decide) (tz_in0 rfl)).trans ?_
      refine tz_cg ?_ ?_
      · skip
        refine (tz_g_iconst (v := 0) rfl (tz_in0 rfl)).trans ?_
        exact tz_g_ret4K (by decide) (tz_in0 rfl) rfl
      · skip
        refine (tz_g_iload_n rfl (tz_in0 rfl)).trans ?_
        refine (tz_g_if_eq (t := 39) (by decide) (tz_in0 rfl)).trans ?_
        refine tz_cg ?_ ?_
        · skip
          refine (tz_g_iconst (v := 0) rfl (tz_in0 rfl)).trans ?_
          exact tz_g_ret4K (by decide) (tz_in0 rfl) rfl
        · skip
          refine (tz_g_iconst (v := 1) rfl (tz_in0 rfl)).trans ?_
          refine (tz_g_goto (t := 40) (by decide) (tz_in0 rfl)).trans ?_
          exact tz_g_ret4K (by decide) (tz_in0 rfl) rfl

theorem e_X12_word__s7 (x2 : Int32) (A : tz_Mem) : f_X12_word__s7 x2 A =
  tz_bI (f_X12_word_s7 A) (fun y1 A1 =>
if y1 = 0 then
  if y1 = 0 then
    some (some (.int 0), A1)
  else
    if x2 = 0 then
      some (some (.int 0), A1)
    else
      some (some (.int 1), A1)
else
  if ¬ x2 = 0 then
    if y1 = 0 then
      some (some (.int 0), A1)
    else
      if x2 = 0 then
        some (some (.int 0), A1)
      else
        some (some (.int 1), A1)
  else
    if y1 = 0 then
      some (some (.int 0), (tz_s A1 157 40 (tz_g A 157 40)))
    else
      if x2 = 0 then
        some (some (.int 0), (tz_s A1 157 40 (tz_g A 157 40)))
      else
        some (some (.int 1), (tz_s A1 157 40 (tz_g A 157 40)))) := by
  refine (tz_Fe (L := [some (.ref 157), some (.ref 7), some (.int x2), none, none]) rfl).trans ?_
  refine (tz_g_aload_n rfl (tz_in0 rfl)).trans ?_
  refine (tz_g_geti rfl rfl rfl (tz_in0 rfl)).trans ?_
  refine (tz_g_istore_n (L2 := [some (.ref 157), some (.ref 7), some (.int x2), some (.int (tz_g A 157 40)), none]) rfl rfl (tz_in0 rfl)).trans ?_
  refine (tz_g_aload_n rfl (tz_in0 rfl)).trans ?_
  refine (tz_g_aload_n rfl (tz_in0 rfl)).trans ?_
  refine (tz_g_cv1I (m2 := 199) (rc := 4) rfl rfl rfl rfl rfl rfl (by decide) (tz_in0 rfl)).trans ?_
  refine tz_jI (fun y1 A1 => ?_)
  refine (tz_g_istore (L2 := [some (.ref 157), some (.ref 7), some (.int x2), some (.int (tz_g A 157 40)), some (.int y1)]) rfl rfl (tz_in0 rfl)).trans ?_
  refine (tz_g_iload rfl (tz_in0 rfl)).trans ?_
  refine (tz_g_if_eq (t := 26) (by decide) (tz_in0 rfl)).trans ?_
  refine tz_cg ?_ ?_
  · skip
    refine (tz_g_iload rfl (tz_in0 rfl)).trans ?_
    refine (tz_g_if_eq (t := 39) (by decide) (tz_in0 rfl)).trans ?_
    refine tz_cg ?_ ?_
    · skip
      refine (tz_g_iconst (v := 0) rfl (tz_in0 rfl)).trans ?_
      exact tz_g_ret4K (by decide) (tz_in0 rfl) rfl
    · skip
      refine (tz_g_iload_n rfl (tz_in0 rfl)).trans ?_
      refine (tz_g_if_eq (t := 39) (by decide) (tz_in0 rfl)).trans ?_
      refine tz_cg ?_ ?_
      · skip
        refine (tz_g_iconst (v := 0) rfl (tz_in0 rfl)).trans ?_
        exact tz_g_ret4K (by decide) (tz_in0 rfl) rfl
      · skip
        refine (tz_g_iconst (v := 1) rfl (tz_in0 rfl)).trans ?_
        refine (tz_g_goto (t := 40) (by decide) (tz_in0 rfl)).trans ?_
        exact tz_g_ret4K (by decide) (tz_in0 rfl) rfl
  · skip
    refine (tz_g_iload_n rfl (tz_in0 rfl)).trans ?_
    refine (tz_g_if_ne (t := 26) (by decide) (tz_in0 rfl)).trans ?_
    refine tz_cg ?_ ?_
    · skip
      refine (tz_g_iload rfl (tz_in0 rfl)).trans ?_
      refine (tz_g_if_eq (t := 39) (by decide) (tz_in0 rfl)).trans ?_
      refine tz_cg ?_ ?_
      · skip
        refine (tz_g_iconst (v := 0) rfl (tz_in0 rfl)).trans ?_
        exact tz_g_ret4K (by decide) (tz_in0 rfl) rfl
      · skip
        refine (tz_g_iload_n rfl (tz_in0 rfl)).trans ?_
        refine (tz_g_if_eq (t := 39) (by decide) (tz_in0 rfl)).trans ?_
        refine tz_cg ?_ ?_
        · skip
          refine (tz_g_iconst (v := 0) rfl (tz_in0 rfl)).trans ?_
          exact tz_g_ret4K (by decide) (tz_in0 rfl) rfl
        · skip
          refine (tz_g_iconst (v := 1) rfl (tz_in0 rfl)).trans ?_
          refine (tz_g_goto (t := 40) (by decide) (tz_in0 rfl)).trans ?_
          exact tz_g_ret4K (by decide) (tz_in0 rfl) rfl
    · skip
      refine (tz_g_aload_n rfl (tz_in0 rfl)).trans ?_
      refine (tz_g_iload_n rfl (tz_in0 rfl)).trans ?_
      refine (tz_g_puti rfl rfl rfl (tz_in0 rfl)).trans ?_
      refine (tz_g_iload rfl (tz_in0 rfl)).trans ?_
      refine (tz_g_if_eq (t := 39) (by decide) (tz_in0 rfl)).trans ?_
      refine tz_cg ?_ ?_
      · skip
        refine (tz_g_iconst (v := 0) rfl (tz_in0 rfl)).trans ?_
        exact tz_g_ret4K (by decide) (tz_in0 rfl) rfl
      · skip
        refine (tz_g_iload_n rfl (tz_in0 rfl)).trans ?_
        refine (tz_g_if_eq (t := 39) (by decide) (tz_in0 rfl)).trans ?_
        refine tz_cg ?_ ?_
        · skip
          refine (tz_g_iconst (v := 0) rfl (tz_in0 rfl)).trans ?_
          exact tz_g_ret4K (by decide) (tz_in0 rfl) rfl
        · skip
          refine (tz_g_iconst (v := 1) rfl (tz_in0 rfl)).trans ?_
          refine (tz_g_goto (t := 40) (by decide) (tz_in0 rfl)).trans ?_
          exact tz_g_ret4K (by decide) (tz_in0 rfl) rfl

theorem e_X12_behind (x1 : Int32) (x2 : Int32) (x3 : Int32) (A : tz_Mem) : f_X12_behind x1 x2 x3 A =
  tz_bI (f_X12_isLetter x1 A) (fun y1 A1 =>
if y1 = 0 then
  tz_bI (f_X12_no (-5) A1) (fun y2 A2 =>
  some (some (.int y2), A2))
else
  tz_bI (f_X12_within x3 0 1 A1) (fun y2 A2 =>
  if ¬ y2 = 0 then
    tz_bI (f_X12_isHours x2 A2) (fun y3 A3 =>
    if ¬ y3 = 0 then
      tz_bV (f_X12_keep_s181 A3) (fun A4 =>
      q_X12_behind_49 x1 x2 x3 0 A4)
    else
      tz_bI (f_X12_no (-6) A3) (fun y4 A4 =>
      some (some (.int y4), A4)))
  else
    tz_bI (f_X12_no (-5) A2) (fun y3 A3 =>
    some (some (.int y3), A3)))) := by
  refine (tz_Fe (L := [some (.ref 157), some (.int x1), some (.int x2), some (.int x3), none]) rfl).trans ?_
  refine (tz_g_aload_n rfl (tz_in0 rfl)).trans ?_
  refine (tz_g_iload_n rfl (tz_in0 rfl)).trans ?_
  refine (tz_g_cv1I (m2 := 193) (rc := 4) rfl rfl rfl rfl rfl rfl (by decide) (tz_in0 rfl)).trans ?_
  refine tz_jI (fun y1 A1 => ?_)
  refine (tz_g_if_eq (t := 17) (by decide) (tz_in0 rfl)).trans ?_
  refine tz_cg ?_ ?_
  · skip
    refine (tz_g_aload_n rfl (tz_in0 rfl)).trans ?_
    refine (tz_g_bipush (v := (-5)) rfl (tz_in0 rfl)).trans ?_
    refine (tz_g_cv1I (m2 := 166) (rc := 1) rfl rfl rfl rfl rfl rfl (by decide) (tz_in0 rfl)).trans ?_
    refine tz_jI (fun y2 A2 => ?_)
    exact tz_g_ret1 (tz_in0 rfl) rfl
  · skip
    refine (tz_g_iload_n rfl (tz_in0 rfl)).trans ?_
    refine (tz_g_iconst (v := 0) rfl (tz_in0 rfl)).trans ?_
    refine (tz_g_iconst (v := 1) rfl (tz_in0 rfl)).trans ?_
    refine (tz_g_cs3I (m2 := 165) (rc := 4) rfl rfl rfl rfl rfl rfl (by decide) (tz_in0 rfl)).trans ?_
    refine tz_jI (fun y2 A2 => ?_)
    refine (tz_g_if_ne (t := 24) (by decide) (tz_in0 rfl)).trans ?_
    refine tz_cg ?_ ?_
    · skip
      refine (tz_g_iload_n rfl (tz_in0 rfl)).trans ?_
      refine (tz_g_cs1I (m2 := 214) (rc := 4) rfl rfl rfl rfl rfl rfl (by decide) (tz_in0 rfl)).trans ?_
      refine tz_jI (fun y3 A3 => ?_)
      refine (tz_g_if_ne (t := 38) (by decide) (tz_in0 rfl)).trans ?_
      refine tz_cg ?_ ?_
      · skip
        refine (tz_g_aload_n rfl (tz_in0 rfl)).trans ?_
        refine (tz_g_aload_n rfl (tz_in0 rfl)).trans ?_
        refine (tz_g_getr (j := 181) rfl rfl rfl rfl rfl (tz_in0 rfl)).trans ?_
        refine (tz_g_cv1V (m2 := 196) (rc := 0) rfl rfl rfl rfl rfl rfl (by decide) (tz_in0 rfl)).trans ?_
        refine tz_jV (fun A4 => ?_)
        refine (tz_g_iconst (v := 0) rfl (tz_in0 rfl)).trans ?_
        refine (tz_g_istore (L2 := [some (.ref 157), some (.int x1), some (.int x2), some (.int x3), some (.int 0)]) rfl rfl (tz_in0 rfl)).trans ?_
        exact tz_Gm (L2 := [some (.ref 157), some (.int x1), some (.int x2), some (.int x3), some (.int 0)]) rfl rfl rfl rfl
      · skip
        refine (tz_g_aload_n rfl (tz_in0 rfl)).trans ?_
        refine (tz_g_bipush (v := (-6)) rfl (tz_in0 rfl)).trans ?_
        refine (tz_g_cv1I (m2 := 166) (rc := 1) rfl rfl rfl rfl rfl rfl (by decide) (tz_in0 rfl)).trans ?_
        refine tz_jI (fun y4 A4 => ?_)
        exact tz_g_ret1 (tz_in0 rfl) rfl
    · skip
      refine (tz_g_aload_n rfl (tz_in0 rfl)).trans ?_
      refine (tz_g_bipush (v := (-5)) rfl (tz_in0 rfl)).trans ?_
      refine (tz_g_cv1I (m2 := 166) (rc := 1) rfl rfl rfl rfl rfl rfl (by decide) (tz_in0 rfl)).trans ?_
      refine tz_jI (fun y3 A3 => ?_)
      exact tz_g_ret1 (tz_in0 rfl) rfl

theorem e_X12_behind_49 (z1 : Int32) (z2 : Int32) (z3 : Int32) (z4 : Int32) (A : tz_Mem) : q_X12_behind_49 z1 z2 z3 z4 A =
  if z2 ≤ z4 then
  if ¬ z3 = 0 then
    if z1 < 0 ∨ 12 ≤ (Int32.toNatClampNeg z1) then none else
    tz_bV (f_X12_again_s181 A) (fun A1 =>
    some (some (.int (tz_g A 171 (Int32.toNatClampNeg z1))), A1))
  else
    if z1 < 0 ∨ 12 ≤ (Int32.toNatClampNeg z1) then none else
    tz_bV (f_X12_again_s181 A) (fun A1 =>
    some (some (.int (tz_g A 175 (Int32.toNatClampNeg z1))), A1))
else
  tz_bV (f_X12_goOn A) (fun A1 =>
  q_X12_behind_49 z1 z2 z3 (z4 + 1) A1) := by
  show tz_Go 213 49 [some (.ref 157), some (.int z1), some (.int z2), some (.int z3), some (.int z4)] [] A = _
  refine (tz_g_iload rfl (tz_inM rfl rfl rfl)).trans ?_
  refine (tz_g_iload_n rfl (tz_in0 rfl)).trans ?_
  refine (tz_g_ic_ge (t := 65) (by decide) (tz_in0 rfl)).trans ?_
  refine tz_cg ?_ ?_
  · skip
    refine (tz_g_iload_n rfl (tz_in0 rfl)).trans ?_
    refine (tz_g_if_ne (t := 78) (by decide) (tz_in0 rfl)).trans ?_
    refine tz_cg ?_ ?_
    · skip
      refine (tz_g_aload_n rfl (tz_in0 rfl)).trans ?_
      refine (tz_g_getr (j := 171) rfl rfl rfl rfl rfl (tz_in0 rfl)).trans ?_
      refine (tz_g_iload_n rfl (tz_in0 rfl)).trans ?_
      refine (tz_g_iald (n := 12) rfl rfl rfl (tz_in0 rfl)).trans ?_
      refine tz_cn1 ?_
      refine (tz_g_istore (L2 := [some (.ref 157), some (.int z1), some (.int z2), some (.int z3), some (.int (tz_g A 171 (Int32.toNatClampNeg z1)))]) rfl rfl (tz_in0 rfl)).trans ?_
      refine (tz_g_aload_n rfl (tz_in0 rfl)).trans ?_
      refine (tz_g_aload_n rfl (tz_in0 rfl)).trans ?_
      refine (tz_g_getr (j := 181) rfl rfl rfl rfl rfl (tz_in0 rfl)).trans ?_
      refine (tz_g_cv1V (m2 := 211) (rc := 0) rfl rfl rfl rfl rfl rfl (by decide) (tz_in0 rfl)).trans ?_
      refine tz_jV (fun A1 => ?_)
      refine (tz_g_iload rfl (tz_in0 rfl)).trans ?_
      exact tz_g_ret1 (tz_in0 rfl) rfl
    · skip
      refine (tz_g_aload_n rfl (tz_in0 rfl)).trans ?_
      refine (tz_g_getr (j := 175) rfl rfl rfl rfl rfl (tz_in0 rfl)).trans ?_
      refine (tz_g_iload_n rfl (tz_in0 rfl)).trans ?_
      refine (tz_g_iald (n := 12) rfl rfl rfl (tz_in0 rfl)).trans ?_
      refine tz_cn1 ?_
      refine (tz_g_goto (t := 84) (by decide) (tz_in0 rfl)).trans ?_
      refine (tz_g_istore (L2 := [some (.ref 157), some (.int z1), some (.int z2), some (.int z3), some (.int (tz_g A 175 (Int32.toNatClampNeg z1)))]) rfl rfl (tz_in0 rfl)).trans ?_
      refine (tz_g_aload_n rfl (tz_in0 rfl)).trans ?_
      refine (tz_g_aload_n rfl (tz_in0 rfl)).trans ?_
      refine (tz_g_getr (j := 181) rfl rfl rfl rfl rfl (tz_in0 rfl)).trans ?_
      refine (tz_g_cv1V (m2 := 211) (rc := 0) rfl rfl rfl rfl rfl rfl (by decide) (tz_in0 rfl)).trans ?_
      refine tz_jV (fun A1 => ?_)
      refine (tz_g_iload rfl (tz_in0 rfl)).trans ?_
      exact tz_g_ret1 (tz_in0 rfl) rfl
  · skip
    refine (tz_g_aload_n rfl (tz_in0 rfl)).trans ?_
    refine (tz_g_cv0V (m2 := 202) (rc := 0) rfl rfl rfl rfl rfl rfl (by decide) (tz_in0 rfl)).trans ?_
    refine tz_jV (fun A1 => ?_)
    refine (tz_g_iinc (v := 1) (L2 := [some (.ref 157), some (.int z1), some (.int z2), some (.int z3), some (.int (z4 + 1))]) rfl rfl rfl rfl (tz_in0 rfl)).trans ?_
    refine (tz_g_goto (t := 49) (by decide) (tz_in0 rfl)).trans ?_
    exact tz_Gm (L2 := [some (.ref 157), some (.int z1), some (.int z2), some (.int z3), some (.int (z4 + 1))]) rfl rfl rfl rfl

theorem e_X12_arrival (x1 : Int32) (x2 : Int32) (A : tz_Mem) : f_X12_arrival x1 x2 A =
  q_X12_arrival_2 x1 x2 0 A := by
  refine (tz_Fe (L := [some (.ref 157), some (.int x1), some (.int x2), none]) rfl).trans ?_
  refine (tz_g_iconst (v := 0) rfl (tz_in0 rfl)).trans ?_
  refine (tz_g_istore_n (L2 := [some (.ref 157), some (.int x1), some (.int x2), some (.int 0)]) rfl rfl (tz_in0 rfl)).trans ?_
  exact tz_Gm (L2 := [some (.ref 157), some (.int x1), some (.int x2), some (.int 0)]) rfl rfl rfl rfl

theorem e_X12_arrival_2 (z1 : Int32) (z2 : Int32) (z3 : Int32) (A : tz_Mem) : q_X12_arrival_2 z1 z2 z3 A =
  if z2 ≤ z3 then
  if z1 < 0 ∨ 12 ≤ (Int32.toNatClampNeg z1) then none else
  if ¬ (tz_g A 175 (Int32.toNatClampNeg z1)) = 200 then
    some (some (.int (-1)), A)
  else
    if z1 < 0 ∨ 12 ≤ (Int32.toNatClampNeg z1) then none else
    some (some (.int (tz_g A 176 (Int32.toNatClampNeg z1))), A)
else
  if z1 < 0 ∨ 12 ≤ (Int32.toNatClampNeg z1) then none else
  if 200 ≤ (tz_g A 175 (Int32.toNatClampNeg z1)) then
    if z1 < 0 ∨ 12 ≤ (Int32.toNatClampNeg z1) then none else
    if ¬ (tz_g A 175 (Int32.toNatClampNeg z1)) = 200 then
      some (some (.int (-1)), A)
    else
      if z1 < 0 ∨ 12 ≤ (Int32.toNatClampNeg z1) then none else
      some (some (.int (tz_g A 176 (Int32.toNatClampNeg z1))), A)
  else
    tz_bV (f_X12_goOn A) (fun A1 =>
    q_X12_arrival_2 z1 z2 (z3 + 1) A1) := by
  show tz_Go 217 2 [some (.ref 157), some (.int z1), some (.int z2), some (.int z3)] [] A = _
  refine (tz_g_iload_n rfl (tz_inM rfl rfl rfl)).trans ?_
  refine (tz_g_iload_n rfl (tz_in0 rfl)).trans ?_
  refine (tz_g_ic_ge (t := 29) (by decide) (tz_in0 rfl)).trans ?_
  refine tz_cg ?_ ?_
  · skip
    refine (tz_g_aload_n rfl (tz_in0 rfl)).trans ?_
    refine (tz_g_getr (j := 175) rfl rfl rfl rfl rfl (tz_in0 rfl)).trans ?_
    refine (tz_g_iload_n rfl (tz_in0 rfl)).trans ?_
    refine (tz_g_iald (n := 12) rfl rfl rfl (tz_in0 rfl)).trans ?_
    refine tz_cn1 ?_
    refine (tz_g_sipush (v := 200) rfl (tz_in0 rfl)).trans ?_
    refine (tz_g_ic_ne (t := 50) (by decide) (tz_in0 rfl)).trans ?_
    refine tz_cg ?_ ?_
    · skip
      refine (tz_g_iconst (v := (-1)) rfl (tz_in0 rfl)).trans ?_
      exact tz_g_ret1 (tz_in0 rfl) rfl
    · skip
      refine (tz_g_aload_n rfl (tz_in0 rfl)).trans ?_
      refine (tz_g_getr (j := 176) rfl rfl rfl rfl rfl (tz_in0 rfl)).trans ?_
      refine (tz_g_iload_n rfl (tz_in0 rfl)).trans ?_
      refine (tz_g_iald (n := 12) rfl rfl rfl (tz_in0 rfl)).trans ?_
      refine tz_cn1 ?_
      refine (tz_g_goto (t := 51) (by decide) (tz_in0 rfl)).trans ?_
      exact tz_g_ret1 (tz_in0 rfl) rfl
  · skip
    refine (tz_g_aload_n rfl (tz_in0 rfl)).trans ?_
    refine (tz_g_getr (j := 175) rfl rfl rfl rfl rfl (tz_in0 rfl)).trans ?_
    refine (tz_g_iload_n rfl (tz_in0 rfl)).trans ?_
    refine (tz_g_iald (n := 12) rfl rfl rfl (tz_in0 rfl)).trans ?_
    refine tz_cn1 ?_
    refine (tz_g_sipush (v := 200) rfl (tz_in0 rfl)).trans ?_
    refine (tz_g_ic_ge (t := 29) (by decide) (tz_in0 rfl)).trans ?_
    refine tz_cg ?_ ?_
    · skip
      refine (tz_g_aload_n rfl (tz_in0 rfl)).trans ?_
      refine (tz_g_getr (j := 175) rfl rfl rfl rfl rfl (tz_in0 rfl)).trans ?_
      refine (tz_g_iload_n rfl (tz_in0 rfl)).trans ?_
      refine (tz_g_iald (n := 12) rfl rfl rfl (tz_in0 rfl)).trans ?_
      refine tz_cn1 ?_
      refine (tz_g_sipush (v := 200) rfl (tz_in0 rfl)).trans ?_
      refine (tz_g_ic_ne (t := 50) (by decide) (tz_in0 rfl)).trans ?_
      refine tz_cg ?_ ?_
      · skip
        refine (tz_g_iconst (v := (-1)) rfl (tz_in0 rfl)).trans ?_
        exact tz_g_ret1 (tz_in0 rfl) rfl
      · skip
        refine (tz_g_aload_n rfl (tz_in0 rfl)).trans ?_
        refine (tz_g_getr (j := 176) rfl rfl rfl rfl rfl (tz_in0 rfl)).trans ?_
        refine (tz_g_iload_n rfl (tz_in0 rfl)).trans ?_
        refine (tz_g_iald (n := 12) rfl rfl rfl (tz_in0 rfl)).trans ?_
        refine tz_cn1 ?_
        refine (tz_g_goto (t := 51) (by decide) (tz_in0 rfl)).trans ?_
        exact tz_g_ret1 (tz_in0 rfl) rfl
    · skip
      refine (tz_g_aload_n rfl (tz_in0 rfl)).trans ?_
      refine (tz_g_cv0V (m2 := 202) (rc := 0) rfl rfl rfl rfl rfl rfl (by decide) (tz_in0 rfl)).trans ?_
      refine tz_jV (fun A1 => ?_)
      refine (tz_g_iinc (v := 1) (L2 := [some (.ref 157), some (.int z1), some (.int z2), some (.int (z3 + 1))]) rfl rfl rfl rfl (tz_in0 rfl)).trans ?_
      refine (tz_g_goto (t := 2) (by decide) (tz_in0 rfl)).trans ?_
      exact tz_Gm (L2 := [some (.ref 157), some (.int z1), some (.int z2), some (.int (z3 + 1))]) rfl rfl rfl rfl

theorem e_X12_loudest (x1 : Int32) (x2 : Int32) (A : tz_Mem) : f_X12_loudest x1 x2 A =
  if (tz_g A 157 3) = 0 then
  tz_bI (f_X12_no (-5) A) (fun y1 A1 =>
  some (some (.int y1), A1))
else
  tz_bI (f_X12_within x2 0 1 A) (fun y1 A1 =>
  if ¬ y1 = 0 then
    tz_bI (f_X12_isHours x1 A1) (fun y2 A2 =>
    if ¬ y2 = 0 then
      tz_bV (f_X12_keep_s181 A2) (fun A3 =>
      q_X12_loudest_47 x1 x2 0 A3)
    else
      tz_bI (f_X12_no (-6) A2) (fun y3 A3 =>
      some (some (.int y3), A3)))
  else
    tz_bI (f_X12_no (-5) A1) (fun y2 A2 =>
    some (some (.int y2), A2))) := by
  refine (tz_Fe (L := [some (.ref 157), some (.int x1), some (.int x2), none, none, none, none]) rfl).trans ?_
  refine (tz_g_aload_n rfl (tz_in0 rfl)).trans ?_
  refine (tz_g_geti rfl rfl rfl (tz_in0 rfl)).trans ?_
  refine (tz_g_if_eq (t := 16) (by decide) (tz_in0 rfl)).trans ?_
  refine tz_cg ?_ ?_
  · skip
    refine (tz_g_aload_n rfl (tz_in0 rfl)).trans ?_
    refine (tz_g_bipush (v := (-5)) rfl (tz_in0 rfl)).trans ?_
    refine (tz_g_cv1I (m2 := 166) (rc := 1) rfl rfl rfl rfl rfl rfl (by decide) (tz_in0 rfl)).trans ?_
    refine tz_jI (fun y1 A1 => ?_)
    exact tz_g_ret1 (tz_in0 rfl) rfl
  · skip
    refine (tz_g_iload_n rfl (tz_in0 rfl)).trans ?_
    refine (tz_g_iconst (v := 0) rfl (tz_in0 rfl)).trans ?_
    refine (tz_g_iconst (v := 1) rfl (tz_in0 rfl)).trans ?_
    refine (tz_g_cs3I (m2 := 165) (rc := 4) rfl rfl rfl rfl rfl rfl (by decide) (tz_in0 rfl)).trans ?_
    refine tz_jI (fun y1 A1 => ?_)
    refine (tz_g_if_ne (t := 23) (by decide) (tz_in0 rfl)).trans ?_
    refine tz_cg ?_ ?_
    · skip
      refine (tz_g_iload_n rfl (tz_in0 rfl)).trans ?_
      refine (tz_g_cs1I (m2 := 214) (rc := 4) rfl rfl rfl rfl rfl rfl (by decide) (tz_in0 rfl)).trans ?_
      refine tz_jI (fun y2 A2 => ?_)
      refine (tz_g_if_ne (t := 37) (by decide) (tz_in0 rfl)).trans ?_
      refine tz_cg ?_ ?_
      · skip
        refine (tz_g_aload_n rfl (tz_in0 rfl)).trans ?_
        refine (tz_g_aload_n rfl (tz_in0 rfl)).trans ?_
        refine (tz_g_getr (j := 181) rfl rfl rfl rfl rfl (tz_in0 rfl)).trans ?_
        refine (tz_g_cv1V (m2 := 196) (rc := 0) rfl rfl rfl rfl rfl rfl (by decide) (tz_in0 rfl)).trans ?_
        refine tz_jV (fun A3 => ?_)
        refine (tz_g_iconst (v := 0) rfl (tz_in0 rfl)).trans ?_
        refine (tz_g_istore_n (L2 := [some (.ref 157), some (.int x1), some (.int x2), some (.int 0), none, none, none]) rfl rfl (tz_in0 rfl)).trans ?_
        exact tz_Gm (L2 := [some (.ref 157), some (.int x1), some (.int x2), some (.int 0), none, none, none]) rfl rfl rfl rfl
      · skip
        refine (tz_g_aload_n rfl (tz_in0 rfl)).trans ?_
        refine (tz_g_bipush (v := (-6)) rfl (tz_in0 rfl)).trans ?_
        refine (tz_g_cv1I (m2 := 166) (rc := 1) rfl rfl rfl rfl rfl rfl (by decide) (tz_in0 rfl)).trans ?_
        refine tz_jI (fun y3 A3 => ?_)
        exact tz_g_ret1 (tz_in0 rfl) rfl
    · skip
      refine (tz_g_aload_n rfl (tz_in0 rfl)).trans ?_
      refine (tz_g_bipush (v := (-5)) rfl (tz_in0 rfl)).trans ?_
      refine (tz_g_cv1I (m2 := 166) (rc := 1) rfl rfl rfl rfl rfl rfl (by decide) (tz_in0 rfl)).trans ?_
      refine tz_jI (fun y2 A2 => ?_)
      exact tz_g_ret1 (tz_in0 rfl) rfl

theorem e_X12_loudest_47 (z1 : Int32) (z2 : Int32) (z3 : Int32) (A : tz_Mem) : q_X12_loudest_47 z1 z2 z3 A =
  if 8 ≤ z3 then
  q_X12_loudest_68 z1 z2 0 A
else
  if z3 < 0 ∨ 8 ≤ (Int32.toNatClampNeg z3) then none else
  q_X12_loudest_47 z1 z2 (z3 + 1) (tz_s A 182 (Int32.toNatClampNeg z3) 0) := by
  show tz_Go 227 47 [some (.ref 157), some (.int z1), some (.int z2), some (.int z3), none, none, none] [] A = _
  refine (tz_g_iload_n rfl (tz_inM rfl rfl rfl)).trans ?_
  refine (tz_g_bipush (v := 8) rfl (tz_in0 rfl)).trans ?_
  refine (tz_g_ic_ge (t := 66) (by decide) (tz_in0 rfl)).trans ?_
  refine tz_cg ?_ ?_
  · skip
    refine (tz_g_iconst (v := 0) rfl (tz_in0 rfl)).trans ?_
    refine (tz_g_istore_n (L2 := [some (.ref 157), some (.int z1), some (.int z2), some (.int 0), none, none, none]) rfl rfl (tz_in0 rfl)).trans ?_
    exact tz_Gm (L2 := [some (.ref 157), some (.int z1), some (.int z2), some (.int 0), none, none, none]) rfl rfl rfl rfl
  · skip
    refine (tz_g_aload_n rfl (tz_in0 rfl)).trans ?_
    refine (tz_g_getr (j := 182) rfl rfl rfl rfl rfl (tz_in0 rfl)).trans ?_
    refine (tz_g_iload_n rfl (tz_in0 rfl)).trans ?_
    refine (tz_g_iconst (v := 0) rfl (tz_in0 rfl)).trans ?_
    refine (tz_g_iast (n := 8) rfl rfl rfl (tz_in0 rfl)).trans ?_
    refine tz_cn1 ?_
    refine (tz_g_iinc (v := 1) (L2 := [some (.ref 157), some (.int z1), some (.int z2), some (.int (z3 + 1)), none, none, none]) rfl rfl rfl rfl (tz_in0 rfl)).trans ?_
    refine (tz_g_goto (t := 47) (by decide) (tz_in0 rfl)).trans ?_
    exact tz_Gm (L2 := [some (.ref 157), some (.int z1), some (.int z2), some (.int (z3 + 1)), none, none, none]) rfl rfl rfl rfl

theorem e_X12_loudest_68 (z1 : Int32) (z2 : Int32) (z3 : Int32) (A : tz_Mem) : q_X12_loudest_68 z1 z2 z3 A =
  if z1 ≤ z3 then
  q_X12_loudest_91 z2 0 (-1) 0 A
else
  tz_bV (f_X12_goOn A) (fun A1 =>
  q_X12_loudest_68 z1 z2 (z3 + 1) A1) := by
  show tz_Go 227 68 [some (.ref 157), some (.int z1), some (.int z2), some (.int z3), none, none, none] [] A = _
  refine (tz_g_iload_n rfl (tz_inM rfl rfl rfl)).trans ?_
  refine (tz_g_iload_n rfl (tz_in0 rfl)).trans ?_
  refine (tz_g_ic_ge (t := 83) (by decide) (tz_in0 rfl)).trans ?_
  refine tz_cg ?_ ?_
  · skip
    refine (tz_g_iconst (v := 0) rfl (tz_in0 rfl)).trans ?_
    refine (tz_g_istore_n (L2 := [some (.ref 157), some (.int z1), some (.int z2), some (.int 0), none, none, none]) rfl rfl (tz_in0 rfl)).trans ?_
    refine (tz_g_iconst (v := (-1)) rfl (tz_in0 rfl)).trans ?_
    refine (tz_g_istore (L2 := [some (.ref 157), some (.int z1), some (.int z2), some (.int 0), some (.int (-1)), none, none]) rfl rfl (tz_in0 rfl)).trans ?_
    refine (tz_g_iconst (v := 0) rfl (tz_in0 rfl)).trans ?_
    refine (tz_g_istore (L2 := [some (.ref 157), some (.int z1), some (.int z2), some (.int 0), some (.int (-1)), some (.int 0), none]) rfl rfl (tz_in0 rfl)).trans ?_
    exact tz_Gm (L2 := [some (.ref 157), none, some (.int z2), some (.int 0), some (.int (-1)), some (.int 0), none]) rfl rfl rfl rfl
  · skip
    refine (tz_g_aload_n rfl (tz_in0 rfl)).trans ?_
    refine (tz_g_cv0V (m2 := 202) (rc := 0) rfl rfl rfl rfl rfl rfl (by decide) (tz_in0 rfl)).trans ?_
    refine tz_jV (fun A1 => ?_)
    refine (tz_g_iinc (v := 1) (L2 := [some (.ref 157), some (.int z1), some (.int z2), some (.int (z3 + 1)), none, none, none]) rfl rfl rfl rfl (tz_in0 rfl)).trans ?_
    refine (tz_g_goto (t := 68) (by decide) (tz_in0 rfl)).trans ?_
    exact tz_Gm (L2 := [some (.ref 157), some (.int z1), some (.int z2), some (.int (z3 + 1)), none, none, none]) rfl rfl rfl rfl

theorem e_X12_loudest_91 (z2 : Int32) (z3 : Int32) (z4 : Int32) (z5 : Int32) (A : tz_Mem) : q_X12_loudest_91 z2 z3 z4 z5 A =
  if (tz_g A 157 3) ≤ z5 then
  tz_bV (f_X12_again_s181 A) (fun A1 =>
  some (some (.int z3), A1))
else
  if ¬ z2 = 0 then
    tz_bI (f_X12_lying z5 A) (fun y1 A1 =>
    tz_bI (f_J6_bitCount y1 A1) (fun y2 A2 =>
    if z4 < y2 then
      q_X12_loudest_91 z2 z5 y2 (z5 + 1) A2
    else
      q_X12_loudest_91 z2 z3 z4 (z5 + 1) A2))
  else
    if z5 < 0 ∨ 8 ≤ (Int32.toNatClampNeg z5) then none else
    if z4 < (tz_g A 182 (Int32.toNatClampNeg z5)) then
      q_X12_loudest_91 z2 z5 (tz_g A 182 (Int32.toNatClampNeg z5)) (z5 + 1) A
    else
      q_X12_loudest_91 z2 z3 z4 (z5 + 1) A := by
  show tz_Go 227 91 [some (.ref 157), none, some (.int z2), some (.int z3), some (.int z4), some (.int z5), none] [] A = _
  refine (tz_g_iload rfl (tz_inM rfl rfl rfl)).trans ?_
  refine (tz_g_aload_n rfl (tz_in0 rfl)).trans ?_
  refine (tz_g_geti rfl rfl rfl (tz_in0 rfl)).trans ?_
  refine (tz_g_ic_ge (t := 148) (by decide) (tz_in0 rfl)).trans ?_
  refine tz_cg ?_ ?_
  · skip
    refine (tz_g_aload_n rfl (tz_in0 rfl)).trans ?_
    refine (tz_g_aload_n rfl (tz_in0 rfl)).trans ?_
    refine (tz_g_getr (j := 181) rfl rfl rfl rfl rfl (tz_in0 rfl)).trans ?_
    refine (tz_g_cv1V (m2 := 211) (rc := 0) rfl rfl rfl rfl rfl rfl (by decide) (tz_in0 rfl)).trans ?_
    refine tz_jV (fun A1 => ?_)
    refine (tz_g_iload_n rfl (tz_in0 rfl)).trans ?_
    exact tz_g_ret1 (tz_in0 rfl) rfl
  · skip
    refine (tz_g_iload_n rfl (tz_in0 rfl)).trans ?_
    refine (tz_g_if_ne (t := 114) (by decide) (tz_in0 rfl)).trans ?_
    refine tz_cg ?_ ?_
    · skip
      refine (tz_g_aload_n rfl (tz_in0 rfl)).trans ?_
      refine (tz_g_iload rfl (tz_in0 rfl)).trans ?_
      refine (tz_g_cv1I (m2 := 178) (rc := 1) rfl rfl rfl rfl rfl rfl (by decide) (tz_in0 rfl)).trans ?_
      refine tz_jI (fun y1 A1 => ?_)
      refine (tz_g_cs1I (m2 := 34) (rc := 1) rfl rfl rfl rfl rfl rfl (by decide) (tz_in0 rfl)).trans ?_
      refine tz_jI (fun y2 A2 => ?_)
      refine (tz_g_istore (L2 := [some (.ref 157), none, some (.int z2), some (.int z3), some (.int z4), some (.int z5), some (.int y2)]) rfl rfl (tz_in0 rfl)).trans ?_
      refine (tz_g_iload rfl (tz_in0 rfl)).trans ?_
      refine (tz_g_iload rfl (tz_in0 rfl)).trans ?_
      refine (tz_g_ic_gt (t := 135) (by decide) (tz_in0 rfl)).trans ?_
      refine tz_cg ?_ ?_
      · skip
        refine (tz_g_iload rfl (tz_in0 rfl)).trans ?_
        refine (tz_g_istore (L2 := [some (.ref 157), none, some (.int z2), some (.int z3), some (.int y2), some (.int z5), some (.int y2)]) rfl rfl (tz_in0 rfl)).trans ?_
        refine (tz_g_iload rfl (tz_in0 rfl)).trans ?_
        refine (tz_g_istore_n (L2 := [some (.ref 157), none, some (.int z2), some (.int z5), some (.int y2), some (.int z5), some (.int y2)]) rfl rfl (tz_in0 rfl)).trans ?_
        refine (tz_g_iinc (v := 1) (L2 := [some (.ref 157), none, some (.int z2), some (.int z5), some (.int y2), some (.int (z5 + 1)), some (.int y2)]) rfl rfl rfl rfl (tz_in0 rfl)).trans ?_
        refine (tz_g_goto (t := 91) (by decide) (tz_in0 rfl)).trans ?_
        exact tz_Gm (L2 := [some (.ref 157), none, some (.int z2), some (.int z5), some (.int y2), some (.int (z5 + 1)), none]) rfl rfl rfl rfl
      · skip
        refine (tz_g_goto (t := 142) (by decide) (tz_in0 rfl)).trans ?_
        refine (tz_g_iinc (v := 1) (L2 := [some (.ref 157), none, some (.int z2), some (.int z3), some (.int z4), some (.int (z5 + 1)), some (.int y2)]) rfl rfl rfl rfl (tz_in0 rfl)).trans ?_
        refine (tz_g_goto (t := 91) (by decide) (tz_in0 rfl)).trans ?_
        exact tz_Gm (L2 := [some (.ref 157), none, some (.int z2), some (.int z3), some (.int z4), some (.int (z5 + 1)), none]) rfl rfl rfl rfl
    · skip
      refine (tz_g_aload_n rfl (tz_in0 rfl)).trans ?_
      refine (tz_g_getr (j := 182) rfl rfl rfl rfl rfl (tz_in0 rfl)).trans ?_
      refine (tz_g_iload rfl (tz_in0 rfl)).trans ?_
      refine (tz_g_iald (n := 8) rfl rfl rfl (tz_in0 rfl)).trans ?_
      refine tz_cn1 ?_
      refine (tz_g_goto (t := 123) (by decide) (tz_in0 rfl)).trans ?_
      refine (tz_g_istore (L2 := [some (.ref 157), none, some (.int z2), some (.int z3), some (.int z4), some (.int z5), some (.int (tz_g A 182 (Int32.toNatClampNeg z5)))]) rfl rfl (tz_in0 rfl)).trans ?_
      refine (tz_g_iload rfl (tz_in0 rfl)).trans ?_
      refine (tz_g_iload rfl (tz_in0 rfl)).trans ?_
      refine (tz_g_ic_gt (t := 135) (by decide) (tz_in0 rfl)).trans ?_
      refine tz_cg ?_ ?_
      · skip
        refine (tz_g_iload rfl (tz_in0 rfl)).trans ?_
        refine (tz_g_istore (L2 := [some (.ref 157), none, some (.int z2), some (.int z3), some (.int (tz_g A 182 (Int32.toNatClampNeg z5))), some (.int z5), some (.int (tz_g A 182 (Int32.toNatClampNeg z5)))]) rfl rfl (tz_in0 rfl)).trans ?_
        refine (tz_g_iload rfl (tz_in0 rfl)).trans ?_
        refine (tz_g_istore_n (L2 := [some (.ref 157), none, some (.int z2), some (.int z5), some (.int (tz_g A 182 (Int32.toNatClampNeg z5))), some (.int z5), some (.int (tz_g A 182 (Int32.toNatClampNeg z5)))]) rfl rfl (tz_in0 rfl)).trans ?_
        refine (tz_g_iinc (v := 1) (L2 := [some (.ref 157), none, some (.int z2), some (.int z5), some (.int (tz_g A 182 (Int32.toNatClampNeg z5))), some (.int (z5 + 1)), some (.int (tz_g A 182 (Int32.toNatClampNeg z5)))]) rfl rfl rfl rfl (tz_in0 rfl)).trans ?_
        refine (tz_g_goto (t := 91) (by decide) (tz_in0 rfl)).trans ?_
        exact tz_Gm (L2 := [some (.ref 157), none, some (.int z2), some (.int z5), some (.int (tz_g A 182 (Int32.toNatClampNeg z5))), some (.int (z5 + 1)), none]) rfl rfl rfl rfl
      · skip
        refine (tz_g_goto (t := 142) (by decide) (tz_in0 rfl)).trans ?_
        refine (tz_g_iinc (v := 1) (L2 := [some (.ref 157), none, some (.int z2), some (.int z3), some (.int z4), some (.int (z5 + 1)), some (.int (tz_g A 182 (Int32.toNatClampNeg z5)))]) rfl rfl rfl rfl (tz_in0 rfl)).trans ?_
        refine (tz_g_goto (t := 91) (by decide) (tz_in0 rfl)).trans ?_
        exact tz_Gm (L2 := [some (.ref 157), none, some (.int z2), some (.int z3), some (.int z4), some (.int (z5 + 1)), none]) rfl rfl rfl rfl

theorem e_X12_firstHeard (x1 : Int32) (x2 : Int32) (A : tz_Mem) : f_X12_firstHeard x1 x2 A =
  tz_bI (f_X12_within x2 0 1 A) (fun y1 A1 =>
if ¬ y1 = 0 then
  tz_bI (f_X12_within x1 0 9999 A1) (fun y2 A2 =>
  if ¬ y2 = 0 then
    tz_bV (f_X12_keep_s181 A2) (fun A3 =>
    q_X12_firstHeard_54 x2 0 (tz_s (tz_s A3 157 36 x1) 157 37 (-1)))
  else
    tz_bI (f_X12_no10 (-6) A2) (fun y3 A3 =>
    some (some (.int y3), A3)))
else
  tz_bI (f_X12_no10 (-5) A1) (fun y2 A2 =>
  some (some (.int y2), A2))) := by
  refine (tz_Fe (L := [some (.ref 157), some (.int x1), some (.int x2), none]) rfl).trans ?_
  refine (tz_g_iload_n rfl (tz_in0 rfl)).trans ?_
  refine (tz_g_iconst (v := 0) rfl (tz_in0 rfl)).trans ?_
  refine (tz_g_iconst (v := 1) rfl (tz_in0 rfl)).trans ?_
  refine (tz_g_cs3I (m2 := 165) (rc := 4) rfl rfl rfl rfl rfl rfl (by decide) (tz_in0 rfl)).trans ?_
  refine tz_jI (fun y1 A1 => ?_)
  refine (tz_g_if_ne (t := 16) (by decide) (tz_in0 rfl)).trans ?_
  refine tz_cg ?_ ?_
  · skip
    refine (tz_g_iload_n rfl (tz_in0 rfl)).trans ?_
    refine (tz_g_iconst (v := 0) rfl (tz_in0 rfl)).trans ?_
    refine (tz_g_sipush (v := 9999) rfl (tz_in0 rfl)).trans ?_
    refine (tz_g_cs3I (m2 := 165) (rc := 4) rfl rfl rfl rfl rfl rfl (by decide) (tz_in0 rfl)).trans ?_
    refine tz_jI (fun y2 A2 => ?_)
    refine (tz_g_if_ne (t := 34) (by decide) (tz_in0 rfl)).trans ?_
    refine tz_cg ?_ ?_
    · skip
      refine (tz_g_aload_n rfl (tz_in0 rfl)).trans ?_
      refine (tz_g_aload_n rfl (tz_in0 rfl)).trans ?_
      refine (tz_g_getr (j := 181) rfl rfl rfl rfl rfl (tz_in0 rfl)).trans ?_
      refine (tz_g_cv1V (m2 := 196) (rc := 0) rfl rfl rfl rfl rfl rfl (by decide) (tz_in0 rfl)).trans ?_
      refine tz_jV (fun A3 => ?_)
      refine (tz_g_aload_n rfl (tz_in0 rfl)).trans ?_
      refine (tz_g_iload_n rfl (tz_in0 rfl)).trans ?_
      refine (tz_g_puti rfl rfl rfl (tz_in0 rfl)).trans ?_
      refine (tz_g_aload_n rfl (tz_in0 rfl)).trans ?_
      refine (tz_g_iconst (v := (-1)) rfl (tz_in0 rfl)).trans ?_
      refine (tz_g_puti rfl rfl rfl (tz_in0 rfl)).trans ?_
      refine (tz_g_iconst (v := 0) rfl (tz_in0 rfl)).trans ?_
      refine (tz_g_istore_n (L2 := [some (.ref 157), some (.int x1), some (.int x2), some (.int 0)]) rfl rfl (tz_in0 rfl)).trans ?_
      exact tz_Gm (L2 := [some (.ref 157), none, some (.int x2), some (.int 0)]) rfl rfl rfl rfl
    · skip
      refine (tz_g_aload_n rfl (tz_in0 rfl)).trans ?_
      refine (tz_g_bipush (v := (-6)) rfl (tz_in0 rfl)).trans ?_
      refine (tz_g_cv1I (m2 := 218) (rc := 1) rfl rfl rfl rfl rfl rfl (by decide) (tz_in0 rfl)).trans ?_
      refine tz_jI (fun y3 A3 => ?_)
      exact tz_g_ret1 (tz_in0 rfl) rfl
  · skip
    refine (tz_g_aload_n rfl (tz_in0 rfl)).trans ?_
    refine (tz_g_bipush (v := (-5)) rfl (tz_in0 rfl)).trans ?_
    refine (tz_g_cv1I (m2 := 218) (rc := 1) rfl rfl rfl rfl rfl rfl (by decide) (tz_in0 rfl)).trans ?_
    refine tz_jI (fun y2 A2 => ?_)
    exact tz_g_ret1 (tz_in0 rfl) rfl

theorem e_X12_firstHeard_54 (z2 : Int32) (z3 : Int32) (A : tz_Mem) : q_X12_firstHeard_54 z2 z3 A =
  if 500 ≤ z3 then
  if ¬ (tz_g (tz_s A 157 36 (-1)) 157 37) = (-1) then
    if ¬ z2 = 0 then
      tz_bV (f_X12_again_s181 (tz_s A 157 36 (-1))) (fun A1 =>
      some (some (.int (tz_g (tz_s A 157 36 (-1)) 157 22)), A1))
    else
      tz_bV (f_X12_again_s181 (tz_s A 157 36 (-1))) (fun A1 =>
      some (some (.int (tz_g (tz_s A 157 36 (-1)) 157 37)), A1))
  else
    tz_bV (f_X12_again_s181 (tz_s A 157 36 (-1))) (fun A1 =>
    some (some (.int (-1)), A1))
else
  if ¬ (tz_g A 157 37) = (-1) then
    if ¬ (tz_g (tz_s A 157 36 (-1)) 157 37) = (-1) then
      if ¬ z2 = 0 then
        tz_bV (f_X12_again_s181 (tz_s A 157 36 (-1))) (fun A1 =>
        some (some (.int (tz_g (tz_s A 157 36 (-1)) 157 22)), A1))
      else
        tz_bV (f_X12_again_s181 (tz_s A 157 36 (-1))) (fun A1 =>
        some (some (.int (tz_g (tz_s A 157 36 (-1)) 157 37)), A1))
    else
      tz_bV (f_X12_again_s181 (tz_s A 157 36 (-1))) (fun A1 =>
      some (some (.int (-1)), A1))
  else
    tz_bV (f_X12_goOn A) (fun A1 =>
    q_X12_firstHeard_54 z2 (z3 + 1) A1) := by
  show tz_Go 228 54 [some (.ref 157), none, some (.int z2), some (.int z3)] [] A = _
  refine (tz_g_iload_n rfl (tz_inM rfl rfl rfl)).trans ?_
  refine (tz_g_sipush (v := 500) rfl (tz_in0 rfl)).trans ?_
  refine (tz_g_ic_ge (t := 79) (by decide) (tz_in0 rfl)).trans ?_
  refine tz_cg ?_ ?_
  · skip
    refine (tz_g_aload_n rfl (tz_in0 rfl)).trans ?_
    refine (tz_g_iconst (v := (-1)) rfl (tz_in0 rfl)).trans ?_
    refine (tz_g_puti rfl rfl rfl (tz_in0 rfl)).trans ?_
    refine (tz_g_aload_n rfl (tz_in0 rfl)).trans ?_
    refine (tz_g_geti rfl rfl rfl (tz_in0 rfl)).trans ?_
    refine (tz_g_iconst (v := (-1)) rfl (tz_in0 rfl)).trans ?_
    refine (tz_g_ic_ne (t := 96) (by decide) (tz_in0 rfl)).trans ?_
    refine tz_cg ?_ ?_
    · skip
      refine (tz_g_iload_n rfl (tz_in0 rfl)).trans ?_
      refine (tz_g_if_ne (t := 107) (by decide) (tz_in0 rfl)).trans ?_
      refine tz_cg ?_ ?_
      · skip
        refine (tz_g_aload_n rfl (tz_in0 rfl)).trans ?_
        refine (tz_g_geti rfl rfl rfl (tz_in0 rfl)).trans ?_
        refine (tz_g_istore_n (L2 := [some (.ref 157), none, some (.int z2), some (.int (tz_g (tz_s A 157 36 (-1)) 157 22))]) rfl rfl (tz_in0 rfl)).trans ?_
        refine (tz_g_aload_n rfl (tz_in0 rfl)).trans ?_
        refine (tz_g_aload_n rfl (tz_in0 rfl)).trans ?_
        refine (tz_g_getr (j := 181) rfl rfl rfl rfl rfl (tz_in0 rfl)).trans ?_
        refine (tz_g_cv1V (m2 := 211) (rc := 0) rfl rfl rfl rfl rfl rfl (by decide) (tz_in0 rfl)).trans ?_
        refine tz_jV (fun A1 => ?_)
        refine (tz_g_iload_n rfl (tz_in0 rfl)).trans ?_
        exact tz_g_ret1 (tz_in0 rfl) rfl
      · skip
        refine (tz_g_aload_n rfl (tz_in0 rfl)).trans ?_
        refine (tz_g_geti rfl rfl rfl (tz_in0 rfl)).trans ?_
        refine (tz_g_goto (t := 111) (by decide) (tz_in0 rfl)).trans ?_
        refine (tz_g_istore_n (L2 := [some (.ref 157), none, some (.int z2), some (.int (tz_g (tz_s A 157 36 (-1)) 157 37))]) rfl rfl (tz_in0 rfl)).trans ?_
        refine (tz_g_aload_n rfl (tz_in0 rfl)).trans ?_
        refine (tz_g_aload_n rfl (tz_in0 rfl)).trans ?_
        refine (tz_g_getr (j := 181) rfl rfl rfl rfl rfl (tz_in0 rfl)).trans ?_
        refine (tz_g_cv1V (m2 := 211) (rc := 0) rfl rfl rfl rfl rfl rfl (by decide) (tz_in0 rfl)).trans ?_
        refine tz_jV (fun A1 => ?_)
        refine (tz_g_iload_n rfl (tz_in0 rfl)).trans ?_
        exact tz_g_ret1 (tz_in0 rfl) rfl
    · skip
      refine (tz_g_iconst (v := (-1)) rfl (tz_in0 rfl)).trans ?_
      refine (tz_g_goto (t := 111) (by decide) (tz_in0 rfl)).trans ?_
      refine (tz_g_istore_n (L2 := [some (.ref 157), none, some (.int z2), some (.int (-1))]) rfl rfl (tz_in0 rfl)).trans ?_
      refine (tz_g_aload_n rfl (tz_in0 rfl)).trans ?_
      refine (tz_g_aload_n rfl (tz_in0 rfl)).trans ?_
      refine (tz_g_getr (j := 181) rfl rfl rfl rfl rfl (tz_in0 rfl)).trans ?_
      refine (tz_g_cv1V (m2 := 211) (rc := 0) rfl rfl rfl rfl rfl rfl (by decide) (tz_in0 rfl)).trans ?_
      refine tz_jV (fun A1 => ?_)
      refine (tz_g_iload_n rfl (tz_in0 rfl)).trans ?_
      exact tz_g_ret1 (tz_in0 rfl) rfl
  · skip
    refine (tz_g_aload_n rfl (tz_in0 rfl)).trans ?_
    refine (tz_g_geti rfl rfl rfl (tz_in0 rfl)).trans ?_
    refine (tz_g_iconst (v := (-1)) rfl (tz_in0 rfl)).trans ?_
    refine (tz_g_ic_ne (t := 79) (by decide) (tz_in0 rfl)).trans ?_
    refine tz_cg ?_ ?_
    · skip
      refine (tz_g_aload_n rfl (tz_in0 rfl)).trans ?_
      refine (tz_g_iconst (v := (-1)) rfl (tz_in0 rfl)).trans ?_
      refine (tz_g_puti rfl rfl rfl (tz_in0 rfl)).trans ?_
      refine (tz_g_aload_n rfl (tz_in0 rfl)).trans ?_
      refine (tz_g_geti rfl rfl rfl (tz_in0 rfl)).trans ?_
      refine (tz_g_iconst (v := (-1)) rfl (tz_in0 rfl)).trans ?_
      refine (tz_g_ic_ne (t := 96) (by decide) (tz_in0 rfl)).trans ?_
      refine tz_cg ?_ ?_
      · skip
        refine (tz_g_iload_n rfl (tz_in0 rfl)).trans ?_
        refine (tz_g_if_ne (t := 107) (by decide) (tz_in0 rfl)).trans ?_
        refine tz_cg ?_ ?_
        · skip
          refine (tz_g_aload_n rfl (tz_in0 rfl)).trans ?_
          refine (tz_g_geti rfl rfl rfl (tz_in0 rfl)).trans ?_
          refine (tz_g_istore_n (L2 := [some (.ref 157), none, some (.int z2), some (.int (tz_g (tz_s A 157 36 (-1)) 157 22))]) rfl rfl (tz_in0 rfl)).trans ?_
          refine (tz_g_aload_n rfl (tz_in0 rfl)).trans ?_
          refine (tz_g_aload_n rfl (tz_in0 rfl)).trans ?_
          refine (tz_g_getr (j := 181) rfl rfl rfl rfl rfl (tz_in0 rfl)).trans ?_
          refine (tz_g_cv1V (m2 := 211) (rc := 0) rfl rfl rfl rfl rfl rfl (by decide) (tz_in0 rfl)).trans ?_
          refine tz_jV (fun A1 => ?_)
          refine (tz_g_iload_n rfl (tz_in0 rfl)).trans ?_
          exact tz_g_ret1 (tz_in0 rfl) rfl
        · skip
          refine (tz_g_aload_n rfl (tz_in0 rfl)).trans ?_
          refine (tz_g_geti rfl rfl rfl (tz_in0 rfl)).trans ?_
          refine (tz_g_goto (t := 111) (by decide) (tz_in0 rfl)).trans ?_
          refine (tz_g_istore_n (L2 := [some (.ref 157), none, some (.int z2), some (.int (tz_g (tz_s A 157 36 (-1)) 157 37))]) rfl rfl (tz_in0 rfl)).trans ?_
          refine (tz_g_aload_n rfl (tz_in0 rfl)).trans ?_
          refine (tz_g_aload_n rfl (tz_in0 rfl)).trans ?_
          refine (tz_g_getr (j := 181) rfl rfl rfl rfl rfl (tz_in0 rfl)).trans ?_
          refine (tz_g_cv1V (m2 := 211) (rc := 0) rfl rfl rfl rfl rfl rfl (by decide) (tz_in0 rfl)).trans ?_
          refine tz_jV (fun A1 => ?_)
          refine (tz_g_iload_n rfl (tz_in0 rfl)).trans ?_
          exact tz_g_ret1 (tz_in0 rfl) rfl
      · skip
        refine (tz_g_iconst (v := (-1)) rfl (tz_in0 rfl)).trans ?_
        refine (tz_g_goto (t := 111) (by decide) (tz_in0 rfl)).trans ?_
        refine (tz_g_istore_n (L2 := [some (.ref 157), none, some (.int z2), some (.int (-1))]) rfl rfl (tz_in0 rfl)).trans ?_
        refine (tz_g_aload_n rfl (tz_in0 rfl)).trans ?_
        refine (tz_g_aload_n rfl (tz_in0 rfl)).trans ?_
        refine (tz_g_getr (j := 181) rfl rfl rfl rfl rfl (tz_in0 rfl)).trans ?_
        refine (tz_g_cv1V (m2 := 211) (rc := 0) rfl rfl rfl rfl rfl rfl (by decide) (tz_in0 rfl)).trans ?_
        refine tz_jV (fun A1 => ?_)
        refine (tz_g_iload_n rfl (tz_in0 rfl)).trans ?_
        exact tz_g_ret1 (tz_in0 rfl) rfl
    · skip
      refine (tz_g_aload_n rfl (tz_in0 rfl)).trans ?_
      refine (tz_g_cv0V (m2 := 202) (rc := 0) rfl rfl rfl rfl rfl rfl (by decide) (tz_in0 rfl)).trans ?_
      refine tz_jV (fun A1 => ?_)
      refine (tz_g_iinc (v := 1) (L2 := [some (.ref 157), none, some (.int z2), some (.int (z3 + 1))]) rfl rfl rfl rfl (tz_in0 rfl)).trans ?_
      refine (tz_g_goto (t := 54) (by decide) (tz_in0 rfl)).trans ?_
      exact tz_Gm (L2 := [some (.ref 157), none, some (.int z2), some (.int (z3 + 1))]) rfl rfl rfl rfl

theorem e_X12_meet (x1 : Int32) (x2 : Int32) (A : tz_Mem) : f_X12_meet x1 x2 A =
  tz_bI (f_X12_isStorm x1 A) (fun y1 A1 =>
if y1 = 0 then
  tz_bI (f_X12_no10 (-5) A1) (fun y2 A2 =>
  some (some (.int y2), A2))
else
  tz_bI (f_X12_isStorm x2 A1) (fun y2 A2 =>
  if y2 = 0 then
    tz_bI (f_X12_no10 (-5) A2) (fun y3 A3 =>
    some (some (.int y3), A3))
  else
    if ¬ x1 = x2 then
      tz_bV (f_X12_keep_s181 A2) (fun A3 =>
      q_X12_meet_41 x1 x2 (-1) 0 A3)
    else
      tz_bI (f_X12_no10 (-5) A2) (fun y3 A3 =>
      some (some (.int y3), A3)))) := by
  refine (tz_Fe (L := [some (.ref 157), some (.int x1), some (.int x2), none, none]) rfl).trans ?_
  refine (tz_g_aload_n rfl (tz_in0 rfl)).trans ?_
  refine (tz_g_iload_n rfl (tz_in0 rfl)).trans ?_
  refine (tz_g_cv1I (m2 := 191) (rc := 4) rfl rfl rfl rfl rfl rfl (by decide) (tz_in0 rfl)).trans ?_
  refine tz_jI (fun y1 A1 => ?_)
  refine (tz_g_if_eq (t := 21) (by decide) (tz_in0 rfl)).trans ?_
  refine tz_cg ?_ ?_
  · skip
    refine (tz_g_aload_n rfl (tz_in0 rfl)).trans ?_
    refine (tz_g_bipush (v := (-5)) rfl (tz_in0 rfl)).trans ?_
    refine (tz_g_cv1I (m2 := 218) (rc := 1) rfl rfl rfl rfl rfl rfl (by decide) (tz_in0 rfl)).trans ?_
    refine tz_jI (fun y2 A2 => ?_)
    exact tz_g_ret1 (tz_in0 rfl) rfl
  · skip
    refine (tz_g_aload_n rfl (tz_in0 rfl)).trans ?_
    refine (tz_g_iload_n rfl (tz_in0 rfl)).trans ?_
    refine (tz_g_cv1I (m2 := 191) (rc := 4) rfl rfl rfl rfl rfl rfl (by decide) (tz_in0 rfl)).trans ?_
    refine tz_jI (fun y2 A2 => ?_)
    refine (tz_g_if_eq (t := 21) (by decide) (tz_in0 rfl)).trans ?_
    refine tz_cg ?_ ?_
    · skip
      refine (tz_g_aload_n rfl (tz_in0 rfl)).trans ?_
      refine (tz_g_bipush (v := (-5)) rfl (tz_in0 rfl)).trans ?_
      refine (tz_g_cv1I (m2 := 218) (rc := 1) rfl rfl rfl rfl rfl rfl (by decide) (tz_in0 rfl)).trans ?_
      refine tz_jI (fun y3 A3 => ?_)
      exact tz_g_ret1 (tz_in0 rfl) rfl
    · skip
      refine (tz_g_iload_n rfl (tz_in0 rfl)).trans ?_
      refine (tz_g_iload_n rfl (tz_in0 rfl)).trans ?_
      refine (tz_g_ic_ne (t := 28) (by decide) (tz_in0 rfl)).trans ?_
      refine tz_cg ?_ ?_
      · skip
        refine (tz_g_aload_n rfl (tz_in0 rfl)).trans ?_
        refine (tz_g_aload_n rfl (tz_in0 rfl)).trans ?_
        refine (tz_g_getr (j := 181) rfl rfl rfl rfl rfl (tz_in0 rfl)).trans ?_
        refine (tz_g_cv1V (m2 := 196) (rc := 0) rfl rfl rfl rfl rfl rfl (by decide) (tz_in0 rfl)).trans ?_
        refine tz_jV (fun A3 => ?_)
        refine (tz_g_iconst (v := (-1)) rfl (tz_in0 rfl)).trans ?_
        refine (tz_g_istore_n (L2 := [some (.ref 157), some (.int x1), some (.int x2), some (.int (-1)), none]) rfl rfl (tz_in0 rfl)).trans ?_
        refine (tz_g_iconst (v := 0) rfl (tz_in0 rfl)).trans ?_
        refine (tz_g_istore (L2 := [some (.ref 157), some (.int x1), some (.int x2), some (.int (-1)), some (.int 0)]) rfl rfl (tz_in0 rfl)).trans ?_
        exact tz_Gm (L2 := [some (.ref 157), some (.int x1), some (.int x2), some (.int (-1)), some (.int 0)]) rfl rfl rfl rfl
      · skip
        refine (tz_g_aload_n rfl (tz_in0 rfl)).trans ?_
        refine (tz_g_bipush (v := (-5)) rfl (tz_in0 rfl)).trans ?_
        refine (tz_g_cv1I (m2 := 218) (rc := 1) rfl rfl rfl rfl rfl rfl (by decide) (tz_in0 rfl)).trans ?_
        refine tz_jI (fun y3 A3 => ?_)
        exact tz_g_ret1 (tz_in0 rfl) rfl

theorem e_X12_meet_41 (z1 : Int32) (z2 : Int32) (z3 : Int32) (z4 : Int32) (A : tz_Mem) : q_X12_meet_41 z1 z2 z3 z4 A =
  if 500 ≤ z4 then
  tz_bV (f_X12_again_s181 A) (fun A1 =>
  some (some (.int z3), A1))
else
  if ¬ z3 = (-1) then
    tz_bV (f_X12_again_s181 A) (fun A1 =>
    some (some (.int z3), A1))
  else
    tz_bV (f_X12_goOn A) (fun A1 =>
    tz_bI (f_X12_storedAt z1 A1) (fun y2 A2 =>
    tz_bI (f_X12_storedAt z2 A2) (fun y3 A3 =>
    if ¬ y2 = y3 then
      q_X12_meet_41 z1 z2 z3 (z4 + 1) A3
    else
      q_X12_meet_41 z1 z2 (tz_g A3 157 22) (z4 + 1) A3))) := by
  show tz_Go 231 41 [some (.ref 157), some (.int z1), some (.int z2), some (.int z3), some (.int z4)] [] A = _
  refine (tz_g_iload rfl (tz_inM rfl rfl rfl)).trans ?_
  refine (tz_g_sipush (v := 500) rfl (tz_in0 rfl)).trans ?_
  refine (tz_g_ic_ge (t := 82) (by decide) (tz_in0 rfl)).trans ?_
  refine tz_cg ?_ ?_
  · skip
    refine (tz_g_aload_n rfl (tz_in0 rfl)).trans ?_
    refine (tz_g_aload_n rfl (tz_in0 rfl)).trans ?_
    refine (tz_g_getr (j := 181) rfl rfl rfl rfl rfl (tz_in0 rfl)).trans ?_
    refine (tz_g_cv1V (m2 := 211) (rc := 0) rfl rfl rfl rfl rfl rfl (by decide) (tz_in0 rfl)).trans ?_
    refine tz_jV (fun A1 => ?_)
    refine (tz_g_iload_n rfl (tz_in0 rfl)).trans ?_
    exact tz_g_ret1 (tz_in0 rfl) rfl
  · skip
    refine (tz_g_iload_n rfl (tz_in0 rfl)).trans ?_
    refine (tz_g_iconst (v := (-1)) rfl (tz_in0 rfl)).trans ?_
    refine (tz_g_ic_ne (t := 82) (by decide) (tz_in0 rfl)).trans ?_
    refine tz_cg ?_ ?_
    · skip
      refine (tz_g_aload_n rfl (tz_in0 rfl)).trans ?_
      refine (tz_g_aload_n rfl (tz_in0 rfl)).trans ?_
      refine (tz_g_getr (j := 181) rfl rfl rfl rfl rfl (tz_in0 rfl)).trans ?_
      refine (tz_g_cv1V (m2 := 211) (rc := 0) rfl rfl rfl rfl rfl rfl (by decide) (tz_in0 rfl)).trans ?_
      refine tz_jV (fun A1 => ?_)
      refine (tz_g_iload_n rfl (tz_in0 rfl)).trans ?_
      exact tz_g_ret1 (tz_in0 rfl) rfl
    · skip
      refine (tz_g_aload_n rfl (tz_in0 rfl)).trans ?_
      refine (tz_g_cv0V (m2 := 202) (rc := 0) rfl rfl rfl rfl rfl rfl (by decide) (tz_in0 rfl)).trans ?_
      refine tz_jV (fun A1 => ?_)
      refine (tz_g_aload_n rfl (tz_in0 rfl)).trans ?_
      refine (tz_g_iload_n rfl (tz_in0 rfl)).trans ?_
      refine (tz_g_cv1I (m2 := 189) (rc := 1) rfl rfl rfl rfl rfl rfl (by decide) (tz_in0 rfl)).trans ?_
      refine tz_jI (fun y2 A2 => ?_)
      refine (tz_g_aload_n rfl (tz_in0 rfl)).trans ?_
      refine (tz_g_iload_n rfl (tz_in0 rfl)).trans ?_
      refine (tz_g_cv1I (m2 := 189) (rc := 1) rfl rfl rfl rfl rfl rfl (by decide) (tz_in0 rfl)).trans ?_
      refine tz_jI (fun y3 A3 => ?_)
      refine (tz_g_ic_ne (t := 76) (by decide) (tz_in0 rfl)).trans ?_
      refine tz_cg ?_ ?_
      · skip
        refine (tz_g_iinc (v := 1) (L2 := [some (.ref 157), some (.int z1), some (.int z2), some (.int z3), some (.int (z4 + 1))]) rfl rfl rfl rfl (tz_in0 rfl)).trans ?_
        refine (tz_g_goto (t := 41) (by decide) (tz_in0 rfl)).trans ?_
        exact tz_Gm (L2 := [some (.ref 157), some (.int z1), some (.int z2), some (.int z3), some (.int (z4 + 1))]) rfl rfl rfl rfl
      · skip
        refine (tz_g_aload_n rfl (tz_in0 rfl)).trans ?_
        refine (tz_g_geti rfl rfl rfl (tz_in0 rfl)).trans ?_
        refine (tz_g_istore_n (L2 := [some (.ref 157), some (.int z1), some (.int z2), some (.int (tz_g A3 157 22)), some (.int z4)]) rfl rfl (tz_in0 rfl)).trans ?_
        refine (tz_g_iinc (v := 1) (L2 := [some (.ref 157), some (.int z1), some (.int z2), some (.int (tz_g A3 157 22)), some (.int (z4 + 1))]) rfl rfl rfl rfl (tz_in0 rfl)).trans ?_
        refine (tz_g_goto (t := 41) (by decide) (tz_in0 rfl)).trans ?_
        exact tz_Gm (L2 := [some (.ref 157), some (.int z1), some (.int z2), some (.int (tz_g A3 157 22)), some (.int (z4 + 1))]) rfl rfl rfl rfl

theorem e_X12_hours (x1 : Int32) (A : tz_Mem) : f_X12_hours x1 A =
  tz_bI (f_X12_within x1 1 500 A) (fun y1 A1 =>
if ¬ y1 = 0 then
  tz_bI (f_X12_there A1) (fun y2 A2 =>
  q_X12_hours_25 x1 y2 0 A2)
else
  tz_bI (f_X12_no (-6) A1) (fun y2 A2 =>
  some (some (.int y2), A2))) := by
  refine (tz_Fe (L := [some (.ref 157), some (.int x1), none, none]) rfl).trans ?_
  refine (tz_g_iload_n rfl (tz_in0 rfl)).trans ?_
  refine (tz_g_iconst (v := 1) rfl (tz_in0 rfl)).trans ?_
  refine (tz_g_sipush (v := 500) rfl (tz_in0 rfl)).trans ?_
  refine (tz_g_cs3I (m2 := 165) (rc := 4) rfl rfl rfl rfl rfl rfl (by decide) (tz_in0 rfl)).trans ?_
  refine tz_jI (fun y1 A1 => ?_)
  refine (tz_g_if_ne (t := 18) (by decide) (tz_in0 rfl)).trans ?_
  refine tz_cg ?_ ?_
  · skip
    refine (tz_g_aload_n rfl (tz_in0 rfl)).trans ?_
    refine (tz_g_cv0I (m2 := 234) (rc := 1) rfl rfl rfl rfl rfl rfl (by decide) (tz_in0 rfl)).trans ?_
    refine tz_jI (fun y2 A2 => ?_)
    refine (tz_g_istore_n (L2 := [some (.ref 157), some (.int x1), some (.int y2), none]) rfl rfl (tz_in0 rfl)).trans ?_
    refine (tz_g_iconst (v := 0) rfl (tz_in0 rfl)).trans ?_
    refine (tz_g_istore_n (L2 := [some (.ref 157), some (.int x1), some (.int y2), some (.int 0)]) rfl rfl (tz_in0 rfl)).trans ?_
    exact tz_Gm (L2 := [some (.ref 157), some (.int x1), some (.int y2), some (.int 0)]) rfl rfl rfl rfl
  · skip
    refine (tz_g_aload_n rfl (tz_in0 rfl)).trans ?_
    refine (tz_g_bipush (v := (-6)) rfl (tz_in0 rfl)).trans ?_
    refine (tz_g_cv1I (m2 := 166) (rc := 1) rfl rfl rfl rfl rfl rfl (by decide) (tz_in0 rfl)).trans ?_
    refine tz_jI (fun y2 A2 => ?_)
    exact tz_g_ret1 (tz_in0 rfl) rfl

theorem e_X12_hours_25 (z1 : Int32) (z2 : Int32) (z3 : Int32) (A : tz_Mem) : q_X12_hours_25 z1 z2 z3 A =
  if z1 ≤ z3 then
  tz_bI (f_X12_there A) (fun y1 A1 =>
  some (some (.int (y1 - z2)), A1))
else
  tz_bV (f_X12_goOn A) (fun A1 =>
  q_X12_hours_25 z1 z2 (z3 + 1) A1) := by
  show tz_Go 233 25 [some (.ref 157), some (.int z1), some (.int z2), some (.int z3)] [] A = _
  refine (tz_g_iload_n rfl (tz_inM rfl rfl rfl)).trans ?_
  refine (tz_g_iload_n rfl (tz_in0 rfl)).trans ?_
  refine (tz_g_ic_ge (t := 40) (by decide) (tz_in0 rfl)).trans ?_
  refine tz_cg ?_ ?_
  · skip
    refine (tz_g_aload_n rfl (tz_in0 rfl)).trans ?_
    refine (tz_g_cv0I (m2 := 234) (rc := 1) rfl rfl rfl rfl rfl rfl (by decide) (tz_in0 rfl)).trans ?_
    refine tz_jI (fun y1 A1 => ?_)
    refine (tz_g_iload_n rfl (tz_in0 rfl)).trans ?_
    refine (tz_g_isub (tz_in0 rfl)).trans ?_
    exact tz_g_ret1 (tz_in0 rfl) rfl
  · skip
    refine (tz_g_aload_n rfl (tz_in0 rfl)).trans ?_
    refine (tz_g_cv0V (m2 := 202) (rc := 0) rfl rfl rfl rfl rfl rfl (by decide) (tz_in0 rfl)).trans ?_
    refine tz_jV (fun A1 => ?_)
    refine (tz_g_iinc (v := 1) (L2 := [some (.ref 157), some (.int z1), some (.int z2), some (.int (z3 + 1))]) rfl rfl rfl rfl (tz_in0 rfl)).trans ?_
    refine (tz_g_goto (t := 25) (by decide) (tz_in0 rfl)).trans ?_
    exact tz_Gm (L2 := [some (.ref 157), some (.int z1), some (.int z2), some (.int (z3 + 1))]) rfl rfl rfl rfl

theorem e_X7_readItem (A : tz_Mem) : f_X7_readItem A =
  tz_bI (f_X7_readWord A) (fun y1 A1 =>
if (tz_g A1 122 0) = (-1) then
  tz_bI (f_X7_hasRoomFor y1 A1) (fun y2 A2 =>
  if ¬ y2 = 0 then
    if y1 = 0 then
      tz_bV (f_X7_readHill A2) (fun A3 =>
      some (none, A3))
    else if y1 = 1 then
      tz_bV (f_X7_readStorm A2) (fun A3 =>
      some (none, A3))
    else if y1 = 2 then
      tz_bV (f_X7_readLetter A2) (fun A3 =>
      some (none, A3))
    else if y1 = 3 then
      tz_bV (f_X7_readHour A2) (fun A3 =>
      some (none, A3))
    else tz_bV (f_X7_readBurn A2) (fun A3 =>
    some (none, A3))
  else
    some (none, (tz_s A2 122 0 (tz_g A 122 5))))
else
  some (none, A1)) := by
  refine (tz_Fe (L := [some (.ref 122), none, none]) rfl).trans ?_
  refine (tz_g_aload_n rfl (tz_in0 rfl)).trans ?_
  refine (tz_g_geti rfl rfl rfl (tz_in0 rfl)).trans ?_
  refine (tz_g_istore_n (L2 := [some (.ref 122), some (.int (tz_g A 122 5)), none]) rfl rfl (tz_in0 rfl)).trans ?_
  refine (tz_g_aload_n rfl (tz_in0 rfl)).trans ?_
  refine (tz_g_cv0I (m2 := 73) (rc := 1) rfl rfl rfl rfl rfl rfl (by decide) (tz_in0 rfl)).trans ?_
  refine tz_jI (fun y1 A1 => ?_)
  refine (tz_g_istore_n (L2 := [some (.ref 122), some (.int (tz_g A 122 5)), some (.int y1)]) rfl rfl (tz_in0 rfl)).trans ?_
  refine (tz_g_aload_n rfl (tz_in0 rfl)).trans ?_
  refine (tz_g_geti rfl rfl rfl (tz_in0 rfl)).trans ?_
  refine (tz_g_iconst (v := (-1)) rfl (tz_in0 rfl)).trans ?_
  refine (tz_g_ic_eq (t := 19) (by decide) (tz_in0 rfl)).trans ?_
  refine tz_cg ?_ ?_
  · skip
    refine (tz_g_aload_n rfl (tz_in0 rfl)).trans ?_
    refine (tz_g_iload_n rfl (tz_in0 rfl)).trans ?_
    refine (tz_g_cv1I (m2 := 83) (rc := 4) rfl rfl rfl rfl rfl rfl (by decide) (tz_in0 rfl)).trans ?_
    refine tz_jI (fun y2 A2 => ?_)
    refine (tz_g_if_ne (t := 33) (by decide) (tz_in0 rfl)).trans ?_
    refine tz_cg ?_ ?_
    · skip
      refine (tz_g_iload_n rfl (tz_in0 rfl)).trans ?_
      refine (tz_g_tsw (by decide) (tz_in0 rfl)).trans ?_
      refine tz_swc (v := 0) (by decide) ?_ ?_
      · refine (tz_tg (t := 64) (by decide)).trans ?_
        refine (tz_g_aload_n rfl (tz_in0 rfl)).trans ?_
        refine (tz_g_cv0V (m2 := 84) (rc := 0) rfl rfl rfl rfl rfl rfl (by decide) (tz_in0 rfl)).trans ?_
        refine tz_jV (fun A3 => ?_)
        refine (tz_g_goto (t := 96) (by decide) (tz_in0 rfl)).trans ?_
        exact tz_g_ret0 (tz_in0 rfl) rfl
      refine tz_swc (v := 1) (by decide) ?_ ?_
      · refine (tz_tg (t := 71) (by decide)).trans ?_
        refine (tz_g_aload_n rfl (tz_in0 rfl)).trans ?_
        refine (tz_g_cv0V (m2 := 88) (rc := 0) rfl rfl rfl rfl rfl rfl (by decide) (tz_in0 rfl)).trans ?_
        refine tz_jV (fun A3 => ?_)
        refine (tz_g_goto (t := 96) (by decide) (tz_in0 rfl)).trans ?_
        exact tz_g_ret0 (tz_in0 rfl) rfl
      refine tz_swc (v := 2) (by decide) ?_ ?_
      · refine (tz_tg (t := 78) (by decide)).trans ?_
        refine (tz_g_aload_n rfl (tz_in0 rfl)).trans ?_
        refine (tz_g_cv0V (m2 := 91) (rc := 0) rfl rfl rfl rfl rfl rfl (by decide) (tz_in0 rfl)).trans ?_
        refine tz_jV (fun A3 => ?_)
        refine (tz_g_goto (t := 96) (by decide) (tz_in0 rfl)).trans ?_
        exact tz_g_ret0 (tz_in0 rfl) rfl
      refine tz_swc (v := 3) (by decide) ?_ ?_
      · refine (tz_tg (t := 85) (by decide)).trans ?_
        refine (tz_g_aload_n rfl (tz_in0 rfl)).trans ?_
        refine (tz_g_cv0V (m2 := 92) (rc := 0) rfl rfl rfl rfl rfl rfl (by decide) (tz_in0 rfl)).trans ?_
        refine tz_jV (fun A3 => ?_)
        refine (tz_g_goto (t := 96) (by decide) (tz_in0 rfl)).trans ?_
        exact tz_g_ret0 (tz_in0 rfl) rfl
      refine tz_swd ?_
      refine (tz_tg (t := 92) (by decide)).trans ?_
      refine (tz_g_aload_n rfl (tz_in0 rfl)).trans ?_
      refine (tz_g_cv0V (m2 := 104) (rc := 0) rfl rfl rfl rfl rfl rfl (by decide) (tz_in0 rfl)).trans ?_
      refine tz_jV (fun A3 => ?_)
      exact tz_g_ret0 (tz_in0 rfl) rfl
    · skip
      refine (tz_g_aload_n rfl (tz_in0 rfl)).trans ?_
      refine (tz_g_iload_n rfl (tz_in0 rfl)).trans ?_
      refine (tz_g_puti rfl rfl rfl (tz_in0 rfl)).trans ?_
      exact tz_g_ret0 (tz_in0 rfl) rfl
  · skip
    exact tz_g_ret0 (tz_in0 rfl) rfl

theorem e_X11_behind (x1 : Int32) (x2 : Int32) (x3 : Int32) (A : tz_Mem) : f_X11_behind x1 x2 x3 A =
  tz_bI (f_X4_has 30 x1 A) (fun y1 A1 =>
if y1 = 0 then
  tz_bI (f_X11_refuse (-5) A1) (fun y2 A2 =>
  some (some (.int y2), A2))
else
  tz_bI (f_X11_isOneOfTwo x3 A1) (fun y2 A2 =>
  if ¬ y2 = 0 then
    if x2 < 0 then
      tz_bI (f_X11_refuse (-6) A2) (fun y3 A3 =>
      some (some (.int y3), A3))
    else
      if x2 ≤ 500 then
        tz_bV (f_X9_become 76 30 A2) (fun A3 =>
        tz_bV (f_X9_pass 76 x2 A3) (fun A4 =>
        if ¬ x3 = 0 then
          if x1 < 0 ∨ 12 ≤ (Int32.toNatClampNeg x1) then none else
          some (some (.int (tz_g A4 92 (Int32.toNatClampNeg x1))), A4)
        else
          if x1 < 0 ∨ 12 ≤ (Int32.toNatClampNeg x1) then none else
          some (some (.int (tz_g A4 96 (Int32.toNatClampNeg x1))), A4)))
      else
        tz_bI (f_X11_refuse (-6) A2) (fun y3 A3 =>
        some (some (.int y3), A3))
  else
    tz_bI (f_X11_refuse (-5) A2) (fun y3 A3 =>
    some (some (.int y3), A3)))) := by
  refine (tz_Fe (L := [some (.ref 17), some (.int x1), some (.int x2), some (.int x3)]) rfl).trans ?_
  refine (tz_g_aload_n rfl (tz_in0 rfl)).trans ?_
  refine (tz_g_getr (j := 30) rfl rfl rfl rfl rfl (tz_in0 rfl)).trans ?_
  refine (tz_g_getr (j := 45) rfl rfl rfl rfl rfl (tz_in0 rfl)).trans ?_
  refine (tz_g_iload_n rfl (tz_in0 rfl)).trans ?_
  refine (tz_g_cv1I (m2 := 62) (rc := 4) rfl rfl rfl rfl rfl rfl (by decide) (tz_in0 rfl)).trans ?_
  refine tz_jI (fun y1 A1 => ?_)
  refine (tz_g_if_eq (t := 21) (by decide) (tz_in0 rfl)).trans ?_
  refine tz_cg ?_ ?_
  · skip
    refine (tz_g_aload_n rfl (tz_in0 rfl)).trans ?_
    refine (tz_g_bipush (v := (-5)) rfl (tz_in0 rfl)).trans ?_
    refine (tz_g_cv1I (m2 := 15) (rc := 1) rfl rfl rfl rfl rfl rfl (by decide) (tz_in0 rfl)).trans ?_
    refine tz_jI (fun y2 A2 => ?_)
    exact tz_g_ret1 (tz_in0 rfl) rfl
  · skip
    refine (tz_g_iload_n rfl (tz_in0 rfl)).trans ?_
    refine (tz_g_cs1I (m2 := 109) (rc := 4) rfl rfl rfl rfl rfl rfl (by decide) (tz_in0 rfl)).trans ?_
    refine tz_jI (fun y2 A2 => ?_)
    refine (tz_g_if_ne (t := 28) (by decide) (tz_in0 rfl)).trans ?_
    refine tz_cg ?_ ?_
    · skip
      refine (tz_g_iload_n rfl (tz_in0 rfl)).trans ?_
      refine (tz_g_if_lt (t := 39) (by decide) (tz_in0 rfl)).trans ?_
      refine tz_cg ?_ ?_
      · skip
        refine (tz_g_aload_n rfl (tz_in0 rfl)).trans ?_
        refine (tz_g_bipush (v := (-6)) rfl (tz_in0 rfl)).trans ?_
        refine (tz_g_cv1I (m2 := 15) (rc := 1) rfl rfl rfl rfl rfl rfl (by decide) (tz_in0 rfl)).trans ?_
        refine tz_jI (fun y3 A3 => ?_)
        exact tz_g_ret1 (tz_in0 rfl) rfl
      · skip
        refine (tz_g_iload_n rfl (tz_in0 rfl)).trans ?_
        refine (tz_g_sipush (v := 500) rfl (tz_in0 rfl)).trans ?_
        refine (tz_g_ic_le (t := 46) (by decide) (tz_in0 rfl)).trans ?_
        refine tz_cg ?_ ?_
        · skip
          refine (tz_g_aload_n rfl (tz_in0 rfl)).trans ?_
          refine (tz_g_getr (j := 76) rfl rfl rfl rfl rfl (tz_in0 rfl)).trans ?_
          refine (tz_g_aload_n rfl (tz_in0 rfl)).trans ?_
          refine (tz_g_getr (j := 30) rfl rfl rfl rfl rfl (tz_in0 rfl)).trans ?_
          refine (tz_g_cv1V (m2 := 68) (rc := 0) rfl rfl rfl rfl rfl rfl (by decide) (tz_in0 rfl)).trans ?_
          refine tz_jV (fun A3 => ?_)
          refine (tz_g_aload_n rfl (tz_in0 rfl)).trans ?_
          refine (tz_g_getr (j := 76) rfl rfl rfl rfl rfl (tz_in0 rfl)).trans ?_
          refine (tz_g_iload_n rfl (tz_in0 rfl)).trans ?_
          refine (tz_g_cv1V (m2 := 110) (rc := 0) rfl rfl rfl rfl rfl rfl (by decide) (tz_in0 rfl)).trans ?_
          refine tz_jV (fun A4 => ?_)
          refine (tz_g_iload_n rfl (tz_in0 rfl)).trans ?_
          refine (tz_g_if_ne (t := 84) (by decide) (tz_in0 rfl)).trans ?_
          refine tz_cg ?_ ?_
          · skip
            refine (tz_g_aload_n rfl (tz_in0 rfl)).trans ?_
            refine (tz_g_getr (j := 76) rfl rfl rfl rfl rfl (tz_in0 rfl)).trans ?_
            refine (tz_g_getr (j := 91) rfl rfl rfl rfl rfl (tz_in0 rfl)).trans ?_
            refine (tz_g_getr (j := 92) rfl rfl rfl rfl rfl (tz_in0 rfl)).trans ?_
            refine (tz_g_iload_n rfl (tz_in0 rfl)).trans ?_
            refine (tz_g_iald (n := 12) rfl rfl rfl (tz_in0 rfl)).trans ?_
            refine tz_cn1 ?_
            exact tz_g_ret1 (tz_in0 rfl) rfl
          · skip
            refine (tz_g_aload_n rfl (tz_in0 rfl)).trans ?_
            refine (tz_g_getr (j := 76) rfl rfl rfl rfl rfl (tz_in0 rfl)).trans ?_
            refine (tz_g_getr (j := 91) rfl rfl rfl rfl rfl (tz_in0 rfl)).trans ?_
            refine (tz_g_getr (j := 96) rfl rfl rfl rfl rfl (tz_in0 rfl)).trans ?_
            refine (tz_g_iload_n rfl (tz_in0 rfl)).trans ?_
            refine (tz_g_iald (n := 12) rfl rfl rfl (tz_in0 rfl)).trans ?_
            refine tz_cn1 ?_
            refine (tz_g_goto (t := 96) (by decide) (tz_in0 rfl)).trans ?_
            exact tz_g_ret1 (tz_in0 rfl) rfl
        · skip
          refine (tz_g_aload_n rfl (tz_in0 rfl)).trans ?_
          refine (tz_g_bipush (v := (-6)) rfl (tz_in0 rfl)).trans ?_
          refine (tz_g_cv1I (m2 := 15) (rc := 1) rfl rfl rfl rfl rfl rfl (by decide) (tz_in0 rfl)).trans ?_
          refine tz_jI (fun y3 A3 => ?_)
          exact tz_g_ret1 (tz_in0 rfl) rfl
    · skip
      refine (tz_g_aload_n rfl (tz_in0 rfl)).trans ?_
      refine (tz_g_bipush (v := (-5)) rfl (tz_in0 rfl)).trans ?_
      refine (tz_g_cv1I (m2 := 15) (rc := 1) rfl rfl rfl rfl rfl rfl (by decide) (tz_in0 rfl)).trans ?_
      refine tz_jI (fun y3 A3 => ?_)
      exact tz_g_ret1 (tz_in0 rfl) rfl

theorem e_X11_arrivalWithout (x1 : Int32) (x2 : Int32) (A : tz_Mem) : f_X11_arrivalWithout x1 x2 A =
  tz_bV (f_X9_become 76 30 A) (fun A1 =>
tz_bI (f_X9_arrival 76 x1 2147483647 (tz_s A1 76 6 x2)) (fun y2 A2 =>
some (some (.int y2), A2))) := by
  refine (tz_Fe (L := [some (.ref 17), some (.int x1), some (.int x2)]) rfl).trans ?_
  refine (tz_g_aload_n rfl (tz_in0 rfl)).trans ?_
  refine (tz_g_getr (j := 76) rfl rfl rfl rfl rfl (tz_in0 rfl)).trans ?_
  refine (tz_g_aload_n rfl (tz_in0 rfl)).trans ?_
  refine (tz_g_getr (j := 30) rfl rfl rfl rfl rfl (tz_in0 rfl)).trans ?_
  refine (tz_g_cv1V (m2 := 68) (rc := 0) rfl rfl rfl rfl rfl rfl (by decide) (tz_in0 rfl)).trans ?_
  refine tz_jV (fun A1 => ?_)
  refine (tz_g_aload_n rfl (tz_in0 rfl)).trans ?_
  refine (tz_g_getr (j := 76) rfl rfl rfl rfl rfl (tz_in0 rfl)).trans ?_
  refine (tz_g_iload_n rfl (tz_in0 rfl)).trans ?_
  refine (tz_g_puti rfl rfl rfl (tz_in0 rfl)).trans ?_
  refine (tz_g_aload_n rfl (tz_in0 rfl)).trans ?_
  refine (tz_g_getr (j := 76) rfl rfl rfl rfl rfl (tz_in0 rfl)).trans ?_
  refine (tz_g_iload_n rfl (tz_in0 rfl)).trans ?_
  refine (tz_g_ldc_w (v := 2147483647) rfl rfl (tz_in0 rfl)).trans ?_
  refine (tz_g_cv2I (m2 := 114) (rc := 1) rfl rfl rfl rfl rfl rfl (by decide) (tz_in0 rfl)).trans ?_
  refine tz_jI (fun y2 A2 => ?_)
  exact tz_g_ret1 (tz_in0 rfl) rfl

theorem e_X11_handIn (x1 : Int32) (x2 : Int32) (x3 : Int32) (x4 : Int32) (x5 : Int32) (A : tz_Mem) : f_X11_handIn x1 x2 x3 x4 x5 A =
  tz_bI (f_X11_refusalOfLetter x1 x2 x3 x4 A) (fun y1 A1 =>
if y1 = (-1) then
  if y1 = 0 then
    tz_bV (f_X9_become 76 30 A1) (fun A2 =>
    tz_bV (f_X9_pass 76 x5 A2) (fun A3 =>
    tz_bI (f_X9_addLetter 76 x1 x2 x3 x4 A3) (fun y4 A4 =>
    tz_bI (f_X9_arrival 76 y4 2147483647 A4) (fun y5 A5 =>
    some (some (.int y5), A5)))))
  else
    tz_bI (f_X11_refuseLower y1 A1) (fun y2 A2 =>
    some (some (.int y2), A2))
else
  if x5 < 0 then
    tz_bI (f_X11_refuseLower (-6) A1) (fun y2 A2 =>
    some (some (.int y2), A2))
  else
    if x5 ≤ 99 then
      if y1 = 0 then
        tz_bV (f_X9_become 76 30 A1) (fun A2 =>
        tz_bV (f_X9_pass 76 x5 A2) (fun A3 =>
        tz_bI (f_X9_addLetter 76 x1 x2 x3 x4 A3) (fun y4 A4 =>
        tz_bI (f_X9_arrival 76 y4 2147483647 A4) (fun y5 A5 =>
        some (some (.int y5), A5)))))
      else
        tz_bI (f_X11_refuseLower y1 A1) (fun y2 A2 =>
        some (some (.int y2), A2))
    else
      tz_bI (f_X11_refuseLower (-6) A1) (fun y2 A2 =>
      some (some (.int y2), A2))) := by
  refine (tz_Fe (L := [some (.ref 17), some (.int x1), some (.int x2), some (.int x3), some (.int x4), some (.int x5), none]) rfl).trans ?_
  refine (tz_g_aload_n rfl (tz_in0 rfl)).trans ?_
  refine (tz_g_iload_n rfl (tz_in0 rfl)).trans ?_
  refine (tz_g_iload_n rfl (tz_in0 rfl)).trans ?_
  refine (tz_g_iload_n rfl (tz_in0 rfl)).trans ?_
  refine (tz_g_iload rfl (tz_in0 rfl)).trans ?_
  refine (tz_g_cv4I (m2 := 49) (rc := 1) rfl rfl rfl rfl rfl rfl (by decide) (tz_in0 rfl)).trans ?_
  refine tz_jI (fun y1 A1 => ?_)
  refine (tz_g_istore (L2 := [some (.ref 17), some (.int x1), some (.int x2), some (.int x3), some (.int x4), some (.int x5), some (.int y1)]) rfl rfl (tz_in0 rfl)).trans ?_
  refine (tz_g_iload rfl (tz_in0 rfl)).trans ?_
  refine (tz_g_iconst (v := (-1)) rfl (tz_in0 rfl)).trans ?_
  refine (tz_g_ic_eq (t := 33) (by decide) (tz_in0 rfl)).trans ?_
  refine tz_cg ?_ ?_
  · skip
    refine (tz_g_iload rfl (tz_in0 rfl)).trans ?_
    refine (tz_g_if_eq (t := 45) (by decide) (tz_in0 rfl)).trans ?_
    refine tz_cg ?_ ?_
    · skip
      refine (tz_g_aload_n rfl (tz_in0 rfl)).trans ?_
      refine (tz_g_getr (j := 76) rfl rfl rfl rfl rfl (tz_in0 rfl)).trans ?_
      refine (tz_g_aload_n rfl (tz_in0 rfl)).trans ?_
      refine (tz_g_getr (j := 30) rfl rfl rfl rfl rfl (tz_in0 rfl)).trans ?_
      refine (tz_g_cv1V (m2 := 68) (rc := 0) rfl rfl rfl rfl rfl rfl (by decide) (tz_in0 rfl)).trans ?_
      refine tz_jV (fun A2 => ?_)
      refine (tz_g_aload_n rfl (tz_in0 rfl)).trans ?_
      refine (tz_g_getr (j := 76) rfl rfl rfl rfl rfl (tz_in0 rfl)).trans ?_
      refine (tz_g_iload rfl (tz_in0 rfl)).trans ?_
      refine (tz_g_cv1V (m2 := 110) (rc := 0) rfl rfl rfl rfl rfl rfl (by decide) (tz_in0 rfl)).trans ?_
      refine tz_jV (fun A3 => ?_)
      refine (tz_g_aload_n rfl (tz_in0 rfl)).trans ?_
      refine (tz_g_getr (j := 76) rfl rfl rfl rfl rfl (tz_in0 rfl)).trans ?_
      refine (tz_g_aload_n rfl (tz_in0 rfl)).trans ?_
      refine (tz_g_getr (j := 76) rfl rfl rfl rfl rfl (tz_in0 rfl)).trans ?_
      refine (tz_g_iload_n rfl (tz_in0 rfl)).trans ?_
      refine (tz_g_iload_n rfl (tz_in0 rfl)).trans ?_
      refine (tz_g_iload_n rfl (tz_in0 rfl)).trans ?_
      refine (tz_g_iload rfl (tz_in0 rfl)).trans ?_
      refine (tz_g_cv4I (m2 := 52) (rc := 1) rfl rfl rfl rfl rfl rfl (by decide) (tz_in0 rfl)).trans ?_
      refine tz_jI (fun y4 A4 => ?_)
      refine (tz_g_ldc_w (v := 2147483647) rfl rfl (tz_in0 rfl)).trans ?_
      refine (tz_g_cv2I (m2 := 114) (rc := 1) rfl rfl rfl rfl rfl rfl (by decide) (tz_in0 rfl)).trans ?_
      refine tz_jI (fun y5 A5 => ?_)
      exact tz_g_ret1 (tz_in0 rfl) rfl
    · skip
      refine (tz_g_aload_n rfl (tz_in0 rfl)).trans ?_
      refine (tz_g_iload rfl (tz_in0 rfl)).trans ?_
      refine (tz_g_cv1I (m2 := 112) (rc := 1) rfl rfl rfl rfl rfl rfl (by decide) (tz_in0 rfl)).trans ?_
      refine tz_jI (fun y2 A2 => ?_)
      exact tz_g_ret1 (tz_in0 rfl) rfl
  · skip
    refine (tz_g_iload rfl (tz_in0 rfl)).trans ?_
    refine (tz_g_if_lt (t := 29) (by decide) (tz_in0 rfl)).trans ?_
    refine tz_cg ?_ ?_
    · skip
      refine (tz_g_bipush (v := (-6)) rfl (tz_in0 rfl)).trans ?_
      refine (tz_g_istore (L2 := [some (.ref 17), some (.int x1), some (.int x2), some (.int x3), some (.int x4), some (.int x5), some (.int (-6))]) rfl rfl (tz_in0 rfl)).trans ?_
      refine (tz_g_iload rfl (tz_in0 rfl)).trans ?_
      refine (tz_g_if_eq (t := 45) (by decide) (tz_in0 rfl)).trans ?_
      refine (if_neg (by decide)).trans ?_
      refine (tz_g_aload_n rfl (tz_in0 rfl)).trans ?_
      refine (tz_g_iload rfl (tz_in0 rfl)).trans ?_
      refine (tz_g_cv1I (m2 := 112) (rc := 1) rfl rfl rfl rfl rfl rfl (by decide) (tz_in0 rfl)).trans ?_
      refine tz_jI (fun y2 A2 => ?_)
      exact tz_g_ret1 (tz_in0 rfl) rfl
    · skip
      refine (tz_g_iload rfl (tz_in0 rfl)).trans ?_
      refine (tz_g_bipush (v := 99) rfl (tz_in0 rfl)).trans ?_
      refine (tz_g_ic_le (t := 33) (by decide) (tz_in0 rfl)).trans ?_
      refine tz_cg ?_ ?_
      · skip
        refine (tz_g_iload rfl (tz_in0 rfl)).trans ?_
        refine (tz_g_if_eq (t := 45) (by decide) (tz_in0 rfl)).trans ?_
        refine tz_cg ?_ ?_
        · skip
          refine (tz_g_aload_n rfl (tz_in0 rfl)).trans ?_
          refine (tz_g_getr (j := 76) rfl rfl rfl rfl rfl (tz_in0 rfl)).trans ?_
          refine (tz_g_aload_n rfl (tz_in0 rfl)).trans ?_
          refine (tz_g_getr (j := 30) rfl rfl rfl rfl rfl (tz_in0 rfl)).trans ?_
          refine (tz_g_cv1V (m2 := 68) (rc := 0) rfl rfl rfl rfl rfl rfl (by decide) (tz_in0 rfl)).trans ?_
          refine tz_jV (fun A2 => ?_)
          refine (tz_g_aload_n rfl (tz_in0 rfl)).trans ?_
          refine (tz_g_getr (j := 76) rfl rfl rfl rfl rfl (tz_in0 rfl)).trans ?_
          refine (tz_g_iload rfl (tz_in0 rfl)).trans ?_
          refine (tz_g_cv1V (m2 := 110) (rc := 0) rfl rfl rfl rfl rfl rfl (by decide) (tz_in0 rfl)).trans ?_
          refine tz_jV (fun A3 => ?_)
          refine (tz_g_aload_n rfl (tz_in0 rfl)).trans ?_
          refine (tz_g_getr (j := 76) rfl rfl rfl rfl rfl (tz_in0 rfl)).trans ?_
          refine (tz_g_aload_n rfl (tz_in0 rfl)).trans ?_
          refine (tz_g_getr (j := 76) rfl rfl rfl rfl rfl (tz_in0 rfl)).trans ?_
          refine (tz_g_iload_n rfl (tz_in0 rfl)).trans ?_
          refine (tz_g_iload_n rfl (tz_in0 rfl)).trans ?_
          refine (tz_g_iload_n rfl (tz_in0 rfl)).trans ?_
          refine (tz_g_iload rfl (tz_in0 rfl)).trans ?_
          refine (tz_g_cv4I (m2 := 52) (rc := 1) rfl rfl rfl rfl rfl rfl (by decide) (tz_in0 rfl)).trans ?_
          refine tz_jI (fun y4 A4 => ?_)
          refine (tz_g_ldc_w (v := 2147483647) rfl rfl (tz_in0 rfl)).trans ?_
          refine (tz_g_cv2I (m2 := 114) (rc := 1) rfl rfl rfl rfl rfl rfl (by decide) (tz_in0 rfl)).trans ?_
          refine tz_jI (fun y5 A5 => ?_)
          exact tz_g_ret1 (tz_in0 rfl) rfl
        · skip
          refine (tz_g_aload_n rfl (tz_in0 rfl)).trans ?_
          refine (tz_g_iload rfl (tz_in0 rfl)).trans ?_
          refine (tz_g_cv1I (m2 := 112) (rc := 1) rfl rfl rfl rfl rfl rfl (by decide) (tz_in0 rfl)).trans ?_
          refine tz_jI (fun y2 A2 => ?_)
          exact tz_g_ret1 (tz_in0 rfl) rfl
      · skip
        refine (tz_g_bipush (v := (-6)) rfl (tz_in0 rfl)).trans ?_
        refine (tz_g_istore (L2 := [some (.ref 17), some (.int x1), some (.int x2), some (.int x3), some (.int x4), some (.int x5), some (.int (-6))]) rfl rfl (tz_in0 rfl)).trans ?_
        refine (tz_g_iload rfl (tz_in0 rfl)).trans ?_
        refine (tz_g_if_eq (t := 45) (by decide) (tz_in0 rfl)).trans ?_
        refine (if_neg (by decide)).trans ?_
        refine (tz_g_aload_n rfl (tz_in0 rfl)).trans ?_
        refine (tz_g_iload rfl (tz_in0 rfl)).trans ?_
        refine (tz_g_cv1I (m2 := 112) (rc := 1) rfl rfl rfl rfl rfl rfl (by decide) (tz_in0 rfl)).trans ?_
        refine tz_jI (fun y2 A2 => ?_)
        exact tz_g_ret1 (tz_in0 rfl) rfl

theorem e_X11_latest (x1 : Int32) (x2 : Int32) (x3 : Int32) (x4 : Int32) (A : tz_Mem) : f_X11_latest x1 x2 x3 x4 A =
  tz_bI (f_X11_refusalOfLetter 0 x1 x2 x3 A) (fun y1 A1 =>
if y1 = 0 then
  tz_bV (f_X9_become 99 30 A1) (fun A2 =>
  q_X11_latest_39 x1 x2 x3 x4 (-1) 0 A2)
else
  tz_bI (f_X11_refuseLower y1 A1) (fun y2 A2 =>
  some (some (.int y2), A2))) := by
  refine (tz_Fe (L := [some (.ref 17), some (.int x1), some (.int x2), some (.int x3), some (.int x4), none, none, none]) rfl).trans ?_
  refine (tz_g_aload_n rfl (tz_in0 rfl)).trans ?_
  refine (tz_g_iconst (v := 0) rfl (tz_in0 rfl)).trans ?_
  refine (tz_g_iload_n rfl (tz_in0 rfl)).trans ?_
  refine (tz_g_iload_n rfl (tz_in0 rfl)).trans ?_
  refine (tz_g_iload_n rfl (tz_in0 rfl)).trans ?_
  refine (tz_g_cv4I (m2 := 49) (rc := 1) rfl rfl rfl rfl rfl rfl (by decide) (tz_in0 rfl)).trans ?_
  refine tz_jI (fun y1 A1 => ?_)
  refine (tz_g_istore (L2 := [some (.ref 17), some (.int x1), some (.int x2), some (.int x3), some (.int x4), some (.int y1), none, none]) rfl rfl (tz_in0 rfl)).trans ?_
  refine (tz_g_iload rfl (tz_in0 rfl)).trans ?_
  refine (tz_g_if_eq (t := 22) (by decide) (tz_in0 rfl)).trans ?_
  refine tz_cg ?_ ?_
  · skip
    refine (tz_g_iconst (v := (-1)) rfl (tz_in0 rfl)).trans ?_
    refine (tz_g_istore (L2 := [some (.ref 17), some (.int x1), some (.int x2), some (.int x3), some (.int x4), some (.int y1), some (.int (-1)), none]) rfl rfl (tz_in0 rfl)).trans ?_
    refine (tz_g_aload_n rfl (tz_in0 rfl)).trans ?_
    refine (tz_g_getr (j := 99) rfl rfl rfl rfl rfl (tz_in0 rfl)).trans ?_
    refine (tz_g_aload_n rfl (tz_in0 rfl)).trans ?_
    refine (tz_g_getr (j := 30) rfl rfl rfl rfl rfl (tz_in0 rfl)).trans ?_
    refine (tz_g_cv1V (m2 := 68) (rc := 0) rfl rfl rfl rfl rfl rfl (by decide) (tz_in0 rfl)).trans ?_
    refine tz_jV (fun A2 => ?_)
    refine (tz_g_iconst (v := 0) rfl (tz_in0 rfl)).trans ?_
    refine (tz_g_istore (L2 := [some (.ref 17), some (.int x1), some (.int x2), some (.int x3), some (.int x4), some (.int y1), some (.int (-1)), some (.int 0)]) rfl rfl (tz_in0 rfl)).trans ?_
    exact tz_Gm (L2 := [some (.ref 17), some (.int x1), some (.int x2), some (.int x3), some (.int x4), none, some (.int (-1)), some (.int 0)]) rfl rfl rfl rfl
  · skip
    refine (tz_g_aload_n rfl (tz_in0 rfl)).trans ?_
    refine (tz_g_iload rfl (tz_in0 rfl)).trans ?_
    refine (tz_g_cv1I (m2 := 112) (rc := 1) rfl rfl rfl rfl rfl rfl (by decide) (tz_in0 rfl)).trans ?_
    refine tz_jI (fun y2 A2 => ?_)
    exact tz_g_ret1 (tz_in0 rfl) rfl

theorem e_X11_latest_39 (z1 : Int32) (z2 : Int32) (z3 : Int32) (z4 : Int32) (z6 : Int32) (z7 : Int32) (A : tz_Mem) : q_X11_latest_39 z1 z2 z3 z4 z6 z7 A =
  if 99 < z7 then
  some (some (.int z6), A)
else
  if z4 ≤ (tz_g A 99 3) then
    some (some (.int z6), A)
  else
    tz_bV (f_X9_become 76 99 A) (fun A1 =>
    tz_bI (f_X9_addLetter 76 0 z1 z2 z3 A1) (fun y2 A2 =>
    tz_bI (f_X9_arrival 76 y2 z4 A2) (fun y3 A3 =>
    if y3 = (-1) then
      tz_bV (f_X9_tick 99 A3) (fun A4 =>
      q_X11_latest_39 z1 z2 z3 z4 z6 (z7 + 1) A4)
    else
      tz_bV (f_X9_tick 99 A3) (fun A4 =>
      q_X11_latest_39 z1 z2 z3 z4 z7 (z7 + 1) A4)))) := by
  show tz_Go 117 39 [some (.ref 17), some (.int z1), some (.int z2), some (.int z3), some (.int z4), none, some (.int z6), some (.int z7)] [] A = _
  refine (tz_g_iload rfl (tz_inM rfl rfl rfl)).trans ?_
  refine (tz_g_bipush (v := 99) rfl (tz_in0 rfl)).trans ?_
  refine (tz_g_ic_gt (t := 110) (by decide) (tz_in0 rfl)).trans ?_
  refine tz_cg ?_ ?_
  · skip
    refine (tz_g_iload rfl (tz_in0 rfl)).trans ?_
    exact tz_g_ret1 (tz_in0 rfl) rfl
  · skip
    refine (tz_g_aload_n rfl (tz_in0 rfl)).trans ?_
    refine (tz_g_getr (j := 99) rfl rfl rfl rfl rfl (tz_in0 rfl)).trans ?_
    refine (tz_g_geti rfl rfl rfl (tz_in0 rfl)).trans ?_
    refine (tz_g_iload rfl (tz_in0 rfl)).trans ?_
    refine (tz_g_ic_ge (t := 110) (by decide) (tz_in0 rfl)).trans ?_
    refine tz_cg ?_ ?_
    · skip
      refine (tz_g_iload rfl (tz_in0 rfl)).trans ?_
      exact tz_g_ret1 (tz_in0 rfl) rfl
    · skip
      refine (tz_g_aload_n rfl (tz_in0 rfl)).trans ?_
      refine (tz_g_getr (j := 76) rfl rfl rfl rfl rfl (tz_in0 rfl)).trans ?_
      refine (tz_g_aload_n rfl (tz_in0 rfl)).trans ?_
      refine (tz_g_getr (j := 99) rfl rfl rfl rfl rfl (tz_in0 rfl)).trans ?_
      refine (tz_g_cv1V (m2 := 68) (rc := 0) rfl rfl rfl rfl rfl rfl (by decide) (tz_in0 rfl)).trans ?_
      refine tz_jV (fun A1 => ?_)
      refine (tz_g_aload_n rfl (tz_in0 rfl)).trans ?_
      refine (tz_g_getr (j := 76) rfl rfl rfl rfl rfl (tz_in0 rfl)).trans ?_
      refine (tz_g_aload_n rfl (tz_in0 rfl)).trans ?_
      refine (tz_g_getr (j := 76) rfl rfl rfl rfl rfl (tz_in0 rfl)).trans ?_
      refine (tz_g_iconst (v := 0) rfl (tz_in0 rfl)).trans ?_
      refine (tz_g_iload_n rfl (tz_in0 rfl)).trans ?_
      refine (tz_g_iload_n rfl (tz_in0 rfl)).trans ?_
      refine (tz_g_iload_n rfl (tz_in0 rfl)).trans ?_
      refine (tz_g_cv4I (m2 := 52) (rc := 1) rfl rfl rfl rfl rfl rfl (by decide) (tz_in0 rfl)).trans ?_
      refine tz_jI (fun y2 A2 => ?_)
      refine (tz_g_iload rfl (tz_in0 rfl)).trans ?_
      refine (tz_g_cv2I (m2 := 114) (rc := 1) rfl rfl rfl rfl rfl rfl (by decide) (tz_in0 rfl)).trans ?_
      refine tz_jI (fun y3 A3 => ?_)
      refine (tz_g_iconst (v := (-1)) rfl (tz_in0 rfl)).trans ?_
      refine (tz_g_ic_eq (t := 97) (by decide) (tz_in0 rfl)).trans ?_
      refine tz_cg ?_ ?_
      · skip
        refine (tz_g_aload_n rfl (tz_in0 rfl)).trans ?_
        refine (tz_g_getr (j := 99) rfl rfl rfl rfl rfl (tz_in0 rfl)).trans ?_
        refine (tz_g_cv0V (m2 := 93) (rc := 0) rfl rfl rfl rfl rfl rfl (by decide) (tz_in0 rfl)).trans ?_
        refine tz_jV (fun A4 => ?_)
        refine (tz_g_iinc (v := 1) (L2 := [some (.ref 17), some (.int z1), some (.int z2), some (.int z3), some (.int z4), none, some (.int z6), some (.int (z7 + 1))]) rfl rfl rfl rfl (tz_in0 rfl)).trans ?_
        refine (tz_g_goto (t := 39) (by decide) (tz_in0 rfl)).trans ?_
        exact tz_Gm (L2 := [some (.ref 17), some (.int z1), some (.int z2), some (.int z3), some (.int z4), none, some (.int z6), some (.int (z7 + 1))]) rfl rfl rfl rfl
      · skip
        refine (tz_g_iload rfl (tz_in0 rfl)).trans ?_
        refine (tz_g_istore (L2 := [some (.ref 17), some (.int z1), some (.int z2), some (.int z3), some (.int z4), none, some (.int z7), some (.int z7)]) rfl rfl (tz_in0 rfl)).trans ?_
        refine (tz_g_aload_n rfl (tz_in0 rfl)).trans ?_
        refine (tz_g_getr (j := 99) rfl rfl rfl rfl rfl (tz_in0 rfl)).trans ?_
        refine (tz_g_cv0V (m2 := 93) (rc := 0) rfl rfl rfl rfl rfl rfl (by decide) (tz_in0 rfl)).trans ?_
        refine tz_jV (fun A4 => ?_)
        refine (tz_g_iinc (v := 1) (L2 := [some (.ref 17), some (.int z1), some (.int z2), some (.int z3), some (.int z4), none, some (.int z7), some (.int (z7 + 1))]) rfl rfl rfl rfl (tz_in0 rfl)).trans ?_
        refine (tz_g_goto (t := 39) (by decide) (tz_in0 rfl)).trans ?_
        exact tz_Gm (L2 := [some (.ref 17), some (.int z1), some (.int z2), some (.int z3), some (.int z4), none, some (.int z7), some (.int (z7 + 1))]) rfl rfl rfl rfl

theorem e_X11_lightest (x1 : Int32) (x2 : Int32) (x3 : Int32) (A : tz_Mem) : f_X11_lightest x1 x2 x3 A =
  tz_bI (f_X11_refusalOfLetter 0 x1 x2 1 A) (fun y1 A1 =>
if y1 = 0 then
  q_X11_lightest_25 x1 x2 x3 1 A1
else
  tz_bI (f_X11_refuseLower y1 A1) (fun y2 A2 =>
  some (some (.int y2), A2))) := by
  refine (tz_Fe (L := [some (.ref 17), some (.int x1), some (.int x2), some (.int x3), none, none]) rfl).trans ?_
  refine (tz_g_aload_n rfl (tz_in0 rfl)).trans ?_
  refine (tz_g_iconst (v := 0) rfl (tz_in0 rfl)).trans ?_
  refine (tz_g_iload_n rfl (tz_in0 rfl)).trans ?_
  refine (tz_g_iload_n rfl (tz_in0 rfl)).trans ?_
  refine (tz_g_iconst (v := 1) rfl (tz_in0 rfl)).trans ?_
  refine (tz_g_cv4I (m2 := 49) (rc := 1) rfl rfl rfl rfl rfl rfl (by decide) (tz_in0 rfl)).trans ?_
  refine tz_jI (fun y1 A1 => ?_)
  refine (tz_g_istore (L2 := [some (.ref 17), some (.int x1), some (.int x2), some (.int x3), some (.int y1), none]) rfl rfl (tz_in0 rfl)).trans ?_
  refine (tz_g_iload rfl (tz_in0 rfl)).trans ?_
  refine (tz_g_if_eq (t := 22) (by decide) (tz_in0 rfl)).trans ?_
  refine tz_cg ?_ ?_
  · skip
    refine (tz_g_iconst (v := 1) rfl (tz_in0 rfl)).trans ?_
    refine (tz_g_istore (L2 := [some (.ref 17), some (.int x1), some (.int x2), some (.int x3), some (.int y1), some (.int 1)]) rfl rfl (tz_in0 rfl)).trans ?_
    exact tz_Gm (L2 := [some (.ref 17), some (.int x1), some (.int x2), some (.int x3), none, some (.int 1)]) rfl rfl rfl rfl
  · skip
    refine (tz_g_aload_n rfl (tz_in0 rfl)).trans ?_
    refine (tz_g_iload rfl (tz_in0 rfl)).trans ?_
    refine (tz_g_cv1I (m2 := 112) (rc := 1) rfl rfl rfl rfl rfl rfl (by decide) (tz_in0 rfl)).trans ?_
    refine tz_jI (fun y2 A2 => ?_)
    exact tz_g_ret1 (tz_in0 rfl) rfl

theorem e_X11_lightest_25 (z1 : Int32) (z2 : Int32) (z3 : Int32) (z5 : Int32) (A : tz_Mem) : q_X11_lightest_25 z1 z2 z3 z5 A =
  if 99 < z5 then
  some (some (.int (-1)), A)
else
  tz_bV (f_X9_become 76 30 A) (fun A1 =>
  tz_bI (f_X9_addLetter 76 0 z1 z2 z5 A1) (fun y2 A2 =>
  tz_bI (f_X9_arrival 76 y2 z3 A2) (fun y3 A3 =>
  if y3 = (-1) then
    q_X11_lightest_25 z1 z2 z3 (z5 + 1) A3
  else
    some (some (.int z5), A3)))) := by
  show tz_Go 118 25 [some (.ref 17), some (.int z1), some (.int z2), some (.int z3), none, some (.int z5)] [] A = _
  refine (tz_g_iload rfl (tz_inM rfl rfl rfl)).trans ?_
  refine (tz_g_bipush (v := 99) rfl (tz_in0 rfl)).trans ?_
  refine (tz_g_ic_gt (t := 76) (by decide) (tz_in0 rfl)).trans ?_
  refine tz_cg ?_ ?_
  · skip
    refine (tz_g_iconst (v := (-1)) rfl (tz_in0 rfl)).trans ?_
    exact tz_g_ret1 (tz_in0 rfl) rfl
  · skip
    refine (tz_g_aload_n rfl (tz_in0 rfl)).trans ?_
    refine (tz_g_getr (j := 76) rfl rfl rfl rfl rfl (tz_in0 rfl)).trans ?_
    refine (tz_g_aload_n rfl (tz_in0 rfl)).trans ?_
    refine (tz_g_getr (j := 30) rfl rfl rfl rfl rfl (tz_in0 rfl)).trans ?_
    refine (tz_g_cv1V (m2 := 68) (rc := 0) rfl rfl rfl rfl rfl rfl (by decide) (tz_in0 rfl)).trans ?_
    refine tz_jV (fun A1 => ?_)
    refine (tz_g_aload_n rfl (tz_in0 rfl)).trans ?_
    refine (tz_g_getr (j := 76) rfl rfl rfl rfl rfl (tz_in0 rfl)).trans ?_
    refine (tz_g_aload_n rfl (tz_in0 rfl)).trans ?_
    refine (tz_g_getr (j := 76) rfl rfl rfl rfl rfl (tz_in0 rfl)).trans ?_
    refine (tz_g_iconst (v := 0) rfl (tz_in0 rfl)).trans ?_
    refine (tz_g_iload_n rfl (tz_in0 rfl)).trans ?_
    refine (tz_g_iload_n rfl (tz_in0 rfl)).trans ?_
    refine (tz_g_iload rfl (tz_in0 rfl)).trans ?_
    refine (tz_g_cv4I (m2 := 52) (rc := 1) rfl rfl rfl rfl rfl rfl (by decide) (tz_in0 rfl)).trans ?_
    refine tz_jI (fun y2 A2 => ?_)
    refine (tz_g_iload_n rfl (tz_in0 rfl)).trans ?_
    refine (tz_g_cv2I (m2 := 114) (rc := 1) rfl rfl rfl rfl rfl rfl (by decide) (tz_in0 rfl)).trans ?_
    refine tz_jI (fun y3 A3 => ?_)
    refine (tz_g_iconst (v := (-1)) rfl (tz_in0 rfl)).trans ?_
    refine (tz_g_ic_eq (t := 70) (by decide) (tz_in0 rfl)).trans ?_
    refine tz_cg ?_ ?_
    · skip
      refine (tz_g_iinc (v := 1) (L2 := [some (.ref 17), some (.int z1), some (.int z2), some (.int z3), none, some (.int (z5 + 1))]) rfl rfl rfl rfl (tz_in0 rfl)).trans ?_
      refine (tz_g_goto (t := 25) (by decide) (tz_in0 rfl)).trans ?_
      exact tz_Gm (L2 := [some (.ref 17), some (.int z1), some (.int z2), some (.int z3), none, some (.int (z5 + 1))]) rfl rfl rfl rfl
    · skip
      refine (tz_g_iload rfl (tz_in0 rfl)).trans ?_
      exact tz_g_ret1 (tz_in0 rfl) rfl

theorem e_X11_was (x1 : Int32) (x2 : Int32) (x3 : Int32) (x4 : Int32) (x5 : Int32) (A : tz_Mem) : f_X11_was x1 x2 x3 x4 x5 A =
  tz_bI (f_X11_refusalOfLetter x1 x2 x3 x4 A) (fun y1 A1 =>
if y1 = (-1) then
  if y1 = 0 then
    tz_bV (f_X9_become 76 30 A1) (fun A2 =>
    tz_bI (f_X9_addLetter 76 x1 x2 x3 x4 A2) (fun y3 A3 =>
    tz_bV (f_X6_follow y3 A3) (fun A4 =>
    tz_bI (f_X9_arrival 76 y3 2147483647 (tz_sr A4 76 7 154)) (fun y5 A5 =>
    if ¬ y5 = (-1) then
      tz_bV (f_X6_goBack 30 x1 A5) (fun A6 =>
      if ¬ x5 = 0 then
        tz_bI (f_X6_leastWord A6) (fun y7 A7 =>
        some (some (.int y7), A7))
      else
        tz_bI (f_X6_countWords A6) (fun y7 A7 =>
        some (some (.int y7), A7)))
    else
      if ¬ x5 = 0 then
        some (some (.int (-1)), A5)
      else
        some (some (.int 0), A5)))))
  else
    tz_bI (f_X11_refuseLower y1 A1) (fun y2 A2 =>
    some (some (.int y2), A2))
else
  tz_bI (f_X11_isOneOfTwo x5 A1) (fun y2 A2 =>
  if ¬ y2 = 0 then
    if y1 = 0 then
      tz_bV (f_X9_become 76 30 A2) (fun A3 =>
      tz_bI (f_X9_addLetter 76 x1 x2 x3 x4 A3) (fun y4 A4 =>
      tz_bV (f_X6_follow y4 A4) (fun A5 =>
      tz_bI (f_X9_arrival 76 y4 2147483647 (tz_sr A5 76 7 154)) (fun y6 A6 =>
      if ¬ y6 = (-1) then
        tz_bV (f_X6_goBack 30 x1 A6) (fun A7 =>
        if ¬ x5 = 0 then
          tz_bI (f_X6_leastWord A7) (fun y8 A8 =>
          some (some (.int y8), A8))
        else
          tz_bI (f_X6_countWords A7) (fun y8 A8 =>
          some (some (.int y8), A8)))
      else
        if ¬ x5 = 0 then
          some (some (.int (-1)), A6)
        else
          some (some (.int 0), A6)))))
    else
      tz_bI (f_X11_refuseLower y1 A2) (fun y3 A3 =>
      some (some (.int y3), A3))
  else
    tz_bI (f_X11_refuseLower (-5) A2) (fun y3 A3 =>
    some (some (.int y3), A3)))) := by
  refine (tz_Fe (L := [some (.ref 17), some (.int x1), some (.int x2), some (.int x3), some (.int x4), some (.int x5), none, none]) rfl).trans ?_
  refine (tz_g_aload_n rfl (tz_in0 rfl)).trans ?_
  refine (tz_g_iload_n rfl (tz_in0 rfl)).trans ?_
  refine (tz_g_iload_n rfl (tz_in0 rfl)).trans ?_
  refine (tz_g_iload_n rfl (tz_in0 rfl)).trans ?_
  refine (tz_g_iload rfl (tz_in0 rfl)).trans ?_
  refine (tz_g_cv4I (m2 := 49) (rc := 1) rfl rfl rfl rfl rfl rfl (by decide) (tz_in0 rfl)).trans ?_
  refine tz_jI (fun y1 A1 => ?_)
  refine (tz_g_istore (L2 := [some (.ref 17), some (.int x1), some (.int x2), some (.int x3), some (.int x4), some (.int x5), some (.int y1), none]) rfl rfl (tz_in0 rfl)).trans ?_
  refine (tz_g_iload rfl (tz_in0 rfl)).trans ?_
  refine (tz_g_iconst (v := (-1)) rfl (tz_in0 rfl)).trans ?_
  refine (tz_g_ic_eq (t := 29) (by decide) (tz_in0 rfl)).trans ?_
  refine tz_cg ?_ ?_
  · skip
    refine (tz_g_iload rfl (tz_in0 rfl)).trans ?_
    refine (tz_g_if_eq (t := 41) (by decide) (tz_in0 rfl)).trans ?_
    refine tz_cg ?_ ?_
    · skip
      refine (tz_g_aload_n rfl (tz_in0 rfl)).trans ?_
      refine (tz_g_getr (j := 76) rfl rfl rfl rfl rfl (tz_in0 rfl)).trans ?_
      refine (tz_g_aload_n rfl (tz_in0 rfl)).trans ?_
      refine (tz_g_getr (j := 30) rfl rfl rfl rfl rfl (tz_in0 rfl)).trans ?_
      refine (tz_g_cv1V (m2 := 68) (rc := 0) rfl rfl rfl rfl rfl rfl (by decide) (tz_in0 rfl)).trans ?_
      refine tz_jV (fun A2 => ?_)
      refine (tz_g_aload_n rfl (tz_in0 rfl)).trans ?_
      refine (tz_g_getr (j := 76) rfl rfl rfl rfl rfl (tz_in0 rfl)).trans ?_
      refine (tz_g_iload_n rfl (tz_in0 rfl)).trans ?_
      refine (tz_g_iload_n rfl (tz_in0 rfl)).trans ?_
      refine (tz_g_iload_n rfl (tz_in0 rfl)).trans ?_
      refine (tz_g_iload rfl (tz_in0 rfl)).trans ?_
      refine (tz_g_cv4I (m2 := 52) (rc := 1) rfl rfl rfl rfl rfl rfl (by decide) (tz_in0 rfl)).trans ?_
      refine tz_jI (fun y3 A3 => ?_)
      refine (tz_g_istore (L2 := [some (.ref 17), some (.int x1), some (.int x2), some (.int x3), some (.int x4), some (.int x5), some (.int y1), some (.int y3)]) rfl rfl (tz_in0 rfl)).trans ?_
      refine (tz_g_aload_n rfl (tz_in0 rfl)).trans ?_
      refine (tz_g_getr (j := 153) rfl rfl rfl rfl rfl (tz_in0 rfl)).trans ?_
      refine (tz_g_iload rfl (tz_in0 rfl)).trans ?_
      refine (tz_g_cv1V (m2 := 120) (rc := 0) rfl rfl rfl rfl rfl rfl (by decide) (tz_in0 rfl)).trans ?_
      refine tz_jV (fun A4 => ?_)
      refine (tz_g_aload_n rfl (tz_in0 rfl)).trans ?_
      refine (tz_g_getr (j := 76) rfl rfl rfl rfl rfl (tz_in0 rfl)).trans ?_
      refine (tz_g_aload_n rfl (tz_in0 rfl)).trans ?_
      refine (tz_g_getr (j := 153) rfl rfl rfl rfl rfl (tz_in0 rfl)).trans ?_
      refine (tz_g_pute rfl rfl rfl (tz_in0 rfl)).trans ?_
      refine (tz_g_aload_n rfl (tz_in0 rfl)).trans ?_
      refine (tz_g_getr (j := 76) rfl rfl rfl rfl rfl (tz_in0 rfl)).trans ?_
      refine (tz_g_iload rfl (tz_in0 rfl)).trans ?_
      refine (tz_g_ldc_w (v := 2147483647) rfl rfl (tz_in0 rfl)).trans ?_
      refine (tz_g_cv2I (m2 := 114) (rc := 1) rfl rfl rfl rfl rfl rfl (by decide) (tz_in0 rfl)).trans ?_
      refine tz_jI (fun y5 A5 => ?_)
      refine (tz_g_iconst (v := (-1)) rfl (tz_in0 rfl)).trans ?_
      refine (tz_g_ic_ne (t := 113) (by decide) (tz_in0 rfl)).trans ?_
      refine tz_cg ?_ ?_
      · skip
        refine (tz_g_aload_n rfl (tz_in0 rfl)).trans ?_
        refine (tz_g_getr (j := 153) rfl rfl rfl rfl rfl (tz_in0 rfl)).trans ?_
        refine (tz_g_aload_n rfl (tz_in0 rfl)).trans ?_
        refine (tz_g_getr (j := 30) rfl rfl rfl rfl rfl (tz_in0 rfl)).trans ?_
        refine (tz_g_getr (j := 31) rfl rfl rfl rfl rfl (tz_in0 rfl)).trans ?_
        refine (tz_g_iload_n rfl (tz_in0 rfl)).trans ?_
        refine (tz_g_cv2V (m2 := 121) (rc := 0) rfl rfl rfl rfl rfl rfl (by decide) (tz_in0 rfl)).trans ?_
        refine tz_jV (fun A6 => ?_)
        refine (tz_g_iload rfl (tz_in0 rfl)).trans ?_
        refine (tz_g_if_ne (t := 143) (by decide) (tz_in0 rfl)).trans ?_
        refine tz_cg ?_ ?_
        · skip
          refine (tz_g_aload_n rfl (tz_in0 rfl)).trans ?_
          refine (tz_g_getr (j := 153) rfl rfl rfl rfl rfl (tz_in0 rfl)).trans ?_
          refine (tz_g_cv0I (m2 := 123) (rc := 1) rfl rfl rfl rfl rfl rfl (by decide) (tz_in0 rfl)).trans ?_
          refine tz_jI (fun y7 A7 => ?_)
          exact tz_g_ret1 (tz_in0 rfl) rfl
        · skip
          refine (tz_g_aload_n rfl (tz_in0 rfl)).trans ?_
          refine (tz_g_getr (j := 153) rfl rfl rfl rfl rfl (tz_in0 rfl)).trans ?_
          refine (tz_g_cv0I (m2 := 122) (rc := 1) rfl rfl rfl rfl rfl rfl (by decide) (tz_in0 rfl)).trans ?_
          refine tz_jI (fun y7 A7 => ?_)
          refine (tz_g_goto (t := 150) (by decide) (tz_in0 rfl)).trans ?_
          exact tz_g_ret1 (tz_in0 rfl) rfl
      · skip
        refine (tz_g_iload rfl (tz_in0 rfl)).trans ?_
        refine (tz_g_if_ne (t := 111) (by decide) (tz_in0 rfl)).trans ?_
        refine tz_cg ?_ ?_
        · skip
          refine (tz_g_iconst (v := (-1)) rfl (tz_in0 rfl)).trans ?_
          exact tz_g_ret1 (tz_in0 rfl) rfl
        · skip
          refine (tz_g_iconst (v := 0) rfl (tz_in0 rfl)).trans ?_
          refine (tz_g_goto (t := 112) (by decide) (tz_in0 rfl)).trans ?_
          exact tz_g_ret1 (tz_in0 rfl) rfl
    · skip
      refine (tz_g_aload_n rfl (tz_in0 rfl)).trans ?_
      refine (tz_g_iload rfl (tz_in0 rfl)).trans ?_
      refine (tz_g_cv1I (m2 := 112) (rc := 1) rfl rfl rfl rfl rfl rfl (by decide) (tz_in0 rfl)).trans ?_
      refine tz_jI (fun y2 A2 => ?_)
      exact tz_g_ret1 (tz_in0 rfl) rfl
  · skip
    refine (tz_g_iload rfl (tz_in0 rfl)).trans ?_
    refine (tz_g_cs1I (m2 := 109) (rc := 4) rfl rfl rfl rfl rfl rfl (by decide) (tz_in0 rfl)).trans ?_
    refine tz_jI (fun y2 A2 => ?_)
    refine (tz_g_if_ne (t := 29) (by decide) (tz_in0 rfl)).trans ?_
    refine tz_cg ?_ ?_
    · skip
      refine (tz_g_iload rfl (tz_in0 rfl)).trans ?_
      refine (tz_g_if_eq (t := 41) (by decide) (tz_in0 rfl)).trans ?_
      refine tz_cg ?_ ?_
      · skip
        refine (tz_g_aload_n rfl (tz_in0 rfl)).trans ?_
        refine (tz_g_getr (j := 76) rfl rfl rfl rfl rfl (tz_in0 rfl)).trans ?_
        refine (tz_g_aload_n rfl (tz_in0 rfl)).trans ?_
        refine (tz_g_getr (j := 30) rfl rfl rfl rfl rfl (tz_in0 rfl)).trans ?_
        refine (tz_g_cv1V (m2 := 68) (rc := 0) rfl rfl rfl rfl rfl rfl (by decide) (tz_in0 rfl)).trans ?_
        refine tz_jV (fun A3 => ?_)
        refine (tz_g_aload_n rfl (tz_in0 rfl)).trans ?_
        refine (tz_g_getr (j := 76) rfl rfl rfl rfl rfl (tz_in0 rfl)).trans ?_
        refine (tz_g_iload_n rfl (tz_in0 rfl)).trans ?_
        refine (tz_g_iload_n rfl (tz_in0 rfl)).trans ?_
        refine (tz_g_iload_n rfl (tz_in0 rfl)).trans ?_
        refine (tz_g_iload rfl (tz_in0 rfl)).trans ?_
        refine (tz_g_cv4I (m2 := 52) (rc := 1) rfl rfl rfl rfl rfl rfl (by decide) (tz_in0 rfl)).trans ?_
        refine tz_jI (fun y4 A4 => ?_)
        refine (tz_g_istore (L2 := [some (.ref 17), some (.int x1), some (.int x2), some (.int x3), some (.int x4), some (.int x5), some (.int y1), some (.int y4)]) rfl rfl (tz_in0 rfl)).trans ?_
        refine (tz_g_aload_n rfl (tz_in0 rfl)).trans ?_
        refine (tz_g_getr (j := 153) rfl rfl rfl rfl rfl (tz_in0 rfl)).trans ?_
        refine (tz_g_iload rfl (tz_in0 rfl)).trans ?_
        refine (tz_g_cv1V (m2 := 120) (rc := 0) rfl rfl rfl rfl rfl rfl (by decide) (tz_in0 rfl)).trans ?_
        refine tz_jV (fun A5 => ?_)
        refine (tz_g_aload_n rfl (tz_in0 rfl)).trans ?_
        refine (tz_g_getr (j := 76) rfl rfl rfl rfl rfl (tz_in0 rfl)).trans ?_
        refine (tz_g_aload_n rfl (tz_in0 rfl)).trans ?_
        refine (tz_g_getr (j := 153) rfl rfl rfl rfl rfl (tz_in0 rfl)).trans ?_
        refine (tz_g_pute rfl rfl rfl (tz_in0 rfl)).trans ?_
        refine (tz_g_aload_n rfl (tz_in0 rfl)).trans ?_
        refine (tz_g_getr (j := 76) rfl rfl rfl rfl rfl (tz_in0 rfl)).trans ?_
        refine (tz_g_iload rfl (tz_in0 rfl)).trans ?_
        refine (tz_g_ldc_w (v := 2147483647) rfl rfl (tz_in0 rfl)).trans ?_
        refine (tz_g_cv2I (m2 := 114) (rc := 1) rfl rfl rfl rfl rfl rfl (by decide) (tz_in0 rfl)).trans ?_
        refine tz_jI (fun y6 A6 => ?_)
        refine (tz_g_iconst (v := (-1)) rfl (tz_in0 rfl)).trans ?_
        refine (tz_g_ic_ne (t := 113) (by decide) (tz_in0 rfl)).trans ?_
        refine tz_cg ?_ ?_
        · skip
          refine (tz_g_aload_n rfl (tz_in0 rfl)).trans ?_
          refine (tz_g_getr (j := 153) rfl rfl rfl rfl rfl (tz_in0 rfl)).trans ?_
          refine (tz_g_aload_n rfl (tz_in0 rfl)).trans ?_
          refine (tz_g_getr (j := 30) rfl rfl rfl rfl rfl (tz_in0 rfl)).trans ?_
          refine (tz_g_getr (j := 31) rfl rfl rfl rfl rfl (tz_in0 rfl)).trans ?_
          refine (tz_g_iload_n rfl (tz_in0 rfl)).trans ?_
          refine (tz_g_cv2V (m2 := 121) (rc := 0) rfl rfl rfl rfl rfl rfl (by decide) (tz_in0 rfl)).trans ?_
          refine tz_jV (fun A7 => ?_)
          refine (tz_g_iload rfl (tz_in0 rfl)).trans ?_
          refine (tz_g_if_ne (t := 143) (by decide) (tz_in0 rfl)).trans ?_
          refine tz_cg ?_ ?_
          · skip
            refine (tz_g_aload_n rfl (tz_in0 rfl)).trans ?_
            refine (tz_g_getr (j := 153) rfl rfl rfl rfl rfl (tz_in0 rfl)).trans ?_
            refine (tz_g_cv0I (m2 := 123) (rc := 1) rfl rfl rfl rfl rfl rfl (by decide) (tz_in0 rfl)).trans ?_
            refine tz_jI (fun y8 A8 => ?_)
            exact tz_g_ret1 (tz_in0 rfl) rfl
          · skip
            refine (tz_g_aload_n rfl (tz_in0 rfl)).trans ?_
            refine (tz_g_getr (j := 153) rfl rfl rfl rfl rfl (tz_in0 rfl)).trans ?_
            refine (tz_g_cv0I (m2 := 122) (rc := 1) rfl rfl rfl rfl rfl rfl (by decide) (tz_in0 rfl)).trans ?_
            refine tz_jI (fun y8 A8 => ?_)
            refine (tz_g_goto (t := 150) (by decide) (tz_in0 rfl)).trans ?_
            exact tz_g_ret1 (tz_in0 rfl) rfl
        · skip
          refine (tz_g_iload rfl (tz_in0 rfl)).trans ?_
          refine (tz_g_if_ne (t := 111) (by decide) (tz_in0 rfl)).trans ?_
          refine tz_cg ?_ ?_
          · skip
            refine (tz_g_iconst (v := (-1)) rfl (tz_in0 rfl)).trans ?_
            exact tz_g_ret1 (tz_in0 rfl) rfl
          · skip
            refine (tz_g_iconst (v := 0) rfl (tz_in0 rfl)).trans ?_
            refine (tz_g_goto (t := 112) (by decide) (tz_in0 rfl)).trans ?_
            exact tz_g_ret1 (tz_in0 rfl) rfl
      · skip
        refine (tz_g_aload_n rfl (tz_in0 rfl)).trans ?_
        refine (tz_g_iload rfl (tz_in0 rfl)).trans ?_
        refine (tz_g_cv1I (m2 := 112) (rc := 1) rfl rfl rfl rfl rfl rfl (by decide) (tz_in0 rfl)).trans ?_
        refine tz_jI (fun y3 A3 => ?_)
        exact tz_g_ret1 (tz_in0 rfl) rfl
    · skip
      refine (tz_g_bipush (v := (-5)) rfl (tz_in0 rfl)).trans ?_
      refine (tz_g_istore (L2 := [some (.ref 17), some (.int x1), some (.int x2), some (.int x3), some (.int x4), some (.int x5), some (.int (-5)), none]) rfl rfl (tz_in0 rfl)).trans ?_
      refine (tz_g_iload rfl (tz_in0 rfl)).trans ?_
      refine (tz_g_if_eq (t := 41) (by decide) (tz_in0 rfl)).trans ?_
      refine (if_neg (by decide)).trans ?_
      refine (tz_g_aload_n rfl (tz_in0 rfl)).trans ?_
      refine (tz_g_iload rfl (tz_in0 rfl)).trans ?_
      refine (tz_g_cv1I (m2 := 112) (rc := 1) rfl rfl rfl rfl rfl rfl (by decide) (tz_in0 rfl)).trans ?_
      refine tz_jI (fun y3 A3 => ?_)
      exact tz_g_ret1 (tz_in0 rfl) rfl

theorem e_X11_loudest (x1 : Int32) (x2 : Int32) (A : tz_Mem) : f_X11_loudest x1 x2 A =
  if (tz_g A 31 0) = 0 then
  tz_bI (f_X11_refuse (-5) A) (fun y1 A1 =>
  some (some (.int y1), A1))
else
  tz_bI (f_X11_isOneOfTwo x2 A) (fun y1 A1 =>
  if ¬ y1 = 0 then
    if x1 < 0 then
      tz_bI (f_X11_refuse (-6) A1) (fun y2 A2 =>
      some (some (.int y2), A2))
    else
      if x1 ≤ 500 then
        tz_bV (f_X9_become 76 30 A1) (fun A2 =>
        tz_bV (f_X9_pass 76 x1 A2) (fun A3 =>
        q_X11_loudest_72 x2 0 (-1) 0 A3))
      else
        tz_bI (f_X11_refuse (-6) A1) (fun y2 A2 =>
        some (some (.int y2), A2))
  else
    tz_bI (f_X11_refuse (-5) A1) (fun y2 A2 =>
    some (some (.int y2), A2))) := by
  refine (tz_Fe (L := [some (.ref 17), some (.int x1), some (.int x2), none, none, none, none]) rfl).trans ?_
  refine (tz_g_aload_n rfl (tz_in0 rfl)).trans ?_
  refine (tz_g_getr (j := 30) rfl rfl rfl rfl rfl (tz_in0 rfl)).trans ?_
  refine (tz_g_getr (j := 31) rfl rfl rfl rfl rfl (tz_in0 rfl)).trans ?_
  refine (tz_g_geti rfl rfl rfl (tz_in0 rfl)).trans ?_
  refine (tz_g_if_eq (t := 20) (by decide) (tz_in0 rfl)).trans ?_
  refine tz_cg ?_ ?_
  · skip
    refine (tz_g_aload_n rfl (tz_in0 rfl)).trans ?_
    refine (tz_g_bipush (v := (-5)) rfl (tz_in0 rfl)).trans ?_
    refine (tz_g_cv1I (m2 := 15) (rc := 1) rfl rfl rfl rfl rfl rfl (by decide) (tz_in0 rfl)).trans ?_
    refine tz_jI (fun y1 A1 => ?_)
    exact tz_g_ret1 (tz_in0 rfl) rfl
  · skip
    refine (tz_g_iload_n rfl (tz_in0 rfl)).trans ?_
    refine (tz_g_cs1I (m2 := 109) (rc := 4) rfl rfl rfl rfl rfl rfl (by decide) (tz_in0 rfl)).trans ?_
    refine tz_jI (fun y1 A1 => ?_)
    refine (tz_g_if_ne (t := 27) (by decide) (tz_in0 rfl)).trans ?_
    refine tz_cg ?_ ?_
    · skip
      refine (tz_g_iload_n rfl (tz_in0 rfl)).trans ?_
      refine (tz_g_if_lt (t := 38) (by decide) (tz_in0 rfl)).trans ?_
      refine tz_cg ?_ ?_
      · skip
        refine (tz_g_aload_n rfl (tz_in0 rfl)).trans ?_
        refine (tz_g_bipush (v := (-6)) rfl (tz_in0 rfl)).trans ?_
        refine (tz_g_cv1I (m2 := 15) (rc := 1) rfl rfl rfl rfl rfl rfl (by decide) (tz_in0 rfl)).trans ?_
        refine tz_jI (fun y2 A2 => ?_)
        exact tz_g_ret1 (tz_in0 rfl) rfl
      · skip
        refine (tz_g_iload_n rfl (tz_in0 rfl)).trans ?_
        refine (tz_g_sipush (v := 500) rfl (tz_in0 rfl)).trans ?_
        refine (tz_g_ic_le (t := 45) (by decide) (tz_in0 rfl)).trans ?_
        refine tz_cg ?_ ?_
        · skip
          refine (tz_g_aload_n rfl (tz_in0 rfl)).trans ?_
          refine (tz_g_getr (j := 76) rfl rfl rfl rfl rfl (tz_in0 rfl)).trans ?_
          refine (tz_g_aload_n rfl (tz_in0 rfl)).trans ?_
          refine (tz_g_getr (j := 30) rfl rfl rfl rfl rfl (tz_in0 rfl)).trans ?_
          refine (tz_g_cv1V (m2 := 68) (rc := 0) rfl rfl rfl rfl rfl rfl (by decide) (tz_in0 rfl)).trans ?_
          refine tz_jV (fun A2 => ?_)
          refine (tz_g_aload_n rfl (tz_in0 rfl)).trans ?_
          refine (tz_g_getr (j := 76) rfl rfl rfl rfl rfl (tz_in0 rfl)).trans ?_
          refine (tz_g_iload_n rfl (tz_in0 rfl)).trans ?_
          refine (tz_g_cv1V (m2 := 110) (rc := 0) rfl rfl rfl rfl rfl rfl (by decide) (tz_in0 rfl)).trans ?_
          refine tz_jV (fun A3 => ?_)
          refine (tz_g_iconst (v := 0) rfl (tz_in0 rfl)).trans ?_
          refine (tz_g_istore_n (L2 := [some (.ref 17), some (.int x1), some (.int x2), some (.int 0), none, none, none]) rfl rfl (tz_in0 rfl)).trans ?_
          refine (tz_g_iconst (v := (-1)) rfl (tz_in0 rfl)).trans ?_
          refine (tz_g_istore (L2 := [some (.ref 17), some (.int x1), some (.int x2), some (.int 0), some (.int (-1)), none, none]) rfl rfl (tz_in0 rfl)).trans ?_
          refine (tz_g_iconst (v := 0) rfl (tz_in0 rfl)).trans ?_
          refine (tz_g_istore (L2 := [some (.ref 17), some (.int x1), some (.int x2), some (.int 0), some (.int (-1)), some (.int 0), none]) rfl rfl (tz_in0 rfl)).trans ?_
          exact tz_Gm (L2 := [some (.ref 17), none, some (.int x2), some (.int 0), some (.int (-1)), some (.int 0), none]) rfl rfl rfl rfl
        · skip
          refine (tz_g_aload_n rfl (tz_in0 rfl)).trans ?_
          refine (tz_g_bipush (v := (-6)) rfl (tz_in0 rfl)).trans ?_
          refine (tz_g_cv1I (m2 := 15) (rc := 1) rfl rfl rfl rfl rfl rfl (by decide) (tz_in0 rfl)).trans ?_
          refine tz_jI (fun y2 A2 => ?_)
          exact tz_g_ret1 (tz_in0 rfl) rfl
    · skip
      refine (tz_g_aload_n rfl (tz_in0 rfl)).trans ?_
      refine (tz_g_bipush (v := (-5)) rfl (tz_in0 rfl)).trans ?_
      refine (tz_g_cv1I (m2 := 15) (rc := 1) rfl rfl rfl rfl rfl rfl (by decide) (tz_in0 rfl)).trans ?_
      refine tz_jI (fun y2 A2 => ?_)
      exact tz_g_ret1 (tz_in0 rfl) rfl

theorem e_X11_loudest_72 (z2 : Int32) (z3 : Int32) (z4 : Int32) (z5 : Int32) (A : tz_Mem) : q_X11_loudest_72 z2 z3 z4 z5 A =
  if (tz_g A 31 0) ≤ z5 then
  some (some (.int z3), A)
else
  if ¬ z2 = 0 then
    if z5 < 0 ∨ 8 ≤ (Int32.toNatClampNeg z5) then none else
    tz_bI (f_J6_bitCount (tz_g A 80 (Int32.toNatClampNeg z5)) A) (fun y1 A1 =>
    if y1 ≤ z4 then
      q_X11_loudest_72 z2 z3 z4 (z5 + 1) A1
    else
      q_X11_loudest_72 z2 z5 y1 (z5 + 1) A1)
  else
    if z5 < 0 ∨ 8 ≤ (Int32.toNatClampNeg z5) then none else
    if z5 < 0 ∨ 8 ≤ (Int32.toNatClampNeg z5) then none else
    if ((tz_g A 81 (Int32.toNatClampNeg z5)) - (tz_g A 35 (Int32.toNatClampNeg z5))) ≤ z4 then
      q_X11_loudest_72 z2 z3 z4 (z5 + 1) A
    else
      q_X11_loudest_72 z2 z5 ((tz_g A 81 (Int32.toNatClampNeg z5)) - (tz_g A 35 (Int32.toNatClampNeg z5))) (z5 + 1) A := by
  show tz_Go 127 72 [some (.ref 17), none, some (.int z2), some (.int z3), some (.int z4), some (.int z5), none] [] A = _
  refine (tz_g_iload rfl (tz_inM rfl rfl rfl)).trans ?_
  refine (tz_g_aload_n rfl (tz_in0 rfl)).trans ?_
  refine (tz_g_getr (j := 30) rfl rfl rfl rfl rfl (tz_in0 rfl)).trans ?_
  refine (tz_g_getr (j := 31) rfl rfl rfl rfl rfl (tz_in0 rfl)).trans ?_
  refine (tz_g_geti rfl rfl rfl (tz_in0 rfl)).trans ?_
  refine (tz_g_ic_ge (t := 159) (by decide) (tz_in0 rfl)).trans ?_
  refine tz_cg ?_ ?_
  · skip
    refine (tz_g_iload_n rfl (tz_in0 rfl)).trans ?_
    exact tz_g_ret1 (tz_in0 rfl) rfl
  · skip
    refine (tz_g_iload_n rfl (tz_in0 rfl)).trans ?_
    refine (tz_g_if_ne (t := 121) (by decide) (tz_in0 rfl)).trans ?_
    refine tz_cg ?_ ?_
    · skip
      refine (tz_g_aload_n rfl (tz_in0 rfl)).trans ?_
      refine (tz_g_getr (j := 76) rfl rfl rfl rfl rfl (tz_in0 rfl)).trans ?_
      refine (tz_g_getr (j := 77) rfl rfl rfl rfl rfl (tz_in0 rfl)).trans ?_
      refine (tz_g_getr (j := 80) rfl rfl rfl rfl rfl (tz_in0 rfl)).trans ?_
      refine (tz_g_iload rfl (tz_in0 rfl)).trans ?_
      refine (tz_g_iald (n := 8) rfl rfl rfl (tz_in0 rfl)).trans ?_
      refine tz_cn1 ?_
      refine (tz_g_cs1I (m2 := 34) (rc := 1) rfl rfl rfl rfl rfl rfl (by decide) (tz_in0 rfl)).trans ?_
      refine tz_jI (fun y1 A1 => ?_)
      refine (tz_g_istore (L2 := [some (.ref 17), none, some (.int z2), some (.int z3), some (.int z4), some (.int z5), some (.int y1)]) rfl rfl (tz_in0 rfl)).trans ?_
      refine (tz_g_iload rfl (tz_in0 rfl)).trans ?_
      refine (tz_g_iload rfl (tz_in0 rfl)).trans ?_
      refine (tz_g_ic_le (t := 153) (by decide) (tz_in0 rfl)).trans ?_
      refine tz_cg ?_ ?_
      · skip
        refine (tz_g_iinc (v := 1) (L2 := [some (.ref 17), none, some (.int z2), some (.int z3), some (.int z4), some (.int (z5 + 1)), some (.int y1)]) rfl rfl rfl rfl (tz_in0 rfl)).trans ?_
        refine (tz_g_goto (t := 72) (by decide) (tz_in0 rfl)).trans ?_
        exact tz_Gm (L2 := [some (.ref 17), none, some (.int z2), some (.int z3), some (.int z4), some (.int (z5 + 1)), none]) rfl rfl rfl rfl
      · skip
        refine (tz_g_iload rfl (tz_in0 rfl)).trans ?_
        refine (tz_g_istore (L2 := [some (.ref 17), none, some (.int z2), some (.int z3), some (.int y1), some (.int z5), some (.int y1)]) rfl rfl (tz_in0 rfl)).trans ?_
        refine (tz_g_iload rfl (tz_in0 rfl)).trans ?_
        refine (tz_g_istore_n (L2 := [some (.ref 17), none, some (.int z2), some (.int z5), some (.int y1), some (.int z5), some (.int y1)]) rfl rfl (tz_in0 rfl)).trans ?_
        refine (tz_g_iinc (v := 1) (L2 := [some (.ref 17), none, some (.int z2), some (.int z5), some (.int y1), some (.int (z5 + 1)), some (.int y1)]) rfl rfl rfl rfl (tz_in0 rfl)).trans ?_
        refine (tz_g_goto (t := 72) (by decide) (tz_in0 rfl)).trans ?_
        exact tz_Gm (L2 := [some (.ref 17), none, some (.int z2), some (.int z5), some (.int y1), some (.int (z5 + 1)), none]) rfl rfl rfl rfl
    · skip
      refine (tz_g_aload_n rfl (tz_in0 rfl)).trans ?_
      refine (tz_g_getr (j := 76) rfl rfl rfl rfl rfl (tz_in0 rfl)).trans ?_
      refine (tz_g_getr (j := 77) rfl rfl rfl rfl rfl (tz_in0 rfl)).trans ?_
      refine (tz_g_getr (j := 81) rfl rfl rfl rfl rfl (tz_in0 rfl)).trans ?_
      refine (tz_g_iload rfl (tz_in0 rfl)).trans ?_
      refine (tz_g_iald (n := 8) rfl rfl rfl (tz_in0 rfl)).trans ?_
      refine tz_cn1 ?_
      refine (tz_g_aload_n rfl (tz_in0 rfl)).trans ?_
      refine (tz_g_getr (j := 30) rfl rfl rfl rfl rfl (tz_in0 rfl)).trans ?_
      refine (tz_g_getr (j := 31) rfl rfl rfl rfl rfl (tz_in0 rfl)).trans ?_
      refine (tz_g_getr (j := 35) rfl rfl rfl rfl rfl (tz_in0 rfl)).trans ?_
      refine (tz_g_iload rfl (tz_in0 rfl)).trans ?_
      refine (tz_g_iald (n := 8) rfl rfl rfl (tz_in0 rfl)).trans ?_
      refine tz_cn1 ?_
      refine (tz_g_isub (tz_in0 rfl)).trans ?_
      refine (tz_g_goto (t := 137) (by decide) (tz_in0 rfl)).trans ?_
      refine (tz_g_istore (L2 := [some (.ref 17), none, some (.int z2), some (.int z3), some (.int z4), some (.int z5), some (.int ((tz_g A 81 (Int32.toNatClampNeg z5)) - (tz_g A 35 (Int32.toNatClampNeg z5))))]) rfl rfl (tz_in0 rfl)).trans ?_
      refine (tz_g_iload rfl (tz_in0 rfl)).trans ?_
      refine (tz_g_iload rfl (tz_in0 rfl)).trans ?_
      refine (tz_g_ic_le (t := 153) (by decide) (tz_in0 rfl)).trans ?_
      refine tz_cg ?_ ?_
      · skip
        refine (tz_g_iinc (v := 1) (L2 := [some (.ref 17), none, some (.int z2), some (.int z3), some (.int z4), some (.int (z5 + 1)), some (.int ((tz_g A 81 (Int32.toNatClampNeg z5)) - (tz_g A 35 (Int32.toNatClampNeg z5))))]) rfl rfl rfl rfl (tz_in0 rfl)).trans ?_
        refine (tz_g_goto (t := 72) (by decide) (tz_in0 rfl)).trans ?_
        exact tz_Gm (L2 := [some (.ref 17), none, some (.int z2), some (.int z3), some (.int z4), some (.int (z5 + 1)), none]) rfl rfl rfl rfl
      · skip
        refine (tz_g_iload rfl (tz_in0 rfl)).trans ?_
        refine (tz_g_istore (L2 := [some (.ref 17), none, some (.int z2), some (.int z3), some (.int ((tz_g A 81 (Int32.toNatClampNeg z5)) - (tz_g A 35 (Int32.toNatClampNeg z5)))), some (.int z5), some (.int ((tz_g A 81 (Int32.toNatClampNeg z5)) - (tz_g A 35 (Int32.toNatClampNeg z5))))]) rfl rfl (tz_in0 rfl)).trans ?_
        refine (tz_g_iload rfl (tz_in0 rfl)).trans ?_
        refine (tz_g_istore_n (L2 := [some (.ref 17), none, some (.int z2), some (.int z5), some (.int ((tz_g A 81 (Int32.toNatClampNeg z5)) - (tz_g A 35 (Int32.toNatClampNeg z5)))), some (.int z5), some (.int ((tz_g A 81 (Int32.toNatClampNeg z5)) - (tz_g A 35 (Int32.toNatClampNeg z5))))]) rfl rfl (tz_in0 rfl)).trans ?_
        refine (tz_g_iinc (v := 1) (L2 := [some (.ref 17), none, some (.int z2), some (.int z5), some (.int ((tz_g A 81 (Int32.toNatClampNeg z5)) - (tz_g A 35 (Int32.toNatClampNeg z5)))), some (.int (z5 + 1)), some (.int ((tz_g A 81 (Int32.toNatClampNeg z5)) - (tz_g A 35 (Int32.toNatClampNeg z5))))]) rfl rfl rfl rfl (tz_in0 rfl)).trans ?_
        refine (tz_g_goto (t := 72) (by decide) (tz_in0 rfl)).trans ?_
        exact tz_Gm (L2 := [some (.ref 17), none, some (.int z2), some (.int z5), some (.int ((tz_g A 81 (Int32.toNatClampNeg z5)) - (tz_g A 35 (Int32.toNatClampNeg z5)))), some (.int (z5 + 1)), none]) rfl rfl rfl rfl

theorem e_X11_postage (A : tz_Mem) : f_X11_postage A =
  tz_bV (f_X9_become 76 30 A) (fun A1 =>
tz_bV (f_X9_pass 76 500 A1) (fun A2 =>
q_X11_postage_25 0 0 A2)) := by
  refine (tz_Fe (L := [some (.ref 17), none, none, none, none]) rfl).trans ?_
  refine (tz_g_aload_n rfl (tz_in0 rfl)).trans ?_
  refine (tz_g_getr (j := 76) rfl rfl rfl rfl rfl (tz_in0 rfl)).trans ?_
  refine (tz_g_aload_n rfl (tz_in0 rfl)).trans ?_
  refine (tz_g_getr (j := 30) rfl rfl rfl rfl rfl (tz_in0 rfl)).trans ?_
  refine (tz_g_cv1V (m2 := 68) (rc := 0) rfl rfl rfl rfl rfl rfl (by decide) (tz_in0 rfl)).trans ?_
  refine tz_jV (fun A1 => ?_)
  refine (tz_g_aload_n rfl (tz_in0 rfl)).trans ?_
  refine (tz_g_getr (j := 76) rfl rfl rfl rfl rfl (tz_in0 rfl)).trans ?_
  refine (tz_g_sipush (v := 500) rfl (tz_in0 rfl)).trans ?_
  refine (tz_g_cv1V (m2 := 110) (rc := 0) rfl rfl rfl rfl rfl rfl (by decide) (tz_in0 rfl)).trans ?_
  refine tz_jV (fun A2 => ?_)
  refine (tz_g_iconst (v := 0) rfl (tz_in0 rfl)).trans ?_
  refine (tz_g_istore_n (L2 := [some (.ref 17), some (.int 0), none, none, none]) rfl rfl (tz_in0 rfl)).trans ?_
  refine (tz_g_iconst (v := 0) rfl (tz_in0 rfl)).trans ?_
  refine (tz_g_istore_n (L2 := [some (.ref 17), some (.int 0), some (.int 0), none, none]) rfl rfl (tz_in0 rfl)).trans ?_
  exact tz_Gm (L2 := [some (.ref 17), some (.int 0), some (.int 0), none, none]) rfl rfl rfl rfl

theorem e_X11_postage_25 (z1 : Int32) (z2 : Int32) (A : tz_Mem) : q_X11_postage_25 z1 z2 A =
  if (tz_g A 45 0) ≤ z2 then
  some (some (.int z1), A)
else
  tz_bI (f_X4_isUnderWay 30 z2 A) (fun y1 A1 =>
  if y1 = 0 then
    q_X11_postage_25 z1 (z2 + 1) A1
  else
    if z2 < 0 ∨ 12 ≤ (Int32.toNatClampNeg z2) then none else
    if ¬ (tz_g A1 97 (Int32.toNatClampNeg z2)) = (-1) then
      if z2 < 0 ∨ 12 ≤ (Int32.toNatClampNeg z2) then none else
      q_X11_postage_25 (z1 + (((tz_g A1 97 (Int32.toNatClampNeg z2)) - (tz_g A1 30 3)) * (tz_g A1 49 (Int32.toNatClampNeg z2)))) (z2 + 1) A1
    else
      if z2 < 0 ∨ 12 ≤ (Int32.toNatClampNeg z2) then none else
      q_X11_postage_25 (z1 + (500 * (tz_g A1 49 (Int32.toNatClampNeg z2)))) (z2 + 1) A1) := by
  show tz_Go 133 25 [some (.ref 17), some (.int z1), some (.int z2), none, none] [] A = _
  refine (tz_g_iload_n rfl (tz_inM rfl rfl rfl)).trans ?_
  refine (tz_g_aload_n rfl (tz_in0 rfl)).trans ?_
  refine (tz_g_getr (j := 30) rfl rfl rfl rfl rfl (tz_in0 rfl)).trans ?_
  refine (tz_g_getr (j := 45) rfl rfl rfl rfl rfl (tz_in0 rfl)).trans ?_
  refine (tz_g_geti rfl rfl rfl (tz_in0 rfl)).trans ?_
  refine (tz_g_ic_ge (t := 112) (by decide) (tz_in0 rfl)).trans ?_
  refine tz_cg ?_ ?_
  · skip
    refine (tz_g_iload_n rfl (tz_in0 rfl)).trans ?_
    exact tz_g_ret1 (tz_in0 rfl) rfl
  · skip
    refine (tz_g_aload_n rfl (tz_in0 rfl)).trans ?_
    refine (tz_g_getr (j := 30) rfl rfl rfl rfl rfl (tz_in0 rfl)).trans ?_
    refine (tz_g_getr (j := 45) rfl rfl rfl rfl rfl (tz_in0 rfl)).trans ?_
    refine (tz_g_iload_n rfl (tz_in0 rfl)).trans ?_
    refine (tz_g_cv1I (m2 := 115) (rc := 4) rfl rfl rfl rfl rfl rfl (by decide) (tz_in0 rfl)).trans ?_
    refine tz_jI (fun y1 A1 => ?_)
    refine (tz_g_if_eq (t := 106) (by decide) (tz_in0 rfl)).trans ?_
    refine tz_cg ?_ ?_
    · skip
      refine (tz_g_iinc (v := 1) (L2 := [some (.ref 17), some (.int z1), some (.int (z2 + 1)), none, none]) rfl rfl rfl rfl (tz_in0 rfl)).trans ?_
      refine (tz_g_goto (t := 25) (by decide) (tz_in0 rfl)).trans ?_
      exact tz_Gm (L2 := [some (.ref 17), some (.int z1), some (.int (z2 + 1)), none, none]) rfl rfl rfl rfl
    · skip
      refine (tz_g_aload_n rfl (tz_in0 rfl)).trans ?_
      refine (tz_g_getr (j := 76) rfl rfl rfl rfl rfl (tz_in0 rfl)).trans ?_
      refine (tz_g_getr (j := 91) rfl rfl rfl rfl rfl (tz_in0 rfl)).trans ?_
      refine (tz_g_getr (j := 97) rfl rfl rfl rfl rfl (tz_in0 rfl)).trans ?_
      refine (tz_g_iload_n rfl (tz_in0 rfl)).trans ?_
      refine (tz_g_iald (n := 12) rfl rfl rfl (tz_in0 rfl)).trans ?_
      refine tz_cn1 ?_
      refine (tz_g_istore_n (L2 := [some (.ref 17), some (.int z1), some (.int z2), some (.int (tz_g A1 97 (Int32.toNatClampNeg z2))), none]) rfl rfl (tz_in0 rfl)).trans ?_
      refine (tz_g_iload_n rfl (tz_in0 rfl)).trans ?_
      refine (tz_g_iconst (v := (-1)) rfl (tz_in0 rfl)).trans ?_
      refine (tz_g_ic_ne (t := 77) (by decide) (tz_in0 rfl)).trans ?_
      refine tz_cg ?_ ?_
      · skip
        refine (tz_g_iload_n rfl (tz_in0 rfl)).trans ?_
        refine (tz_g_aload_n rfl (tz_in0 rfl)).trans ?_
        refine (tz_g_getr (j := 30) rfl rfl rfl rfl rfl (tz_in0 rfl)).trans ?_
        refine (tz_g_geti rfl rfl rfl (tz_in0 rfl)).trans ?_
        refine (tz_g_isub (tz_in0 rfl)).trans ?_
        refine (tz_g_istore (L2 := [some (.ref 17), some (.int z1), some (.int z2), some (.int (tz_g A1 97 (Int32.toNatClampNeg z2))), some (.int ((tz_g A1 97 (Int32.toNatClampNeg z2)) - (tz_g A1 30 3)))]) rfl rfl (tz_in0 rfl)).trans ?_
        refine (tz_g_iload_n rfl (tz_in0 rfl)).trans ?_
        refine (tz_g_iload rfl (tz_in0 rfl)).trans ?_
        refine (tz_g_aload_n rfl (tz_in0 rfl)).trans ?_
        refine (tz_g_getr (j := 30) rfl rfl rfl rfl rfl (tz_in0 rfl)).trans ?_
        refine (tz_g_getr (j := 45) rfl rfl rfl rfl rfl (tz_in0 rfl)).trans ?_
        refine (tz_g_getr (j := 49) rfl rfl rfl rfl rfl (tz_in0 rfl)).trans ?_
        refine (tz_g_iload_n rfl (tz_in0 rfl)).trans ?_
        refine (tz_g_iald (n := 12) rfl rfl rfl (tz_in0 rfl)).trans ?_
        refine tz_cn1 ?_
        refine (tz_g_imul (tz_in0 rfl)).trans ?_
        refine (tz_g_iadd (tz_in0 rfl)).trans ?_
        refine (tz_g_istore_n (L2 := [some (.ref 17), some (.int (z1 + (((tz_g A1 97 (Int32.toNatClampNeg z2)) - (tz_g A1 30 3)) * (tz_g A1 49 (Int32.toNatClampNeg z2))))), some (.int z2), some (.int (tz_g A1 97 (Int32.toNatClampNeg z2))), some (.int ((tz_g A1 97 (Int32.toNatClampNeg z2)) - (tz_g A1 30 3)))]) rfl rfl (tz_in0 rfl)).trans ?_
        refine (tz_g_iinc (v := 1) (L2 := [some (.ref 17), some (.int (z1 + (((tz_g A1 97 (Int32.toNatClampNeg z2)) - (tz_g A1 30 3)) * (tz_g A1 49 (Int32.toNatClampNeg z2))))), some (.int (z2 + 1)), some (.int (tz_g A1 97 (Int32.toNatClampNeg z2))), some (.int ((tz_g A1 97 (Int32.toNatClampNeg z2)) - (tz_g A1 30 3)))]) rfl rfl rfl rfl (tz_in0 rfl)).trans ?_
        refine (tz_g_goto (t := 25) (by decide) (tz_in0 rfl)).trans ?_
        exact tz_Gm (L2 := [some (.ref 17), some (.int (z1 + (((tz_g A1 97 (Int32.toNatClampNeg z2)) - (tz_g A1 30 3)) * (tz_g A1 49 (Int32.toNatClampNeg z2))))), some (.int (z2 + 1)), none, none]) rfl rfl rfl rfl
      · skip
        refine (tz_g_sipush (v := 500) rfl (tz_in0 rfl)).trans ?_
        refine (tz_g_goto (t := 86) (by decide) (tz_in0 rfl)).trans ?_
        refine (tz_g_istore (L2 := [some (.ref 17), some (.int z1), some (.int z2), some (.int (tz_g A1 97 (Int32.toNatClampNeg z2))), some (.int 500)]) rfl rfl (tz_in0 rfl)).trans ?_
        refine (tz_g_iload_n rfl (tz_in0 rfl)).trans ?_
        refine (tz_g_iload rfl (tz_in0 rfl)).trans ?_
        refine (tz_g_aload_n rfl (tz_in0 rfl)).trans ?_
        refine (tz_g_getr (j := 30) rfl rfl rfl rfl rfl (tz_in0 rfl)).trans ?_
        refine (tz_g_getr (j := 45) rfl rfl rfl rfl rfl (tz_in0 rfl)).trans ?_
        refine (tz_g_getr (j := 49) rfl rfl rfl rfl rfl (tz_in0 rfl)).trans ?_
        refine (tz_g_iload_n rfl (tz_in0 rfl)).trans ?_
        refine (tz_g_iald (n := 12) rfl rfl rfl (tz_in0 rfl)).trans ?_
        refine tz_cn1 ?_
        refine (tz_g_imul (tz_in0 rfl)).trans ?_
        refine (tz_g_iadd (tz_in0 rfl)).trans ?_
        refine (tz_g_istore_n (L2 := [some (.ref 17), some (.int (z1 + (500 * (tz_g A1 49 (Int32.toNatClampNeg z2))))), some (.int z2), some (.int (tz_g A1 97 (Int32.toNatClampNeg z2))), some (.int 500)]) rfl rfl (tz_in0 rfl)).trans ?_
        refine (tz_g_iinc (v := 1) (L2 := [some (.ref 17), some (.int (z1 + (500 * (tz_g A1 49 (Int32.toNatClampNeg z2))))), some (.int (z2 + 1)), some (.int (tz_g A1 97 (Int32.toNatClampNeg z2))), some (.int 500)]) rfl rfl rfl rfl (tz_in0 rfl)).trans ?_
        refine (tz_g_goto (t := 25) (by decide) (tz_in0 rfl)).trans ?_
        exact tz_Gm (L2 := [some (.ref 17), some (.int (z1 + (500 * (tz_g A1 49 (Int32.toNatClampNeg z2))))), some (.int (z2 + 1)), none, none]) rfl rfl rfl rfl

theorem e_X11_hours (x1 : Int32) (A : tz_Mem) : f_X11_hours x1 A =
  if x1 < 1 then
  tz_bI (f_X11_refuse (-6) A) (fun y1 A1 =>
  some (some (.int y1), A1))
else
  if x1 ≤ 500 then
    tz_bI (f_X4_countWhere 30 200 A) (fun y1 A1 =>
    tz_bV (f_X9_pass 30 x1 A1) (fun A2 =>
    tz_bI (f_X4_countWhere 30 200 A2) (fun y3 A3 =>
    some (some (.int (y3 - y1)), A3))))
  else
    tz_bI (f_X11_refuse (-6) A) (fun y1 A1 =>
    some (some (.int y1), A1)) := by
  refine (tz_Fe (L := [some (.ref 17), some (.int x1), none]) rfl).trans ?_
  refine (tz_g_iload_n rfl (tz_in0 rfl)).trans ?_
  refine (tz_g_iconst (v := 1) rfl (tz_in0 rfl)).trans ?_
  refine (tz_g_ic_lt (t := 12) (by decide) (tz_in0 rfl)).trans ?_
  refine tz_cg ?_ ?_
  · skip
    refine (tz_g_aload_n rfl (tz_in0 rfl)).trans ?_
    refine (tz_g_bipush (v := (-6)) rfl (tz_in0 rfl)).trans ?_
    refine (tz_g_cv1I (m2 := 15) (rc := 1) rfl rfl rfl rfl rfl rfl (by decide) (tz_in0 rfl)).trans ?_
    refine tz_jI (fun y1 A1 => ?_)
    exact tz_g_ret1 (tz_in0 rfl) rfl
  · skip
    refine (tz_g_iload_n rfl (tz_in0 rfl)).trans ?_
    refine (tz_g_sipush (v := 500) rfl (tz_in0 rfl)).trans ?_
    refine (tz_g_ic_le (t := 19) (by decide) (tz_in0 rfl)).trans ?_
    refine tz_cg ?_ ?_
    · skip
      refine (tz_g_aload_n rfl (tz_in0 rfl)).trans ?_
      refine (tz_g_getr (j := 30) rfl rfl rfl rfl rfl (tz_in0 rfl)).trans ?_
      refine (tz_g_getr (j := 45) rfl rfl rfl rfl rfl (tz_in0 rfl)).trans ?_
      refine (tz_g_sipush (v := 200) rfl (tz_in0 rfl)).trans ?_
      refine (tz_g_cv1I (m2 := 135) (rc := 1) rfl rfl rfl rfl rfl rfl (by decide) (tz_in0 rfl)).trans ?_
      refine tz_jI (fun y1 A1 => ?_)
      refine (tz_g_istore_n (L2 := [some (.ref 17), some (.int x1), some (.int y1)]) rfl rfl (tz_in0 rfl)).trans ?_
      refine (tz_g_aload_n rfl (tz_in0 rfl)).trans ?_
      refine (tz_g_getr (j := 30) rfl rfl rfl rfl rfl (tz_in0 rfl)).trans ?_
      refine (tz_g_iload_n rfl (tz_in0 rfl)).trans ?_
      refine (tz_g_cv1V (m2 := 110) (rc := 0) rfl rfl rfl rfl rfl rfl (by decide) (tz_in0 rfl)).trans ?_
      refine tz_jV (fun A2 => ?_)
      refine (tz_g_aload_n rfl (tz_in0 rfl)).trans ?_
      refine (tz_g_getr (j := 30) rfl rfl rfl rfl rfl (tz_in0 rfl)).trans ?_
      refine (tz_g_getr (j := 45) rfl rfl rfl rfl rfl (tz_in0 rfl)).trans ?_
      refine (tz_g_sipush (v := 200) rfl (tz_in0 rfl)).trans ?_
      refine (tz_g_cv1I (m2 := 135) (rc := 1) rfl rfl rfl rfl rfl rfl (by decide) (tz_in0 rfl)).trans ?_
      refine tz_jI (fun y3 A3 => ?_)
      refine (tz_g_iload_n rfl (tz_in0 rfl)).trans ?_
      refine (tz_g_isub (tz_in0 rfl)).trans ?_
      exact tz_g_ret1 (tz_in0 rfl) rfl
    · skip
      refine (tz_g_aload_n rfl (tz_in0 rfl)).trans ?_
      refine (tz_g_bipush (v := (-6)) rfl (tz_in0 rfl)).trans ?_
      refine (tz_g_cv1I (m2 := 15) (rc := 1) rfl rfl rfl rfl rfl rfl (by decide) (tz_in0 rfl)).trans ?_
      refine tz_jI (fun y1 A1 => ?_)
      exact tz_g_ret1 (tz_in0 rfl) rfl

theorem e_X0_run_3 (x1 : Int32) (x2 : Int32) (x3 : Int32) (x4 : Int32) (A : tz_Mem) : f_X0_run_3 x1 x2 x3 x4 A =
  if x4 < 40 then
  tz_bI (f_X0_kindWithBody x1 x2 A) (fun y1 A1 =>
  tz_bI (f_X0_bodyOf x1 y1 A1) (fun y2 A2 =>
  if y1 < 0 ∨ 7 ≤ (Int32.toNatClampNeg y1) then none else
  tz_bV (f_X0_note y2 A2) (fun A3 =>
  if y2 = 10 then
    some (some (.int (x3 + (tz_g A3 148 2))), A3)
  else if y2 = 11 then
    tz_bI (f_X0_run_4 0 (tz_g A3 148 4) x3 (x4 + 1) A3) (fun y4 A4 =>
    some (some (.int (y4 * 2)), A4))
  else if y2 = 12 then
    tz_bI (f_X0_run_4 1 (tz_g A3 148 4) x3 (x4 + 1) A3) (fun y4 A4 =>
    tz_bI (f_X0_run_4 0 (tz_g A4 148 4) (x3 - (tz_g A4 148 3)) (x4 + 1) A4) (fun y5 A5 =>
    some (some (.int (y4 ^^^ y5)), A5)))
  else if y2 = 20 then
    tz_bI (f_X0_run_4 0 (tz_XT 1 (Int32.toNatClampNeg y1)) x3 (x4 + 1) A3) (fun y4 A4 =>
    some (some (.int (y4 + (tz_g A4 148 3))), A4))
  else if y2 = 30 then
    tz_bI (f_X0_run_4 1 (tz_XT 1 (Int32.toNatClampNeg y1)) x3 (x4 + 1) A3) (fun y4 A4 =>
    some (some (.int (y4 * 3)), A4))
  else if y2 = 40 then
    tz_bI (f_X0_run_4 1 (tz_XT 1 (Int32.toNatClampNeg y1)) (x3 + 1) (x4 + 1) A3) (fun y4 A4 =>
    some (some (.int y4), A4))
  else if y2 = 50 then
    tz_bI (f_X0_run_4 2 (tz_XT 1 (Int32.toNatClampNeg y1)) x3 (x4 + 1) A3) (fun y4 A4 =>
    some (some (.int (-y4)), A4))
  else if y2 = 51 then
    tz_bI (f_X0_run_4 0 (tz_XT 1 (Int32.toNatClampNeg y1)) x3 (x4 + 1) A3) (fun y4 A4 =>
    some (some (.int (y4 - (tz_g A4 148 2))), A4))
  else if y2 = 60 then
    tz_bI (f_X0_run_4 2 (tz_XT 1 (Int32.toNatClampNeg y1)) x3 (x4 + 1) A3) (fun y4 A4 =>
    some (some (.int (y4 ^^^ 5)), A4))
  else if y2 = 70 then
    tz_bI (f_X0_run_4 0 (tz_XT 1 (Int32.toNatClampNeg y1)) x3 (x4 + 1) A3) (fun y4 A4 =>
    some (some (.int (y4 * 2)), A4))
  else tz_bI (f_X0_run_4 1 (tz_XT 1 (Int32.toNatClampNeg y1)) (x3 - (tz_g A3 148 3)) (x4 + 1) A3) (fun y4 A4 =>
  some (some (.int y4), A4)))))
else
  some (some (.int 0), A) := by
  refine (tz_Fe (L := [some (.ref 148), some (.int x1), some (.int x2), some (.int x3), some (.int x4), none, none, none, none]) rfl).trans ?_
  refine (tz_g_iload rfl (tz_in0 rfl)).trans ?_
  refine (tz_g_bipush (v := 40) rfl (tz_in0 rfl)).trans ?_
  refine (tz_g_ic_lt (t := 9) (by decide) (tz_in0 rfl)).trans ?_
  refine tz_cg ?_ ?_
  · skip
    refine (tz_g_iload_n rfl (tz_in0 rfl)).trans ?_
    refine (tz_g_iload_n rfl (tz_in0 rfl)).trans ?_
    refine (tz_g_cs2I (m2 := 153) (rc := 1) rfl rfl rfl rfl rfl rfl (by decide) (tz_in0 rfl)).trans ?_
    refine tz_jI (fun y1 A1 => ?_)
    refine (tz_g_istore (L2 := [some (.ref 148), some (.int x1), some (.int x2), some (.int x3), some (.int x4), some (.int y1), none, none, none]) rfl rfl (tz_in0 rfl)).trans ?_
    refine (tz_g_iload_n rfl (tz_in0 rfl)).trans ?_
    refine (tz_g_iload rfl (tz_in0 rfl)).trans ?_
    refine (tz_g_cs2I (m2 := 154) (rc := 1) rfl rfl rfl rfl rfl rfl (by decide) (tz_in0 rfl)).trans ?_
    refine tz_jI (fun y2 A2 => ?_)
    refine (tz_g_istore (L2 := [some (.ref 148), some (.int x1), some (.int x2), some (.int x3), some (.int x4), some (.int y1), some (.int y2), none, none]) rfl rfl (tz_in0 rfl)).trans ?_
    refine (tz_g_gets0 (j := 1) rfl (tz_in0 rfl)).trans ?_
    refine (tz_g_iload rfl (tz_in0 rfl)).trans ?_
    refine (tz_g_ialx (n := 7) rfl rfl rfl (tz_in0 rfl)).trans ?_
    refine tz_cn1 ?_
    refine (tz_g_istore (L2 := [some (.ref 148), some (.int x1), some (.int x2), some (.int x3), some (.int x4), some (.int y1), some (.int y2), some (.int (tz_XT 1 (Int32.toNatClampNeg y1))), none]) rfl rfl (tz_in0 rfl)).trans ?_
    refine (tz_g_iload rfl (tz_in0 rfl)).trans ?_
    refine (tz_g_iconst (v := 1) rfl (tz_in0 rfl)).trans ?_
    refine (tz_g_iadd (tz_in0 rfl)).trans ?_
    refine (tz_g_istore (L2 := [some (.ref 148), some (.int x1), some (.int x2), some (.int x3), some (.int x4), some (.int y1), some (.int y2), some (.int (tz_XT 1 (Int32.toNatClampNeg y1))), some (.int (x4 + 1))]) rfl rfl (tz_in0 rfl)).trans ?_
    refine (tz_g_aload_n rfl (tz_in0 rfl)).trans ?_
    refine (tz_g_iload rfl (tz_in0 rfl)).trans ?_
    refine (tz_g_cv1V (m2 := 155) (rc := 0) rfl rfl rfl rfl rfl rfl (by decide) (tz_in0 rfl)).trans ?_
    refine tz_jV (fun A3 => ?_)
    refine (tz_g_iload rfl (tz_in0 rfl)).trans ?_
    refine (tz_g_lsw (by decide) (tz_in0 rfl)).trans ?_
    refine tz_slc (v := 10) (by decide) ?_ ?_
    · refine (tz_tg (t := 136) (by decide)).trans ?_
      refine (tz_g_iload_n rfl (tz_in0 rfl)).trans ?_
      refine (tz_g_aload_n rfl (tz_in0 rfl)).trans ?_
      refine (tz_g_geti rfl rfl rfl (tz_in0 rfl)).trans ?_
      refine (tz_g_iadd (tz_in0 rfl)).trans ?_
      exact tz_g_ret1 (tz_in0 rfl) rfl
    refine tz_slc (v := 11) (by decide) ?_ ?_
    · refine (tz_tg (t := 143) (by decide)).trans ?_
      refine (tz_g_aload_n rfl (tz_in0 rfl)).trans ?_
      refine (tz_g_iconst (v := 0) rfl (tz_in0 rfl)).trans ?_
      refine (tz_g_aload_n rfl (tz_in0 rfl)).trans ?_
      refine (tz_g_geti rfl rfl rfl (tz_in0 rfl)).trans ?_
      refine (tz_g_iload_n rfl (tz_in0 rfl)).trans ?_
      refine (tz_g_iload rfl (tz_in0 rfl)).trans ?_
      refine (tz_g_cv4I (m2 := 149) (rc := 1) rfl rfl rfl rfl rfl rfl (by decide) (tz_in0 rfl)).trans ?_
      refine tz_jI (fun y4 A4 => ?_)
      refine (tz_g_iconst (v := 2) rfl (tz_in0 rfl)).trans ?_
      refine (tz_g_imul (tz_in0 rfl)).trans ?_
      exact tz_g_ret1 (tz_in0 rfl) rfl
    refine tz_slc (v := 12) (by decide) ?_ ?_
    · refine (tz_tg (t := 158) (by decide)).trans ?_
      refine (tz_g_aload_n rfl (tz_in0 rfl)).trans ?_
      refine (tz_g_iconst (v := 1) rfl (tz_in0 rfl)).trans ?_
      refine (tz_g_aload_n rfl (tz_in0 rfl)).trans ?_
      refine (tz_g_geti rfl rfl rfl (tz_in0 rfl)).trans ?_
      refine (tz_g_iload_n rfl (tz_in0 rfl)).trans ?_
      refine (tz_g_iload rfl (tz_in0 rfl)).trans ?_
      refine (tz_g_cv4I (m2 := 149) (rc := 1) rfl rfl rfl rfl rfl rfl (by decide) (tz_in0 rfl)).trans ?_
      refine tz_jI (fun y4 A4 => ?_)
      refine (tz_g_aload_n rfl (tz_in0 rfl)).trans ?_
      refine (tz_g_iconst (v := 0) rfl (tz_in0 rfl)).trans ?_
      refine (tz_g_aload_n rfl (tz_in0 rfl)).trans ?_
      refine (tz_g_geti rfl rfl rfl (tz_in0 rfl)).trans ?_
      refine (tz_g_iload_n rfl (tz_in0 rfl)).trans ?_
      refine (tz_g_aload_n rfl (tz_in0 rfl)).trans ?_
      refine (tz_g_geti rfl rfl rfl (tz_in0 rfl)).trans ?_
      refine (tz_g_isub (tz_in0 rfl)).trans ?_
      refine (tz_g_iload rfl (tz_in0 rfl)).trans ?_
      refine (tz_g_cv4I (m2 := 149) (rc := 1) rfl rfl rfl rfl rfl rfl (by decide) (tz_in0 rfl)).trans ?_
      refine tz_jI (fun y5 A5 => ?_)
      refine (tz_g_ixor (tz_in0 rfl)).trans ?_
      exact tz_g_ret1 (tz_in0 rfl) rfl
    refine tz_slc (v := 20) (by decide) ?_ ?_
    · refine (tz_tg (t := 189) (by decide)).trans ?_
      refine (tz_g_aload_n rfl (tz_in0 rfl)).trans ?_
      refine (tz_g_iconst (v := 0) rfl (tz_in0 rfl)).trans ?_
      refine (tz_g_iload rfl (tz_in0 rfl)).trans ?_
      refine (tz_g_iload_n rfl (tz_in0 rfl)).trans ?_
      refine (tz_g_iload rfl (tz_in0 rfl)).trans ?_
      refine (tz_g_cv4I (m2 := 149) (rc := 1) rfl rfl rfl rfl rfl rfl (by decide) (tz_in0 rfl)).trans ?_
      refine tz_jI (fun y4 A4 => ?_)
      refine (tz_g_aload_n rfl (tz_in0 rfl)).trans ?_
      refine (tz_g_geti rfl rfl rfl (tz_in0 rfl)).trans ?_
      refine (tz_g_iadd (tz_in0 rfl)).trans ?_
      exact tz_g_ret1 (tz_in0 rfl) rfl
    refine tz_slc (v := 30) (by decide) ?_ ?_
    · refine (tz_tg (t := 205) (by decide)).trans ?_
      refine (tz_g_aload_n rfl (tz_in0 rfl)).trans ?_
      refine (tz_g_iconst (v := 1) rfl (tz_in0 rfl)).trans ?_
      refine (tz_g_iload rfl (tz_in0 rfl)).trans ?_
      refine (tz_g_iload_n rfl (tz_in0 rfl)).trans ?_
      refine (tz_g_iload rfl (tz_in0 rfl)).trans ?_
      refine (tz_g_cv4I (m2 := 149) (rc := 1) rfl rfl rfl rfl rfl rfl (by decide) (tz_in0 rfl)).trans ?_
      refine tz_jI (fun y4 A4 => ?_)
      refine (tz_g_iconst (v := 3) rfl (tz_in0 rfl)).trans ?_
      refine (tz_g_imul (tz_in0 rfl)).trans ?_
      exact tz_g_ret1 (tz_in0 rfl) rfl
    refine tz_slc (v := 40) (by decide) ?_ ?_
    · refine (tz_tg (t := 218) (by decide)).trans ?_
      refine (tz_g_aload_n rfl (tz_in0 rfl)).trans ?_
      refine (tz_g_iconst (v := 1) rfl (tz_in0 rfl)).trans ?_
      refine (tz_g_iload rfl (tz_in0 rfl)).trans ?_
      refine (tz_g_iload_n rfl (tz_in0 rfl)).trans ?_
      refine (tz_g_iconst (v := 1) rfl (tz_in0 rfl)).trans ?_
      refine (tz_g_iadd (tz_in0 rfl)).trans ?_
      refine (tz_g_iload rfl (tz_in0 rfl)).trans ?_
      refine (tz_g_cv4I (m2 := 149) (rc := 1) rfl rfl rfl rfl rfl rfl (by decide) (tz_in0 rfl)).trans ?_
      refine tz_jI (fun y4 A4 => ?_)
      exact tz_g_ret1 (tz_in0 rfl) rfl
    refine tz_slc (v := 50) (by decide) ?_ ?_
    · refine (tz_tg (t := 231) (by decide)).trans ?_
      refine (tz_g_aload_n rfl (tz_in0 rfl)).trans ?_
      refine (tz_g_iconst (v := 2) rfl (tz_in0 rfl)).trans ?_
      refine (tz_g_iload rfl (tz_in0 rfl)).trans ?_
      refine (tz_g_iload_n rfl (tz_in0 rfl)).trans ?_
      refine (tz_g_iload rfl (tz_in0 rfl)).trans ?_
      refine (tz_g_cv4I (m2 := 149) (rc := 1) rfl rfl rfl rfl rfl rfl (by decide) (tz_in0 rfl)).trans ?_
      refine tz_jI (fun y4 A4 => ?_)
      refine (tz_g_ineg (tz_in0 rfl)).trans ?_
      exact tz_g_ret1 (tz_in0 rfl) rfl
    refine tz_slc (v := 51) (by decide) ?_ ?_
    · refine (tz_tg (t := 243) (by decide)).trans ?_
      refine (tz_g_aload_n rfl (tz_in0 rfl)).trans ?_
      refine (tz_g_iconst (v := 0) rfl (tz_in0 rfl)).trans ?_
      refine (tz_g_iload rfl (tz_in0 rfl)).trans ?_
      refine (tz_g_iload_n rfl (tz_in0 rfl)).trans ?_
      refine (tz_g_iload rfl (tz_in0 rfl)).trans ?_
      refine (tz_g_cv4I (m2 := 149) (rc := 1) rfl rfl rfl rfl rfl rfl (by decide) (tz_in0 rfl)).trans ?_
      refine tz_jI (fun y4 A4 => ?_)
      refine (tz_g_aload_n rfl (tz_in0 rfl)).trans ?_
      refine (tz_g_geti rfl rfl rfl (tz_in0 rfl)).trans ?_
      refine (tz_g_isub (tz_in0 rfl)).trans ?_
      exact tz_g_ret1 (tz_in0 rfl) rfl
    refine tz_slc (v := 60) (by decide) ?_ ?_
    · refine (tz_tg (t := 259) (by decide)).trans ?_
      refine (tz_g_aload_n rfl (tz_in0 rfl)).trans ?_
      refine (tz_g_iconst (v := 2) rfl (tz_in0 rfl)).trans ?_
      refine (tz_g_iload rfl (tz_in0 rfl)).trans ?_
      refine (tz_g_iload_n rfl (tz_in0 rfl)).trans ?_
      refine (tz_g_iload rfl (tz_in0 rfl)).trans ?_
      refine (tz_g_cv4I (m2 := 149) (rc := 1) rfl rfl rfl rfl rfl rfl (by decide) (tz_in0 rfl)).trans ?_
      refine tz_jI (fun y4 A4 => ?_)
      refine (tz_g_iconst (v := 5) rfl (tz_in0 rfl)).trans ?_
      refine (tz_g_ixor (tz_in0 rfl)).trans ?_
      exact tz_g_ret1 (tz_in0 rfl) rfl
    refine tz_slc (v := 70) (by decide) ?_ ?_
    · refine (tz_tg (t := 272) (by decide)).trans ?_
      refine (tz_g_aload_n rfl (tz_in0 rfl)).trans ?_
      refine (tz_g_iconst (v := 0) rfl (tz_in0 rfl)).trans ?_
      refine (tz_g_iload rfl (tz_in0 rfl)).trans ?_
      refine (tz_g_iload_n rfl (tz_in0 rfl)).trans ?_
      refine (tz_g_iload rfl (tz_in0 rfl)).trans ?_
      refine (tz_g_cv4I (m2 := 149) (rc := 1) rfl rfl rfl rfl rfl rfl (by decide) (tz_in0 rfl)).trans ?_
      refine tz_jI (fun y4 A4 => ?_)
      refine (tz_g_iconst (v := 2) rfl (tz_in0 rfl)).trans ?_
      refine (tz_g_imul (tz_in0 rfl)).trans ?_
      exact tz_g_ret1 (tz_in0 rfl) rfl
    refine tz_sld ?_
    refine (tz_tg (t := 285) (by decide)).trans ?_
    refine (tz_g_aload_n rfl (tz_in0 rfl)).trans ?_
    refine (tz_g_iconst (v := 1) rfl (tz_in0 rfl)).trans ?_
    refine (tz_g_iload rfl (tz_in0 rfl)).trans ?_
    refine (tz_g_iload_n rfl (tz_in0 rfl)).trans ?_
    refine (tz_g_aload_n rfl (tz_in0 rfl)).trans ?_
    refine (tz_g_geti rfl rfl rfl (tz_in0 rfl)).trans ?_
    refine (tz_g_isub (tz_in0 rfl)).trans ?_
    refine (tz_g_iload rfl (tz_in0 rfl)).trans ?_
    refine (tz_g_cv4I (m2 := 149) (rc := 1) rfl rfl rfl rfl rfl rfl (by decide) (tz_in0 rfl)).trans ?_
    refine tz_jI (fun y4 A4 => ?_)
    exact tz_g_ret1 (tz_in0 rfl) rfl
  · skip
    refine (tz_g_iconst (v := 0) rfl (tz_in0 rfl)).trans ?_
    exact tz_g_ret1 (tz_in0 rfl) rfl

theorem e_X12_item (A : tz_Mem) : f_X12_item A =
  tz_bI (f_X12_sign A) (fun y1 A1 =>
if y1 = 98 then
  tz_bI (f_X12_word_s9 A1) (fun y2 A2 =>
  if y2 = 0 then
    some (some (.int 0), A2)
  else
    tz_bI (f_X12_number 0 0 ((tz_g A2 157 15) - 1) A2) (fun y3 A3 =>
    if ¬ y3 = 0 then
      if (0 : Int32) < 0 ∨ 10 ≤ 0 then none else
      tz_bI (f_X12_burns (tz_g A3 183 0) A3) (fun y4 A4 =>
      some (some (.int 1), A4))
    else
      some (some (.int 0), A3)))
else if y1 = 104 then
  tz_bI (f_X12_sign (tz_s A1 157 40 ((tz_g A1 157 40) + 1))) (fun y2 A2 =>
  if ¬ y2 = 111 then
    if 8 ≤ (tz_g (tz_s A2 157 40 ((tz_g A2 157 40) - 1)) 157 3) then
      tz_bI (f_X12_word__s5 0 (tz_s A2 157 40 ((tz_g A2 157 40) - 1))) (fun y3 A3 =>
      if y3 = 0 then
        some (some (.int 0), A3)
      else
        tz_bI (f_X12_number 0 0 6 A3) (fun y4 A4 =>
        if y4 = 0 then
          some (some (.int 0), A4)
        else
          tz_bI (f_X12_number 1 0 9 A4) (fun y5 A5 =>
          if ¬ y5 = 0 then
            if (0 : Int32) < 0 ∨ 10 ≤ 0 then none else
            if (1 : Int32) < 0 ∨ 10 ≤ 1 then none else
            tz_bI (f_X12_newHill (tz_g A5 183 0) (tz_g A5 183 1) A5) (fun y6 A6 =>
            some (some (.int 1), A6))
          else
            some (some (.int 0), A5))))
    else
      tz_bI (f_X12_word__s5 1 (tz_s A2 157 40 ((tz_g A2 157 40) - 1))) (fun y3 A3 =>
      if y3 = 0 then
        some (some (.int 0), A3)
      else
        tz_bI (f_X12_number 0 0 6 A3) (fun y4 A4 =>
        if y4 = 0 then
          some (some (.int 0), A4)
        else
          tz_bI (f_X12_number 1 0 9 A4) (fun y5 A5 =>
          if ¬ y5 = 0 then
            if (0 : Int32) < 0 ∨ 10 ≤ 0 then none else
            if (1 : Int32) < 0 ∨ 10 ≤ 1 then none else
            tz_bI (f_X12_newHill (tz_g A5 183 0) (tz_g A5 183 1) A5) (fun y6 A6 =>
            some (some (.int 1), A6))
          else
            some (some (.int 0), A5))))
  else
    tz_bI (f_X12_word_s10 A2) (fun y3 A3 =>
    if y3 = 0 then
      some (some (.int 0), A3)
    else
      tz_bI (f_X12_number 0 1 99 A3) (fun y4 A4 =>
      if ¬ y4 = 0 then
        q_X12_item_91 0 A4
      else
        some (some (.int 0), A4))))
else if y1 = 108 then
  if 12 ≤ (tz_g A1 157 15) then
    tz_bI (f_X12_word__s7 0 A1) (fun y2 A2 =>
    if y2 = 0 then
      some (some (.int 0), A2)
    else
      tz_bI (f_X12_number 0 0 9999 A2) (fun y3 A3 =>
      if y3 = 0 then
        some (some (.int 0), A3)
      else
        tz_bI (f_X12_number 1 0 ((tz_g A3 157 3) - 1) A3) (fun y4 A4 =>
        if y4 = 0 then
          some (some (.int 0), A4)
        else
          tz_bI (f_X12_hillBut 2 1 A4) (fun y5 A5 =>
          if y5 = 0 then
            some (some (.int 0), A5)
          else
            tz_bI (f_X12_number 3 1 99 A5) (fun y6 A6 =>
            if ¬ y6 = 0 then
              if (0 : Int32) < 0 ∨ 10 ≤ 0 then none else
              if (1 : Int32) < 0 ∨ 10 ≤ 1 then none else
              if (2 : Int32) < 0 ∨ 10 ≤ 2 then none else
              if (3 : Int32) < 0 ∨ 10 ≤ 3 then none else
              tz_bI (f_X12_newLetter (tz_g A6 183 0) (tz_g A6 183 1) (tz_g A6 183 2) (tz_g A6 183 3) A6) (fun y7 A7 =>
              some (some (.int 1), A7))
            else
              some (some (.int 0), A6))))))
  else
    tz_bI (f_X12_word__s7 1 A1) (fun y2 A2 =>
    if y2 = 0 then
      some (some (.int 0), A2)
    else
      tz_bI (f_X12_number 0 0 9999 A2) (fun y3 A3 =>
      if y3 = 0 then
        some (some (.int 0), A3)
      else
        tz_bI (f_X12_number 1 0 ((tz_g A3 157 3) - 1) A3) (fun y4 A4 =>
        if y4 = 0 then
          some (some (.int 0), A4)
        else
          tz_bI (f_X12_hillBut 2 1 A4) (fun y5 A5 =>
          if y5 = 0 then
            some (some (.int 0), A5)
          else
            tz_bI (f_X12_number 3 1 99 A5) (fun y6 A6 =>
            if ¬ y6 = 0 then
              if (0 : Int32) < 0 ∨ 10 ≤ 0 then none else
              if (1 : Int32) < 0 ∨ 10 ≤ 1 then none else
              if (2 : Int32) < 0 ∨ 10 ≤ 2 then none else
              if (3 : Int32) < 0 ∨ 10 ≤ 3 then none else
              tz_bI (f_X12_newLetter (tz_g A6 183 0) (tz_g A6 183 1) (tz_g A6 183 2) (tz_g A6 183 3) A6) (fun y7 A7 =>
              some (some (.int 1), A7))
            else
              some (some (.int 0), A6))))))
else if y1 = 115 then
  if 4 ≤ (tz_g A1 157 8) then
    tz_bI (f_X12_word__s6 0 A1) (fun y2 A2 =>
    if y2 = 0 then
      some (some (.int 0), A2)
    else
      tz_bI (f_X12_number 0 1 9 A2) (fun y3 A3 =>
      if y3 = 0 then
        some (some (.int 0), A3)
      else
        tz_bI (f_X12_number 1 1 99 A3) (fun y4 A4 =>
        if y4 = 0 then
          some (some (.int 0), A4)
        else
          tz_bI (f_X12_number 2 1 9 A4) (fun y5 A5 =>
          if y5 = 0 then
            some (some (.int 0), A5)
          else
            tz_bI (f_X12_ways A5) (fun y6 A6 =>
            if ¬ y6 = 0 then
              if (0 : Int32) < 0 ∨ 10 ≤ 0 then none else
              if (1 : Int32) < 0 ∨ 10 ≤ 1 then none else
              if (2 : Int32) < 0 ∨ 10 ≤ 2 then none else
              tz_bI (f_X12_newStorm (tz_g A6 183 0) (tz_g A6 183 1) (tz_g A6 183 2) A6) (fun y7 A7 =>
              some (some (.int 1), A7))
            else
              some (some (.int 0), A6))))))
  else
    tz_bI (f_X12_word__s6 1 A1) (fun y2 A2 =>
    if y2 = 0 then
      some (some (.int 0), A2)
    else
      tz_bI (f_X12_number 0 1 9 A2) (fun y3 A3 =>
      if y3 = 0 then
        some (some (.int 0), A3)
      else
        tz_bI (f_X12_number 1 1 99 A3) (fun y4 A4 =>
        if y4 = 0 then
          some (some (.int 0), A4)
        else
          tz_bI (f_X12_number 2 1 9 A4) (fun y5 A5 =>
          if y5 = 0 then
            some (some (.int 0), A5)
          else
            tz_bI (f_X12_ways A5) (fun y6 A6 =>
            if ¬ y6 = 0 then
              if (0 : Int32) < 0 ∨ 10 ≤ 0 then none else
              if (1 : Int32) < 0 ∨ 10 ≤ 1 then none else
              if (2 : Int32) < 0 ∨ 10 ≤ 2 then none else
              tz_bI (f_X12_newStorm (tz_g A6 183 0) (tz_g A6 183 1) (tz_g A6 183 2) A6) (fun y7 A7 =>
              some (some (.int 1), A7))
            else
              some (some (.int 0), A6))))))
else some (some (.int 0), A1)) := by
  refine (tz_Fe (L := [some (.ref 157), none]) rfl).trans ?_
  refine (tz_g_aload_n rfl (tz_in0 rfl)).trans ?_
  refine (tz_g_cv0I (m2 := 198) (rc := 1) rfl rfl rfl rfl rfl rfl (by decide) (tz_in0 rfl)).trans ?_
  refine tz_jI (fun y1 A1 => ?_)
  refine (tz_g_lsw (by decide) (tz_in0 rfl)).trans ?_
  refine tz_slc (v := 98) (by decide) ?_ ?_
  · refine (tz_tg (t := 381) (by decide)).trans ?_
    refine (tz_g_aload_n rfl (tz_in0 rfl)).trans ?_
    refine (tz_g_ldcS (j := 9) rfl (tz_in0 rfl)).trans ?_
    refine (tz_g_cv1I (m2 := 199) (rc := 4) rfl rfl rfl rfl rfl rfl (by decide) (tz_in0 rfl)).trans ?_
    refine tz_jI (fun y2 A2 => ?_)
    refine (tz_g_if_eq (t := 405) (by decide) (tz_in0 rfl)).trans ?_
    refine tz_cg ?_ ?_
    · skip
      refine (tz_g_iconst (v := 0) rfl (tz_in0 rfl)).trans ?_
      exact tz_g_ret4K (by decide) (tz_in0 rfl) rfl
    · skip
      refine (tz_g_aload_n rfl (tz_in0 rfl)).trans ?_
      refine (tz_g_iconst (v := 0) rfl (tz_in0 rfl)).trans ?_
      refine (tz_g_iconst (v := 0) rfl (tz_in0 rfl)).trans ?_
      refine (tz_g_aload_n rfl (tz_in0 rfl)).trans ?_
      refine (tz_g_geti rfl rfl rfl (tz_in0 rfl)).trans ?_
      refine (tz_g_iconst (v := 1) rfl (tz_in0 rfl)).trans ?_
      refine (tz_g_isub (tz_in0 rfl)).trans ?_
      refine (tz_g_cv3I (m2 := 201) (rc := 4) rfl rfl rfl rfl rfl rfl (by decide) (tz_in0 rfl)).trans ?_
      refine tz_jI (fun y3 A3 => ?_)
      refine (tz_g_if_ne (t := 407) (by decide) (tz_in0 rfl)).trans ?_
      refine tz_cg ?_ ?_
      · skip
        refine (tz_g_aload_n rfl (tz_in0 rfl)).trans ?_
        refine (tz_g_aload_n rfl (tz_in0 rfl)).trans ?_
        refine (tz_g_getr (j := 183) rfl rfl rfl rfl rfl (tz_in0 rfl)).trans ?_
        refine (tz_g_iconst (v := 0) rfl (tz_in0 rfl)).trans ?_
        refine (tz_g_iald (n := 10) rfl rfl rfl (tz_in0 rfl)).trans ?_
        refine tz_cn1 ?_
        refine (tz_g_cv1I (m2 := 210) (rc := 1) rfl rfl rfl rfl rfl rfl (by decide) (tz_in0 rfl)).trans ?_
        refine tz_jI (fun y4 A4 => ?_)
        refine (tz_g_pop rfl (tz_in0 rfl)).trans ?_
        refine (tz_g_iconst (v := 1) rfl (tz_in0 rfl)).trans ?_
        exact tz_g_ret4K (by decide) (tz_in0 rfl) rfl
      · skip
        refine (tz_g_iconst (v := 0) rfl (tz_in0 rfl)).trans ?_
        exact tz_g_ret4K (by decide) (tz_in0 rfl) rfl
  refine tz_slc (v := 104) (by decide) ?_ ?_
  · refine (tz_tg (t := 48) (by decide)).trans ?_
    refine (tz_g_aload_n rfl (tz_in0 rfl)).trans ?_
    refine (tz_g_dup rfl (tz_in0 rfl)).trans ?_
    refine (tz_g_geti rfl rfl rfl (tz_in0 rfl)).trans ?_
    refine (tz_g_iconst (v := 1) rfl (tz_in0 rfl)).trans ?_
    refine (tz_g_iadd (tz_in0 rfl)).trans ?_
    refine (tz_g_puti rfl rfl rfl (tz_in0 rfl)).trans ?_
    refine (tz_g_aload_n rfl (tz_in0 rfl)).trans ?_
    refine (tz_g_cv0I (m2 := 198) (rc := 1) rfl rfl rfl rfl rfl rfl (by decide) (tz_in0 rfl)).trans ?_
    refine tz_jI (fun y2 A2 => ?_)
    refine (tz_g_bipush (v := 111) rfl (tz_in0 rfl)).trans ?_
    refine (tz_g_ic_ne (t := 113) (by decide) (tz_in0 rfl)).trans ?_
    refine tz_cg ?_ ?_
    · skip
      refine (tz_g_aload_n rfl (tz_in0 rfl)).trans ?_
      refine (tz_g_dup rfl (tz_in0 rfl)).trans ?_
      refine (tz_g_geti rfl rfl rfl (tz_in0 rfl)).trans ?_
      refine (tz_g_iconst (v := 1) rfl (tz_in0 rfl)).trans ?_
      refine (tz_g_isub (tz_in0 rfl)).trans ?_
      refine (tz_g_puti rfl rfl rfl (tz_in0 rfl)).trans ?_
      refine (tz_g_aload_n rfl (tz_in0 rfl)).trans ?_
      refine (tz_g_ldcS (j := 5) rfl (tz_in0 rfl)).trans ?_
      refine (tz_g_aload_n rfl (tz_in0 rfl)).trans ?_
      refine (tz_g_geti rfl rfl rfl (tz_in0 rfl)).trans ?_
      refine (tz_g_bipush (v := 8) rfl (tz_in0 rfl)).trans ?_
      refine (tz_g_ic_ge (t := 139) (by decide) (tz_in0 rfl)).trans ?_
      refine tz_cg ?_ ?_
      · skip
        refine (tz_g_iconst (v := 0) rfl (tz_in0 rfl)).trans ?_
        refine (tz_g_cv2I (m2 := 207) (rc := 4) rfl rfl rfl rfl rfl rfl (by decide) (tz_in0 rfl)).trans ?_
        refine tz_jI (fun y3 A3 => ?_)
        refine (tz_g_if_eq (t := 168) (by decide) (tz_in0 rfl)).trans ?_
        refine tz_cg ?_ ?_
        · skip
          refine (tz_g_iconst (v := 0) rfl (tz_in0 rfl)).trans ?_
          exact tz_g_ret4K (by decide) (tz_in0 rfl) rfl
        · skip
          refine (tz_g_aload_n rfl (tz_in0 rfl)).trans ?_
          refine (tz_g_iconst (v := 0) rfl (tz_in0 rfl)).trans ?_
          refine (tz_g_iconst (v := 0) rfl (tz_in0 rfl)).trans ?_
          refine (tz_g_bipush (v := 6) rfl (tz_in0 rfl)).trans ?_
          refine (tz_g_cv3I (m2 := 201) (rc := 4) rfl rfl rfl rfl rfl rfl (by decide) (tz_in0 rfl)).trans ?_
          refine tz_jI (fun y4 A4 => ?_)
          refine (tz_g_if_eq (t := 168) (by decide) (tz_in0 rfl)).trans ?_
          refine tz_cg ?_ ?_
          · skip
            refine (tz_g_iconst (v := 0) rfl (tz_in0 rfl)).trans ?_
            exact tz_g_ret4K (by decide) (tz_in0 rfl) rfl
          · skip
            refine (tz_g_aload_n rfl (tz_in0 rfl)).trans ?_
            refine (tz_g_iconst (v := 1) rfl (tz_in0 rfl)).trans ?_
            refine (tz_g_iconst (v := 0) rfl (tz_in0 rfl)).trans ?_
            refine (tz_g_bipush (v := 9) rfl (tz_in0 rfl)).trans ?_
            refine (tz_g_cv3I (m2 := 201) (rc := 4) rfl rfl rfl rfl rfl rfl (by decide) (tz_in0 rfl)).trans ?_
            refine tz_jI (fun y5 A5 => ?_)
            refine (tz_g_if_ne (t := 170) (by decide) (tz_in0 rfl)).trans ?_
            refine tz_cg ?_ ?_
            · skip
              refine (tz_g_aload_n rfl (tz_in0 rfl)).trans ?_
              refine (tz_g_aload_n rfl (tz_in0 rfl)).trans ?_
              refine (tz_g_getr (j := 183) rfl rfl rfl rfl rfl (tz_in0 rfl)).trans ?_
              refine (tz_g_iconst (v := 0) rfl (tz_in0 rfl)).trans ?_
              refine (tz_g_iald (n := 10) rfl rfl rfl (tz_in0 rfl)).trans ?_
              refine tz_cn1 ?_
              refine (tz_g_aload_n rfl (tz_in0 rfl)).trans ?_
              refine (tz_g_getr (j := 183) rfl rfl rfl rfl rfl (tz_in0 rfl)).trans ?_
              refine (tz_g_iconst (v := 1) rfl (tz_in0 rfl)).trans ?_
              refine (tz_g_iald (n := 10) rfl rfl rfl (tz_in0 rfl)).trans ?_
              refine tz_cn1 ?_
              refine (tz_g_cv2I (m2 := 182) (rc := 1) rfl rfl rfl rfl rfl rfl (by decide) (tz_in0 rfl)).trans ?_
              refine tz_jI (fun y6 A6 => ?_)
              refine (tz_g_pop rfl (tz_in0 rfl)).trans ?_
              refine (tz_g_iconst (v := 1) rfl (tz_in0 rfl)).trans ?_
              exact tz_g_ret4K (by decide) (tz_in0 rfl) rfl
            · skip
              refine (tz_g_iconst (v := 0) rfl (tz_in0 rfl)).trans ?_
              exact tz_g_ret4K (by decide) (tz_in0 rfl) rfl
      · skip
        refine (tz_g_iconst (v := 1) rfl (tz_in0 rfl)).trans ?_
        refine (tz_g_goto (t := 140) (by decide) (tz_in0 rfl)).trans ?_
        refine (tz_g_cv2I (m2 := 207) (rc := 4) rfl rfl rfl rfl rfl rfl (by decide) (tz_in0 rfl)).trans ?_
        refine tz_jI (fun y3 A3 => ?_)
        refine (tz_g_if_eq (t := 168) (by decide) (tz_in0 rfl)).trans ?_
        refine tz_cg ?_ ?_
        · skip
          refine (tz_g_iconst (v := 0) rfl (tz_in0 rfl)).trans ?_
          exact tz_g_ret4K (by decide) (tz_in0 rfl) rfl
        · skip
          refine (tz_g_aload_n rfl (tz_in0 rfl)).trans ?_
          refine (tz_g_iconst (v := 0) rfl (tz_in0 rfl)).trans ?_
          refine (tz_g_iconst (v := 0) rfl (tz_in0 rfl)).trans ?_
          refine (tz_g_bipush (v := 6) rfl (tz_in0 rfl)).trans ?_
          refine (tz_g_cv3I (m2 := 201) (rc := 4) rfl rfl rfl rfl rfl rfl (by decide) (tz_in0 rfl)).trans ?_
          refine tz_jI (fun y4 A4 => ?_)
          refine (tz_g_if_eq (t := 168) (by decide) (tz_in0 rfl)).trans ?_
          refine tz_cg ?_ ?_
          · skip
            refine (tz_g_iconst (v := 0) rfl (tz_in0 rfl)).trans ?_
            exact tz_g_ret4K (by decide) (tz_in0 rfl) rfl
          · skip
            refine (tz_g_aload_n rfl (tz_in0 rfl)).trans ?_
            refine (tz_g_iconst (v := 1) rfl (tz_in0 rfl)).trans ?_
            refine (tz_g_iconst (v := 0) rfl (tz_in0 rfl)).trans ?_
            refine (tz_g_bipush (v := 9) rfl (tz_in0 rfl)).trans ?_
            refine (tz_g_cv3I (m2 := 201) (rc := 4) rfl rfl rfl rfl rfl rfl (by decide) (tz_in0 rfl)).trans ?_
            refine tz_jI (fun y5 A5 => ?_)
            refine (tz_g_if_ne (t := 170) (by decide) (tz_in0 rfl)).trans ?_
            refine tz_cg ?_ ?_
            · skip
              refine (tz_g_aload_n rfl (tz_in0 rfl)).trans ?_
              refine (tz_g_aload_n rfl (tz_in0 rfl)).trans ?_
              refine (tz_g_getr (j := 183) rfl rfl rfl rfl rfl (tz_in0 rfl)).trans ?_
              refine (tz_g_iconst (v := 0) rfl (tz_in0 rfl)).trans ?_
              refine (tz_g_iald (n := 10) rfl rfl rfl (tz_in0 rfl)).trans ?_
              refine tz_cn1 ?_
              refine (tz_g_aload_n rfl (tz_in0 rfl)).trans ?_
              refine (tz_g_getr (j := 183) rfl rfl rfl rfl rfl (tz_in0 rfl)).trans ?_
              refine (tz_g_iconst (v := 1) rfl (tz_in0 rfl)).trans ?_
              refine (tz_g_iald (n := 10) rfl rfl rfl (tz_in0 rfl)).trans ?_
              refine tz_cn1 ?_
              refine (tz_g_cv2I (m2 := 182) (rc := 1) rfl rfl rfl rfl rfl rfl (by decide) (tz_in0 rfl)).trans ?_
              refine tz_jI (fun y6 A6 => ?_)
              refine (tz_g_pop rfl (tz_in0 rfl)).trans ?_
              refine (tz_g_iconst (v := 1) rfl (tz_in0 rfl)).trans ?_
              exact tz_g_ret4K (by decide) (tz_in0 rfl) rfl
            · skip
              refine (tz_g_iconst (v := 0) rfl (tz_in0 rfl)).trans ?_
              exact tz_g_ret4K (by decide) (tz_in0 rfl) rfl
    · skip
      refine (tz_g_aload_n rfl (tz_in0 rfl)).trans ?_
      refine (tz_g_ldcS (j := 10) rfl (tz_in0 rfl)).trans ?_
      refine (tz_g_cv1I (m2 := 199) (rc := 4) rfl rfl rfl rfl rfl rfl (by decide) (tz_in0 rfl)).trans ?_
      refine tz_jI (fun y3 A3 => ?_)
      refine (tz_g_if_eq (t := 87) (by decide) (tz_in0 rfl)).trans ?_
      refine tz_cg ?_ ?_
      · skip
        refine (tz_g_iconst (v := 0) rfl (tz_in0 rfl)).trans ?_
        exact tz_g_ret4K (by decide) (tz_in0 rfl) rfl
      · skip
        refine (tz_g_aload_n rfl (tz_in0 rfl)).trans ?_
        refine (tz_g_iconst (v := 0) rfl (tz_in0 rfl)).trans ?_
        refine (tz_g_iconst (v := 1) rfl (tz_in0 rfl)).trans ?_
        refine (tz_g_bipush (v := 99) rfl (tz_in0 rfl)).trans ?_
        refine (tz_g_cv3I (m2 := 201) (rc := 4) rfl rfl rfl rfl rfl rfl (by decide) (tz_in0 rfl)).trans ?_
        refine tz_jI (fun y4 A4 => ?_)
        refine (tz_g_if_ne (t := 89) (by decide) (tz_in0 rfl)).trans ?_
        refine tz_cg ?_ ?_
        · skip
          refine (tz_g_iconst (v := 0) rfl (tz_in0 rfl)).trans ?_
          refine (tz_g_istore_n (L2 := [some (.ref 157), some (.int 0)]) rfl rfl (tz_in0 rfl)).trans ?_
          exact tz_Gm (L2 := [some (.ref 157), some (.int 0)]) rfl rfl rfl rfl
        · skip
          refine (tz_g_iconst (v := 0) rfl (tz_in0 rfl)).trans ?_
          exact tz_g_ret4K (by decide) (tz_in0 rfl) rfl
  refine tz_slc (v := 108) (by decide) ?_ ?_
  · refine (tz_tg (t := 278) (by decide)).trans ?_
    refine (tz_g_aload_n rfl (tz_in0 rfl)).trans ?_
    refine (tz_g_ldcS (j := 7) rfl (tz_in0 rfl)).trans ?_
    refine (tz_g_aload_n rfl (tz_in0 rfl)).trans ?_
    refine (tz_g_geti rfl rfl rfl (tz_in0 rfl)).trans ?_
    refine (tz_g_bipush (v := 12) rfl (tz_in0 rfl)).trans ?_
    refine (tz_g_ic_ge (t := 294) (by decide) (tz_in0 rfl)).trans ?_
    refine tz_cg ?_ ?_
    · skip
      refine (tz_g_iconst (v := 0) rfl (tz_in0 rfl)).trans ?_
      refine (tz_g_cv2I (m2 := 207) (rc := 4) rfl rfl rfl rfl rfl rfl (by decide) (tz_in0 rfl)).trans ?_
      refine tz_jI (fun y2 A2 => ?_)
      refine (tz_g_if_eq (t := 348) (by decide) (tz_in0 rfl)).trans ?_
      refine tz_cg ?_ ?_
      · skip
        refine (tz_g_iconst (v := 0) rfl (tz_in0 rfl)).trans ?_
        exact tz_g_ret4K (by decide) (tz_in0 rfl) rfl
      · skip
        refine (tz_g_aload_n rfl (tz_in0 rfl)).trans ?_
        refine (tz_g_iconst (v := 0) rfl (tz_in0 rfl)).trans ?_
        refine (tz_g_iconst (v := 0) rfl (tz_in0 rfl)).trans ?_
        refine (tz_g_sipush (v := 9999) rfl (tz_in0 rfl)).trans ?_
        refine (tz_g_cv3I (m2 := 201) (rc := 4) rfl rfl rfl rfl rfl rfl (by decide) (tz_in0 rfl)).trans ?_
        refine tz_jI (fun y3 A3 => ?_)
        refine (tz_g_if_eq (t := 348) (by decide) (tz_in0 rfl)).trans ?_
        refine tz_cg ?_ ?_
        · skip
          refine (tz_g_iconst (v := 0) rfl (tz_in0 rfl)).trans ?_
          exact tz_g_ret4K (by decide) (tz_in0 rfl) rfl
        · skip
          refine (tz_g_aload_n rfl (tz_in0 rfl)).trans ?_
          refine (tz_g_iconst (v := 1) rfl (tz_in0 rfl)).trans ?_
          refine (tz_g_iconst (v := 0) rfl (tz_in0 rfl)).trans ?_
          refine (tz_g_aload_n rfl (tz_in0 rfl)).trans ?_
          refine (tz_g_geti rfl rfl rfl (tz_in0 rfl)).trans ?_
          refine (tz_g_iconst (v := 1) rfl (tz_in0 rfl)).trans ?_
          refine (tz_g_isub (tz_in0 rfl)).trans ?_
          refine (tz_g_cv3I (m2 := 201) (rc := 4) rfl rfl rfl rfl rfl rfl (by decide) (tz_in0 rfl)).trans ?_
          refine tz_jI (fun y4 A4 => ?_)
          refine (tz_g_if_eq (t := 348) (by decide) (tz_in0 rfl)).trans ?_
          refine tz_cg ?_ ?_
          · skip
            refine (tz_g_iconst (v := 0) rfl (tz_in0 rfl)).trans ?_
            exact tz_g_ret4K (by decide) (tz_in0 rfl) rfl
          · skip
            refine (tz_g_aload_n rfl (tz_in0 rfl)).trans ?_
            refine (tz_g_iconst (v := 2) rfl (tz_in0 rfl)).trans ?_
            refine (tz_g_iconst (v := 1) rfl (tz_in0 rfl)).trans ?_
            refine (tz_g_cv2I (m2 := 209) (rc := 4) rfl rfl rfl rfl rfl rfl (by decide) (tz_in0 rfl)).trans ?_
            refine tz_jI (fun y5 A5 => ?_)
            refine (tz_g_if_eq (t := 348) (by decide) (tz_in0 rfl)).trans ?_
            refine tz_cg ?_ ?_
            · skip
              refine (tz_g_iconst (v := 0) rfl (tz_in0 rfl)).trans ?_
              exact tz_g_ret4K (by decide) (tz_in0 rfl) rfl
            · skip
              refine (tz_g_aload_n rfl (tz_in0 rfl)).trans ?_
              refine (tz_g_iconst (v := 3) rfl (tz_in0 rfl)).trans ?_
              refine (tz_g_iconst (v := 1) rfl (tz_in0 rfl)).trans ?_
              refine (tz_g_bipush (v := 99) rfl (tz_in0 rfl)).trans ?_
              refine (tz_g_cv3I (m2 := 201) (rc := 4) rfl rfl rfl rfl rfl rfl (by decide) (tz_in0 rfl)).trans ?_
              refine tz_jI (fun y6 A6 => ?_)
              refine (tz_g_if_ne (t := 350) (by decide) (tz_in0 rfl)).trans ?_
              refine tz_cg ?_ ?_
              · skip
                refine (tz_g_aload_n rfl (tz_in0 rfl)).trans ?_
                refine (tz_g_aload_n rfl (tz_in0 rfl)).trans ?_
                refine (tz_g_getr (j := 183) rfl rfl rfl rfl rfl (tz_in0 rfl)).trans ?_
                refine (tz_g_iconst (v := 0) rfl (tz_in0 rfl)).trans ?_
                refine (tz_g_iald (n := 10) rfl rfl rfl (tz_in0 rfl)).trans ?_
                refine tz_cn1 ?_
                refine (tz_g_aload_n rfl (tz_in0 rfl)).trans ?_
                refine (tz_g_getr (j := 183) rfl rfl rfl rfl rfl (tz_in0 rfl)).trans ?_
                refine (tz_g_iconst (v := 1) rfl (tz_in0 rfl)).trans ?_
                refine (tz_g_iald (n := 10) rfl rfl rfl (tz_in0 rfl)).trans ?_
                refine tz_cn1 ?_
                refine (tz_g_aload_n rfl (tz_in0 rfl)).trans ?_
                refine (tz_g_getr (j := 183) rfl rfl rfl rfl rfl (tz_in0 rfl)).trans ?_
                refine (tz_g_iconst (v := 2) rfl (tz_in0 rfl)).trans ?_
                refine (tz_g_iald (n := 10) rfl rfl rfl (tz_in0 rfl)).trans ?_
                refine tz_cn1 ?_
                refine (tz_g_aload_n rfl (tz_in0 rfl)).trans ?_
                refine (tz_g_getr (j := 183) rfl rfl rfl rfl rfl (tz_in0 rfl)).trans ?_
                refine (tz_g_iconst (v := 3) rfl (tz_in0 rfl)).trans ?_
                refine (tz_g_iald (n := 10) rfl rfl rfl (tz_in0 rfl)).trans ?_
                refine tz_cn1 ?_
                refine (tz_g_cv4I (m2 := 187) (rc := 1) rfl rfl rfl rfl rfl rfl (by decide) (tz_in0 rfl)).trans ?_
                refine tz_jI (fun y7 A7 => ?_)
                refine (tz_g_pop rfl (tz_in0 rfl)).trans ?_
                refine (tz_g_iconst (v := 1) rfl (tz_in0 rfl)).trans ?_
                exact tz_g_ret4K (by decide) (tz_in0 rfl) rfl
              · skip
                refine (tz_g_iconst (v := 0) rfl (tz_in0 rfl)).trans ?_
                exact tz_g_ret4K (by decide) (tz_in0 rfl) rfl
    · skip
      refine (tz_g_iconst (v := 1) rfl (tz_in0 rfl)).trans ?_
      refine (tz_g_goto (t := 295) (by decide) (tz_in0 rfl)).trans ?_
      refine (tz_g_cv2I (m2 := 207) (rc := 4) rfl rfl rfl rfl rfl rfl (by decide) (tz_in0 rfl)).trans ?_
      refine tz_jI (fun y2 A2 => ?_)
      refine (tz_g_if_eq (t := 348) (by decide) (tz_in0 rfl)).trans ?_
      refine tz_cg ?_ ?_
      · skip
        refine (tz_g_iconst (v := 0) rfl (tz_in0 rfl)).trans ?_
        exact tz_g_ret4K (by decide) (tz_in0 rfl) rfl
      · skip
        refine (tz_g_aload_n rfl (tz_in0 rfl)).trans ?_
        refine (tz_g_iconst (v := 0) rfl (tz_in0 rfl)).trans ?_
        refine (tz_g_iconst (v := 0) rfl (tz_in0 rfl)).trans ?_
        refine (tz_g_sipush (v := 9999) rfl (tz_in0 rfl)).trans ?_
        refine (tz_g_cv3I (m2 := 201) (rc := 4) rfl rfl rfl rfl rfl rfl (by decide) (tz_in0 rfl)).trans ?_
        refine tz_jI (fun y3 A3 => ?_)
        refine (tz_g_if_eq (t := 348) (by decide) (tz_in0 rfl)).trans ?_
        refine tz_cg ?_ ?_
        · skip
          refine (tz_g_iconst (v := 0) rfl (tz_in0 rfl)).trans ?_
          exact tz_g_ret4K (by decide) (tz_in0 rfl) rfl
        · skip
          refine (tz_g_aload_n rfl (tz_in0 rfl)).trans ?_
          refine (tz_g_iconst (v := 1) rfl (tz_in0 rfl)).trans ?_
          refine (tz_g_iconst (v := 0) rfl (tz_in0 rfl)).trans ?_
          refine (tz_g_aload_n rfl (tz_in0 rfl)).trans ?_
          refine (tz_g_geti rfl rfl rfl (tz_in0 rfl)).trans ?_
          refine (tz_g_iconst (v := 1) rfl (tz_in0 rfl)).trans ?_
          refine (tz_g_isub (tz_in0 rfl)).trans ?_
          refine (tz_g_cv3I (m2 := 201) (rc := 4) rfl rfl rfl rfl rfl rfl (by decide) (tz_in0 rfl)).trans ?_
          refine tz_jI (fun y4 A4 => ?_)
          refine (tz_g_if_eq (t := 348) (by decide) (tz_in0 rfl)).trans ?_
          refine tz_cg ?_ ?_
          · skip
            refine (tz_g_iconst (v := 0) rfl (tz_in0 rfl)).trans ?_
            exact tz_g_ret4K (by decide) (tz_in0 rfl) rfl
          · skip
            refine (tz_g_aload_n rfl (tz_in0 rfl)).trans ?_
            refine (tz_g_iconst (v := 2) rfl (tz_in0 rfl)).trans ?_
            refine (tz_g_iconst (v := 1) rfl (tz_in0 rfl)).trans ?_
            refine (tz_g_cv2I (m2 := 209) (rc := 4) rfl rfl rfl rfl rfl rfl (by decide) (tz_in0 rfl)).trans ?_
            refine tz_jI (fun y5 A5 => ?_)
            refine (tz_g_if_eq (t := 348) (by decide) (tz_in0 rfl)).trans ?_
            refine tz_cg ?_ ?_
            · skip
              refine (tz_g_iconst (v := 0) rfl (tz_in0 rfl)).trans ?_
              exact tz_g_ret4K (by decide) (tz_in0 rfl) rfl
            · skip
              refine (tz_g_aload_n rfl (tz_in0 rfl)).trans ?_
              refine (tz_g_iconst (v := 3) rfl (tz_in0 rfl)).trans ?_
              refine (tz_g_iconst (v := 1) rfl (tz_in0 rfl)).trans ?_
              refine (tz_g_bipush (v := 99) rfl (tz_in0 rfl)).trans ?_
              refine (tz_g_cv3I (m2 := 201) (rc := 4) rfl rfl rfl rfl rfl rfl (by decide) (tz_in0 rfl)).trans ?_
              refine tz_jI (fun y6 A6 => ?_)
              refine (tz_g_if_ne (t := 350) (by decide) (tz_in0 rfl)).trans ?_
              refine tz_cg ?_ ?_
              · skip
                refine (tz_g_aload_n rfl (tz_in0 rfl)).trans ?_
                refine (tz_g_aload_n rfl (tz_in0 rfl)).trans ?_
                refine (tz_g_getr (j := 183) rfl rfl rfl rfl rfl (tz_in0 rfl)).trans ?_
                refine (tz_g_iconst (v := 0) rfl (tz_in0 rfl)).trans ?_
                refine (tz_g_iald (n := 10) rfl rfl rfl (tz_in0 rfl)).trans ?_
                refine tz_cn1 ?_
                refine (tz_g_aload_n rfl (tz_in0 rfl)).trans ?_
                refine (tz_g_getr (j := 183) rfl rfl rfl rfl rfl (tz_in0 rfl)).trans ?_
                refine (tz_g_iconst (v := 1) rfl (tz_in0 rfl)).trans ?_
                refine (tz_g_iald (n := 10) rfl rfl rfl (tz_in0 rfl)).trans ?_
                refine tz_cn1 ?_
                refine (tz_g_aload_n rfl (tz_in0 rfl)).trans ?_
                refine (tz_g_getr (j := 183) rfl rfl rfl rfl rfl (tz_in0 rfl)).trans ?_
                refine (tz_g_iconst (v := 2) rfl (tz_in0 rfl)).trans ?_
                refine (tz_g_iald (n := 10) rfl rfl rfl (tz_in0 rfl)).trans ?_
                refine tz_cn1 ?_
                refine (tz_g_aload_n rfl (tz_in0 rfl)).trans ?_
                refine (tz_g_getr (j := 183) rfl rfl rfl rfl rfl (tz_in0 rfl)).trans ?_
                refine (tz_g_iconst (v := 3) rfl (tz_in0 rfl)).trans ?_
                refine (tz_g_iald (n := 10) rfl rfl rfl (tz_in0 rfl)).trans ?_
                refine tz_cn1 ?_
                refine (tz_g_cv4I (m2 := 187) (rc := 1) rfl rfl rfl rfl rfl rfl (by decide) (tz_in0 rfl)).trans ?_
                refine tz_jI (fun y7 A7 => ?_)
                refine (tz_g_pop rfl (tz_in0 rfl)).trans ?_
                refine (tz_g_iconst (v := 1) rfl (tz_in0 rfl)).trans ?_
                exact tz_g_ret4K (by decide) (tz_in0 rfl) rfl
              · skip
                refine (tz_g_iconst (v := 0) rfl (tz_in0 rfl)).trans ?_
                exact tz_g_ret4K (by decide) (tz_in0 rfl) rfl
  refine tz_slc (v := 115) (by decide) ?_ ?_
  · refine (tz_tg (t := 189) (by decide)).trans ?_
    refine (tz_g_aload_n rfl (tz_in0 rfl)).trans ?_
    refine (tz_g_ldcS (j := 6) rfl (tz_in0 rfl)).trans ?_
    refine (tz_g_aload_n rfl (tz_in0 rfl)).trans ?_
    refine (tz_g_geti rfl rfl rfl (tz_in0 rfl)).trans ?_
    refine (tz_g_iconst (v := 4) rfl (tz_in0 rfl)).trans ?_
    refine (tz_g_ic_ge (t := 204) (by decide) (tz_in0 rfl)).trans ?_
    refine tz_cg ?_ ?_
    · skip
      refine (tz_g_iconst (v := 0) rfl (tz_in0 rfl)).trans ?_
      refine (tz_g_cv2I (m2 := 207) (rc := 4) rfl rfl rfl rfl rfl rfl (by decide) (tz_in0 rfl)).trans ?_
      refine tz_jI (fun y2 A2 => ?_)
      refine (tz_g_if_eq (t := 251) (by decide) (tz_in0 rfl)).trans ?_
      refine tz_cg ?_ ?_
      · skip
        refine (tz_g_iconst (v := 0) rfl (tz_in0 rfl)).trans ?_
        exact tz_g_ret4K (by decide) (tz_in0 rfl) rfl
      · skip
        refine (tz_g_aload_n rfl (tz_in0 rfl)).trans ?_
        refine (tz_g_iconst (v := 0) rfl (tz_in0 rfl)).trans ?_
        refine (tz_g_iconst (v := 1) rfl (tz_in0 rfl)).trans ?_
        refine (tz_g_bipush (v := 9) rfl (tz_in0 rfl)).trans ?_
        refine (tz_g_cv3I (m2 := 201) (rc := 4) rfl rfl rfl rfl rfl rfl (by decide) (tz_in0 rfl)).trans ?_
        refine tz_jI (fun y3 A3 => ?_)
        refine (tz_g_if_eq (t := 251) (by decide) (tz_in0 rfl)).trans ?_
        refine tz_cg ?_ ?_
        · skip
          refine (tz_g_iconst (v := 0) rfl (tz_in0 rfl)).trans ?_
          exact tz_g_ret4K (by decide) (tz_in0 rfl) rfl
        · skip
          refine (tz_g_aload_n rfl (tz_in0 rfl)).trans ?_
          refine (tz_g_iconst (v := 1) rfl (tz_in0 rfl)).trans ?_
          refine (tz_g_iconst (v := 1) rfl (tz_in0 rfl)).trans ?_
          refine (tz_g_bipush (v := 99) rfl (tz_in0 rfl)).trans ?_
          refine (tz_g_cv3I (m2 := 201) (rc := 4) rfl rfl rfl rfl rfl rfl (by decide) (tz_in0 rfl)).trans ?_
          refine tz_jI (fun y4 A4 => ?_)
          refine (tz_g_if_eq (t := 251) (by decide) (tz_in0 rfl)).trans ?_
          refine tz_cg ?_ ?_
          · skip
            refine (tz_g_iconst (v := 0) rfl (tz_in0 rfl)).trans ?_
            exact tz_g_ret4K (by decide) (tz_in0 rfl) rfl
          · skip
            refine (tz_g_aload_n rfl (tz_in0 rfl)).trans ?_
            refine (tz_g_iconst (v := 2) rfl (tz_in0 rfl)).trans ?_
            refine (tz_g_iconst (v := 1) rfl (tz_in0 rfl)).trans ?_
            refine (tz_g_bipush (v := 9) rfl (tz_in0 rfl)).trans ?_
            refine (tz_g_cv3I (m2 := 201) (rc := 4) rfl rfl rfl rfl rfl rfl (by decide) (tz_in0 rfl)).trans ?_
            refine tz_jI (fun y5 A5 => ?_)
            refine (tz_g_if_eq (t := 251) (by decide) (tz_in0 rfl)).trans ?_
            refine tz_cg ?_ ?_
            · skip
              refine (tz_g_iconst (v := 0) rfl (tz_in0 rfl)).trans ?_
              exact tz_g_ret4K (by decide) (tz_in0 rfl) rfl
            · skip
              refine (tz_g_aload_n rfl (tz_in0 rfl)).trans ?_
              refine (tz_g_cv0I (m2 := 208) (rc := 4) rfl rfl rfl rfl rfl rfl (by decide) (tz_in0 rfl)).trans ?_
              refine tz_jI (fun y6 A6 => ?_)
              refine (tz_g_if_ne (t := 253) (by decide) (tz_in0 rfl)).trans ?_
              refine tz_cg ?_ ?_
              · skip
                refine (tz_g_aload_n rfl (tz_in0 rfl)).trans ?_
                refine (tz_g_aload_n rfl (tz_in0 rfl)).trans ?_
                refine (tz_g_getr (j := 183) rfl rfl rfl rfl rfl (tz_in0 rfl)).trans ?_
                refine (tz_g_iconst (v := 0) rfl (tz_in0 rfl)).trans ?_
                refine (tz_g_iald (n := 10) rfl rfl rfl (tz_in0 rfl)).trans ?_
                refine tz_cn1 ?_
                refine (tz_g_aload_n rfl (tz_in0 rfl)).trans ?_
                refine (tz_g_getr (j := 183) rfl rfl rfl rfl rfl (tz_in0 rfl)).trans ?_
                refine (tz_g_iconst (v := 1) rfl (tz_in0 rfl)).trans ?_
                refine (tz_g_iald (n := 10) rfl rfl rfl (tz_in0 rfl)).trans ?_
                refine tz_cn1 ?_
                refine (tz_g_aload_n rfl (tz_in0 rfl)).trans ?_
                refine (tz_g_getr (j := 183) rfl rfl rfl rfl rfl (tz_in0 rfl)).trans ?_
                refine (tz_g_iconst (v := 2) rfl (tz_in0 rfl)).trans ?_
                refine (tz_g_iald (n := 10) rfl rfl rfl (tz_in0 rfl)).trans ?_
                refine tz_cn1 ?_
                refine (tz_g_cv3I (m2 := 185) (rc := 1) rfl rfl rfl rfl rfl rfl (by decide) (tz_in0 rfl)).trans ?_
                refine tz_jI (fun y7 A7 => ?_)
                refine (tz_g_pop rfl (tz_in0 rfl)).trans ?_
                refine (tz_g_iconst (v := 1) rfl (tz_in0 rfl)).trans ?_
                exact tz_g_ret4K (by decide) (tz_in0 rfl) rfl
              · skip
                refine (tz_g_iconst (v := 0) rfl (tz_in0 rfl)).trans ?_
                exact tz_g_ret4K (by decide) (tz_in0 rfl) rfl
    · skip
      refine (tz_g_iconst (v := 1) rfl (tz_in0 rfl)).trans ?_
      refine (tz_g_goto (t := 205) (by decide) (tz_in0 rfl)).trans ?_
      refine (tz_g_cv2I (m2 := 207) (rc := 4) rfl rfl rfl rfl rfl rfl (by decide) (tz_in0 rfl)).trans ?_
      refine tz_jI (fun y2 A2 => ?_)
      refine (tz_g_if_eq (t := 251) (by decide) (tz_in0 rfl)).trans ?_
      refine tz_cg ?_ ?_
      · skip
        refine (tz_g_iconst (v := 0) rfl (tz_in0 rfl)).trans ?_
        exact tz_g_ret4K (by decide) (tz_in0 rfl) rfl
      · skip
        refine (tz_g_aload_n rfl (tz_in0 rfl)).trans ?_
        refine (tz_g_iconst (v := 0) rfl (tz_in0 rfl)).trans ?_
        refine (tz_g_iconst (v := 1) rfl (tz_in0 rfl)).trans ?_
        refine (tz_g_bipush (v := 9) rfl (tz_in0 rfl)).trans ?_
        refine (tz_g_cv3I (m2 := 201) (rc := 4) rfl rfl rfl rfl rfl rfl (by decide) (tz_in0 rfl)).trans ?_
        refine tz_jI (fun y3 A3 => ?_)
        refine (tz_g_if_eq (t := 251) (by decide) (tz_in0 rfl)).trans ?_
        refine tz_cg ?_ ?_
        · skip
          refine (tz_g_iconst (v := 0) rfl (tz_in0 rfl)).trans ?_
          exact tz_g_ret4K (by decide) (tz_in0 rfl) rfl
        · skip
          refine (tz_g_aload_n rfl (tz_in0 rfl)).trans ?_
          refine (tz_g_iconst (v := 1) rfl (tz_in0 rfl)).trans ?_
          refine (tz_g_iconst (v := 1) rfl (tz_in0 rfl)).trans ?_
          refine (tz_g_bipush (v := 99) rfl (tz_in0 rfl)).trans ?_
          refine (tz_g_cv3I (m2 := 201) (rc := 4) rfl rfl rfl rfl rfl rfl (by decide) (tz_in0 rfl)).trans ?_
          refine tz_jI (fun y4 A4 => ?_)
          refine (tz_g_if_eq (t := 251) (by decide) (tz_in0 rfl)).trans ?_
          refine tz_cg ?_ ?_
          · skip
            refine (tz_g_iconst (v := 0) rfl (tz_in0 rfl)).trans ?_
            exact tz_g_ret4K (by decide) (tz_in0 rfl) rfl
          · skip
            refine (tz_g_aload_n rfl (tz_in0 rfl)).trans ?_
            refine (tz_g_iconst (v := 2) rfl (tz_in0 rfl)).trans ?_
            refine (tz_g_iconst (v := 1) rfl (tz_in0 rfl)).trans ?_
            refine (tz_g_bipush (v := 9) rfl (tz_in0 rfl)).trans ?_
            refine (tz_g_cv3I (m2 := 201) (rc := 4) rfl rfl rfl rfl rfl rfl (by decide) (tz_in0 rfl)).trans ?_
            refine tz_jI (fun y5 A5 => ?_)
            refine (tz_g_if_eq (t := 251) (by decide) (tz_in0 rfl)).trans ?_
            refine tz_cg ?_ ?_
            · skip
              refine (tz_g_iconst (v := 0) rfl (tz_in0 rfl)).trans ?_
              exact tz_g_ret4K (by decide) (tz_in0 rfl) rfl
            · skip
              refine (tz_g_aload_n rfl (tz_in0 rfl)).trans ?_
              refine (tz_g_cv0I (m2 := 208) (rc := 4) rfl rfl rfl rfl rfl rfl (by decide) (tz_in0 rfl)).trans ?_
              refine tz_jI (fun y6 A6 => ?_)
              refine (tz_g_if_ne (t := 253) (by decide) (tz_in0 rfl)).trans ?_
              refine tz_cg ?_ ?_
              · skip
                refine (tz_g_aload_n rfl (tz_in0 rfl)).trans ?_
                refine (tz_g_aload_n rfl (tz_in0 rfl)).trans ?_
                refine (tz_g_getr (j := 183) rfl rfl rfl rfl rfl (tz_in0 rfl)).trans ?_
                refine (tz_g_iconst (v := 0) rfl (tz_in0 rfl)).trans ?_
                refine (tz_g_iald (n := 10) rfl rfl rfl (tz_in0 rfl)).trans ?_
                refine tz_cn1 ?_
                refine (tz_g_aload_n rfl (tz_in0 rfl)).trans ?_
                refine (tz_g_getr (j := 183) rfl rfl rfl rfl rfl (tz_in0 rfl)).trans ?_
                refine (tz_g_iconst (v := 1) rfl (tz_in0 rfl)).trans ?_
                refine (tz_g_iald (n := 10) rfl rfl rfl (tz_in0 rfl)).trans ?_
                refine tz_cn1 ?_
                refine (tz_g_aload_n rfl (tz_in0 rfl)).trans ?_
                refine (tz_g_getr (j := 183) rfl rfl rfl rfl rfl (tz_in0 rfl)).trans ?_
                refine (tz_g_iconst (v := 2) rfl (tz_in0 rfl)).trans ?_
                refine (tz_g_iald (n := 10) rfl rfl rfl (tz_in0 rfl)).trans ?_
                refine tz_cn1 ?_
                refine (tz_g_cv3I (m2 := 185) (rc := 1) rfl rfl rfl rfl rfl rfl (by decide) (tz_in0 rfl)).trans ?_
                refine tz_jI (fun y7 A7 => ?_)
                refine (tz_g_pop rfl (tz_in0 rfl)).trans ?_
                refine (tz_g_iconst (v := 1) rfl (tz_in0 rfl)).trans ?_
                exact tz_g_ret4K (by decide) (tz_in0 rfl) rfl
              · skip
                refine (tz_g_iconst (v := 0) rfl (tz_in0 rfl)).trans ?_
                exact tz_g_ret4K (by decide) (tz_in0 rfl) rfl
  refine tz_sld ?_
  refine (tz_tg (t := 420) (by decide)).trans ?_
  refine (tz_g_iconst (v := 0) rfl (tz_in0 rfl)).trans ?_
  exact tz_g_ret4K (by decide) (tz_in0 rfl) rfl

theorem e_X12_item_91 (z1 : Int32) (A : tz_Mem) : q_X12_item_91 z1 A =
  if (0 : Int32) < 0 ∨ 10 ≤ 0 then none else
if (tz_g A 183 0) ≤ z1 then
  some (some (.int 1), A)
else
  tz_bV (f_X12_goOn A) (fun A1 =>
  q_X12_item_91 (z1 + 1) A1) := by
  show tz_Go 197 91 [some (.ref 157), some (.int z1)] [] A = _
  refine (tz_g_iload_n rfl (tz_inM rfl rfl rfl)).trans ?_
  refine (tz_g_aload_n rfl (tz_in0 rfl)).trans ?_
  refine (tz_g_getr (j := 183) rfl rfl rfl rfl rfl (tz_in0 rfl)).trans ?_
  refine (tz_g_iconst (v := 0) rfl (tz_in0 rfl)).trans ?_
  refine (tz_g_iald (n := 10) rfl rfl rfl (tz_in0 rfl)).trans ?_
  refine tz_cn1 ?_
  refine (tz_g_ic_ge (t := 111) (by decide) (tz_in0 rfl)).trans ?_
  refine tz_cg ?_ ?_
  · skip
    refine (tz_g_iconst (v := 1) rfl (tz_in0 rfl)).trans ?_
    exact tz_g_ret4K (by decide) (tz_in0 rfl) rfl
  · skip
    refine (tz_g_aload_n rfl (tz_in0 rfl)).trans ?_
    refine (tz_g_cv0V (m2 := 202) (rc := 0) rfl rfl rfl rfl rfl rfl (by decide) (tz_in0 rfl)).trans ?_
    refine tz_jV (fun A1 => ?_)
    refine (tz_g_iinc (v := 1) (L2 := [some (.ref 157), some (.int (z1 + 1))]) rfl rfl rfl rfl (tz_in0 rfl)).trans ?_
    refine (tz_g_goto (t := 91) (by decide) (tz_in0 rfl)).trans ?_
    exact tz_Gm (L2 := [some (.ref 157), some (.int (z1 + 1))]) rfl rfl rfl rfl

theorem e_X12_arrivesBy (x1 : Int32) (A : tz_Mem) : f_X12_arrivesBy x1 A =
  tz_bV (f_X12_keep_s181 A) (fun A1 =>
tz_bI (f_X12_arrival x1 500 A1) (fun y2 A2 =>
tz_bV (f_X12_again_s181 A2) (fun A3 =>
some (some (.int y2), A3)))) := by
  refine (tz_Fe (L := [some (.ref 157), some (.int x1), none]) rfl).trans ?_
  refine (tz_g_aload_n rfl (tz_in0 rfl)).trans ?_
  refine (tz_g_aload_n rfl (tz_in0 rfl)).trans ?_
  refine (tz_g_getr (j := 181) rfl rfl rfl rfl rfl (tz_in0 rfl)).trans ?_
  refine (tz_g_cv1V (m2 := 196) (rc := 0) rfl rfl rfl rfl rfl rfl (by decide) (tz_in0 rfl)).trans ?_
  refine tz_jV (fun A1 => ?_)
  refine (tz_g_aload_n rfl (tz_in0 rfl)).trans ?_
  refine (tz_g_iload_n rfl (tz_in0 rfl)).trans ?_
  refine (tz_g_sipush (v := 500) rfl (tz_in0 rfl)).trans ?_
  refine (tz_g_cv2I (m2 := 217) (rc := 1) rfl rfl rfl rfl rfl rfl (by decide) (tz_in0 rfl)).trans ?_
  refine tz_jI (fun y2 A2 => ?_)
  refine (tz_g_istore_n (L2 := [some (.ref 157), some (.int x1), some (.int y2)]) rfl rfl (tz_in0 rfl)).trans ?_
  refine (tz_g_aload_n rfl (tz_in0 rfl)).trans ?_
  refine (tz_g_aload_n rfl (tz_in0 rfl)).trans ?_
  refine (tz_g_getr (j := 181) rfl rfl rfl rfl rfl (tz_in0 rfl)).trans ?_
  refine (tz_g_cv1V (m2 := 211) (rc := 0) rfl rfl rfl rfl rfl rfl (by decide) (tz_in0 rfl)).trans ?_
  refine tz_jV (fun A3 => ?_)
  refine (tz_g_iload_n rfl (tz_in0 rfl)).trans ?_
  exact tz_g_ret1 (tz_in0 rfl) rfl

theorem e_X12_handed (x1 : Int32) (x2 : Int32) (x3 : Int32) (x4 : Int32) (x5 : Int32) (A : tz_Mem) : f_X12_handed x1 x2 x3 x4 x5 A =
  tz_bV (f_X12_keep_s181 A) (fun A1 =>
q_X12_handed_11 x1 x2 x3 x4 x5 0 A1) := by
  refine (tz_Fe (L := [some (.ref 157), some (.int x1), some (.int x2), some (.int x3), some (.int x4), some (.int x5), none, none]) rfl).trans ?_
  refine (tz_g_aload_n rfl (tz_in0 rfl)).trans ?_
  refine (tz_g_aload_n rfl (tz_in0 rfl)).trans ?_
  refine (tz_g_getr (j := 181) rfl rfl rfl rfl rfl (tz_in0 rfl)).trans ?_
  refine (tz_g_cv1V (m2 := 196) (rc := 0) rfl rfl rfl rfl rfl rfl (by decide) (tz_in0 rfl)).trans ?_
  refine tz_jV (fun A1 => ?_)
  refine (tz_g_iconst (v := 0) rfl (tz_in0 rfl)).trans ?_
  refine (tz_g_istore (L2 := [some (.ref 157), some (.int x1), some (.int x2), some (.int x3), some (.int x4), some (.int x5), some (.int 0), none]) rfl rfl (tz_in0 rfl)).trans ?_
  exact tz_Gm (L2 := [some (.ref 157), some (.int x1), some (.int x2), some (.int x3), some (.int x4), some (.int x5), some (.int 0), none]) rfl rfl rfl rfl

theorem e_X12_handed_11 (z1 : Int32) (z2 : Int32) (z3 : Int32) (z4 : Int32) (z5 : Int32) (z6 : Int32) (A : tz_Mem) : q_X12_handed_11 z1 z2 z3 z4 z5 z6 A =
  if z5 ≤ z6 then
  tz_bI (f_X12_newLetter z1 z2 z3 z4 A) (fun y1 A1 =>
  tz_bI (f_X12_arrival y1 500 A1) (fun y2 A2 =>
  if y1 < 0 ∨ 12 ≤ (Int32.toNatClampNeg y1) then none else
  if (0 : Int32) < 0 ∨ 10 ≤ 0 then none else
  tz_bV (f_X12_again_s181 (tz_s A2 183 0 (tz_g A2 171 (Int32.toNatClampNeg y1)))) (fun A3 =>
  some (some (.int y2), A3))))
else
  tz_bV (f_X12_goOn A) (fun A1 =>
  q_X12_handed_11 z1 z2 z3 z4 z5 (z6 + 1) A1) := by
  show tz_Go 221 11 [some (.ref 157), some (.int z1), some (.int z2), some (.int z3), some (.int z4), some (.int z5), some (.int z6), none] [] A = _
  refine (tz_g_iload rfl (tz_inM rfl rfl rfl)).trans ?_
  refine (tz_g_iload rfl (tz_in0 rfl)).trans ?_
  refine (tz_g_ic_ge (t := 28) (by decide) (tz_in0 rfl)).trans ?_
  refine tz_cg ?_ ?_
  · skip
    refine (tz_g_aload_n rfl (tz_in0 rfl)).trans ?_
    refine (tz_g_iload_n rfl (tz_in0 rfl)).trans ?_
    refine (tz_g_iload_n rfl (tz_in0 rfl)).trans ?_
    refine (tz_g_iload_n rfl (tz_in0 rfl)).trans ?_
    refine (tz_g_iload rfl (tz_in0 rfl)).trans ?_
    refine (tz_g_cv4I (m2 := 187) (rc := 1) rfl rfl rfl rfl rfl rfl (by decide) (tz_in0 rfl)).trans ?_
    refine tz_jI (fun y1 A1 => ?_)
    refine (tz_g_istore (L2 := [some (.ref 157), some (.int z1), some (.int z2), some (.int z3), some (.int z4), some (.int z5), some (.int y1), none]) rfl rfl (tz_in0 rfl)).trans ?_
    refine (tz_g_aload_n rfl (tz_in0 rfl)).trans ?_
    refine (tz_g_iload rfl (tz_in0 rfl)).trans ?_
    refine (tz_g_sipush (v := 500) rfl (tz_in0 rfl)).trans ?_
    refine (tz_g_cv2I (m2 := 217) (rc := 1) rfl rfl rfl rfl rfl rfl (by decide) (tz_in0 rfl)).trans ?_
    refine tz_jI (fun y2 A2 => ?_)
    refine (tz_g_istore (L2 := [some (.ref 157), some (.int z1), some (.int z2), some (.int z3), some (.int z4), some (.int z5), some (.int y1), some (.int y2)]) rfl rfl (tz_in0 rfl)).trans ?_
    refine (tz_g_aload_n rfl (tz_in0 rfl)).trans ?_
    refine (tz_g_getr (j := 183) rfl rfl rfl rfl rfl (tz_in0 rfl)).trans ?_
    refine (tz_g_iconst (v := 0) rfl (tz_in0 rfl)).trans ?_
    refine (tz_g_aload_n rfl (tz_in0 rfl)).trans ?_
    refine (tz_g_getr (j := 171) rfl rfl rfl rfl rfl (tz_in0 rfl)).trans ?_
    refine (tz_g_iload rfl (tz_in0 rfl)).trans ?_
    refine (tz_g_iald (n := 12) rfl rfl rfl (tz_in0 rfl)).trans ?_
    refine tz_cn1 ?_
    refine (tz_g_iast (n := 10) rfl rfl rfl (tz_in0 rfl)).trans ?_
    refine tz_cn1 ?_
    refine (tz_g_aload_n rfl (tz_in0 rfl)).trans ?_
    refine (tz_g_aload_n rfl (tz_in0 rfl)).trans ?_
    refine (tz_g_getr (j := 181) rfl rfl rfl rfl rfl (tz_in0 rfl)).trans ?_
    refine (tz_g_cv1V (m2 := 211) (rc := 0) rfl rfl rfl rfl rfl rfl (by decide) (tz_in0 rfl)).trans ?_
    refine tz_jV (fun A3 => ?_)
    refine (tz_g_iload rfl (tz_in0 rfl)).trans ?_
    exact tz_g_ret1 (tz_in0 rfl) rfl
  · skip
    refine (tz_g_aload_n rfl (tz_in0 rfl)).trans ?_
    refine (tz_g_cv0V (m2 := 202) (rc := 0) rfl rfl rfl rfl rfl rfl (by decide) (tz_in0 rfl)).trans ?_
    refine tz_jV (fun A1 => ?_)
    refine (tz_g_iinc (v := 1) (L2 := [some (.ref 157), some (.int z1), some (.int z2), some (.int z3), some (.int z4), some (.int z5), some (.int (z6 + 1)), none]) rfl rfl rfl rfl (tz_in0 rfl)).trans ?_
    refine (tz_g_goto (t := 11) (by decide) (tz_in0 rfl)).trans ?_
    exact tz_Gm (L2 := [some (.ref 157), some (.int z1), some (.int z2), some (.int z3), some (.int z4), some (.int z5), some (.int (z6 + 1)), none]) rfl rfl rfl rfl

theorem e_X11_sky (x1 : Int32) (A : tz_Mem) : f_X11_sky x1 A =
  tz_bI (f_X8_refusalOfRow x1 A) (fun y1 A1 =>
if y1 = 0 then
  if x1 < 0 ∨ 8 ≤ (Int32.toNatClampNeg x1) then none else
  tz_bV (f_X8_copyNumbers_s123 x1 (tz_g A1 20 (Int32.toNatClampNeg x1)) A1) (fun A2 =>
  if x1 < 0 ∨ 8 ≤ (Int32.toNatClampNeg x1) then none else
  tz_bV (f_X7_open (tz_g A2 20 (Int32.toNatClampNeg x1)) 30 A2) (fun A3 =>
  q_X11_sky_65 0 A3))
else
  tz_bI (f_X11_refuse y1 A1) (fun y2 A2 =>
  some (some (.int y2), A2))) := by
  refine (tz_Fe (L := [some (.ref 17), some (.int x1), none, none]) rfl).trans ?_
  refine (tz_g_aload_n rfl (tz_in0 rfl)).trans ?_
  refine (tz_g_getr (j := 18) rfl rfl rfl rfl rfl (tz_in0 rfl)).trans ?_
  refine (tz_g_iload_n rfl (tz_in0 rfl)).trans ?_
  refine (tz_g_cv1I (m2 := 19) (rc := 1) rfl rfl rfl rfl rfl rfl (by decide) (tz_in0 rfl)).trans ?_
  refine tz_jI (fun y1 A1 => ?_)
  refine (tz_g_istore_n (L2 := [some (.ref 17), some (.int x1), some (.int y1), none]) rfl rfl (tz_in0 rfl)).trans ?_
  refine (tz_g_iload_n rfl (tz_in0 rfl)).trans ?_
  refine (tz_g_if_eq (t := 19) (by decide) (tz_in0 rfl)).trans ?_
  refine tz_cg ?_ ?_
  · skip
    refine (tz_g_aload_n rfl (tz_in0 rfl)).trans ?_
    refine (tz_g_getr (j := 18) rfl rfl rfl rfl rfl (tz_in0 rfl)).trans ?_
    refine (tz_g_iload_n rfl (tz_in0 rfl)).trans ?_
    refine (tz_g_aload_n rfl (tz_in0 rfl)).trans ?_
    refine (tz_g_getr (j := 18) rfl rfl rfl rfl rfl (tz_in0 rfl)).trans ?_
    refine (tz_g_getr (j := 20) rfl rfl rfl rfl rfl (tz_in0 rfl)).trans ?_
    refine (tz_g_iload_n rfl (tz_in0 rfl)).trans ?_
    refine (tz_g_iald (n := 8) rfl rfl rfl (tz_in0 rfl)).trans ?_
    refine tz_cn1 ?_
    refine (tz_g_aload_n rfl (tz_in0 rfl)).trans ?_
    refine (tz_g_getr (j := 122) rfl rfl rfl rfl rfl (tz_in0 rfl)).trans ?_
    refine (tz_g_getr (j := 123) rfl rfl rfl rfl rfl (tz_in0 rfl)).trans ?_
    refine (tz_g_cv3V (m2 := 46) (rc := 0) rfl rfl rfl rfl rfl rfl (by decide) (tz_in0 rfl)).trans ?_
    refine tz_jV (fun A2 => ?_)
    refine (tz_g_aload_n rfl (tz_in0 rfl)).trans ?_
    refine (tz_g_getr (j := 122) rfl rfl rfl rfl rfl (tz_in0 rfl)).trans ?_
    refine (tz_g_aload_n rfl (tz_in0 rfl)).trans ?_
    refine (tz_g_getr (j := 18) rfl rfl rfl rfl rfl (tz_in0 rfl)).trans ?_
    refine (tz_g_getr (j := 20) rfl rfl rfl rfl rfl (tz_in0 rfl)).trans ?_
    refine (tz_g_iload_n rfl (tz_in0 rfl)).trans ?_
    refine (tz_g_iald (n := 8) rfl rfl rfl (tz_in0 rfl)).trans ?_
    refine tz_cn1 ?_
    refine (tz_g_aload_n rfl (tz_in0 rfl)).trans ?_
    refine (tz_g_getr (j := 30) rfl rfl rfl rfl rfl (tz_in0 rfl)).trans ?_
    refine (tz_g_cv2V (m2 := 67) (rc := 0) rfl rfl rfl rfl rfl rfl (by decide) (tz_in0 rfl)).trans ?_
    refine tz_jV (fun A3 => ?_)
    refine (tz_g_iconst (v := 0) rfl (tz_in0 rfl)).trans ?_
    refine (tz_g_istore_n (L2 := [some (.ref 17), some (.int x1), some (.int y1), some (.int 0)]) rfl rfl (tz_in0 rfl)).trans ?_
    exact tz_Gm (L2 := [some (.ref 17), none, none, some (.int 0)]) rfl rfl rfl rfl
  · skip
    refine (tz_g_aload_n rfl (tz_in0 rfl)).trans ?_
    refine (tz_g_iload_n rfl (tz_in0 rfl)).trans ?_
    refine (tz_g_cv1I (m2 := 15) (rc := 1) rfl rfl rfl rfl rfl rfl (by decide) (tz_in0 rfl)).trans ?_
    refine tz_jI (fun y2 A2 => ?_)
    exact tz_g_ret1 (tz_in0 rfl) rfl

theorem e_X11_sky_65 (z3 : Int32) (A : tz_Mem) : q_X11_sky_65 z3 A =
  tz_bV (f_X7_readItem A) (fun A1 =>
if 160 < (z3 + 1) then
  if (tz_g (tz_s A1 17 13 (tz_g A1 122 0)) 17 13) = (-1) then
    tz_bV (f_X9_become 30 124 (tz_s A1 17 13 (tz_g A1 122 0))) (fun A2 =>
    some (some (.int (z3 + 1)), A2))
  else
    tz_bI (f_X11_refuse (-6) (tz_s A1 17 13 (tz_g A1 122 0))) (fun y2 A2 =>
    some (some (.int y2), A2))
else
  tz_bI (f_X7_goesOn A1) (fun y2 A2 =>
  if ¬ y2 = 0 then
    q_X11_sky_65 (z3 + 1) A2
  else
    if (tz_g (tz_s A2 17 13 (tz_g A2 122 0)) 17 13) = (-1) then
      tz_bV (f_X9_become 30 124 (tz_s A2 17 13 (tz_g A2 122 0))) (fun A3 =>
      some (some (.int (z3 + 1)), A3))
    else
      tz_bI (f_X11_refuse (-6) (tz_s A2 17 13 (tz_g A2 122 0))) (fun y3 A3 =>
      some (some (.int y3), A3)))) := by
  show tz_Go 66 65 [some (.ref 17), none, none, some (.int z3)] [] A = _
  refine (tz_g_aload_n rfl (tz_inM rfl rfl rfl)).trans ?_
  refine (tz_g_getr (j := 122) rfl rfl rfl rfl rfl (tz_in0 rfl)).trans ?_
  refine (tz_g_cv0V (m2 := 72) (rc := 0) rfl rfl rfl rfl rfl rfl (by decide) (tz_in0 rfl)).trans ?_
  refine tz_jV (fun A1 => ?_)
  refine (tz_g_iinc (v := 1) (L2 := [some (.ref 17), none, none, some (.int (z3 + 1))]) rfl rfl rfl rfl (tz_in0 rfl)).trans ?_
  refine (tz_g_iload_n rfl (tz_in0 rfl)).trans ?_
  refine (tz_g_sipush (v := 160) rfl (tz_in0 rfl)).trans ?_
  refine (tz_g_ic_gt (t := 92) (by decide) (tz_in0 rfl)).trans ?_
  refine tz_cg ?_ ?_
  · skip
    refine (tz_g_aload_n rfl (tz_in0 rfl)).trans ?_
    refine (tz_g_aload_n rfl (tz_in0 rfl)).trans ?_
    refine (tz_g_getr (j := 122) rfl rfl rfl rfl rfl (tz_in0 rfl)).trans ?_
    refine (tz_g_geti rfl rfl rfl (tz_in0 rfl)).trans ?_
    refine (tz_g_puti rfl rfl rfl (tz_in0 rfl)).trans ?_
    refine (tz_g_aload_n rfl (tz_in0 rfl)).trans ?_
    refine (tz_g_geti rfl rfl rfl (tz_in0 rfl)).trans ?_
    refine (tz_g_iconst (v := (-1)) rfl (tz_in0 rfl)).trans ?_
    refine (tz_g_ic_eq (t := 118) (by decide) (tz_in0 rfl)).trans ?_
    refine tz_cg ?_ ?_
    · skip
      refine (tz_g_aload_n rfl (tz_in0 rfl)).trans ?_
      refine (tz_g_getr (j := 30) rfl rfl rfl rfl rfl (tz_in0 rfl)).trans ?_
      refine (tz_g_aload_n rfl (tz_in0 rfl)).trans ?_
      refine (tz_g_getr (j := 122) rfl rfl rfl rfl rfl (tz_in0 rfl)).trans ?_
      refine (tz_g_getr (j := 124) rfl rfl rfl rfl rfl (tz_in0 rfl)).trans ?_
      refine (tz_g_cv1V (m2 := 68) (rc := 0) rfl rfl rfl rfl rfl rfl (by decide) (tz_in0 rfl)).trans ?_
      refine tz_jV (fun A2 => ?_)
      refine (tz_g_iload_n rfl (tz_in0 rfl)).trans ?_
      exact tz_g_ret1 (tz_in0 rfl) rfl
    · skip
      refine (tz_g_aload_n rfl (tz_in0 rfl)).trans ?_
      refine (tz_g_bipush (v := (-6)) rfl (tz_in0 rfl)).trans ?_
      refine (tz_g_cv1I (m2 := 15) (rc := 1) rfl rfl rfl rfl rfl rfl (by decide) (tz_in0 rfl)).trans ?_
      refine tz_jI (fun y2 A2 => ?_)
      exact tz_g_ret1 (tz_in0 rfl) rfl
  · skip
    refine (tz_g_aload_n rfl (tz_in0 rfl)).trans ?_
    refine (tz_g_getr (j := 122) rfl rfl rfl rfl rfl (tz_in0 rfl)).trans ?_
    refine (tz_g_cv0I (m2 := 106) (rc := 4) rfl rfl rfl rfl rfl rfl (by decide) (tz_in0 rfl)).trans ?_
    refine tz_jI (fun y2 A2 => ?_)
    refine (tz_g_if_ne (t := 65) (by decide) (tz_in0 rfl)).trans ?_
    refine tz_cg ?_ ?_
    · skip
      exact tz_Gm (L2 := [some (.ref 17), none, none, some (.int (z3 + 1))]) rfl rfl rfl rfl
    · skip
      refine (tz_g_aload_n rfl (tz_in0 rfl)).trans ?_
      refine (tz_g_aload_n rfl (tz_in0 rfl)).trans ?_
      refine (tz_g_getr (j := 122) rfl rfl rfl rfl rfl (tz_in0 rfl)).trans ?_
      refine (tz_g_geti rfl rfl rfl (tz_in0 rfl)).trans ?_
      refine (tz_g_puti rfl rfl rfl (tz_in0 rfl)).trans ?_
      refine (tz_g_aload_n rfl (tz_in0 rfl)).trans ?_
      refine (tz_g_geti rfl rfl rfl (tz_in0 rfl)).trans ?_
      refine (tz_g_iconst (v := (-1)) rfl (tz_in0 rfl)).trans ?_
      refine (tz_g_ic_eq (t := 118) (by decide) (tz_in0 rfl)).trans ?_
      refine tz_cg ?_ ?_
      · skip
        refine (tz_g_aload_n rfl (tz_in0 rfl)).trans ?_
        refine (tz_g_getr (j := 30) rfl rfl rfl rfl rfl (tz_in0 rfl)).trans ?_
        refine (tz_g_aload_n rfl (tz_in0 rfl)).trans ?_
        refine (tz_g_getr (j := 122) rfl rfl rfl rfl rfl (tz_in0 rfl)).trans ?_
        refine (tz_g_getr (j := 124) rfl rfl rfl rfl rfl (tz_in0 rfl)).trans ?_
        refine (tz_g_cv1V (m2 := 68) (rc := 0) rfl rfl rfl rfl rfl rfl (by decide) (tz_in0 rfl)).trans ?_
        refine tz_jV (fun A3 => ?_)
        refine (tz_g_iload_n rfl (tz_in0 rfl)).trans ?_
        exact tz_g_ret1 (tz_in0 rfl) rfl
      · skip
        refine (tz_g_aload_n rfl (tz_in0 rfl)).trans ?_
        refine (tz_g_bipush (v := (-6)) rfl (tz_in0 rfl)).trans ?_
        refine (tz_g_cv1I (m2 := 15) (rc := 1) rfl rfl rfl rfl rfl rfl (by decide) (tz_in0 rfl)).trans ?_
        refine tz_jI (fun y3 A3 => ?_)
        exact tz_g_ret1 (tz_in0 rfl) rfl

theorem e_X11_arrives (x1 : Int32) (A : tz_Mem) : f_X11_arrives x1 A =
  tz_bI (f_X4_has 30 x1 A) (fun y1 A1 =>
if ¬ y1 = 0 then
  tz_bI (f_X11_arrivalWithout x1 (-1) A1) (fun y2 A2 =>
  some (some (.int y2), A2))
else
  tz_bI (f_X11_refuseLower (-5) A1) (fun y2 A2 =>
  some (some (.int y2), A2))) := by
  refine (tz_Fe (L := [some (.ref 17), some (.int x1)]) rfl).trans ?_
  refine (tz_g_aload_n rfl (tz_in0 rfl)).trans ?_
  refine (tz_g_getr (j := 30) rfl rfl rfl rfl rfl (tz_in0 rfl)).trans ?_
  refine (tz_g_getr (j := 45) rfl rfl rfl rfl rfl (tz_in0 rfl)).trans ?_
  refine (tz_g_iload_n rfl (tz_in0 rfl)).trans ?_
  refine (tz_g_cv1I (m2 := 62) (rc := 4) rfl rfl rfl rfl rfl rfl (by decide) (tz_in0 rfl)).trans ?_
  refine tz_jI (fun y1 A1 => ?_)
  refine (tz_g_if_ne (t := 21) (by decide) (tz_in0 rfl)).trans ?_
  refine tz_cg ?_ ?_
  · skip
    refine (tz_g_aload_n rfl (tz_in0 rfl)).trans ?_
    refine (tz_g_iload_n rfl (tz_in0 rfl)).trans ?_
    refine (tz_g_iconst (v := (-1)) rfl (tz_in0 rfl)).trans ?_
    refine (tz_g_cv2I (m2 := 113) (rc := 1) rfl rfl rfl rfl rfl rfl (by decide) (tz_in0 rfl)).trans ?_
    refine tz_jI (fun y2 A2 => ?_)
    exact tz_g_ret1 (tz_in0 rfl) rfl
  · skip
    refine (tz_g_aload_n rfl (tz_in0 rfl)).trans ?_
    refine (tz_g_bipush (v := (-5)) rfl (tz_in0 rfl)).trans ?_
    refine (tz_g_cv1I (m2 := 112) (rc := 1) rfl rfl rfl rfl rfl rfl (by decide) (tz_in0 rfl)).trans ?_
    refine tz_jI (fun y2 A2 => ?_)
    exact tz_g_ret1 (tz_in0 rfl) rfl

theorem e_X11_needs (x1 : Int32) (x2 : Int32) (A : tz_Mem) : f_X11_needs x1 x2 A =
  tz_bI (f_X4_has 30 x1 A) (fun y1 A1 =>
if y1 = 0 then
  tz_bI (f_X11_refuseLower (-5) A1) (fun y2 A2 =>
  some (some (.int y2), A2))
else
  tz_bI (f_X11_isOneOfTwo x2 A1) (fun y2 A2 =>
  if ¬ y2 = 0 then
    tz_bI (f_X11_arrivalWithout x1 (-1) A2) (fun y3 A3 =>
    if ¬ y3 = (-1) then
      q_X11_needs_58 x1 x2 y3 0 (-1) 0 A3
    else
      q_X11_needs_58 x1 x2 2147483647 0 (-1) 0 A3)
  else
    tz_bI (f_X11_refuseLower (-5) A2) (fun y3 A3 =>
    some (some (.int y3), A3)))) := by
  refine (tz_Fe (L := [some (.ref 17), some (.int x1), some (.int x2), none, none, none, none, none]) rfl).trans ?_
  refine (tz_g_aload_n rfl (tz_in0 rfl)).trans ?_
  refine (tz_g_getr (j := 30) rfl rfl rfl rfl rfl (tz_in0 rfl)).trans ?_
  refine (tz_g_getr (j := 45) rfl rfl rfl rfl rfl (tz_in0 rfl)).trans ?_
  refine (tz_g_iload_n rfl (tz_in0 rfl)).trans ?_
  refine (tz_g_cv1I (m2 := 62) (rc := 4) rfl rfl rfl rfl rfl rfl (by decide) (tz_in0 rfl)).trans ?_
  refine tz_jI (fun y1 A1 => ?_)
  refine (tz_g_if_eq (t := 21) (by decide) (tz_in0 rfl)).trans ?_
  refine tz_cg ?_ ?_
  · skip
    refine (tz_g_aload_n rfl (tz_in0 rfl)).trans ?_
    refine (tz_g_bipush (v := (-5)) rfl (tz_in0 rfl)).trans ?_
    refine (tz_g_cv1I (m2 := 112) (rc := 1) rfl rfl rfl rfl rfl rfl (by decide) (tz_in0 rfl)).trans ?_
    refine tz_jI (fun y2 A2 => ?_)
    exact tz_g_ret1 (tz_in0 rfl) rfl
  · skip
    refine (tz_g_iload_n rfl (tz_in0 rfl)).trans ?_
    refine (tz_g_cs1I (m2 := 109) (rc := 4) rfl rfl rfl rfl rfl rfl (by decide) (tz_in0 rfl)).trans ?_
    refine tz_jI (fun y2 A2 => ?_)
    refine (tz_g_if_ne (t := 28) (by decide) (tz_in0 rfl)).trans ?_
    refine tz_cg ?_ ?_
    · skip
      refine (tz_g_aload_n rfl (tz_in0 rfl)).trans ?_
      refine (tz_g_iload_n rfl (tz_in0 rfl)).trans ?_
      refine (tz_g_iconst (v := (-1)) rfl (tz_in0 rfl)).trans ?_
      refine (tz_g_cv2I (m2 := 113) (rc := 1) rfl rfl rfl rfl rfl rfl (by decide) (tz_in0 rfl)).trans ?_
      refine tz_jI (fun y3 A3 => ?_)
      refine (tz_g_istore_n (L2 := [some (.ref 17), some (.int x1), some (.int x2), some (.int y3), none, none, none, none]) rfl rfl (tz_in0 rfl)).trans ?_
      refine (tz_g_iload_n rfl (tz_in0 rfl)).trans ?_
      refine (tz_g_iconst (v := (-1)) rfl (tz_in0 rfl)).trans ?_
      refine (tz_g_ic_ne (t := 46) (by decide) (tz_in0 rfl)).trans ?_
      refine tz_cg ?_ ?_
      · skip
        refine (tz_g_iload_n rfl (tz_in0 rfl)).trans ?_
        refine (tz_g_istore (L2 := [some (.ref 17), some (.int x1), some (.int x2), some (.int y3), some (.int y3), none, none, none]) rfl rfl (tz_in0 rfl)).trans ?_
        refine (tz_g_iconst (v := 0) rfl (tz_in0 rfl)).trans ?_
        refine (tz_g_istore (L2 := [some (.ref 17), some (.int x1), some (.int x2), some (.int y3), some (.int y3), some (.int 0), none, none]) rfl rfl (tz_in0 rfl)).trans ?_
        refine (tz_g_iconst (v := (-1)) rfl (tz_in0 rfl)).trans ?_
        refine (tz_g_istore (L2 := [some (.ref 17), some (.int x1), some (.int x2), some (.int y3), some (.int y3), some (.int 0), some (.int (-1)), none]) rfl rfl (tz_in0 rfl)).trans ?_
        refine (tz_g_iconst (v := 0) rfl (tz_in0 rfl)).trans ?_
        refine (tz_g_istore (L2 := [some (.ref 17), some (.int x1), some (.int x2), some (.int y3), some (.int y3), some (.int 0), some (.int (-1)), some (.int 0)]) rfl rfl (tz_in0 rfl)).trans ?_
        exact tz_Gm (L2 := [some (.ref 17), some (.int x1), some (.int x2), none, some (.int y3), some (.int 0), some (.int (-1)), some (.int 0)]) rfl rfl rfl rfl
      · skip
        refine (tz_g_ldc_w (v := 2147483647) rfl rfl (tz_in0 rfl)).trans ?_
        refine (tz_g_goto (t := 47) (by decide) (tz_in0 rfl)).trans ?_
        refine (tz_g_istore (L2 := [some (.ref 17), some (.int x1), some (.int x2), some (.int y3), some (.int 2147483647), none, none, none]) rfl rfl (tz_in0 rfl)).trans ?_
        refine (tz_g_iconst (v := 0) rfl (tz_in0 rfl)).trans ?_
        refine (tz_g_istore (L2 := [some (.ref 17), some (.int x1), some (.int x2), some (.int y3), some (.int 2147483647), some (.int 0), none, none]) rfl rfl (tz_in0 rfl)).trans ?_
        refine (tz_g_iconst (v := (-1)) rfl (tz_in0 rfl)).trans ?_
        refine (tz_g_istore (L2 := [some (.ref 17), some (.int x1), some (.int x2), some (.int y3), some (.int 2147483647), some (.int 0), some (.int (-1)), none]) rfl rfl (tz_in0 rfl)).trans ?_
        refine (tz_g_iconst (v := 0) rfl (tz_in0 rfl)).trans ?_
        refine (tz_g_istore (L2 := [some (.ref 17), some (.int x1), some (.int x2), some (.int y3), some (.int 2147483647), some (.int 0), some (.int (-1)), some (.int 0)]) rfl rfl (tz_in0 rfl)).trans ?_
        exact tz_Gm (L2 := [some (.ref 17), some (.int x1), some (.int x2), none, some (.int 2147483647), some (.int 0), some (.int (-1)), some (.int 0)]) rfl rfl rfl rfl
    · skip
      refine (tz_g_aload_n rfl (tz_in0 rfl)).trans ?_
      refine (tz_g_bipush (v := (-5)) rfl (tz_in0 rfl)).trans ?_
      refine (tz_g_cv1I (m2 := 112) (rc := 1) rfl rfl rfl rfl rfl rfl (by decide) (tz_in0 rfl)).trans ?_
      refine tz_jI (fun y3 A3 => ?_)
      exact tz_g_ret1 (tz_in0 rfl) rfl

theorem e_X11_needs_58 (z1 : Int32) (z2 : Int32) (z4 : Int32) (z5 : Int32) (z6 : Int32) (z7 : Int32) (A : tz_Mem) : q_X11_needs_58 z1 z2 z4 z5 z6 z7 A =
  if (tz_g A 37 0) ≤ z7 then
  if ¬ z2 = 0 then
    some (some (.int z6), A)
  else
    some (some (.int z5), A)
else
  tz_bI (f_X11_arrivalWithout z1 z7 A) (fun y1 A1 =>
  if ¬ y1 = (-1) then
    if z4 ≤ y1 then
      q_X11_needs_58 z1 z2 z4 z5 z6 (z7 + 1) A1
    else
      q_X11_needs_58 z1 z2 y1 z5 z7 (z7 + 1) A1
  else
    q_X11_needs_58 z1 z2 z4 (z5 ||| (1 <<< (z7 &&& 31))) z6 (z7 + 1) A1) := by
  show tz_Go 124 58 [some (.ref 17), some (.int z1), some (.int z2), none, some (.int z4), some (.int z5), some (.int z6), some (.int z7)] [] A = _
  refine (tz_g_iload rfl (tz_inM rfl rfl rfl)).trans ?_
  refine (tz_g_aload_n rfl (tz_in0 rfl)).trans ?_
  refine (tz_g_getr (j := 30) rfl rfl rfl rfl rfl (tz_in0 rfl)).trans ?_
  refine (tz_g_getr (j := 37) rfl rfl rfl rfl rfl (tz_in0 rfl)).trans ?_
  refine (tz_g_geti rfl rfl rfl (tz_in0 rfl)).trans ?_
  refine (tz_g_ic_ge (t := 117) (by decide) (tz_in0 rfl)).trans ?_
  refine tz_cg ?_ ?_
  · skip
    refine (tz_g_iload_n rfl (tz_in0 rfl)).trans ?_
    refine (tz_g_if_ne (t := 126) (by decide) (tz_in0 rfl)).trans ?_
    refine tz_cg ?_ ?_
    · skip
      refine (tz_g_iload rfl (tz_in0 rfl)).trans ?_
      exact tz_g_ret1 (tz_in0 rfl) rfl
    · skip
      refine (tz_g_iload rfl (tz_in0 rfl)).trans ?_
      refine (tz_g_goto (t := 128) (by decide) (tz_in0 rfl)).trans ?_
      exact tz_g_ret1 (tz_in0 rfl) rfl
  · skip
    refine (tz_g_aload_n rfl (tz_in0 rfl)).trans ?_
    refine (tz_g_iload_n rfl (tz_in0 rfl)).trans ?_
    refine (tz_g_iload rfl (tz_in0 rfl)).trans ?_
    refine (tz_g_cv2I (m2 := 113) (rc := 1) rfl rfl rfl rfl rfl rfl (by decide) (tz_in0 rfl)).trans ?_
    refine tz_jI (fun y1 A1 => ?_)
    refine (tz_g_istore_n (L2 := [some (.ref 17), some (.int z1), some (.int z2), some (.int y1), some (.int z4), some (.int z5), some (.int z6), some (.int z7)]) rfl rfl (tz_in0 rfl)).trans ?_
    refine (tz_g_iload_n rfl (tz_in0 rfl)).trans ?_
    refine (tz_g_iconst (v := (-1)) rfl (tz_in0 rfl)).trans ?_
    refine (tz_g_ic_ne (t := 98) (by decide) (tz_in0 rfl)).trans ?_
    refine tz_cg ?_ ?_
    · skip
      refine (tz_g_iload_n rfl (tz_in0 rfl)).trans ?_
      refine (tz_g_iload rfl (tz_in0 rfl)).trans ?_
      refine (tz_g_ic_ge (t := 111) (by decide) (tz_in0 rfl)).trans ?_
      refine tz_cg ?_ ?_
      · skip
        refine (tz_g_iinc (v := 1) (L2 := [some (.ref 17), some (.int z1), some (.int z2), some (.int y1), some (.int z4), some (.int z5), some (.int z6), some (.int (z7 + 1))]) rfl rfl rfl rfl (tz_in0 rfl)).trans ?_
        refine (tz_g_goto (t := 58) (by decide) (tz_in0 rfl)).trans ?_
        exact tz_Gm (L2 := [some (.ref 17), some (.int z1), some (.int z2), none, some (.int z4), some (.int z5), some (.int z6), some (.int (z7 + 1))]) rfl rfl rfl rfl
      · skip
        refine (tz_g_iload_n rfl (tz_in0 rfl)).trans ?_
        refine (tz_g_istore (L2 := [some (.ref 17), some (.int z1), some (.int z2), some (.int y1), some (.int y1), some (.int z5), some (.int z6), some (.int z7)]) rfl rfl (tz_in0 rfl)).trans ?_
        refine (tz_g_iload rfl (tz_in0 rfl)).trans ?_
        refine (tz_g_istore (L2 := [some (.ref 17), some (.int z1), some (.int z2), some (.int y1), some (.int y1), some (.int z5), some (.int z7), some (.int z7)]) rfl rfl (tz_in0 rfl)).trans ?_
        refine (tz_g_iinc (v := 1) (L2 := [some (.ref 17), some (.int z1), some (.int z2), some (.int y1), some (.int y1), some (.int z5), some (.int z7), some (.int (z7 + 1))]) rfl rfl rfl rfl (tz_in0 rfl)).trans ?_
        refine (tz_g_goto (t := 58) (by decide) (tz_in0 rfl)).trans ?_
        exact tz_Gm (L2 := [some (.ref 17), some (.int z1), some (.int z2), none, some (.int y1), some (.int z5), some (.int z7), some (.int (z7 + 1))]) rfl rfl rfl rfl
    · skip
      refine (tz_g_iload rfl (tz_in0 rfl)).trans ?_
      refine (tz_g_iconst (v := 1) rfl (tz_in0 rfl)).trans ?_
      refine (tz_g_iload rfl (tz_in0 rfl)).trans ?_
      refine (tz_g_ishl (tz_in0 rfl)).trans ?_
      refine (tz_g_ior (tz_in0 rfl)).trans ?_
      refine (tz_g_istore (L2 := [some (.ref 17), some (.int z1), some (.int z2), some (.int y1), some (.int z4), some (.int (z5 ||| (1 <<< (z7 &&& 31)))), some (.int z6), some (.int z7)]) rfl rfl (tz_in0 rfl)).trans ?_
      refine (tz_g_goto (t := 111) (by decide) (tz_in0 rfl)).trans ?_
      refine (tz_g_iinc (v := 1) (L2 := [some (.ref 17), some (.int z1), some (.int z2), some (.int y1), some (.int z4), some (.int (z5 ||| (1 <<< (z7 &&& 31)))), some (.int z6), some (.int (z7 + 1))]) rfl rfl rfl rfl (tz_in0 rfl)).trans ?_
      refine (tz_g_goto (t := 58) (by decide) (tz_in0 rfl)).trans ?_
      exact tz_Gm (L2 := [some (.ref 17), some (.int z1), some (.int z2), none, some (.int z4), some (.int (z5 ||| (1 <<< (z7 &&& 31)))), some (.int z6), some (.int (z7 + 1))]) rfl rfl rfl rfl

theorem e_X0_run_2 (x1 : Int32) (x2 : Int32) (x3 : Int32) (x4 : Int32) (A : tz_Mem) : f_X0_run_2 x1 x2 x3 x4 A =
  if x4 < 40 then
  tz_bI (f_X0_kindWithBody x1 x2 A) (fun y1 A1 =>
  tz_bI (f_X0_bodyOf x1 y1 A1) (fun y2 A2 =>
  if y1 < 0 ∨ 7 ≤ (Int32.toNatClampNeg y1) then none else
  tz_bV (f_X0_note y2 A2) (fun A3 =>
  if y2 = 10 then
    some (some (.int (x3 + (tz_g A3 148 2))), A3)
  else if y2 = 11 then
    tz_bI (f_X0_run_3 0 (tz_g A3 148 4) x3 (x4 + 1) A3) (fun y4 A4 =>
    some (some (.int (y4 * 2)), A4))
  else if y2 = 12 then
    tz_bI (f_X0_run_3 1 (tz_g A3 148 4) x3 (x4 + 1) A3) (fun y4 A4 =>
    tz_bI (f_X0_run_3 0 (tz_g A4 148 4) (x3 - (tz_g A4 148 3)) (x4 + 1) A4) (fun y5 A5 =>
    some (some (.int (y4 ^^^ y5)), A5)))
  else if y2 = 20 then
    tz_bI (f_X0_run_3 0 (tz_XT 1 (Int32.toNatClampNeg y1)) x3 (x4 + 1) A3) (fun y4 A4 =>
    some (some (.int (y4 + (tz_g A4 148 3))), A4))
  else if y2 = 30 then
    tz_bI (f_X0_run_3 1 (tz_XT 1 (Int32.toNatClampNeg y1)) x3 (x4 + 1) A3) (fun y4 A4 =>
    some (some (.int (y4 * 3)), A4))
  else if y2 = 40 then
    tz_bI (f_X0_run_3 1 (tz_XT 1 (Int32.toNatClampNeg y1)) (x3 + 1) (x4 + 1) A3) (fun y4 A4 =>
    some (some (.int y4), A4))
  else if y2 = 50 then
    tz_bI (f_X0_run_3 2 (tz_XT 1 (Int32.toNatClampNeg y1)) x3 (x4 + 1) A3) (fun y4 A4 =>
    some (some (.int (-y4)), A4))
  else if y2 = 51 then
    tz_bI (f_X0_run_3 0 (tz_XT 1 (Int32.toNatClampNeg y1)) x3 (x4 + 1) A3) (fun y4 A4 =>
    some (some (.int (y4 - (tz_g A4 148 2))), A4))
  else if y2 = 60 then
    tz_bI (f_X0_run_3 2 (tz_XT 1 (Int32.toNatClampNeg y1)) x3 (x4 + 1) A3) (fun y4 A4 =>
    some (some (.int (y4 ^^^ 5)), A4))
  else if y2 = 70 then
    tz_bI (f_X0_run_3 0 (tz_XT 1 (Int32.toNatClampNeg y1)) x3 (x4 + 1) A3) (fun y4 A4 =>
    some (some (.int (y4 * 2)), A4))
  else tz_bI (f_X0_run_3 1 (tz_XT 1 (Int32.toNatClampNeg y1)) (x3 - (tz_g A3 148 3)) (x4 + 1) A3) (fun y4 A4 =>
  some (some (.int y4), A4)))))
else
  some (some (.int 0), A) := by
  refine (tz_Fe (L := [some (.ref 148), some (.int x1), some (.int x2), some (.int x3), some (.int x4), none, none, none, none]) rfl).trans ?_
  refine (tz_g_iload rfl (tz_in0 rfl)).trans ?_
  refine (tz_g_bipush (v := 40) rfl (tz_in0 rfl)).trans ?_
  refine (tz_g_ic_lt (t := 9) (by decide) (tz_in0 rfl)).trans ?_
  refine tz_cg ?_ ?_
  · skip
    refine (tz_g_iload_n rfl (tz_in0 rfl)).trans ?_
    refine (tz_g_iload_n rfl (tz_in0 rfl)).trans ?_
    refine (tz_g_cs2I (m2 := 153) (rc := 1) rfl rfl rfl rfl rfl rfl (by decide) (tz_in0 rfl)).trans ?_
    refine tz_jI (fun y1 A1 => ?_)
    refine (tz_g_istore (L2 := [some (.ref 148), some (.int x1), some (.int x2), some (.int x3), some (.int x4), some (.int y1), none, none, none]) rfl rfl (tz_in0 rfl)).trans ?_
    refine (tz_g_iload_n rfl (tz_in0 rfl)).trans ?_
    refine (tz_g_iload rfl (tz_in0 rfl)).trans ?_
    refine (tz_g_cs2I (m2 := 154) (rc := 1) rfl rfl rfl rfl rfl rfl (by decide) (tz_in0 rfl)).trans ?_
    refine tz_jI (fun y2 A2 => ?_)
    refine (tz_g_istore (L2 := [some (.ref 148), some (.int x1), some (.int x2), some (.int x3), some (.int x4), some (.int y1), some (.int y2), none, none]) rfl rfl (tz_in0 rfl)).trans ?_
    refine (tz_g_gets0 (j := 1) rfl (tz_in0 rfl)).trans ?_
    refine (tz_g_iload rfl (tz_in0 rfl)).trans ?_
    refine (tz_g_ialx (n := 7) rfl rfl rfl (tz_in0 rfl)).trans ?_
    refine tz_cn1 ?_
    refine (tz_g_istore (L2 := [some (.ref 148), some (.int x1), some (.int x2), some (.int x3), some (.int x4), some (.int y1), some (.int y2), some (.int (tz_XT 1 (Int32.toNatClampNeg y1))), none]) rfl rfl (tz_in0 rfl)).trans ?_
    refine (tz_g_iload rfl (tz_in0 rfl)).trans ?_
    refine (tz_g_iconst (v := 1) rfl (tz_in0 rfl)).trans ?_
    refine (tz_g_iadd (tz_in0 rfl)).trans ?_
    refine (tz_g_istore (L2 := [some (.ref 148), some (.int x1), some (.int x2), some (.int x3), some (.int x4), some (.int y1), some (.int y2), some (.int (tz_XT 1 (Int32.toNatClampNeg y1))), some (.int (x4 + 1))]) rfl rfl (tz_in0 rfl)).trans ?_
    refine (tz_g_aload_n rfl (tz_in0 rfl)).trans ?_
    refine (tz_g_iload rfl (tz_in0 rfl)).trans ?_
    refine (tz_g_cv1V (m2 := 155) (rc := 0) rfl rfl rfl rfl rfl rfl (by decide) (tz_in0 rfl)).trans ?_
    refine tz_jV (fun A3 => ?_)
    refine (tz_g_iload rfl (tz_in0 rfl)).trans ?_
    refine (tz_g_lsw (by decide) (tz_in0 rfl)).trans ?_
    refine tz_slc (v := 10) (by decide) ?_ ?_
    · refine (tz_tg (t := 136) (by decide)).trans ?_
      refine (tz_g_iload_n rfl (tz_in0 rfl)).trans ?_
      refine (tz_g_aload_n rfl (tz_in0 rfl)).trans ?_
      refine (tz_g_geti rfl rfl rfl (tz_in0 rfl)).trans ?_
      refine (tz_g_iadd (tz_in0 rfl)).trans ?_
      exact tz_g_ret1 (tz_in0 rfl) rfl
    refine tz_slc (v := 11) (by decide) ?_ ?_
    · refine (tz_tg (t := 143) (by decide)).trans ?_
      refine (tz_g_aload_n rfl (tz_in0 rfl)).trans ?_
      refine (tz_g_iconst (v := 0) rfl (tz_in0 rfl)).trans ?_
      refine (tz_g_aload_n rfl (tz_in0 rfl)).trans ?_
      refine (tz_g_geti rfl rfl rfl (tz_in0 rfl)).trans ?_
      refine (tz_g_iload_n rfl (tz_in0 rfl)).trans ?_
      refine (tz_g_iload rfl (tz_in0 rfl)).trans ?_
      refine (tz_g_cv4I (m2 := 148) (rc := 1) rfl rfl rfl rfl rfl rfl (by decide) (tz_in0 rfl)).trans ?_
      refine tz_jI (fun y4 A4 => ?_)
      refine (tz_g_iconst (v := 2) rfl (tz_in0 rfl)).trans ?_
      refine (tz_g_imul (tz_in0 rfl)).trans ?_
      exact tz_g_ret1 (tz_in0 rfl) rfl
    refine tz_slc (v := 12) (by decide) ?_ ?_
    · refine (tz_tg (t := 158) (by decide)).trans ?_
      refine (tz_g_aload_n rfl (tz_in0 rfl)).trans ?_
      refine (tz_g_iconst (v := 1) rfl (tz_in0 rfl)).trans ?_
      refine (tz_g_aload_n rfl (tz_in0 rfl)).trans ?_
      refine (tz_g_geti rfl rfl rfl (tz_in0 rfl)).trans ?_
      refine (tz_g_iload_n rfl (tz_in0 rfl)).trans ?_
      refine (tz_g_iload rfl (tz_in0 rfl)).trans ?_
      refine (tz_g_cv4I (m2 := 148) (rc := 1) rfl rfl rfl rfl rfl rfl (by decide) (tz_in0 rfl)).trans ?_
      refine tz_jI (fun y4 A4 => ?_)
      refine (tz_g_aload_n rfl (tz_in0 rfl)).trans ?_
      refine (tz_g_iconst (v := 0) rfl (tz_in0 rfl)).trans ?_
      refine (tz_g_aload_n rfl (tz_in0 rfl)).trans ?_
      refine (tz_g_geti rfl rfl rfl (tz_in0 rfl)).trans ?_
      refine (tz_g_iload_n rfl (tz_in0 rfl)).trans ?_
      refine (tz_g_aload_n rfl (tz_in0 rfl)).trans ?_
      refine (tz_g_geti rfl rfl rfl (tz_in0 rfl)).trans ?_
      refine (tz_g_isub (tz_in0 rfl)).trans ?_
      refine (tz_g_iload rfl (tz_in0 rfl)).trans ?_
      refine (tz_g_cv4I (m2 := 148) (rc := 1) rfl rfl rfl rfl rfl rfl (by decide) (tz_in0 rfl)).trans ?_
      refine tz_jI (fun y5 A5 => ?_)
      refine (tz_g_ixor (tz_in0 rfl)).trans ?_
      exact tz_g_ret1 (tz_in0 rfl) rfl
    refine tz_slc (v := 20) (by decide) ?_ ?_
    · refine (tz_tg (t := 189) (by decide)).trans ?_
      refine (tz_g_aload_n rfl (tz_in0 rfl)).trans ?_
      refine (tz_g_iconst (v := 0) rfl (tz_in0 rfl)).trans ?_
      refine (tz_g_iload rfl (tz_in0 rfl)).trans ?_
      refine (tz_g_iload_n rfl (tz_in0 rfl)).trans ?_
      refine (tz_g_iload rfl (tz_in0 rfl)).trans ?_
      refine (tz_g_cv4I (m2 := 148) (rc := 1) rfl rfl rfl rfl rfl rfl (by decide) (tz_in0 rfl)).trans ?_
      refine tz_jI (fun y4 A4 => ?_)
      refine (tz_g_aload_n rfl (tz_in0 rfl)).trans ?_
      refine (tz_g_geti rfl rfl rfl (tz_in0 rfl)).trans ?_
      refine (tz_g_iadd (tz_in0 rfl)).trans ?_
      exact tz_g_ret1 (tz_in0 rfl) rfl
    refine tz_slc (v := 30) (by decide) ?_ ?_
    · refine (tz_tg (t := 205) (by decide)).trans ?_
      refine (tz_g_aload_n rfl (tz_in0 rfl)).trans ?_
      refine (tz_g_iconst (v := 1) rfl (tz_in0 rfl)).trans ?_
      refine (tz_g_iload rfl (tz_in0 rfl)).trans ?_
      refine (tz_g_iload_n rfl (tz_in0 rfl)).trans ?_
      refine (tz_g_iload rfl (tz_in0 rfl)).trans ?_
      refine (tz_g_cv4I (m2 := 148) (rc := 1) rfl rfl rfl rfl rfl rfl (by decide) (tz_in0 rfl)).trans ?_
      refine tz_jI (fun y4 A4 => ?_)
      refine (tz_g_iconst (v := 3) rfl (tz_in0 rfl)).trans ?_
      refine (tz_g_imul (tz_in0 rfl)).trans ?_
      exact tz_g_ret1 (tz_in0 rfl) rfl
    refine tz_slc (v := 40) (by decide) ?_ ?_
    · refine (tz_tg (t := 218) (by decide)).trans ?_
      refine (tz_g_aload_n rfl (tz_in0 rfl)).trans ?_
      refine (tz_g_iconst (v := 1) rfl (tz_in0 rfl)).trans ?_
      refine (tz_g_iload rfl (tz_in0 rfl)).trans ?_
      refine (tz_g_iload_n rfl (tz_in0 rfl)).trans ?_
      refine (tz_g_iconst (v := 1) rfl (tz_in0 rfl)).trans ?_
      refine (tz_g_iadd (tz_in0 rfl)).trans ?_
      refine (tz_g_iload rfl (tz_in0 rfl)).trans ?_
      refine (tz_g_cv4I (m2 := 148) (rc := 1) rfl rfl rfl rfl rfl rfl (by decide) (tz_in0 rfl)).trans ?_
      refine tz_jI (fun y4 A4 => ?_)
      exact tz_g_ret1 (tz_in0 rfl) rfl
    refine tz_slc (v := 50) (by decide) ?_ ?_
    · refine (tz_tg (t := 231) (by decide)).trans ?_
      refine (tz_g_aload_n rfl (tz_in0 rfl)).trans ?_
      refine (tz_g_iconst (v := 2) rfl (tz_in0 rfl)).trans ?_
      refine (tz_g_iload rfl (tz_in0 rfl)).trans ?_
      refine (tz_g_iload_n rfl (tz_in0 rfl)).trans ?_
      refine (tz_g_iload rfl (tz_in0 rfl)).trans ?_
      refine (tz_g_cv4I (m2 := 148) (rc := 1) rfl rfl rfl rfl rfl rfl (by decide) (tz_in0 rfl)).trans ?_
      refine tz_jI (fun y4 A4 => ?_)
      refine (tz_g_ineg (tz_in0 rfl)).trans ?_
      exact tz_g_ret1 (tz_in0 rfl) rfl
    refine tz_slc (v := 51) (by decide) ?_ ?_
    · refine (tz_tg (t := 243) (by decide)).trans ?_
      refine (tz_g_aload_n rfl (tz_in0 rfl)).trans ?_
      refine (tz_g_iconst (v := 0) rfl (tz_in0 rfl)).trans ?_
      refine (tz_g_iload rfl (tz_in0 rfl)).trans ?_
      refine (tz_g_iload_n rfl (tz_in0 rfl)).trans ?_
      refine (tz_g_iload rfl (tz_in0 rfl)).trans ?_
      refine (tz_g_cv4I (m2 := 148) (rc := 1) rfl rfl rfl rfl rfl rfl (by decide) (tz_in0 rfl)).trans ?_
      refine tz_jI (fun y4 A4 => ?_)
      refine (tz_g_aload_n rfl (tz_in0 rfl)).trans ?_
      refine (tz_g_geti rfl rfl rfl (tz_in0 rfl)).trans ?_
      refine (tz_g_isub (tz_in0 rfl)).trans ?_
      exact tz_g_ret1 (tz_in0 rfl) rfl
    refine tz_slc (v := 60) (by decide) ?_ ?_
    · refine (tz_tg (t := 259) (by decide)).trans ?_
      refine (tz_g_aload_n rfl (tz_in0 rfl)).trans ?_
      refine (tz_g_iconst (v := 2) rfl (tz_in0 rfl)).trans ?_
      refine (tz_g_iload rfl (tz_in0 rfl)).trans ?_
      refine (tz_g_iload_n rfl (tz_in0 rfl)).trans ?_
      refine (tz_g_iload rfl (tz_in0 rfl)).trans ?_
      refine (tz_g_cv4I (m2 := 148) (rc := 1) rfl rfl rfl rfl rfl rfl (by decide) (tz_in0 rfl)).trans ?_
      refine tz_jI (fun y4 A4 => ?_)
      refine (tz_g_iconst (v := 5) rfl (tz_in0 rfl)).trans ?_
      refine (tz_g_ixor (tz_in0 rfl)).trans ?_
      exact tz_g_ret1 (tz_in0 rfl) rfl
    refine tz_slc (v := 70) (by decide) ?_ ?_
    · refine (tz_tg (t := 272) (by decide)).trans ?_
      refine (tz_g_aload_n rfl (tz_in0 rfl)).trans ?_
      refine (tz_g_iconst (v := 0) rfl (tz_in0 rfl)).trans ?_
      refine (tz_g_iload rfl (tz_in0 rfl)).trans ?_
      refine (tz_g_iload_n rfl (tz_in0 rfl)).trans ?_
      refine (tz_g_iload rfl (tz_in0 rfl)).trans ?_
      refine (tz_g_cv4I (m2 := 148) (rc := 1) rfl rfl rfl rfl rfl rfl (by decide) (tz_in0 rfl)).trans ?_
      refine tz_jI (fun y4 A4 => ?_)
      refine (tz_g_iconst (v := 2) rfl (tz_in0 rfl)).trans ?_
      refine (tz_g_imul (tz_in0 rfl)).trans ?_
      exact tz_g_ret1 (tz_in0 rfl) rfl
    refine tz_sld ?_
    refine (tz_tg (t := 285) (by decide)).trans ?_
    refine (tz_g_aload_n rfl (tz_in0 rfl)).trans ?_
    refine (tz_g_iconst (v := 1) rfl (tz_in0 rfl)).trans ?_
    refine (tz_g_iload rfl (tz_in0 rfl)).trans ?_
    refine (tz_g_iload_n rfl (tz_in0 rfl)).trans ?_
    refine (tz_g_aload_n rfl (tz_in0 rfl)).trans ?_
    refine (tz_g_geti rfl rfl rfl (tz_in0 rfl)).trans ?_
    refine (tz_g_isub (tz_in0 rfl)).trans ?_
    refine (tz_g_iload rfl (tz_in0 rfl)).trans ?_
    refine (tz_g_cv4I (m2 := 148) (rc := 1) rfl rfl rfl rfl rfl rfl (by decide) (tz_in0 rfl)).trans ?_
    refine tz_jI (fun y4 A4 => ?_)
    exact tz_g_ret1 (tz_in0 rfl) rfl
  · skip
    refine (tz_g_iconst (v := 0) rfl (tz_in0 rfl)).trans ?_
    exact tz_g_ret1 (tz_in0 rfl) rfl

theorem e_X12_sky (x1 : Int32) (A : tz_Mem) : f_X12_sky x1 A =
  tz_bI (f_X12_noRow x1 A) (fun y1 A1 =>
if 0 ≤ y1 then
  tz_bV (f_X12_keep_s180 A1) (fun A2 =>
  q_X12_sky_39 x1 0 1 (tz_s (tz_s A2 157 39 x1) 157 40 0))
else
  tz_bI (f_X12_no y1 A1) (fun y2 A2 =>
  some (some (.int y2), A2))) := by
  refine (tz_Fe (L := [some (.ref 157), some (.int x1), none, none, none]) rfl).trans ?_
  refine (tz_g_aload_n rfl (tz_in0 rfl)).trans ?_
  refine (tz_g_iload_n rfl (tz_in0 rfl)).trans ?_
  refine (tz_g_cv1I (m2 := 168) (rc := 1) rfl rfl rfl rfl rfl rfl (by decide) (tz_in0 rfl)).trans ?_
  refine tz_jI (fun y1 A1 => ?_)
  refine (tz_g_istore_n (L2 := [some (.ref 157), some (.int x1), some (.int y1), none, none]) rfl rfl (tz_in0 rfl)).trans ?_
  refine (tz_g_iload_n rfl (tz_in0 rfl)).trans ?_
  refine (tz_g_if_ge (t := 16) (by decide) (tz_in0 rfl)).trans ?_
  refine tz_cg ?_ ?_
  · skip
    refine (tz_g_aload_n rfl (tz_in0 rfl)).trans ?_
    refine (tz_g_aload_n rfl (tz_in0 rfl)).trans ?_
    refine (tz_g_getr (j := 180) rfl rfl rfl rfl rfl (tz_in0 rfl)).trans ?_
    refine (tz_g_cv1V (m2 := 196) (rc := 0) rfl rfl rfl rfl rfl rfl (by decide) (tz_in0 rfl)).trans ?_
    refine tz_jV (fun A2 => ?_)
    refine (tz_g_aload_n rfl (tz_in0 rfl)).trans ?_
    refine (tz_g_iload_n rfl (tz_in0 rfl)).trans ?_
    refine (tz_g_puti rfl rfl rfl (tz_in0 rfl)).trans ?_
    refine (tz_g_aload_n rfl (tz_in0 rfl)).trans ?_
    refine (tz_g_iconst (v := 0) rfl (tz_in0 rfl)).trans ?_
    refine (tz_g_puti rfl rfl rfl (tz_in0 rfl)).trans ?_
    refine (tz_g_iconst (v := 0) rfl (tz_in0 rfl)).trans ?_
    refine (tz_g_istore_n (L2 := [some (.ref 157), some (.int x1), some (.int y1), some (.int 0), none]) rfl rfl (tz_in0 rfl)).trans ?_
    refine (tz_g_iconst (v := 1) rfl (tz_in0 rfl)).trans ?_
    refine (tz_g_istore (L2 := [some (.ref 157), some (.int x1), some (.int y1), some (.int 0), some (.int 1)]) rfl rfl (tz_in0 rfl)).trans ?_
    exact tz_Gm (L2 := [some (.ref 157), some (.int x1), none, some (.int 0), some (.int 1)]) rfl rfl rfl rfl
  · skip
    refine (tz_g_aload_n rfl (tz_in0 rfl)).trans ?_
    refine (tz_g_iload_n rfl (tz_in0 rfl)).trans ?_
    refine (tz_g_cv1I (m2 := 166) (rc := 1) rfl rfl rfl rfl rfl rfl (by decide) (tz_in0 rfl)).trans ?_
    refine tz_jI (fun y2 A2 => ?_)
    exact tz_g_ret1 (tz_in0 rfl) rfl

theorem e_X12_sky_39 (z1 : Int32) (z3 : Int32) (z4 : Int32) (A : tz_Mem) : q_X12_sky_39 z1 z3 z4 A =
  if z4 = 0 then
  tz_bV (f_X12_again_s180 (tz_s A 157 26 (tz_g A 157 40))) (fun A1 =>
  tz_bI (f_X12_no (-6) A1) (fun y2 A2 =>
  some (some (.int y2), A2)))
else
  tz_bI (f_X12_item A) (fun y1 A1 =>
  if y1 = 0 then
    if y1 = 0 then
      if y1 = 0 then
        q_X12_sky_39 z1 z3 y1 A1
      else
        tz_bI (f_X12_is 59 A1) (fun y2 A2 =>
        q_X12_sky_39 z1 z3 y2 A2)
    else
      if z1 < 0 ∨ 8 ≤ (Int32.toNatClampNeg z1) then none else
      if ¬ (tz_g A1 157 40) = (tz_g A1 159 (Int32.toNatClampNeg z1)) then
        if y1 = 0 then
          q_X12_sky_39 z1 z3 y1 A1
        else
          tz_bI (f_X12_is 59 A1) (fun y2 A2 =>
          q_X12_sky_39 z1 z3 y2 A2)
      else
        some (some (.int z3), (tz_s A1 157 26 (-1)))
  else
    if y1 = 0 then
      if y1 = 0 then
        q_X12_sky_39 z1 (z3 + 1) y1 A1
      else
        tz_bI (f_X12_is 59 A1) (fun y2 A2 =>
        q_X12_sky_39 z1 (z3 + 1) y2 A2)
    else
      if z1 < 0 ∨ 8 ≤ (Int32.toNatClampNeg z1) then none else
      if ¬ (tz_g A1 157 40) = (tz_g A1 159 (Int32.toNatClampNeg z1)) then
        if y1 = 0 then
          q_X12_sky_39 z1 (z3 + 1) y1 A1
        else
          tz_bI (f_X12_is 59 A1) (fun y2 A2 =>
          q_X12_sky_39 z1 (z3 + 1) y2 A2)
      else
        some (some (.int (z3 + 1)), (tz_s A1 157 26 (-1)))) := by
  show tz_Go 195 39 [some (.ref 157), some (.int z1), none, some (.int z3), some (.int z4)] [] A = _
  refine (tz_g_iload rfl (tz_inM rfl rfl rfl)).trans ?_
  refine (tz_g_if_eq (t := 99) (by decide) (tz_in0 rfl)).trans ?_
  refine tz_cg ?_ ?_
  · skip
    refine (tz_g_aload_n rfl (tz_in0 rfl)).trans ?_
    refine (tz_g_aload_n rfl (tz_in0 rfl)).trans ?_
    refine (tz_g_geti rfl rfl rfl (tz_in0 rfl)).trans ?_
    refine (tz_g_puti rfl rfl rfl (tz_in0 rfl)).trans ?_
    refine (tz_g_aload_n rfl (tz_in0 rfl)).trans ?_
    refine (tz_g_aload_n rfl (tz_in0 rfl)).trans ?_
    refine (tz_g_getr (j := 180) rfl rfl rfl rfl rfl (tz_in0 rfl)).trans ?_
    refine (tz_g_cv1V (m2 := 211) (rc := 0) rfl rfl rfl rfl rfl rfl (by decide) (tz_in0 rfl)).trans ?_
    refine tz_jV (fun A1 => ?_)
    refine (tz_g_aload_n rfl (tz_in0 rfl)).trans ?_
    refine (tz_g_bipush (v := (-6)) rfl (tz_in0 rfl)).trans ?_
    refine (tz_g_cv1I (m2 := 166) (rc := 1) rfl rfl rfl rfl rfl rfl (by decide) (tz_in0 rfl)).trans ?_
    refine tz_jI (fun y2 A2 => ?_)
    exact tz_g_ret1 (tz_in0 rfl) rfl
  · skip
    refine (tz_g_aload_n rfl (tz_in0 rfl)).trans ?_
    refine (tz_g_cv0I (m2 := 197) (rc := 4) rfl rfl rfl rfl rfl rfl (by decide) (tz_in0 rfl)).trans ?_
    refine tz_jI (fun y1 A1 => ?_)
    refine (tz_g_istore (L2 := [some (.ref 157), some (.int z1), none, some (.int z3), some (.int y1)]) rfl rfl (tz_in0 rfl)).trans ?_
    refine (tz_g_iload rfl (tz_in0 rfl)).trans ?_
    refine (tz_g_if_eq (t := 58) (by decide) (tz_in0 rfl)).trans ?_
    refine tz_cg ?_ ?_
    · skip
      refine (tz_g_iload rfl (tz_in0 rfl)).trans ?_
      refine (tz_g_if_eq (t := 83) (by decide) (tz_in0 rfl)).trans ?_
      refine tz_cg ?_ ?_
      · skip
        refine (tz_g_iload rfl (tz_in0 rfl)).trans ?_
        refine (tz_g_if_eq (t := 39) (by decide) (tz_in0 rfl)).trans ?_
        refine tz_cg ?_ ?_
        · skip
          exact tz_Gm (L2 := [some (.ref 157), some (.int z1), none, some (.int z3), some (.int y1)]) rfl rfl rfl rfl
        · skip
          refine (tz_g_aload_n rfl (tz_in0 rfl)).trans ?_
          refine (tz_g_bipush (v := 59) rfl (tz_in0 rfl)).trans ?_
          refine (tz_g_cv1I (m2 := 200) (rc := 4) rfl rfl rfl rfl rfl rfl (by decide) (tz_in0 rfl)).trans ?_
          refine tz_jI (fun y2 A2 => ?_)
          refine (tz_g_istore (L2 := [some (.ref 157), some (.int z1), none, some (.int z3), some (.int y2)]) rfl rfl (tz_in0 rfl)).trans ?_
          refine (tz_g_goto (t := 39) (by decide) (tz_in0 rfl)).trans ?_
          exact tz_Gm (L2 := [some (.ref 157), some (.int z1), none, some (.int z3), some (.int y2)]) rfl rfl rfl rfl
      · skip
        refine (tz_g_aload_n rfl (tz_in0 rfl)).trans ?_
        refine (tz_g_geti rfl rfl rfl (tz_in0 rfl)).trans ?_
        refine (tz_g_aload_n rfl (tz_in0 rfl)).trans ?_
        refine (tz_g_getr (j := 159) rfl rfl rfl rfl rfl (tz_in0 rfl)).trans ?_
        refine (tz_g_iload_n rfl (tz_in0 rfl)).trans ?_
        refine (tz_g_iald (n := 8) rfl rfl rfl (tz_in0 rfl)).trans ?_
        refine tz_cn1 ?_
        refine (tz_g_ic_ne (t := 83) (by decide) (tz_in0 rfl)).trans ?_
        refine tz_cg ?_ ?_
        · skip
          refine (tz_g_iload rfl (tz_in0 rfl)).trans ?_
          refine (tz_g_if_eq (t := 39) (by decide) (tz_in0 rfl)).trans ?_
          refine tz_cg ?_ ?_
          · skip
            exact tz_Gm (L2 := [some (.ref 157), some (.int z1), none, some (.int z3), some (.int y1)]) rfl rfl rfl rfl
          · skip
            refine (tz_g_aload_n rfl (tz_in0 rfl)).trans ?_
            refine (tz_g_bipush (v := 59) rfl (tz_in0 rfl)).trans ?_
            refine (tz_g_cv1I (m2 := 200) (rc := 4) rfl rfl rfl rfl rfl rfl (by decide) (tz_in0 rfl)).trans ?_
            refine tz_jI (fun y2 A2 => ?_)
            refine (tz_g_istore (L2 := [some (.ref 157), some (.int z1), none, some (.int z3), some (.int y2)]) rfl rfl (tz_in0 rfl)).trans ?_
            refine (tz_g_goto (t := 39) (by decide) (tz_in0 rfl)).trans ?_
            exact tz_Gm (L2 := [some (.ref 157), some (.int z1), none, some (.int z3), some (.int y2)]) rfl rfl rfl rfl
        · skip
          refine (tz_g_aload_n rfl (tz_in0 rfl)).trans ?_
          refine (tz_g_iconst (v := (-1)) rfl (tz_in0 rfl)).trans ?_
          refine (tz_g_puti rfl rfl rfl (tz_in0 rfl)).trans ?_
          refine (tz_g_iload_n rfl (tz_in0 rfl)).trans ?_
          exact tz_g_ret1 (tz_in0 rfl) rfl
    · skip
      refine (tz_g_iinc (v := 1) (L2 := [some (.ref 157), some (.int z1), none, some (.int (z3 + 1)), some (.int y1)]) rfl rfl rfl rfl (tz_in0 rfl)).trans ?_
      refine (tz_g_iload rfl (tz_in0 rfl)).trans ?_
      refine (tz_g_if_eq (t := 83) (by decide) (tz_in0 rfl)).trans ?_
      refine tz_cg ?_ ?_
      · skip
        refine (tz_g_iload rfl (tz_in0 rfl)).trans ?_
        refine (tz_g_if_eq (t := 39) (by decide) (tz_in0 rfl)).trans ?_
        refine tz_cg ?_ ?_
        · skip
          exact tz_Gm (L2 := [some (.ref 157), some (.int z1), none, some (.int (z3 + 1)), some (.int y1)]) rfl rfl rfl rfl
        · skip
          refine (tz_g_aload_n rfl (tz_in0 rfl)).trans ?_
          refine (tz_g_bipush (v := 59) rfl (tz_in0 rfl)).trans ?_
          refine (tz_g_cv1I (m2 := 200) (rc := 4) rfl rfl rfl rfl rfl rfl (by decide) (tz_in0 rfl)).trans ?_
          refine tz_jI (fun y2 A2 => ?_)
          refine (tz_g_istore (L2 := [some (.ref 157), some (.int z1), none, some (.int (z3 + 1)), some (.int y2)]) rfl rfl (tz_in0 rfl)).trans ?_
          refine (tz_g_goto (t := 39) (by decide) (tz_in0 rfl)).trans ?_
          exact tz_Gm (L2 := [some (.ref 157), some (.int z1), none, some (.int (z3 + 1)), some (.int y2)]) rfl rfl rfl rfl
      · skip
        refine (tz_g_aload_n rfl (tz_in0 rfl)).trans ?_
        refine (tz_g_geti rfl rfl rfl (tz_in0 rfl)).trans ?_
        refine (tz_g_aload_n rfl (tz_in0 rfl)).trans ?_
        refine (tz_g_getr (j := 159) rfl rfl rfl rfl rfl (tz_in0 rfl)).trans ?_
        refine (tz_g_iload_n rfl (tz_in0 rfl)).trans ?_
        refine (tz_g_iald (n := 8) rfl rfl rfl (tz_in0 rfl)).trans ?_
        refine tz_cn1 ?_
        refine (tz_g_ic_ne (t := 83) (by decide) (tz_in0 rfl)).trans ?_
        refine tz_cg ?_ ?_
        · skip
          refine (tz_g_iload rfl (tz_in0 rfl)).trans ?_
          refine (tz_g_if_eq (t := 39) (by decide) (tz_in0 rfl)).trans ?_
          refine tz_cg ?_ ?_
          · skip
            exact tz_Gm (L2 := [some (.ref 157), some (.int z1), none, some (.int (z3 + 1)), some (.int y1)]) rfl rfl rfl rfl
          · skip
            refine (tz_g_aload_n rfl (tz_in0 rfl)).trans ?_
            refine (tz_g_bipush (v := 59) rfl (tz_in0 rfl)).trans ?_
            refine (tz_g_cv1I (m2 := 200) (rc := 4) rfl rfl rfl rfl rfl rfl (by decide) (tz_in0 rfl)).trans ?_
            refine tz_jI (fun y2 A2 => ?_)
            refine (tz_g_istore (L2 := [some (.ref 157), some (.int z1), none, some (.int (z3 + 1)), some (.int y2)]) rfl rfl (tz_in0 rfl)).trans ?_
            refine (tz_g_goto (t := 39) (by decide) (tz_in0 rfl)).trans ?_
            exact tz_Gm (L2 := [some (.ref 157), some (.int z1), none, some (.int (z3 + 1)), some (.int y2)]) rfl rfl rfl rfl
        · skip
          refine (tz_g_aload_n rfl (tz_in0 rfl)).trans ?_
          refine (tz_g_iconst (v := (-1)) rfl (tz_in0 rfl)).trans ?_
          refine (tz_g_puti rfl rfl rfl (tz_in0 rfl)).trans ?_
          refine (tz_g_iload_n rfl (tz_in0 rfl)).trans ?_
          exact tz_g_ret1 (tz_in0 rfl) rfl

