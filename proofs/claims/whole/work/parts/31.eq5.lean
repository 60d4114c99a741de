theorem e_X12_comes (x1 : Int32) (A : tz_Mem) : f_X12_comes x1 A =
  if x1 < 0 ∨ 4 ≤ (Int32.toNatClampNeg x1) then none else
if x1 < 0 ∨ 4 ≤ (Int32.toNatClampNeg x1) then none else
if (tz_g A 165 (Int32.toNatClampNeg x1)) = 0 then none else
if x1 < 0 ∨ 4 ≤ (Int32.toNatClampNeg x1) then none else
tz_bI (f_X12_storedAt x1 (tz_s A 167 (Int32.toNatClampNeg x1) (((tz_g A 167 (Int32.toNatClampNeg x1)) + 1) - ((tz_g A 167 (Int32.toNatClampNeg x1)) + 1) / (tz_g A 165 (Int32.toNatClampNeg x1)) * (tz_g A 165 (Int32.toNatClampNeg x1))))) (fun y1 A1 =>
tz_bI (f_X12_heaviest (100 + x1) 99 A1) (fun y2 A2 =>
q_X12_comes_38 x1 y1 y2 A2)) := by
  refine (tz_Fe (L := [some (.ref 157), some (.int x1), none, none, none]) rfl).trans ?_
  refine (tz_g_aload_n rfl (tz_in0 rfl)).trans ?_
  refine (tz_g_getr (j := 167) rfl rfl rfl rfl rfl (tz_in0 rfl)).trans ?_
  refine (tz_g_iload_n rfl (tz_in0 rfl)).trans ?_
  refine (tz_g_aload_n rfl (tz_in0 rfl)).trans ?_
  refine (tz_g_getr (j := 167) rfl rfl rfl rfl rfl (tz_in0 rfl)).trans ?_
  refine (tz_g_iload_n rfl (tz_in0 rfl)).trans ?_
  refine (tz_g_iald (n := 4) rfl rfl rfl (tz_in0 rfl)).trans ?_
  refine tz_cn1 ?_
  refine (tz_g_iconst (v := 1) rfl (tz_in0 rfl)).trans ?_
  refine (tz_g_iadd (tz_in0 rfl)).trans ?_
  refine (tz_g_aload_n rfl (tz_in0 rfl)).trans ?_
  refine (tz_g_getr (j := 165) rfl rfl rfl rfl rfl (tz_in0 rfl)).trans ?_
  refine (tz_g_iload_n rfl (tz_in0 rfl)).trans ?_
  refine (tz_g_iald (n := 4) rfl rfl rfl (tz_in0 rfl)).trans ?_
  refine tz_cn1 ?_
  refine (tz_g_irem (tz_in0 rfl)).trans ?_
  refine tz_cn1 ?_
  refine (tz_g_iast (n := 4) rfl rfl rfl (tz_in0 rfl)).trans ?_
  refine tz_cn1 ?_
  refine (tz_g_aload_n rfl (tz_in0 rfl)).trans ?_
  refine (tz_g_iload_n rfl (tz_in0 rfl)).trans ?_
  refine (tz_g_cv1I (m2 := 189) (rc := 1) rfl rfl rfl rfl rfl rfl (by decide) (tz_in0 rfl)).trans ?_
  refine tz_jI (fun y1 A1 => ?_)
  refine (tz_g_istore_n (L2 := [some (.ref 157), some (.int x1), some (.int y1), none, none]) rfl rfl (tz_in0 rfl)).trans ?_
  refine (tz_g_aload_n rfl (tz_in0 rfl)).trans ?_
  refine (tz_g_bipush (v := 100) rfl (tz_in0 rfl)).trans ?_
  refine (tz_g_iload_n rfl (tz_in0 rfl)).trans ?_
  refine (tz_g_iadd (tz_in0 rfl)).trans ?_
  refine (tz_g_bipush (v := 99) rfl (tz_in0 rfl)).trans ?_
  refine (tz_g_cv2I (m2 := 205) (rc := 1) rfl rfl rfl rfl rfl rfl (by decide) (tz_in0 rfl)).trans ?_
  refine tz_jI (fun y2 A2 => ?_)
  refine (tz_g_istore_n (L2 := [some (.ref 157), some (.int x1), some (.int y1), some (.int y2), none]) rfl rfl (tz_in0 rfl)).trans ?_
  exact tz_Gm (L2 := [some (.ref 157), some (.int x1), some (.int y1), some (.int y2), none]) rfl rfl rfl rfl

theorem e_X12_comes_38 (z1 : Int32) (z2 : Int32) (z3 : Int32) (A : tz_Mem) : q_X12_comes_38 z1 z2 z3 A =
  if z3 = (-1) then
  if z1 < 0 ∨ 4 ≤ (Int32.toNatClampNeg z1) then none else
  if z1 < 0 ∨ 4 ≤ (Int32.toNatClampNeg z1) then none else
  tz_bI (f_X12_heaviest z2 (tz_g A 169 (Int32.toNatClampNeg z1)) A) (fun y1 A1 =>
  q_X12_comes_152 z1 z2 y1 (tz_g A 170 (Int32.toNatClampNeg z1)) A1)
else
  if z3 < 0 ∨ 12 ≤ (Int32.toNatClampNeg z3) then none else
  tz_bI (f_X12_becomes z2 (tz_g A 171 (Int32.toNatClampNeg z3)) A) (fun y1 A1 =>
  if z3 < 0 ∨ 12 ≤ (Int32.toNatClampNeg z3) then none else
  if z3 < 0 ∨ 12 ≤ (Int32.toNatClampNeg z3) then none else
  if z3 < 0 ∨ 12 ≤ (Int32.toNatClampNeg z3) then none else
  tz_bI (f_X12_times z2 (tz_g (tz_s A1 171 (Int32.toNatClampNeg z3) y1) 174 (Int32.toNatClampNeg z3)) (tz_s A1 171 (Int32.toNatClampNeg z3) y1)) (fun y2 A2 =>
  tz_bV (f_X12_hears z2 (tz_g (tz_s A1 171 (Int32.toNatClampNeg z3) y1) 171 (Int32.toNatClampNeg z3)) y2 A2) (fun A3 =>
  if z3 < 0 ∨ 12 ≤ (Int32.toNatClampNeg z3) then none else
  if z3 < 0 ∨ 12 ≤ (Int32.toNatClampNeg z3) then none else
  if ¬ (tz_g (tz_s A3 175 (Int32.toNatClampNeg z3) z2) 173 (Int32.toNatClampNeg z3)) = z2 then
    tz_bI (f_X12_heaviest (100 + z1) 99 (tz_s A3 175 (Int32.toNatClampNeg z3) z2)) (fun y4 A4 =>
    q_X12_comes_38 z1 z2 y4 A4)
  else
    if z3 < 0 ∨ 12 ≤ (Int32.toNatClampNeg z3) then none else
    if z3 < 0 ∨ 12 ≤ (Int32.toNatClampNeg z3) then none else
    tz_bI (f_X12_heaviest (100 + z1) 99 (tz_s (tz_s (tz_s A3 175 (Int32.toNatClampNeg z3) z2) 175 (Int32.toNatClampNeg z3) 200) 176 (Int32.toNatClampNeg z3) (tz_g (tz_s (tz_s A3 175 (Int32.toNatClampNeg z3) z2) 175 (Int32.toNatClampNeg z3) 200) 157 22))) (fun y4 A4 =>
    q_X12_comes_38 z1 z2 y4 A4)))) := by
  show tz_Go 204 38 [some (.ref 157), some (.int z1), some (.int z2), some (.int z3), none] [] A = _
  refine (tz_g_iload_n rfl (tz_inM rfl rfl rfl)).trans ?_
  refine (tz_g_iconst (v := (-1)) rfl (tz_in0 rfl)).trans ?_
  refine (tz_g_ic_eq (t := 132) (by decide) (tz_in0 rfl)).trans ?_
  refine tz_cg ?_ ?_
  · skip
    refine (tz_g_aload_n rfl (tz_in0 rfl)).trans ?_
    refine (tz_g_getr (j := 170) rfl rfl rfl rfl rfl (tz_in0 rfl)).trans ?_
    refine (tz_g_iload_n rfl (tz_in0 rfl)).trans ?_
    refine (tz_g_iald (n := 4) rfl rfl rfl (tz_in0 rfl)).trans ?_
    refine tz_cn1 ?_
    refine (tz_g_istore (L2 := [some (.ref 157), some (.int z1), some (.int z2), some (.int z3), some (.int (tz_g A 170 (Int32.toNatClampNeg z1)))]) rfl rfl (tz_in0 rfl)).trans ?_
    refine (tz_g_aload_n rfl (tz_in0 rfl)).trans ?_
    refine (tz_g_iload_n rfl (tz_in0 rfl)).trans ?_
    refine (tz_g_aload_n rfl (tz_in0 rfl)).trans ?_
    refine (tz_g_getr (j := 169) rfl rfl rfl rfl rfl (tz_in0 rfl)).trans ?_
    refine (tz_g_iload_n rfl (tz_in0 rfl)).trans ?_
    refine (tz_g_iald (n := 4) rfl rfl rfl (tz_in0 rfl)).trans ?_
    refine tz_cn1 ?_
    refine (tz_g_cv2I (m2 := 205) (rc := 1) rfl rfl rfl rfl rfl rfl (by decide) (tz_in0 rfl)).trans ?_
    refine tz_jI (fun y1 A1 => ?_)
    refine (tz_g_istore_n (L2 := [some (.ref 157), some (.int z1), some (.int z2), some (.int y1), some (.int (tz_g A 170 (Int32.toNatClampNeg z1)))]) rfl rfl (tz_in0 rfl)).trans ?_
    exact tz_Gm (L2 := [some (.ref 157), some (.int z1), some (.int z2), some (.int y1), some (.int (tz_g A 170 (Int32.toNatClampNeg z1)))]) rfl rfl rfl rfl
  · skip
    refine (tz_g_aload_n rfl (tz_in0 rfl)).trans ?_
    refine (tz_g_getr (j := 171) rfl rfl rfl rfl rfl (tz_in0 rfl)).trans ?_
    refine (tz_g_iload_n rfl (tz_in0 rfl)).trans ?_
    refine (tz_g_aload_n rfl (tz_in0 rfl)).trans ?_
    refine (tz_g_iload_n rfl (tz_in0 rfl)).trans ?_
    refine (tz_g_aload_n rfl (tz_in0 rfl)).trans ?_
    refine (tz_g_getr (j := 171) rfl rfl rfl rfl rfl (tz_in0 rfl)).trans ?_
    refine (tz_g_iload_n rfl (tz_in0 rfl)).trans ?_
    refine (tz_g_iald (n := 12) rfl rfl rfl (tz_in0 rfl)).trans ?_
    refine tz_cn1 ?_
    refine (tz_g_cv2I (m2 := 180) (rc := 1) rfl rfl rfl rfl rfl rfl (by decide) (tz_in0 rfl)).trans ?_
    refine tz_jI (fun y1 A1 => ?_)
    refine (tz_g_iast (n := 12) rfl rfl rfl (tz_in0 rfl)).trans ?_
    refine tz_cn1 ?_
    refine (tz_g_aload_n rfl (tz_in0 rfl)).trans ?_
    refine (tz_g_iload_n rfl (tz_in0 rfl)).trans ?_
    refine (tz_g_aload_n rfl (tz_in0 rfl)).trans ?_
    refine (tz_g_getr (j := 171) rfl rfl rfl rfl rfl (tz_in0 rfl)).trans ?_
    refine (tz_g_iload_n rfl (tz_in0 rfl)).trans ?_
    refine (tz_g_iald (n := 12) rfl rfl rfl (tz_in0 rfl)).trans ?_
    refine tz_cn1 ?_
    refine (tz_g_aload_n rfl (tz_in0 rfl)).trans ?_
    refine (tz_g_iload_n rfl (tz_in0 rfl)).trans ?_
    refine (tz_g_aload_n rfl (tz_in0 rfl)).trans ?_
    refine (tz_g_getr (j := 174) rfl rfl rfl rfl rfl (tz_in0 rfl)).trans ?_
    refine (tz_g_iload_n rfl (tz_in0 rfl)).trans ?_
    refine (tz_g_iald (n := 12) rfl rfl rfl (tz_in0 rfl)).trans ?_
    refine tz_cn1 ?_
    refine (tz_g_cv2I (m2 := 179) (rc := 1) rfl rfl rfl rfl rfl rfl (by decide) (tz_in0 rfl)).trans ?_
    refine tz_jI (fun y2 A2 => ?_)
    refine (tz_g_cv3V (m2 := 206) (rc := 0) rfl rfl rfl rfl rfl rfl (by decide) (tz_in0 rfl)).trans ?_
    refine tz_jV (fun A3 => ?_)
    refine (tz_g_aload_n rfl (tz_in0 rfl)).trans ?_
    refine (tz_g_getr (j := 175) rfl rfl rfl rfl rfl (tz_in0 rfl)).trans ?_
    refine (tz_g_iload_n rfl (tz_in0 rfl)).trans ?_
    refine (tz_g_iload_n rfl (tz_in0 rfl)).trans ?_
    refine (tz_g_iast (n := 12) rfl rfl rfl (tz_in0 rfl)).trans ?_
    refine tz_cn1 ?_
    refine (tz_g_aload_n rfl (tz_in0 rfl)).trans ?_
    refine (tz_g_getr (j := 173) rfl rfl rfl rfl rfl (tz_in0 rfl)).trans ?_
    refine (tz_g_iload_n rfl (tz_in0 rfl)).trans ?_
    refine (tz_g_iald (n := 12) rfl rfl rfl (tz_in0 rfl)).trans ?_
    refine tz_cn1 ?_
    refine (tz_g_iload_n rfl (tz_in0 rfl)).trans ?_
    refine (tz_g_ic_ne (t := 118) (by decide) (tz_in0 rfl)).trans ?_
    refine tz_cg ?_ ?_
    · skip
      refine (tz_g_aload_n rfl (tz_in0 rfl)).trans ?_
      refine (tz_g_bipush (v := 100) rfl (tz_in0 rfl)).trans ?_
      refine (tz_g_iload_n rfl (tz_in0 rfl)).trans ?_
      refine (tz_g_iadd (tz_in0 rfl)).trans ?_
      refine (tz_g_bipush (v := 99) rfl (tz_in0 rfl)).trans ?_
      refine (tz_g_cv2I (m2 := 205) (rc := 1) rfl rfl rfl rfl rfl rfl (by decide) (tz_in0 rfl)).trans ?_
      refine tz_jI (fun y4 A4 => ?_)
      refine (tz_g_istore_n (L2 := [some (.ref 157), some (.int z1), some (.int z2), some (.int y4), none]) rfl rfl (tz_in0 rfl)).trans ?_
      refine (tz_g_goto (t := 38) (by decide) (tz_in0 rfl)).trans ?_
      exact tz_Gm (L2 := [some (.ref 157), some (.int z1), some (.int z2), some (.int y4), none]) rfl rfl rfl rfl
    · skip
      refine (tz_g_aload_n rfl (tz_in0 rfl)).trans ?_
      refine (tz_g_getr (j := 175) rfl rfl rfl rfl rfl (tz_in0 rfl)).trans ?_
      refine (tz_g_iload_n rfl (tz_in0 rfl)).trans ?_
      refine (tz_g_sipush (v := 200) rfl (tz_in0 rfl)).trans ?_
      refine (tz_g_iast (n := 12) rfl rfl rfl (tz_in0 rfl)).trans ?_
      refine tz_cn1 ?_
      refine (tz_g_aload_n rfl (tz_in0 rfl)).trans ?_
      refine (tz_g_getr (j := 176) rfl rfl rfl rfl rfl (tz_in0 rfl)).trans ?_
      refine (tz_g_iload_n rfl (tz_in0 rfl)).trans ?_
      refine (tz_g_aload_n rfl (tz_in0 rfl)).trans ?_
      refine (tz_g_geti rfl rfl rfl (tz_in0 rfl)).trans ?_
      refine (tz_g_iast (n := 12) rfl rfl rfl (tz_in0 rfl)).trans ?_
      refine tz_cn1 ?_
      refine (tz_g_aload_n rfl (tz_in0 rfl)).trans ?_
      refine (tz_g_bipush (v := 100) rfl (tz_in0 rfl)).trans ?_
      refine (tz_g_iload_n rfl (tz_in0 rfl)).trans ?_
      refine (tz_g_iadd (tz_in0 rfl)).trans ?_
      refine (tz_g_bipush (v := 99) rfl (tz_in0 rfl)).trans ?_
      refine (tz_g_cv2I (m2 := 205) (rc := 1) rfl rfl rfl rfl rfl rfl (by decide) (tz_in0 rfl)).trans ?_
      refine tz_jI (fun y4 A4 => ?_)
      refine (tz_g_istore_n (L2 := [some (.ref 157), some (.int z1), some (.int z2), some (.int y4), none]) rfl rfl (tz_in0 rfl)).trans ?_
      refine (tz_g_goto (t := 38) (by decide) (tz_in0 rfl)).trans ?_
      exact tz_Gm (L2 := [some (.ref 157), some (.int z1), some (.int z2), some (.int y4), none]) rfl rfl rfl rfl

theorem e_X12_comes_152 (z1 : Int32) (z2 : Int32) (z3 : Int32) (z4 : Int32) (A : tz_Mem) : q_X12_comes_152 z1 z2 z3 z4 A =
  if z3 = (-1) then
  some (none, A)
else
  if z4 ≤ 0 then
    some (none, A)
  else
    if z3 < 0 ∨ 12 ≤ (Int32.toNatClampNeg z3) then none else
    if z1 < 0 ∨ 4 ≤ (Int32.toNatClampNeg z1) then none else
    tz_bI (f_X12_heaviest z2 (tz_g (tz_s A 175 (Int32.toNatClampNeg z3) (100 + z1)) 169 (Int32.toNatClampNeg z1)) (tz_s A 175 (Int32.toNatClampNeg z3) (100 + z1))) (fun y1 A1 =>
    q_X12_comes_152 z1 z2 y1 (z4 + (-1)) A1) := by
  show tz_Go 204 152 [some (.ref 157), some (.int z1), some (.int z2), some (.int z3), some (.int z4)] [] A = _
  refine (tz_g_iload_n rfl (tz_inM rfl rfl rfl)).trans ?_
  refine (tz_g_iconst (v := (-1)) rfl (tz_in0 rfl)).trans ?_
  refine (tz_g_ic_eq (t := 190) (by decide) (tz_in0 rfl)).trans ?_
  refine tz_cg ?_ ?_
  · skip
    exact tz_g_ret0 (tz_in0 rfl) rfl
  · skip
    refine (tz_g_iload rfl (tz_in0 rfl)).trans ?_
    refine (tz_g_if_le (t := 190) (by decide) (tz_in0 rfl)).trans ?_
    refine tz_cg ?_ ?_
    · skip
      exact tz_g_ret0 (tz_in0 rfl) rfl
    · skip
      refine (tz_g_aload_n rfl (tz_in0 rfl)).trans ?_
      refine (tz_g_getr (j := 175) rfl rfl rfl rfl rfl (tz_in0 rfl)).trans ?_
      refine (tz_g_iload_n rfl (tz_in0 rfl)).trans ?_
      refine (tz_g_bipush (v := 100) rfl (tz_in0 rfl)).trans ?_
      refine (tz_g_iload_n rfl (tz_in0 rfl)).trans ?_
      refine (tz_g_iadd (tz_in0 rfl)).trans ?_
      refine (tz_g_iast (n := 12) rfl rfl rfl (tz_in0 rfl)).trans ?_
      refine tz_cn1 ?_
      refine (tz_g_iinc (v := (-1)) (L2 := [some (.ref 157), some (.int z1), some (.int z2), some (.int z3), some (.int (z4 + (-1)))]) rfl rfl rfl rfl (tz_in0 rfl)).trans ?_
      refine (tz_g_aload_n rfl (tz_in0 rfl)).trans ?_
      refine (tz_g_iload_n rfl (tz_in0 rfl)).trans ?_
      refine (tz_g_aload_n rfl (tz_in0 rfl)).trans ?_
      refine (tz_g_getr (j := 169) rfl rfl rfl rfl rfl (tz_in0 rfl)).trans ?_
      refine (tz_g_iload_n rfl (tz_in0 rfl)).trans ?_
      refine (tz_g_iald (n := 4) rfl rfl rfl (tz_in0 rfl)).trans ?_
      refine tz_cn1 ?_
      refine (tz_g_cv2I (m2 := 205) (rc := 1) rfl rfl rfl rfl rfl rfl (by decide) (tz_in0 rfl)).trans ?_
      refine tz_jI (fun y1 A1 => ?_)
      refine (tz_g_istore_n (L2 := [some (.ref 157), some (.int z1), some (.int z2), some (.int y1), some (.int (z4 + (-1)))]) rfl rfl (tz_in0 rfl)).trans ?_
      refine (tz_g_goto (t := 152) (by decide) (tz_in0 rfl)).trans ?_
      exact tz_Gm (L2 := [some (.ref 157), some (.int z1), some (.int z2), some (.int y1), some (.int (z4 + (-1)))]) rfl rfl rfl rfl

theorem e_X12_hillBut (x1 : Int32) (x2 : Int32) (A : tz_Mem) : f_X12_hillBut x1 x2 A =
  tz_bI (f_X12_number x1 0 ((tz_g A 157 3) - 1) A) (fun y1 A1 =>
if ¬ y1 = 0 then
  if x1 < 0 ∨ 10 ≤ (Int32.toNatClampNeg x1) then none else
  if x2 < 0 ∨ 10 ≤ (Int32.toNatClampNeg x2) then none else
  if (tz_g A1 183 (Int32.toNatClampNeg x1)) = (tz_g A1 183 (Int32.toNatClampNeg x2)) then
    some (some (.int 0), (tz_s A1 157 40 ((tz_g A 157 40) + 1)))
  else
    some (some (.int 1), A1)
else
  some (some (.int 0), A1)) := by
  refine (tz_Fe (L := [some (.ref 157), some (.int x1), some (.int x2), none]) rfl).trans ?_
  refine (tz_g_aload_n rfl (tz_in0 rfl)).trans ?_
  refine (tz_g_geti rfl rfl rfl (tz_in0 rfl)).trans ?_
  refine (tz_g_iconst (v := 1) rfl (tz_in0 rfl)).trans ?_
  refine (tz_g_iadd (tz_in0 rfl)).trans ?_
  refine (tz_g_istore_n (L2 := [some (.ref 157), some (.int x1), some (.int x2), some (.int ((tz_g A 157 40) + 1))]) rfl rfl (tz_in0 rfl)).trans ?_
  refine (tz_g_aload_n rfl (tz_in0 rfl)).trans ?_
  refine (tz_g_iload_n rfl (tz_in0 rfl)).trans ?_
  refine (tz_g_iconst (v := 0) rfl (tz_in0 rfl)).trans ?_
  refine (tz_g_aload_n rfl (tz_in0 rfl)).trans ?_
  refine (tz_g_geti rfl rfl rfl (tz_in0 rfl)).trans ?_
  refine (tz_g_iconst (v := 1) rfl (tz_in0 rfl)).trans ?_
  refine (tz_g_isub (tz_in0 rfl)).trans ?_
  refine (tz_g_cv3I (m2 := 201) (rc := 4) rfl rfl rfl rfl rfl rfl (by decide) (tz_in0 rfl)).trans ?_
  refine tz_jI (fun y1 A1 => ?_)
  refine (tz_g_if_ne (t := 24) (by decide) (tz_in0 rfl)).trans ?_
  refine tz_cg ?_ ?_
  · skip
    refine (tz_g_aload_n rfl (tz_in0 rfl)).trans ?_
    refine (tz_g_getr (j := 183) rfl rfl rfl rfl rfl (tz_in0 rfl)).trans ?_
    refine (tz_g_iload_n rfl (tz_in0 rfl)).trans ?_
    refine (tz_g_iald (n := 10) rfl rfl rfl (tz_in0 rfl)).trans ?_
    refine tz_cn1 ?_
    refine (tz_g_aload_n rfl (tz_in0 rfl)).trans ?_
    refine (tz_g_getr (j := 183) rfl rfl rfl rfl rfl (tz_in0 rfl)).trans ?_
    refine (tz_g_iload_n rfl (tz_in0 rfl)).trans ?_
    refine (tz_g_iald (n := 10) rfl rfl rfl (tz_in0 rfl)).trans ?_
    refine tz_cn1 ?_
    refine (tz_g_ic_eq (t := 41) (by decide) (tz_in0 rfl)).trans ?_
    refine tz_cg ?_ ?_
    · skip
      refine (tz_g_aload_n rfl (tz_in0 rfl)).trans ?_
      refine (tz_g_iload_n rfl (tz_in0 rfl)).trans ?_
      refine (tz_g_puti rfl rfl rfl (tz_in0 rfl)).trans ?_
      refine (tz_g_iconst (v := 0) rfl (tz_in0 rfl)).trans ?_
      exact tz_g_ret4K (by decide) (tz_in0 rfl) rfl
    · skip
      refine (tz_g_iconst (v := 1) rfl (tz_in0 rfl)).trans ?_
      exact tz_g_ret4K (by decide) (tz_in0 rfl) rfl
  · skip
    refine (tz_g_iconst (v := 0) rfl (tz_in0 rfl)).trans ?_
    exact tz_g_ret4K (by decide) (tz_in0 rfl) rfl

theorem e_X12_listens (x1 : Int32) (x2 : Int32) (x3 : Int32) (x4 : Int32) (x5 : Int32) (A : tz_Mem) : f_X12_listens x1 x2 x3 x4 x5 A =
  if x1 < 0 ∨ 4 ≤ (Int32.toNatClampNeg x1) then none else
if x1 < 0 ∨ 4 ≤ (Int32.toNatClampNeg x1) then none else
if (tz_g (tz_s A 157 38 0) 165 (Int32.toNatClampNeg x1)) = 0 then none else
if x1 < 0 ∨ 4 ≤ (Int32.toNatClampNeg x1) then none else
tz_bI (f_X12_storedAt x1 (tz_s (tz_s A 157 38 0) 167 (Int32.toNatClampNeg x1) (((tz_g (tz_s A 157 38 0) 167 (Int32.toNatClampNeg x1)) + 1) - ((tz_g (tz_s A 157 38 0) 167 (Int32.toNatClampNeg x1)) + 1) / (tz_g (tz_s A 157 38 0) 165 (Int32.toNatClampNeg x1)) * (tz_g (tz_s A 157 38 0) 165 (Int32.toNatClampNeg x1))))) (fun y1 A1 =>
tz_bI (f_X12_heaviest (100 + x1) 99 A1) (fun y2 A2 =>
q_X12_listens_48 x1 x2 x3 x4 x5 1 y1 y2 A2)) := by
  refine (tz_Fe (L := [some (.ref 157), some (.int x1), some (.int x2), some (.int x3), some (.int x4), some (.int x5), none, none, none, none, none]) rfl).trans ?_
  refine (tz_g_aload_n rfl (tz_in0 rfl)).trans ?_
  refine (tz_g_iconst (v := 0) rfl (tz_in0 rfl)).trans ?_
  refine (tz_g_puti rfl rfl rfl (tz_in0 rfl)).trans ?_
  refine (tz_g_iconst (v := 1) rfl (tz_in0 rfl)).trans ?_
  refine (tz_g_istore (L2 := [some (.ref 157), some (.int x1), some (.int x2), some (.int x3), some (.int x4), some (.int x5), some (.int 1), none, none, none, none]) rfl rfl (tz_in0 rfl)).trans ?_
  refine (tz_g_aload_n rfl (tz_in0 rfl)).trans ?_
  refine (tz_g_getr (j := 167) rfl rfl rfl rfl rfl (tz_in0 rfl)).trans ?_
  refine (tz_g_iload_n rfl (tz_in0 rfl)).trans ?_
  refine (tz_g_aload_n rfl (tz_in0 rfl)).trans ?_
  refine (tz_g_getr (j := 167) rfl rfl rfl rfl rfl (tz_in0 rfl)).trans ?_
  refine (tz_g_iload_n rfl (tz_in0 rfl)).trans ?_
  refine (tz_g_iald (n := 4) rfl rfl rfl (tz_in0 rfl)).trans ?_
  refine tz_cn1 ?_
  refine (tz_g_iconst (v := 1) rfl (tz_in0 rfl)).trans ?_
  refine (tz_g_iadd (tz_in0 rfl)).trans ?_
  refine (tz_g_aload_n rfl (tz_in0 rfl)).trans ?_
  refine (tz_g_getr (j := 165) rfl rfl rfl rfl rfl (tz_in0 rfl)).trans ?_
  refine (tz_g_iload_n rfl (tz_in0 rfl)).trans ?_
  refine (tz_g_iald (n := 4) rfl rfl rfl (tz_in0 rfl)).trans ?_
  refine tz_cn1 ?_
  refine (tz_g_irem (tz_in0 rfl)).trans ?_
  refine tz_cn1 ?_
  refine (tz_g_iast (n := 4) rfl rfl rfl (tz_in0 rfl)).trans ?_
  refine tz_cn1 ?_
  refine (tz_g_aload_n rfl (tz_in0 rfl)).trans ?_
  refine (tz_g_iload_n rfl (tz_in0 rfl)).trans ?_
  refine (tz_g_cv1I (m2 := 189) (rc := 1) rfl rfl rfl rfl rfl rfl (by decide) (tz_in0 rfl)).trans ?_
  refine tz_jI (fun y1 A1 => ?_)
  refine (tz_g_istore (L2 := [some (.ref 157), some (.int x1), some (.int x2), some (.int x3), some (.int x4), some (.int x5), some (.int 1), some (.int y1), none, none, none]) rfl rfl (tz_in0 rfl)).trans ?_
  refine (tz_g_aload_n rfl (tz_in0 rfl)).trans ?_
  refine (tz_g_bipush (v := 100) rfl (tz_in0 rfl)).trans ?_
  refine (tz_g_iload_n rfl (tz_in0 rfl)).trans ?_
  refine (tz_g_iadd (tz_in0 rfl)).trans ?_
  refine (tz_g_bipush (v := 99) rfl (tz_in0 rfl)).trans ?_
  refine (tz_g_cv2I (m2 := 205) (rc := 1) rfl rfl rfl rfl rfl rfl (by decide) (tz_in0 rfl)).trans ?_
  refine tz_jI (fun y2 A2 => ?_)
  refine (tz_g_istore (L2 := [some (.ref 157), some (.int x1), some (.int x2), some (.int x3), some (.int x4), some (.int x5), some (.int 1), some (.int y1), some (.int y2), none, none]) rfl rfl (tz_in0 rfl)).trans ?_
  exact tz_Gm (L2 := [some (.ref 157), some (.int x1), some (.int x2), some (.int x3), some (.int x4), some (.int x5), some (.int 1), some (.int y1), some (.int y2), none, none]) rfl rfl rfl rfl

theorem e_X12_listens_48 (z1 : Int32) (z2 : Int32) (z3 : Int32) (z4 : Int32) (z5 : Int32) (z6 : Int32) (z7 : Int32) (z8 : Int32) (A : tz_Mem) : q_X12_listens_48 z1 z2 z3 z4 z5 z6 z7 z8 A =
  if z8 = (-1) then
  if z1 < 0 ∨ 4 ≤ (Int32.toNatClampNeg z1) then none else
  if z1 < 0 ∨ 4 ≤ (Int32.toNatClampNeg z1) then none else
  tz_bI (f_X12_heaviest z7 (tz_g A 169 (Int32.toNatClampNeg z1)) A) (fun y1 A1 =>
  q_X12_listens_244 z1 z6 z7 y1 (tz_g A 170 (Int32.toNatClampNeg z1)) A1)
else
  if z8 < 0 ∨ 12 ≤ (Int32.toNatClampNeg z8) then none else
  tz_bI (f_X12_becomes z7 (tz_g A 171 (Int32.toNatClampNeg z8)) A) (fun y1 A1 =>
  if z8 < 0 ∨ 12 ≤ (Int32.toNatClampNeg z8) then none else
  if ¬ z7 = z2 then
    q_X12_listens_102 z1 z2 z3 z4 z5 z6 z7 z8 0 0 (tz_s A1 171 (Int32.toNatClampNeg z8) y1)
  else
    if z8 < 0 ∨ 12 ≤ (Int32.toNatClampNeg z8) then none else
    tz_bI (f_X12_times z7 (tz_g (tz_s A1 171 (Int32.toNatClampNeg z8) y1) 174 (Int32.toNatClampNeg z8)) (tz_s A1 171 (Int32.toNatClampNeg z8) y1)) (fun y2 A2 =>
    q_X12_listens_102 z1 z2 z3 z4 z5 z6 z7 z8 y2 0 A2)) := by
  show tz_Go 230 48 [some (.ref 157), some (.int z1), some (.int z2), some (.int z3), some (.int z4), some (.int z5), some (.int z6), some (.int z7), some (.int z8), none, none] [] A = _
  refine (tz_g_iload rfl (tz_inM rfl rfl rfl)).trans ?_
  refine (tz_g_iconst (v := (-1)) rfl (tz_in0 rfl)).trans ?_
  refine (tz_g_ic_eq (t := 222) (by decide) (tz_in0 rfl)).trans ?_
  refine tz_cg ?_ ?_
  · skip
    refine (tz_g_aload_n rfl (tz_in0 rfl)).trans ?_
    refine (tz_g_getr (j := 170) rfl rfl rfl rfl rfl (tz_in0 rfl)).trans ?_
    refine (tz_g_iload_n rfl (tz_in0 rfl)).trans ?_
    refine (tz_g_iald (n := 4) rfl rfl rfl (tz_in0 rfl)).trans ?_
    refine tz_cn1 ?_
    refine (tz_g_istore (L2 := [some (.ref 157), some (.int z1), some (.int z2), some (.int z3), some (.int z4), some (.int z5), some (.int z6), some (.int z7), some (.int z8), some (.int (tz_g A 170 (Int32.toNatClampNeg z1))), none]) rfl rfl (tz_in0 rfl)).trans ?_
    refine (tz_g_aload_n rfl (tz_in0 rfl)).trans ?_
    refine (tz_g_iload rfl (tz_in0 rfl)).trans ?_
    refine (tz_g_aload_n rfl (tz_in0 rfl)).trans ?_
    refine (tz_g_getr (j := 169) rfl rfl rfl rfl rfl (tz_in0 rfl)).trans ?_
    refine (tz_g_iload_n rfl (tz_in0 rfl)).trans ?_
    refine (tz_g_iald (n := 4) rfl rfl rfl (tz_in0 rfl)).trans ?_
    refine tz_cn1 ?_
    refine (tz_g_cv2I (m2 := 205) (rc := 1) rfl rfl rfl rfl rfl rfl (by decide) (tz_in0 rfl)).trans ?_
    refine tz_jI (fun y1 A1 => ?_)
    refine (tz_g_istore (L2 := [some (.ref 157), some (.int z1), some (.int z2), some (.int z3), some (.int z4), some (.int z5), some (.int z6), some (.int z7), some (.int y1), some (.int (tz_g A 170 (Int32.toNatClampNeg z1))), none]) rfl rfl (tz_in0 rfl)).trans ?_
    exact tz_Gm (L2 := [some (.ref 157), some (.int z1), none, none, none, none, some (.int z6), some (.int z7), some (.int y1), some (.int (tz_g A 170 (Int32.toNatClampNeg z1))), none]) rfl rfl rfl rfl
  · skip
    refine (tz_g_aload_n rfl (tz_in0 rfl)).trans ?_
    refine (tz_g_getr (j := 171) rfl rfl rfl rfl rfl (tz_in0 rfl)).trans ?_
    refine (tz_g_iload rfl (tz_in0 rfl)).trans ?_
    refine (tz_g_aload_n rfl (tz_in0 rfl)).trans ?_
    refine (tz_g_iload rfl (tz_in0 rfl)).trans ?_
    refine (tz_g_aload_n rfl (tz_in0 rfl)).trans ?_
    refine (tz_g_getr (j := 171) rfl rfl rfl rfl rfl (tz_in0 rfl)).trans ?_
    refine (tz_g_iload rfl (tz_in0 rfl)).trans ?_
    refine (tz_g_iald (n := 12) rfl rfl rfl (tz_in0 rfl)).trans ?_
    refine tz_cn1 ?_
    refine (tz_g_cv2I (m2 := 180) (rc := 1) rfl rfl rfl rfl rfl rfl (by decide) (tz_in0 rfl)).trans ?_
    refine tz_jI (fun y1 A1 => ?_)
    refine (tz_g_iast (n := 12) rfl rfl rfl (tz_in0 rfl)).trans ?_
    refine tz_cn1 ?_
    refine (tz_g_iload rfl (tz_in0 rfl)).trans ?_
    refine (tz_g_iload_n rfl (tz_in0 rfl)).trans ?_
    refine (tz_g_ic_ne (t := 96) (by decide) (tz_in0 rfl)).trans ?_
    refine tz_cg ?_ ?_
    · skip
      refine (tz_g_iconst (v := 0) rfl (tz_in0 rfl)).trans ?_
      refine (tz_g_istore (L2 := [some (.ref 157), some (.int z1), some (.int z2), some (.int z3), some (.int z4), some (.int z5), some (.int z6), some (.int z7), some (.int z8), some (.int 0), none]) rfl rfl (tz_in0 rfl)).trans ?_
      refine (tz_g_iconst (v := 0) rfl (tz_in0 rfl)).trans ?_
      refine (tz_g_istore (L2 := [some (.ref 157), some (.int z1), some (.int z2), some (.int z3), some (.int z4), some (.int z5), some (.int z6), some (.int z7), some (.int z8), some (.int 0), some (.int 0)]) rfl rfl (tz_in0 rfl)).trans ?_
      exact tz_Gm (L2 := [some (.ref 157), some (.int z1), some (.int z2), some (.int z3), some (.int z4), some (.int z5), some (.int z6), some (.int z7), some (.int z8), some (.int 0), some (.int 0)]) rfl rfl rfl rfl
    · skip
      refine (tz_g_aload_n rfl (tz_in0 rfl)).trans ?_
      refine (tz_g_iload rfl (tz_in0 rfl)).trans ?_
      refine (tz_g_aload_n rfl (tz_in0 rfl)).trans ?_
      refine (tz_g_getr (j := 174) rfl rfl rfl rfl rfl (tz_in0 rfl)).trans ?_
      refine (tz_g_iload rfl (tz_in0 rfl)).trans ?_
      refine (tz_g_iald (n := 12) rfl rfl rfl (tz_in0 rfl)).trans ?_
      refine tz_cn1 ?_
      refine (tz_g_cv2I (m2 := 179) (rc := 1) rfl rfl rfl rfl rfl rfl (by decide) (tz_in0 rfl)).trans ?_
      refine tz_jI (fun y2 A2 => ?_)
      refine (tz_g_goto (t := 97) (by decide) (tz_in0 rfl)).trans ?_
      refine (tz_g_istore (L2 := [some (.ref 157), some (.int z1), some (.int z2), some (.int z3), some (.int z4), some (.int z5), some (.int z6), some (.int z7), some (.int z8), some (.int y2), none]) rfl rfl (tz_in0 rfl)).trans ?_
      refine (tz_g_iconst (v := 0) rfl (tz_in0 rfl)).trans ?_
      refine (tz_g_istore (L2 := [some (.ref 157), some (.int z1), some (.int z2), some (.int z3), some (.int z4), some (.int z5), some (.int z6), some (.int z7), some (.int z8), some (.int y2), some (.int 0)]) rfl rfl (tz_in0 rfl)).trans ?_
      exact tz_Gm (L2 := [some (.ref 157), some (.int z1), some (.int z2), some (.int z3), some (.int z4), some (.int z5), some (.int z6), some (.int z7), some (.int z8), some (.int y2), some (.int 0)]) rfl rfl rfl rfl

theorem e_X12_listens_244 (z1 : Int32) (z6 : Int32) (z7 : Int32) (z8 : Int32) (z9 : Int32) (A : tz_Mem) : q_X12_listens_244 z1 z6 z7 z8 z9 A =
  if z8 = (-1) then
  if z6 = 0 ∨ z6 = 1 then some (some (.int z6), A) else none
else
  if z9 ≤ 0 then
    if z6 = 0 ∨ z6 = 1 then some (some (.int z6), A) else none
  else
    if z8 < 0 ∨ 12 ≤ (Int32.toNatClampNeg z8) then none else
    if z1 < 0 ∨ 4 ≤ (Int32.toNatClampNeg z1) then none else
    tz_bI (f_X12_heaviest z7 (tz_g (tz_s A 175 (Int32.toNatClampNeg z8) (100 + z1)) 169 (Int32.toNatClampNeg z1)) (tz_s A 175 (Int32.toNatClampNeg z8) (100 + z1))) (fun y1 A1 =>
    q_X12_listens_244 z1 z6 z7 y1 (z9 + (-1)) A1) := by
  show tz_Go 230 244 [some (.ref 157), some (.int z1), none, none, none, none, some (.int z6), some (.int z7), some (.int z8), some (.int z9), none] [] A = _
  refine (tz_g_iload rfl (tz_inM rfl rfl rfl)).trans ?_
  refine (tz_g_iconst (v := (-1)) rfl (tz_in0 rfl)).trans ?_
  refine (tz_g_ic_eq (t := 286) (by decide) (tz_in0 rfl)).trans ?_
  refine tz_cg ?_ ?_
  · skip
    refine (tz_g_iload rfl (tz_in0 rfl)).trans ?_
    exact tz_g_ret4 (tz_in0 rfl) rfl
  · skip
    refine (tz_g_iload rfl (tz_in0 rfl)).trans ?_
    refine (tz_g_if_le (t := 286) (by decide) (tz_in0 rfl)).trans ?_
    refine tz_cg ?_ ?_
    · skip
      refine (tz_g_iload rfl (tz_in0 rfl)).trans ?_
      exact tz_g_ret4 (tz_in0 rfl) rfl
    · skip
      refine (tz_g_aload_n rfl (tz_in0 rfl)).trans ?_
      refine (tz_g_getr (j := 175) rfl rfl rfl rfl rfl (tz_in0 rfl)).trans ?_
      refine (tz_g_iload rfl (tz_in0 rfl)).trans ?_
      refine (tz_g_bipush (v := 100) rfl (tz_in0 rfl)).trans ?_
      refine (tz_g_iload_n rfl (tz_in0 rfl)).trans ?_
      refine (tz_g_iadd (tz_in0 rfl)).trans ?_
      refine (tz_g_iast (n := 12) rfl rfl rfl (tz_in0 rfl)).trans ?_
      refine tz_cn1 ?_
      refine (tz_g_iinc (v := (-1)) (L2 := [some (.ref 157), some (.int z1), none, none, none, none, some (.int z6), some (.int z7), some (.int z8), some (.int (z9 + (-1))), none]) rfl rfl rfl rfl (tz_in0 rfl)).trans ?_
      refine (tz_g_aload_n rfl (tz_in0 rfl)).trans ?_
      refine (tz_g_iload rfl (tz_in0 rfl)).trans ?_
      refine (tz_g_aload_n rfl (tz_in0 rfl)).trans ?_
      refine (tz_g_getr (j := 169) rfl rfl rfl rfl rfl (tz_in0 rfl)).trans ?_
      refine (tz_g_iload_n rfl (tz_in0 rfl)).trans ?_
      refine (tz_g_iald (n := 4) rfl rfl rfl (tz_in0 rfl)).trans ?_
      refine tz_cn1 ?_
      refine (tz_g_cv2I (m2 := 205) (rc := 1) rfl rfl rfl rfl rfl rfl (by decide) (tz_in0 rfl)).trans ?_
      refine tz_jI (fun y1 A1 => ?_)
      refine (tz_g_istore (L2 := [some (.ref 157), some (.int z1), none, none, none, none, some (.int z6), some (.int z7), some (.int y1), some (.int (z9 + (-1))), none]) rfl rfl (tz_in0 rfl)).trans ?_
      refine (tz_g_goto (t := 244) (by decide) (tz_in0 rfl)).trans ?_
      exact tz_Gm (L2 := [some (.ref 157), some (.int z1), none, none, none, none, some (.int z6), some (.int z7), some (.int y1), some (.int (z9 + (-1))), none]) rfl rfl rfl rfl

theorem e_X12_listens_102 (z1 : Int32) (z2 : Int32) (z3 : Int32) (z4 : Int32) (z5 : Int32) (z6 : Int32) (z7 : Int32) (z8 : Int32) (z9 : Int32) (z10 : Int32) (A : tz_Mem) : q_X12_listens_102 z1 z2 z3 z4 z5 z6 z7 z8 z9 z10 A =
  if z9 ≤ z10 then
  if z8 < 0 ∨ 12 ≤ (Int32.toNatClampNeg z8) then none else
  if z8 < 0 ∨ 12 ≤ (Int32.toNatClampNeg z8) then none else
  if ¬ (tz_g (tz_s A 175 (Int32.toNatClampNeg z8) z7) 173 (Int32.toNatClampNeg z8)) = z7 then
    tz_bI (f_X12_heaviest (100 + z1) 99 (tz_s A 175 (Int32.toNatClampNeg z8) z7)) (fun y1 A1 =>
    q_X12_listens_48 z1 z2 z3 z4 z5 z6 z7 y1 A1)
  else
    if z8 < 0 ∨ 12 ≤ (Int32.toNatClampNeg z8) then none else
    tz_bI (f_X12_heaviest (100 + z1) 99 (tz_s (tz_s A 175 (Int32.toNatClampNeg z8) z7) 175 (Int32.toNatClampNeg z8) 200)) (fun y1 A1 =>
    q_X12_listens_48 z1 z2 z3 z4 z5 z6 z7 y1 A1)
else
  if z6 = 0 then
    if z8 < 0 ∨ 12 ≤ (Int32.toNatClampNeg z8) then none else
    if z8 < 0 ∨ 12 ≤ (Int32.toNatClampNeg z8) then none else
    if ¬ (tz_g (tz_s A 175 (Int32.toNatClampNeg z8) z7) 173 (Int32.toNatClampNeg z8)) = z7 then
      tz_bI (f_X12_heaviest (100 + z1) 99 (tz_s A 175 (Int32.toNatClampNeg z8) z7)) (fun y1 A1 =>
      q_X12_listens_48 z1 z2 z3 z4 z5 z6 z7 y1 A1)
    else
      if z8 < 0 ∨ 12 ≤ (Int32.toNatClampNeg z8) then none else
      tz_bI (f_X12_heaviest (100 + z1) 99 (tz_s (tz_s A 175 (Int32.toNatClampNeg z8) z7) 175 (Int32.toNatClampNeg z8) 200)) (fun y1 A1 =>
      q_X12_listens_48 z1 z2 z3 z4 z5 z6 z7 y1 A1)
  else
    if z4 ≤ (z5 + (tz_g A 157 38)) then
      if z8 < 0 ∨ 12 ≤ (Int32.toNatClampNeg z8) then none else
      if z8 < 0 ∨ 12 ≤ (Int32.toNatClampNeg z8) then none else
      if ¬ (tz_g (tz_s A 175 (Int32.toNatClampNeg z8) z7) 173 (Int32.toNatClampNeg z8)) = z7 then
        tz_bI (f_X12_heaviest (100 + z1) 99 (tz_s A 175 (Int32.toNatClampNeg z8) z7)) (fun y1 A1 =>
        q_X12_listens_48 z1 z2 z3 z4 z5 z6 z7 y1 A1)
      else
        if z8 < 0 ∨ 12 ≤ (Int32.toNatClampNeg z8) then none else
        tz_bI (f_X12_heaviest (100 + z1) 99 (tz_s (tz_s A 175 (Int32.toNatClampNeg z8) z7) 175 (Int32.toNatClampNeg z8) 200)) (fun y1 A1 =>
        q_X12_listens_48 z1 z2 z3 z4 z5 z6 z7 y1 A1)
    else
      tz_bI (f_X12_told z3 (z5 + (tz_g A 157 38)) A) (fun y1 A1 =>
      if z8 < 0 ∨ 12 ≤ (Int32.toNatClampNeg z8) then none else
      if ¬ y1 = (tz_g A1 171 (Int32.toNatClampNeg z8)) then
        q_X12_listens_102 z1 z2 z3 z4 z5 0 z7 z8 z9 (z10 + 1) A1
      else
        q_X12_listens_102 z1 z2 z3 z4 z5 1 z7 z8 z9 (z10 + 1) (tz_s A1 157 38 ((tz_g A1 157 38) + 1))) := by
  show tz_Go 230 102 [some (.ref 157), some (.int z1), some (.int z2), some (.int z3), some (.int z4), some (.int z5), some (.int z6), some (.int z7), some (.int z8), some (.int z9), some (.int z10)] [] A = _
  refine (tz_g_iload rfl (tz_inM rfl rfl rfl)).trans ?_
  refine (tz_g_iload rfl (tz_in0 rfl)).trans ?_
  refine (tz_g_ic_ge (t := 176) (by decide) (tz_in0 rfl)).trans ?_
  refine tz_cg ?_ ?_
  · skip
    refine (tz_g_aload_n rfl (tz_in0 rfl)).trans ?_
    refine (tz_g_getr (j := 175) rfl rfl rfl rfl rfl (tz_in0 rfl)).trans ?_
    refine (tz_g_iload rfl (tz_in0 rfl)).trans ?_
    refine (tz_g_iload rfl (tz_in0 rfl)).trans ?_
    refine (tz_g_iast (n := 12) rfl rfl rfl (tz_in0 rfl)).trans ?_
    refine tz_cn1 ?_
    refine (tz_g_aload_n rfl (tz_in0 rfl)).trans ?_
    refine (tz_g_getr (j := 173) rfl rfl rfl rfl rfl (tz_in0 rfl)).trans ?_
    refine (tz_g_iload rfl (tz_in0 rfl)).trans ?_
    refine (tz_g_iald (n := 12) rfl rfl rfl (tz_in0 rfl)).trans ?_
    refine tz_cn1 ?_
    refine (tz_g_iload rfl (tz_in0 rfl)).trans ?_
    refine (tz_g_ic_ne (t := 207) (by decide) (tz_in0 rfl)).trans ?_
    refine tz_cg ?_ ?_
    · skip
      refine (tz_g_aload_n rfl (tz_in0 rfl)).trans ?_
      refine (tz_g_bipush (v := 100) rfl (tz_in0 rfl)).trans ?_
      refine (tz_g_iload_n rfl (tz_in0 rfl)).trans ?_
      refine (tz_g_iadd (tz_in0 rfl)).trans ?_
      refine (tz_g_bipush (v := 99) rfl (tz_in0 rfl)).trans ?_
      refine (tz_g_cv2I (m2 := 205) (rc := 1) rfl rfl rfl rfl rfl rfl (by decide) (tz_in0 rfl)).trans ?_
      refine tz_jI (fun y1 A1 => ?_)
      refine (tz_g_istore (L2 := [some (.ref 157), some (.int z1), some (.int z2), some (.int z3), some (.int z4), some (.int z5), some (.int z6), some (.int z7), some (.int y1), some (.int z9), some (.int z10)]) rfl rfl (tz_in0 rfl)).trans ?_
      refine (tz_g_goto (t := 48) (by decide) (tz_in0 rfl)).trans ?_
      exact tz_Gm (L2 := [some (.ref 157), some (.int z1), some (.int z2), some (.int z3), some (.int z4), some (.int z5), some (.int z6), some (.int z7), some (.int y1), none, none]) rfl rfl rfl rfl
    · skip
      refine (tz_g_aload_n rfl (tz_in0 rfl)).trans ?_
      refine (tz_g_getr (j := 175) rfl rfl rfl rfl rfl (tz_in0 rfl)).trans ?_
      refine (tz_g_iload rfl (tz_in0 rfl)).trans ?_
      refine (tz_g_sipush (v := 200) rfl (tz_in0 rfl)).trans ?_
      refine (tz_g_iast (n := 12) rfl rfl rfl (tz_in0 rfl)).trans ?_
      refine tz_cn1 ?_
      refine (tz_g_aload_n rfl (tz_in0 rfl)).trans ?_
      refine (tz_g_bipush (v := 100) rfl (tz_in0 rfl)).trans ?_
      refine (tz_g_iload_n rfl (tz_in0 rfl)).trans ?_
      refine (tz_g_iadd (tz_in0 rfl)).trans ?_
      refine (tz_g_bipush (v := 99) rfl (tz_in0 rfl)).trans ?_
      refine (tz_g_cv2I (m2 := 205) (rc := 1) rfl rfl rfl rfl rfl rfl (by decide) (tz_in0 rfl)).trans ?_
      refine tz_jI (fun y1 A1 => ?_)
      refine (tz_g_istore (L2 := [some (.ref 157), some (.int z1), some (.int z2), some (.int z3), some (.int z4), some (.int z5), some (.int z6), some (.int z7), some (.int y1), some (.int z9), some (.int z10)]) rfl rfl (tz_in0 rfl)).trans ?_
      refine (tz_g_goto (t := 48) (by decide) (tz_in0 rfl)).trans ?_
      exact tz_Gm (L2 := [some (.ref 157), some (.int z1), some (.int z2), some (.int z3), some (.int z4), some (.int z5), some (.int z6), some (.int z7), some (.int y1), none, none]) rfl rfl rfl rfl
  · skip
    refine (tz_g_iload rfl (tz_in0 rfl)).trans ?_
    refine (tz_g_if_eq (t := 176) (by decide) (tz_in0 rfl)).trans ?_
    refine tz_cg ?_ ?_
    · skip
      refine (tz_g_aload_n rfl (tz_in0 rfl)).trans ?_
      refine (tz_g_getr (j := 175) rfl rfl rfl rfl rfl (tz_in0 rfl)).trans ?_
      refine (tz_g_iload rfl (tz_in0 rfl)).trans ?_
      refine (tz_g_iload rfl (tz_in0 rfl)).trans ?_
      refine (tz_g_iast (n := 12) rfl rfl rfl (tz_in0 rfl)).trans ?_
      refine tz_cn1 ?_
      refine (tz_g_aload_n rfl (tz_in0 rfl)).trans ?_
      refine (tz_g_getr (j := 173) rfl rfl rfl rfl rfl (tz_in0 rfl)).trans ?_
      refine (tz_g_iload rfl (tz_in0 rfl)).trans ?_
      refine (tz_g_iald (n := 12) rfl rfl rfl (tz_in0 rfl)).trans ?_
      refine tz_cn1 ?_
      refine (tz_g_iload rfl (tz_in0 rfl)).trans ?_
      refine (tz_g_ic_ne (t := 207) (by decide) (tz_in0 rfl)).trans ?_
      refine tz_cg ?_ ?_
      · skip
        refine (tz_g_aload_n rfl (tz_in0 rfl)).trans ?_
        refine (tz_g_bipush (v := 100) rfl (tz_in0 rfl)).trans ?_
        refine (tz_g_iload_n rfl (tz_in0 rfl)).trans ?_
        refine (tz_g_iadd (tz_in0 rfl)).trans ?_
        refine (tz_g_bipush (v := 99) rfl (tz_in0 rfl)).trans ?_
        refine (tz_g_cv2I (m2 := 205) (rc := 1) rfl rfl rfl rfl rfl rfl (by decide) (tz_in0 rfl)).trans ?_
        refine tz_jI (fun y1 A1 => ?_)
        refine (tz_g_istore (L2 := [some (.ref 157), some (.int z1), some (.int z2), some (.int z3), some (.int z4), some (.int z5), some (.int z6), some (.int z7), some (.int y1), some (.int z9), some (.int z10)]) rfl rfl (tz_in0 rfl)).trans ?_
        refine (tz_g_goto (t := 48) (by decide) (tz_in0 rfl)).trans ?_
        exact tz_Gm (L2 := [some (.ref 157), some (.int z1), some (.int z2), some (.int z3), some (.int z4), some (.int z5), some (.int z6), some (.int z7), some (.int y1), none, none]) rfl rfl rfl rfl
      · skip
        refine (tz_g_aload_n rfl (tz_in0 rfl)).trans ?_
        refine (tz_g_getr (j := 175) rfl rfl rfl rfl rfl (tz_in0 rfl)).trans ?_
        refine (tz_g_iload rfl (tz_in0 rfl)).trans ?_
        refine (tz_g_sipush (v := 200) rfl (tz_in0 rfl)).trans ?_
        refine (tz_g_iast (n := 12) rfl rfl rfl (tz_in0 rfl)).trans ?_
        refine tz_cn1 ?_
        refine (tz_g_aload_n rfl (tz_in0 rfl)).trans ?_
        refine (tz_g_bipush (v := 100) rfl (tz_in0 rfl)).trans ?_
        refine (tz_g_iload_n rfl (tz_in0 rfl)).trans ?_
        refine (tz_g_iadd (tz_in0 rfl)).trans ?_
        refine (tz_g_bipush (v := 99) rfl (tz_in0 rfl)).trans ?_
        refine (tz_g_cv2I (m2 := 205) (rc := 1) rfl rfl rfl rfl rfl rfl (by decide) (tz_in0 rfl)).trans ?_
        refine tz_jI (fun y1 A1 => ?_)
        refine (tz_g_istore (L2 := [some (.ref 157), some (.int z1), some (.int z2), some (.int z3), some (.int z4), some (.int z5), some (.int z6), some (.int z7), some (.int y1), some (.int z9), some (.int z10)]) rfl rfl (tz_in0 rfl)).trans ?_
        refine (tz_g_goto (t := 48) (by decide) (tz_in0 rfl)).trans ?_
        exact tz_Gm (L2 := [some (.ref 157), some (.int z1), some (.int z2), some (.int z3), some (.int z4), some (.int z5), some (.int z6), some (.int z7), some (.int y1), none, none]) rfl rfl rfl rfl
    · skip
      refine (tz_g_iload rfl (tz_in0 rfl)).trans ?_
      refine (tz_g_aload_n rfl (tz_in0 rfl)).trans ?_
      refine (tz_g_geti rfl rfl rfl (tz_in0 rfl)).trans ?_
      refine (tz_g_iadd (tz_in0 rfl)).trans ?_
      refine (tz_g_iload rfl (tz_in0 rfl)).trans ?_
      refine (tz_g_ic_ge (t := 176) (by decide) (tz_in0 rfl)).trans ?_
      refine tz_cg ?_ ?_
      · skip
        refine (tz_g_aload_n rfl (tz_in0 rfl)).trans ?_
        refine (tz_g_getr (j := 175) rfl rfl rfl rfl rfl (tz_in0 rfl)).trans ?_
        refine (tz_g_iload rfl (tz_in0 rfl)).trans ?_
        refine (tz_g_iload rfl (tz_in0 rfl)).trans ?_
        refine (tz_g_iast (n := 12) rfl rfl rfl (tz_in0 rfl)).trans ?_
        refine tz_cn1 ?_
        refine (tz_g_aload_n rfl (tz_in0 rfl)).trans ?_
        refine (tz_g_getr (j := 173) rfl rfl rfl rfl rfl (tz_in0 rfl)).trans ?_
        refine (tz_g_iload rfl (tz_in0 rfl)).trans ?_
        refine (tz_g_iald (n := 12) rfl rfl rfl (tz_in0 rfl)).trans ?_
        refine tz_cn1 ?_
        refine (tz_g_iload rfl (tz_in0 rfl)).trans ?_
        refine (tz_g_ic_ne (t := 207) (by decide) (tz_in0 rfl)).trans ?_
        refine tz_cg ?_ ?_
        · skip
          refine (tz_g_aload_n rfl (tz_in0 rfl)).trans ?_
          refine (tz_g_bipush (v := 100) rfl (tz_in0 rfl)).trans ?_
          refine (tz_g_iload_n rfl (tz_in0 rfl)).trans ?_
          refine (tz_g_iadd (tz_in0 rfl)).trans ?_
          refine (tz_g_bipush (v := 99) rfl (tz_in0 rfl)).trans ?_
          refine (tz_g_cv2I (m2 := 205) (rc := 1) rfl rfl rfl rfl rfl rfl (by decide) (tz_in0 rfl)).trans ?_
          refine tz_jI (fun y1 A1 => ?_)
          refine (tz_g_istore (L2 := [some (.ref 157), some (.int z1), some (.int z2), some (.int z3), some (.int z4), some (.int z5), some (.int z6), some (.int z7), some (.int y1), some (.int z9), some (.int z10)]) rfl rfl (tz_in0 rfl)).trans ?_
          refine (tz_g_goto (t := 48) (by decide) (tz_in0 rfl)).trans ?_
          exact tz_Gm (L2 := [some (.ref 157), some (.int z1), some (.int z2), some (.int z3), some (.int z4), some (.int z5), some (.int z6), some (.int z7), some (.int y1), none, none]) rfl rfl rfl rfl
        · skip
          refine (tz_g_aload_n rfl (tz_in0 rfl)).trans ?_
          refine (tz_g_getr (j := 175) rfl rfl rfl rfl rfl (tz_in0 rfl)).trans ?_
          refine (tz_g_iload rfl (tz_in0 rfl)).trans ?_
          refine (tz_g_sipush (v := 200) rfl (tz_in0 rfl)).trans ?_
          refine (tz_g_iast (n := 12) rfl rfl rfl (tz_in0 rfl)).trans ?_
          refine tz_cn1 ?_
          refine (tz_g_aload_n rfl (tz_in0 rfl)).trans ?_
          refine (tz_g_bipush (v := 100) rfl (tz_in0 rfl)).trans ?_
          refine (tz_g_iload_n rfl (tz_in0 rfl)).trans ?_
          refine (tz_g_iadd (tz_in0 rfl)).trans ?_
          refine (tz_g_bipush (v := 99) rfl (tz_in0 rfl)).trans ?_
          refine (tz_g_cv2I (m2 := 205) (rc := 1) rfl rfl rfl rfl rfl rfl (by decide) (tz_in0 rfl)).trans ?_
          refine tz_jI (fun y1 A1 => ?_)
          refine (tz_g_istore (L2 := [some (.ref 157), some (.int z1), some (.int z2), some (.int z3), some (.int z4), some (.int z5), some (.int z6), some (.int z7), some (.int y1), some (.int z9), some (.int z10)]) rfl rfl (tz_in0 rfl)).trans ?_
          refine (tz_g_goto (t := 48) (by decide) (tz_in0 rfl)).trans ?_
          exact tz_Gm (L2 := [some (.ref 157), some (.int z1), some (.int z2), some (.int z3), some (.int z4), some (.int z5), some (.int z6), some (.int z7), some (.int y1), none, none]) rfl rfl rfl rfl
      · skip
        refine (tz_g_aload_n rfl (tz_in0 rfl)).trans ?_
        refine (tz_g_iload_n rfl (tz_in0 rfl)).trans ?_
        refine (tz_g_iload rfl (tz_in0 rfl)).trans ?_
        refine (tz_g_aload_n rfl (tz_in0 rfl)).trans ?_
        refine (tz_g_geti rfl rfl rfl (tz_in0 rfl)).trans ?_
        refine (tz_g_iadd (tz_in0 rfl)).trans ?_
        refine (tz_g_cv2I (m2 := 184) (rc := 1) rfl rfl rfl rfl rfl rfl (by decide) (tz_in0 rfl)).trans ?_
        refine tz_jI (fun y1 A1 => ?_)
        refine (tz_g_aload_n rfl (tz_in0 rfl)).trans ?_
        refine (tz_g_getr (j := 171) rfl rfl rfl rfl rfl (tz_in0 rfl)).trans ?_
        refine (tz_g_iload rfl (tz_in0 rfl)).trans ?_
        refine (tz_g_iald (n := 12) rfl rfl rfl (tz_in0 rfl)).trans ?_
        refine tz_cn1 ?_
        refine (tz_g_ic_ne (t := 152) (by decide) (tz_in0 rfl)).trans ?_
        refine tz_cg ?_ ?_
        · skip
          refine (tz_g_iconst (v := 0) rfl (tz_in0 rfl)).trans ?_
          refine (tz_g_istore (L2 := [some (.ref 157), some (.int z1), some (.int z2), some (.int z3), some (.int z4), some (.int z5), some (.int 0), some (.int z7), some (.int z8), some (.int z9), some (.int z10)]) rfl rfl (tz_in0 rfl)).trans ?_
          refine (tz_g_iload rfl (tz_in0 rfl)).trans ?_
          refine (tz_g_if_eq (t := 170) (by decide) (tz_in0 rfl)).trans ?_
          refine (if_pos (by decide)).trans ?_
          refine (tz_g_iinc (v := 1) (L2 := [some (.ref 157), some (.int z1), some (.int z2), some (.int z3), some (.int z4), some (.int z5), some (.int 0), some (.int z7), some (.int z8), some (.int z9), some (.int (z10 + 1))]) rfl rfl rfl rfl (tz_in0 rfl)).trans ?_
          refine (tz_g_goto (t := 102) (by decide) (tz_in0 rfl)).trans ?_
          exact tz_Gm (L2 := [some (.ref 157), some (.int z1), some (.int z2), some (.int z3), some (.int z4), some (.int z5), some (.int 0), some (.int z7), some (.int z8), some (.int z9), some (.int (z10 + 1))]) rfl rfl rfl rfl
        · skip
          refine (tz_g_iconst (v := 1) rfl (tz_in0 rfl)).trans ?_
          refine (tz_g_goto (t := 153) (by decide) (tz_in0 rfl)).trans ?_
          refine (tz_g_istore (L2 := [some (.ref 157), some (.int z1), some (.int z2), some (.int z3), some (.int z4), some (.int z5), some (.int 1), some (.int z7), some (.int z8), some (.int z9), some (.int z10)]) rfl rfl (tz_in0 rfl)).trans ?_
          refine (tz_g_iload rfl (tz_in0 rfl)).trans ?_
          refine (tz_g_if_eq (t := 170) (by decide) (tz_in0 rfl)).trans ?_
          refine (if_neg (by decide)).trans ?_
          refine (tz_g_aload_n rfl (tz_in0 rfl)).trans ?_
          refine (tz_g_dup rfl (tz_in0 rfl)).trans ?_
          refine (tz_g_geti rfl rfl rfl (tz_in0 rfl)).trans ?_
          refine (tz_g_iconst (v := 1) rfl (tz_in0 rfl)).trans ?_
          refine (tz_g_iadd (tz_in0 rfl)).trans ?_
          refine (tz_g_puti rfl rfl rfl (tz_in0 rfl)).trans ?_
          refine (tz_g_iinc (v := 1) (L2 := [some (.ref 157), some (.int z1), some (.int z2), some (.int z3), some (.int z4), some (.int z5), some (.int 1), some (.int z7), some (.int z8), some (.int z9), some (.int (z10 + 1))]) rfl rfl rfl rfl (tz_in0 rfl)).trans ?_
          refine (tz_g_goto (t := 102) (by decide) (tz_in0 rfl)).trans ?_
          exact tz_Gm (L2 := [some (.ref 157), some (.int z1), some (.int z2), some (.int z3), some (.int z4), some (.int z5), some (.int 1), some (.int z7), some (.int z8), some (.int z9), some (.int (z10 + 1))]) rfl rfl rfl rfl

theorem e_X12_fadesBy (x1 : Int32) (x2 : Int32) (A : tz_Mem) : f_X12_fadesBy x1 x2 A =
  if x1 < 0 ∨ 8 ≤ (Int32.toNatClampNeg x1) then none else
if (tz_g A 161 (Int32.toNatClampNeg x1)) = 4 then
  tz_bV (f_X12_ran 50 A) (fun A1 =>
  if ¬ (tz_g A 161 (Int32.toNatClampNeg x1)) = 5 then
    tz_bV (f_X12_ran 12 A1) (fun A2 =>
    tz_bI (f_X12_rollsBy x1 x2 A2) (fun y3 A3 =>
    if x1 < 0 ∨ 8 ≤ (Int32.toNatClampNeg x1) then none else
    tz_bI (f_X12_saysBy x1 (x2 - (tz_g A3 162 (Int32.toNatClampNeg x1))) A3) (fun y4 A4 =>
    if (tz_g A 161 (Int32.toNatClampNeg x1)) = 4 then
      some (some (.int (-(y3 ^^^ y4))), A4)
    else
      if ¬ (tz_g A 161 (Int32.toNatClampNeg x1)) = 6 then
        if ¬ (tz_g A 161 (Int32.toNatClampNeg x1)) = 5 then
          some (some (.int (y3 ^^^ y4)), A4)
        else
          some (some (.int ((y3 ^^^ y4) ^^^ 5)), A4)
      else
        some (some (.int (-(y3 ^^^ y4))), A4))))
  else
    tz_bV (f_X12_ran 60 A1) (fun A2 =>
    tz_bV (f_X12_ran 12 A2) (fun A3 =>
    tz_bI (f_X12_rollsBy x1 x2 A3) (fun y4 A4 =>
    if x1 < 0 ∨ 8 ≤ (Int32.toNatClampNeg x1) then none else
    tz_bI (f_X12_saysBy x1 (x2 - (tz_g A4 162 (Int32.toNatClampNeg x1))) A4) (fun y5 A5 =>
    if (tz_g A 161 (Int32.toNatClampNeg x1)) = 4 then
      some (some (.int (-(y4 ^^^ y5))), A5)
    else
      if ¬ (tz_g A 161 (Int32.toNatClampNeg x1)) = 6 then
        if ¬ (tz_g A 161 (Int32.toNatClampNeg x1)) = 5 then
          some (some (.int (y4 ^^^ y5)), A5)
        else
          some (some (.int ((y4 ^^^ y5) ^^^ 5)), A5)
      else
        some (some (.int (-(y4 ^^^ y5))), A5))))))
else
  if ¬ (tz_g A 161 (Int32.toNatClampNeg x1)) = 6 then
    if ¬ (tz_g A 161 (Int32.toNatClampNeg x1)) = 5 then
      tz_bV (f_X12_ran 12 A) (fun A1 =>
      tz_bI (f_X12_rollsBy x1 x2 A1) (fun y2 A2 =>
      if x1 < 0 ∨ 8 ≤ (Int32.toNatClampNeg x1) then none else
      tz_bI (f_X12_saysBy x1 (x2 - (tz_g A2 162 (Int32.toNatClampNeg x1))) A2) (fun y3 A3 =>
      if (tz_g A 161 (Int32.toNatClampNeg x1)) = 4 then
        some (some (.int (-(y2 ^^^ y3))), A3)
      else
        if ¬ (tz_g A 161 (Int32.toNatClampNeg x1)) = 6 then
          if ¬ (tz_g A 161 (Int32.toNatClampNeg x1)) = 5 then
            some (some (.int (y2 ^^^ y3)), A3)
          else
            some (some (.int ((y2 ^^^ y3) ^^^ 5)), A3)
        else
          some (some (.int (-(y2 ^^^ y3))), A3))))
    else
      tz_bV (f_X12_ran 60 A) (fun A1 =>
      tz_bV (f_X12_ran 12 A1) (fun A2 =>
      tz_bI (f_X12_rollsBy x1 x2 A2) (fun y3 A3 =>
      if x1 < 0 ∨ 8 ≤ (Int32.toNatClampNeg x1) then none else
      tz_bI (f_X12_saysBy x1 (x2 - (tz_g A3 162 (Int32.toNatClampNeg x1))) A3) (fun y4 A4 =>
      if (tz_g A 161 (Int32.toNatClampNeg x1)) = 4 then
        some (some (.int (-(y3 ^^^ y4))), A4)
      else
        if ¬ (tz_g A 161 (Int32.toNatClampNeg x1)) = 6 then
          if ¬ (tz_g A 161 (Int32.toNatClampNeg x1)) = 5 then
            some (some (.int (y3 ^^^ y4)), A4)
          else
            some (some (.int ((y3 ^^^ y4) ^^^ 5)), A4)
        else
          some (some (.int (-(y3 ^^^ y4))), A4)))))
  else
    tz_bV (f_X12_ran 50 A) (fun A1 =>
    if ¬ (tz_g A 161 (Int32.toNatClampNeg x1)) = 5 then
      tz_bV (f_X12_ran 12 A1) (fun A2 =>
      tz_bI (f_X12_rollsBy x1 x2 A2) (fun y3 A3 =>
      if x1 < 0 ∨ 8 ≤ (Int32.toNatClampNeg x1) then none else
      tz_bI (f_X12_saysBy x1 (x2 - (tz_g A3 162 (Int32.toNatClampNeg x1))) A3) (fun y4 A4 =>
      if (tz_g A 161 (Int32.toNatClampNeg x1)) = 4 then
        some (some (.int (-(y3 ^^^ y4))), A4)
      else
        if ¬ (tz_g A 161 (Int32.toNatClampNeg x1)) = 6 then
          if ¬ (tz_g A 161 (Int32.toNatClampNeg x1)) = 5 then
            some (some (.int (y3 ^^^ y4)), A4)
          else
            some (some (.int ((y3 ^^^ y4) ^^^ 5)), A4)
        else
          some (some (.int (-(y3 ^^^ y4))), A4))))
    else
      tz_bV (f_X12_ran 60 A1) (fun A2 =>
      tz_bV (f_X12_ran 12 A2) (fun A3 =>
      tz_bI (f_X12_rollsBy x1 x2 A3) (fun y4 A4 =>
      if x1 < 0 ∨ 8 ≤ (Int32.toNatClampNeg x1) then none else
      tz_bI (f_X12_saysBy x1 (x2 - (tz_g A4 162 (Int32.toNatClampNeg x1))) A4) (fun y5 A5 =>
      if (tz_g A 161 (Int32.toNatClampNeg x1)) = 4 then
        some (some (.int (-(y4 ^^^ y5))), A5)
      else
        if ¬ (tz_g A 161 (Int32.toNatClampNeg x1)) = 6 then
          if ¬ (tz_g A 161 (Int32.toNatClampNeg x1)) = 5 then
            some (some (.int (y4 ^^^ y5)), A5)
          else
            some (some (.int ((y4 ^^^ y5) ^^^ 5)), A5)
        else
          some (some (.int (-(y4 ^^^ y5))), A5)))))) := by
  refine (tz_Fe (L := [some (.ref 157), some (.int x1), some (.int x2), none, none, none]) rfl).trans ?_
  refine (tz_g_aload_n rfl (tz_in0 rfl)).trans ?_
  refine (tz_g_getr (j := 161) rfl rfl rfl rfl rfl (tz_in0 rfl)).trans ?_
  refine (tz_g_iload_n rfl (tz_in0 rfl)).trans ?_
  refine (tz_g_iald (n := 8) rfl rfl rfl (tz_in0 rfl)).trans ?_
  refine tz_cn1 ?_
  refine (tz_g_istore_n (L2 := [some (.ref 157), some (.int x1), some (.int x2), some (.int (tz_g A 161 (Int32.toNatClampNeg x1))), none, none]) rfl rfl (tz_in0 rfl)).trans ?_
  refine (tz_g_iload_n rfl (tz_in0 rfl)).trans ?_
  refine (tz_g_iconst (v := 4) rfl (tz_in0 rfl)).trans ?_
  refine (tz_g_ic_eq (t := 18) (by decide) (tz_in0 rfl)).trans ?_
  refine tz_cg ?_ ?_
  · skip
    refine (tz_g_aload_n rfl (tz_in0 rfl)).trans ?_
    refine (tz_g_bipush (v := 50) rfl (tz_in0 rfl)).trans ?_
    refine (tz_g_cv1V (m2 := 242) (rc := 0) rfl rfl rfl rfl rfl rfl (by decide) (tz_in0 rfl)).trans ?_
    refine tz_jV (fun A1 => ?_)
    refine (tz_g_iload_n rfl (tz_in0 rfl)).trans ?_
    refine (tz_g_iconst (v := 5) rfl (tz_in0 rfl)).trans ?_
    refine (tz_g_ic_ne (t := 35) (by decide) (tz_in0 rfl)).trans ?_
    refine tz_cg ?_ ?_
    · skip
      refine (tz_g_aload_n rfl (tz_in0 rfl)).trans ?_
      refine (tz_g_bipush (v := 12) rfl (tz_in0 rfl)).trans ?_
      refine (tz_g_cv1V (m2 := 242) (rc := 0) rfl rfl rfl rfl rfl rfl (by decide) (tz_in0 rfl)).trans ?_
      refine tz_jV (fun A2 => ?_)
      refine (tz_g_aload_n rfl (tz_in0 rfl)).trans ?_
      refine (tz_g_iload_n rfl (tz_in0 rfl)).trans ?_
      refine (tz_g_iload_n rfl (tz_in0 rfl)).trans ?_
      refine (tz_g_cv2I (m2 := 243) (rc := 1) rfl rfl rfl rfl rfl rfl (by decide) (tz_in0 rfl)).trans ?_
      refine tz_jI (fun y3 A3 => ?_)
      refine (tz_g_istore (L2 := [some (.ref 157), some (.int x1), some (.int x2), some (.int (tz_g A 161 (Int32.toNatClampNeg x1))), some (.int y3), none]) rfl rfl (tz_in0 rfl)).trans ?_
      refine (tz_g_iload rfl (tz_in0 rfl)).trans ?_
      refine (tz_g_aload_n rfl (tz_in0 rfl)).trans ?_
      refine (tz_g_iload_n rfl (tz_in0 rfl)).trans ?_
      refine (tz_g_iload_n rfl (tz_in0 rfl)).trans ?_
      refine (tz_g_aload_n rfl (tz_in0 rfl)).trans ?_
      refine (tz_g_getr (j := 162) rfl rfl rfl rfl rfl (tz_in0 rfl)).trans ?_
      refine (tz_g_iload_n rfl (tz_in0 rfl)).trans ?_
      refine (tz_g_iald (n := 8) rfl rfl rfl (tz_in0 rfl)).trans ?_
      refine tz_cn1 ?_
      refine (tz_g_isub (tz_in0 rfl)).trans ?_
      refine (tz_g_cv2I (m2 := 241) (rc := 1) rfl rfl rfl rfl rfl rfl (by decide) (tz_in0 rfl)).trans ?_
      refine tz_jI (fun y4 A4 => ?_)
      refine (tz_g_ixor (tz_in0 rfl)).trans ?_
      refine (tz_g_istore (L2 := [some (.ref 157), some (.int x1), some (.int x2), some (.int (tz_g A 161 (Int32.toNatClampNeg x1))), some (.int y3), some (.int (y3 ^^^ y4))]) rfl rfl (tz_in0 rfl)).trans ?_
      refine (tz_g_iload_n rfl (tz_in0 rfl)).trans ?_
      refine (tz_g_iconst (v := 4) rfl (tz_in0 rfl)).trans ?_
      refine (tz_g_ic_eq (t := 78) (by decide) (tz_in0 rfl)).trans ?_
      refine tz_cg ?_ ?_
      · skip
        refine (tz_g_iload rfl (tz_in0 rfl)).trans ?_
        refine (tz_g_ineg (tz_in0 rfl)).trans ?_
        refine (tz_g_goto (t := 98) (by decide) (tz_in0 rfl)).trans ?_
        exact tz_g_ret1 (tz_in0 rfl) rfl
      · skip
        refine (tz_g_iload_n rfl (tz_in0 rfl)).trans ?_
        refine (tz_g_bipush (v := 6) rfl (tz_in0 rfl)).trans ?_
        refine (tz_g_ic_ne (t := 84) (by decide) (tz_in0 rfl)).trans ?_
        refine tz_cg ?_ ?_
        · skip
          refine (tz_g_iload_n rfl (tz_in0 rfl)).trans ?_
          refine (tz_g_iconst (v := 5) rfl (tz_in0 rfl)).trans ?_
          refine (tz_g_ic_ne (t := 96) (by decide) (tz_in0 rfl)).trans ?_
          refine tz_cg ?_ ?_
          · skip
            refine (tz_g_iload rfl (tz_in0 rfl)).trans ?_
            exact tz_g_ret1 (tz_in0 rfl) rfl
          · skip
            refine (tz_g_iload rfl (tz_in0 rfl)).trans ?_
            refine (tz_g_iconst (v := 5) rfl (tz_in0 rfl)).trans ?_
            refine (tz_g_ixor (tz_in0 rfl)).trans ?_
            refine (tz_g_goto (t := 98) (by decide) (tz_in0 rfl)).trans ?_
            exact tz_g_ret1 (tz_in0 rfl) rfl
        · skip
          refine (tz_g_iload rfl (tz_in0 rfl)).trans ?_
          refine (tz_g_ineg (tz_in0 rfl)).trans ?_
          refine (tz_g_goto (t := 98) (by decide) (tz_in0 rfl)).trans ?_
          exact tz_g_ret1 (tz_in0 rfl) rfl
    · skip
      refine (tz_g_aload_n rfl (tz_in0 rfl)).trans ?_
      refine (tz_g_bipush (v := 60) rfl (tz_in0 rfl)).trans ?_
      refine (tz_g_cv1V (m2 := 242) (rc := 0) rfl rfl rfl rfl rfl rfl (by decide) (tz_in0 rfl)).trans ?_
      refine tz_jV (fun A2 => ?_)
      refine (tz_g_aload_n rfl (tz_in0 rfl)).trans ?_
      refine (tz_g_bipush (v := 12) rfl (tz_in0 rfl)).trans ?_
      refine (tz_g_cv1V (m2 := 242) (rc := 0) rfl rfl rfl rfl rfl rfl (by decide) (tz_in0 rfl)).trans ?_
      refine tz_jV (fun A3 => ?_)
      refine (tz_g_aload_n rfl (tz_in0 rfl)).trans ?_
      refine (tz_g_iload_n rfl (tz_in0 rfl)).trans ?_
      refine (tz_g_iload_n rfl (tz_in0 rfl)).trans ?_
      refine (tz_g_cv2I (m2 := 243) (rc := 1) rfl rfl rfl rfl rfl rfl (by decide) (tz_in0 rfl)).trans ?_
      refine tz_jI (fun y4 A4 => ?_)
      refine (tz_g_istore (L2 := [some (.ref 157), some (.int x1), some (.int x2), some (.int (tz_g A 161 (Int32.toNatClampNeg x1))), some (.int y4), none]) rfl rfl (tz_in0 rfl)).trans ?_
      refine (tz_g_iload rfl (tz_in0 rfl)).trans ?_
      refine (tz_g_aload_n rfl (tz_in0 rfl)).trans ?_
      refine (tz_g_iload_n rfl (tz_in0 rfl)).trans ?_
      refine (tz_g_iload_n rfl (tz_in0 rfl)).trans ?_
      refine (tz_g_aload_n rfl (tz_in0 rfl)).trans ?_
      refine (tz_g_getr (j := 162) rfl rfl rfl rfl rfl (tz_in0 rfl)).trans ?_
      refine (tz_g_iload_n rfl (tz_in0 rfl)).trans ?_
      refine (tz_g_iald (n := 8) rfl rfl rfl (tz_in0 rfl)).trans ?_
      refine tz_cn1 ?_
      refine (tz_g_isub (tz_in0 rfl)).trans ?_
      refine (tz_g_cv2I (m2 := 241) (rc := 1) rfl rfl rfl rfl rfl rfl (by decide) (tz_in0 rfl)).trans ?_
      refine tz_jI (fun y5 A5 => ?_)
      refine (tz_g_ixor (tz_in0 rfl)).trans ?_
      refine (tz_g_istore (L2 := [some (.ref 157), some (.int x1), some (.int x2), some (.int (tz_g A 161 (Int32.toNatClampNeg x1))), some (.int y4), some (.int (y4 ^^^ y5))]) rfl rfl (tz_in0 rfl)).trans ?_
      refine (tz_g_iload_n rfl (tz_in0 rfl)).trans ?_
      refine (tz_g_iconst (v := 4) rfl (tz_in0 rfl)).trans ?_
      refine (tz_g_ic_eq (t := 78) (by decide) (tz_in0 rfl)).trans ?_
      refine tz_cg ?_ ?_
      · skip
        refine (tz_g_iload rfl (tz_in0 rfl)).trans ?_
        refine (tz_g_ineg (tz_in0 rfl)).trans ?_
        refine (tz_g_goto (t := 98) (by decide) (tz_in0 rfl)).trans ?_
        exact tz_g_ret1 (tz_in0 rfl) rfl
      · skip
        refine (tz_g_iload_n rfl (tz_in0 rfl)).trans ?_
        refine (tz_g_bipush (v := 6) rfl (tz_in0 rfl)).trans ?_
        refine (tz_g_ic_ne (t := 84) (by decide) (tz_in0 rfl)).trans ?_
        refine tz_cg ?_ ?_
        · skip
          refine (tz_g_iload_n rfl (tz_in0 rfl)).trans ?_
          refine (tz_g_iconst (v := 5) rfl (tz_in0 rfl)).trans ?_
          refine (tz_g_ic_ne (t := 96) (by decide) (tz_in0 rfl)).trans ?_
          refine tz_cg ?_ ?_
          · skip
            refine (tz_g_iload rfl (tz_in0 rfl)).trans ?_
            exact tz_g_ret1 (tz_in0 rfl) rfl
          · skip
            refine (tz_g_iload rfl (tz_in0 rfl)).trans ?_
            refine (tz_g_iconst (v := 5) rfl (tz_in0 rfl)).trans ?_
            refine (tz_g_ixor (tz_in0 rfl)).trans ?_
            refine (tz_g_goto (t := 98) (by decide) (tz_in0 rfl)).trans ?_
            exact tz_g_ret1 (tz_in0 rfl) rfl
        · skip
          refine (tz_g_iload rfl (tz_in0 rfl)).trans ?_
          refine (tz_g_ineg (tz_in0 rfl)).trans ?_
          refine (tz_g_goto (t := 98) (by decide) (tz_in0 rfl)).trans ?_
          exact tz_g_ret1 (tz_in0 rfl) rfl
  · skip
    refine (tz_g_iload_n rfl (tz_in0 rfl)).trans ?_
    refine (tz_g_bipush (v := 6) rfl (tz_in0 rfl)).trans ?_
    refine (tz_g_ic_ne (t := 24) (by decide) (tz_in0 rfl)).trans ?_
    refine tz_cg ?_ ?_
    · skip
      refine (tz_g_iload_n rfl (tz_in0 rfl)).trans ?_
      refine (tz_g_iconst (v := 5) rfl (tz_in0 rfl)).trans ?_
      refine (tz_g_ic_ne (t := 35) (by decide) (tz_in0 rfl)).trans ?_
      refine tz_cg ?_ ?_
      · skip
        refine (tz_g_aload_n rfl (tz_in0 rfl)).trans ?_
        refine (tz_g_bipush (v := 12) rfl (tz_in0 rfl)).trans ?_
        refine (tz_g_cv1V (m2 := 242) (rc := 0) rfl rfl rfl rfl rfl rfl (by decide) (tz_in0 rfl)).trans ?_
        refine tz_jV (fun A1 => ?_)
        refine (tz_g_aload_n rfl (tz_in0 rfl)).trans ?_
        refine (tz_g_iload_n rfl (tz_in0 rfl)).trans ?_
        refine (tz_g_iload_n rfl (tz_in0 rfl)).trans ?_
        refine (tz_g_cv2I (m2 := 243) (rc := 1) rfl rfl rfl rfl rfl rfl (by decide) (tz_in0 rfl)).trans ?_
        refine tz_jI (fun y2 A2 => ?_)
        refine (tz_g_istore (L2 := [some (.ref 157), some (.int x1), some (.int x2), some (.int (tz_g A 161 (Int32.toNatClampNeg x1))), some (.int y2), none]) rfl rfl (tz_in0 rfl)).trans ?_
        refine (tz_g_iload rfl (tz_in0 rfl)).trans ?_
        refine (tz_g_aload_n rfl (tz_in0 rfl)).trans ?_
        refine (tz_g_iload_n rfl (tz_in0 rfl)).trans ?_
        refine (tz_g_iload_n rfl (tz_in0 rfl)).trans ?_
        refine (tz_g_aload_n rfl (tz_in0 rfl)).trans ?_
        refine (tz_g_getr (j := 162) rfl rfl rfl rfl rfl (tz_in0 rfl)).trans ?_
        refine (tz_g_iload_n rfl (tz_in0 rfl)).trans ?_
        refine (tz_g_iald (n := 8) rfl rfl rfl (tz_in0 rfl)).trans ?_
        refine tz_cn1 ?_
        refine (tz_g_isub (tz_in0 rfl)).trans ?_
        refine (tz_g_cv2I (m2 := 241) (rc := 1) rfl rfl rfl rfl rfl rfl (by decide) (tz_in0 rfl)).trans ?_
        refine tz_jI (fun y3 A3 => ?_)
        refine (tz_g_ixor (tz_in0 rfl)).trans ?_
        refine (tz_g_istore (L2 := [some (.ref 157), some (.int x1), some (.int x2), some (.int (tz_g A 161 (Int32.toNatClampNeg x1))), some (.int y2), some (.int (y2 ^^^ y3))]) rfl rfl (tz_in0 rfl)).trans ?_
        refine (tz_g_iload_n rfl (tz_in0 rfl)).trans ?_
        refine (tz_g_iconst (v := 4) rfl (tz_in0 rfl)).trans ?_
        refine (tz_g_ic_eq (t := 78) (by decide) (tz_in0 rfl)).trans ?_
        refine tz_cg ?_ ?_
        · skip
          refine (tz_g_iload rfl (tz_in0 rfl)).trans ?_
          refine (tz_g_ineg (tz_in0 rfl)).trans ?_
          refine (tz_g_goto (t := 98) (by decide) (tz_in0 rfl)).trans ?_
          exact tz_g_ret1 (tz_in0 rfl) rfl
        · skip
          refine (tz_g_iload_n rfl (tz_in0 rfl)).trans ?_
          refine (tz_g_bipush (v := 6) rfl (tz_in0 rfl)).trans ?_
          refine (tz_g_ic_ne (t := 84) (by decide) (tz_in0 rfl)).trans ?_
          refine tz_cg ?_ ?_
          · skip
            refine (tz_g_iload_n rfl (tz_in0 rfl)).trans ?_
            refine (tz_g_iconst (v := 5) rfl (tz_in0 rfl)).trans ?_
            refine (tz_g_ic_ne (t := 96) (by decide) (tz_in0 rfl)).trans ?_
            refine tz_cg ?_ ?_
            · skip
              refine (tz_g_iload rfl (tz_in0 rfl)).trans ?_
              exact tz_g_ret1 (tz_in0 rfl) rfl
            · skip
              refine (tz_g_iload rfl (tz_in0 rfl)).trans ?_
              refine (tz_g_iconst (v := 5) rfl (tz_in0 rfl)).trans ?_
              refine (tz_g_ixor (tz_in0 rfl)).trans ?_
              refine (tz_g_goto (t := 98) (by decide) (tz_in0 rfl)).trans ?_
              exact tz_g_ret1 (tz_in0 rfl) rfl
          · skip
            refine (tz_g_iload rfl (tz_in0 rfl)).trans ?_
            refine (tz_g_ineg (tz_in0 rfl)).trans ?_
            refine (tz_g_goto (t := 98) (by decide) (tz_in0 rfl)).trans ?_
            exact tz_g_ret1 (tz_in0 rfl) rfl
      · skip
        refine (tz_g_aload_n rfl (tz_in0 rfl)).trans ?_
        refine (tz_g_bipush (v := 60) rfl (tz_in0 rfl)).trans ?_
        refine (tz_g_cv1V (m2 := 242) (rc := 0) rfl rfl rfl rfl rfl rfl (by decide) (tz_in0 rfl)).trans ?_
        refine tz_jV (fun A1 => ?_)
        refine (tz_g_aload_n rfl (tz_in0 rfl)).trans ?_
        refine (tz_g_bipush (v := 12) rfl (tz_in0 rfl)).trans ?_
        refine (tz_g_cv1V (m2 := 242) (rc := 0) rfl rfl rfl rfl rfl rfl (by decide) (tz_in0 rfl)).trans ?_
        refine tz_jV (fun A2 => ?_)
        refine (tz_g_aload_n rfl (tz_in0 rfl)).trans ?_
        refine (tz_g_iload_n rfl (tz_in0 rfl)).trans ?_
        refine (tz_g_iload_n rfl (tz_in0 rfl)).trans ?_
        refine (tz_g_cv2I (m2 := 243) (rc := 1) rfl rfl rfl rfl rfl rfl (by decide) (tz_in0 rfl)).trans ?_
        refine tz_jI (fun y3 A3 => ?_)
        refine (tz_g_istore (L2 := [some (.ref 157), some (.int x1), some (.int x2), some (.int (tz_g A 161 (Int32.toNatClampNeg x1))), some (.int y3), none]) rfl rfl (tz_in0 rfl)).trans ?_
        refine (tz_g_iload rfl (tz_in0 rfl)).trans ?_
        refine (tz_g_aload_n rfl (tz_in0 rfl)).trans ?_
        refine (tz_g_iload_n rfl (tz_in0 rfl)).trans ?_
        refine (tz_g_iload_n rfl (tz_in0 rfl)).trans ?_
        refine (tz_g_aload_n rfl (tz_in0 rfl)).trans ?_
        refine (tz_g_getr (j := 162) rfl rfl rfl rfl rfl (tz_in0 rfl)).trans ?_
        refine (tz_g_iload_n rfl (tz_in0 rfl)).trans ?_
        refine (tz_g_iald (n := 8) rfl rfl rfl (tz_in0 rfl)).trans ?_
        refine tz_cn1 ?_
        refine (tz_g_isub (tz_in0 rfl)).trans ?_
        refine (tz_g_cv2I (m2 := 241) (rc := 1) rfl rfl rfl rfl rfl rfl (by decide) (tz_in0 rfl)).trans ?_
        refine tz_jI (fun y4 A4 => ?_)
        refine (tz_g_ixor (tz_in0 rfl)).trans ?_
        refine (tz_g_istore (L2 := [some (.ref 157), some (.int x1), some (.int x2), some (.int (tz_g A 161 (Int32.toNatClampNeg x1))), some (.int y3), some (.int (y3 ^^^ y4))]) rfl rfl (tz_in0 rfl)).trans ?_
        refine (tz_g_iload_n rfl (tz_in0 rfl)).trans ?_
        refine (tz_g_iconst (v := 4) rfl (tz_in0 rfl)).trans ?_
        refine (tz_g_ic_eq (t := 78) (by decide) (tz_in0 rfl)).trans ?_
        refine tz_cg ?_ ?_
        · skip
          refine (tz_g_iload rfl (tz_in0 rfl)).trans ?_
          refine (tz_g_ineg (tz_in0 rfl)).trans ?_
          refine (tz_g_goto (t := 98) (by decide) (tz_in0 rfl)).trans ?_
          exact tz_g_ret1 (tz_in0 rfl) rfl
        · skip
          refine (tz_g_iload_n rfl (tz_in0 rfl)).trans ?_
          refine (tz_g_bipush (v := 6) rfl (tz_in0 rfl)).trans ?_
          refine (tz_g_ic_ne (t := 84) (by decide) (tz_in0 rfl)).trans ?_
          refine tz_cg ?_ ?_
          · skip
            refine (tz_g_iload_n rfl (tz_in0 rfl)).trans ?_
            refine (tz_g_iconst (v := 5) rfl (tz_in0 rfl)).trans ?_
            refine (tz_g_ic_ne (t := 96) (by decide) (tz_in0 rfl)).trans ?_
            refine tz_cg ?_ ?_
            · skip
              refine (tz_g_iload rfl (tz_in0 rfl)).trans ?_
              exact tz_g_ret1 (tz_in0 rfl) rfl
            · skip
              refine (tz_g_iload rfl (tz_in0 rfl)).trans ?_
              refine (tz_g_iconst (v := 5) rfl (tz_in0 rfl)).trans ?_
              refine (tz_g_ixor (tz_in0 rfl)).trans ?_
              refine (tz_g_goto (t := 98) (by decide) (tz_in0 rfl)).trans ?_
              exact tz_g_ret1 (tz_in0 rfl) rfl
          · skip
            refine (tz_g_iload rfl (tz_in0 rfl)).trans ?_
            refine (tz_g_ineg (tz_in0 rfl)).trans ?_
            refine (tz_g_goto (t := 98) (by decide) (tz_in0 rfl)).trans ?_
            exact tz_g_ret1 (tz_in0 rfl) rfl
    · skip
      refine (tz_g_aload_n rfl (tz_in0 rfl)).trans ?_
      refine (tz_g_bipush (v := 50) rfl (tz_in0 rfl)).trans ?_
      refine (tz_g_cv1V (m2 := 242) (rc := 0) rfl rfl rfl rfl rfl rfl (by decide) (tz_in0 rfl)).trans ?_
      refine tz_jV (fun A1 => ?_)
      refine (tz_g_iload_n rfl (tz_in0 rfl)).trans ?_
      refine (tz_g_iconst (v := 5) rfl (tz_in0 rfl)).trans ?_
      refine (tz_g_ic_ne (t := 35) (by decide) (tz_in0 rfl)).trans ?_
      refine tz_cg ?_ ?_
      · skip
        refine (tz_g_aload_n rfl (tz_in0 rfl)).trans ?_
        refine (tz_g_bipush (v := 12) rfl (tz_in0 rfl)).trans ?_
        refine (tz_g_cv1V (m2 := 242) (rc := 0) rfl rfl rfl rfl rfl rfl (by decide) (tz_in0 rfl)).trans ?_
        refine tz_jV (fun A2 => ?_)
        refine (tz_g_aload_n rfl (tz_in0 rfl)).trans ?_
        refine (tz_g_iload_n rfl (tz_in0 rfl)).trans ?_
        refine (tz_g_iload_n rfl (tz_in0 rfl)).trans ?_
        refine (tz_g_cv2I (m2 := 243) (rc := 1) rfl rfl rfl rfl rfl rfl (by decide) (tz_in0 rfl)).trans ?_
        refine tz_jI (fun y3 A3 => ?_)
        refine (tz_g_istore (L2 := [some (.ref 157), some (.int x1), some (.int x2), some (.int (tz_g A 161 (Int32.toNatClampNeg x1))), some (.int y3), none]) rfl rfl (tz_in0 rfl)).trans ?_
        refine (tz_g_iload rfl (tz_in0 rfl)).trans ?_
        refine (tz_g_aload_n rfl (tz_in0 rfl)).trans ?_
        refine (tz_g_iload_n rfl (tz_in0 rfl)).trans ?_
        refine (tz_g_iload_n rfl (tz_in0 rfl)).trans ?_
        refine (tz_g_aload_n rfl (tz_in0 rfl)).trans ?_
        refine (tz_g_getr (j := 162) rfl rfl rfl rfl rfl (tz_in0 rfl)).trans ?_
        refine (tz_g_iload_n rfl (tz_in0 rfl)).trans ?_
        refine (tz_g_iald (n := 8) rfl rfl rfl (tz_in0 rfl)).trans ?_
        refine tz_cn1 ?_
        refine (tz_g_isub (tz_in0 rfl)).trans ?_
        refine (tz_g_cv2I (m2 := 241) (rc := 1) rfl rfl rfl rfl rfl rfl (by decide) (tz_in0 rfl)).trans ?_
        refine tz_jI (fun y4 A4 => ?_)
        refine (tz_g_ixor (tz_in0 rfl)).trans ?_
        refine (tz_g_istore (L2 := [some (.ref 157), some (.int x1), some (.int x2), some (.int (tz_g A 161 (Int32.toNatClampNeg x1))), some (.int y3), some (.int (y3 ^^^ y4))]) rfl rfl (tz_in0 rfl)).trans ?_
        refine (tz_g_iload_n rfl (tz_in0 rfl)).trans ?_
        refine (tz_g_iconst (v := 4) rfl (tz_in0 rfl)).trans ?_
        refine (tz_g_ic_eq (t := 78) (by decide) (tz_in0 rfl)).trans ?_
        refine tz_cg ?_ ?_
        · skip
          refine (tz_g_iload rfl (tz_in0 rfl)).trans ?_
          refine (tz_g_ineg (tz_in0 rfl)).trans ?_
          refine (tz_g_goto (t := 98) (by decide) (tz_in0 rfl)).trans ?_
          exact tz_g_ret1 (tz_in0 rfl) rfl
        · skip
          refine (tz_g_iload_n rfl (tz_in0 rfl)).trans ?_
          refine (tz_g_bipush (v := 6) rfl (tz_in0 rfl)).trans ?_
          refine (tz_g_ic_ne (t := 84) (by decide) (tz_in0 rfl)).trans ?_
          refine tz_cg ?_ ?_
          · skip
            refine (tz_g_iload_n rfl (tz_in0 rfl)).trans ?_
            refine (tz_g_iconst (v := 5) rfl (tz_in0 rfl)).trans ?_
            refine (tz_g_ic_ne (t := 96) (by decide) (tz_in0 rfl)).trans ?_
            refine tz_cg ?_ ?_
            · skip
              refine (tz_g_iload rfl (tz_in0 rfl)).trans ?_
              exact tz_g_ret1 (tz_in0 rfl) rfl
            · skip
              refine (tz_g_iload rfl (tz_in0 rfl)).trans ?_
              refine (tz_g_iconst (v := 5) rfl (tz_in0 rfl)).trans ?_
              refine (tz_g_ixor (tz_in0 rfl)).trans ?_
              refine (tz_g_goto (t := 98) (by decide) (tz_in0 rfl)).trans ?_
              exact tz_g_ret1 (tz_in0 rfl) rfl
          · skip
            refine (tz_g_iload rfl (tz_in0 rfl)).trans ?_
            refine (tz_g_ineg (tz_in0 rfl)).trans ?_
            refine (tz_g_goto (t := 98) (by decide) (tz_in0 rfl)).trans ?_
            exact tz_g_ret1 (tz_in0 rfl) rfl
      · skip
        refine (tz_g_aload_n rfl (tz_in0 rfl)).trans ?_
        refine (tz_g_bipush (v := 60) rfl (tz_in0 rfl)).trans ?_
        refine (tz_g_cv1V (m2 := 242) (rc := 0) rfl rfl rfl rfl rfl rfl (by decide) (tz_in0 rfl)).trans ?_
        refine tz_jV (fun A2 => ?_)
        refine (tz_g_aload_n rfl (tz_in0 rfl)).trans ?_
        refine (tz_g_bipush (v := 12) rfl (tz_in0 rfl)).trans ?_
        refine (tz_g_cv1V (m2 := 242) (rc := 0) rfl rfl rfl rfl rfl rfl (by decide) (tz_in0 rfl)).trans ?_
        refine tz_jV (fun A3 => ?_)
        refine (tz_g_aload_n rfl (tz_in0 rfl)).trans ?_
        refine (tz_g_iload_n rfl (tz_in0 rfl)).trans ?_
        refine (tz_g_iload_n rfl (tz_in0 rfl)).trans ?_
        refine (tz_g_cv2I (m2 := 243) (rc := 1) rfl rfl rfl rfl rfl rfl (by decide) (tz_in0 rfl)).trans ?_
        refine tz_jI (fun y4 A4 => ?_)
        refine (tz_g_istore (L2 := [some (.ref 157), some (.int x1), some (.int x2), some (.int (tz_g A 161 (Int32.toNatClampNeg x1))), some (.int y4), none]) rfl rfl (tz_in0 rfl)).trans ?_
        refine (tz_g_iload rfl (tz_in0 rfl)).trans ?_
        refine (tz_g_aload_n rfl (tz_in0 rfl)).trans ?_
        refine (tz_g_iload_n rfl (tz_in0 rfl)).trans ?_
        refine (tz_g_iload_n rfl (tz_in0 rfl)).trans ?_
        refine (tz_g_aload_n rfl (tz_in0 rfl)).trans ?_
        refine (tz_g_getr (j := 162) rfl rfl rfl rfl rfl (tz_in0 rfl)).trans ?_
        refine (tz_g_iload_n rfl (tz_in0 rfl)).trans ?_
        refine (tz_g_iald (n := 8) rfl rfl rfl (tz_in0 rfl)).trans ?_
        refine tz_cn1 ?_
        refine (tz_g_isub (tz_in0 rfl)).trans ?_
        refine (tz_g_cv2I (m2 := 241) (rc := 1) rfl rfl rfl rfl rfl rfl (by decide) (tz_in0 rfl)).trans ?_
        refine tz_jI (fun y5 A5 => ?_)
        refine (tz_g_ixor (tz_in0 rfl)).trans ?_
        refine (tz_g_istore (L2 := [some (.ref 157), some (.int x1), some (.int x2), some (.int (tz_g A 161 (Int32.toNatClampNeg x1))), some (.int y4), some (.int (y4 ^^^ y5))]) rfl rfl (tz_in0 rfl)).trans ?_
        refine (tz_g_iload_n rfl (tz_in0 rfl)).trans ?_
        refine (tz_g_iconst (v := 4) rfl (tz_in0 rfl)).trans ?_
        refine (tz_g_ic_eq (t := 78) (by decide) (tz_in0 rfl)).trans ?_
        refine tz_cg ?_ ?_
        · skip
          refine (tz_g_iload rfl (tz_in0 rfl)).trans ?_
          refine (tz_g_ineg (tz_in0 rfl)).trans ?_
          refine (tz_g_goto (t := 98) (by decide) (tz_in0 rfl)).trans ?_
          exact tz_g_ret1 (tz_in0 rfl) rfl
        · skip
          refine (tz_g_iload_n rfl (tz_in0 rfl)).trans ?_
          refine (tz_g_bipush (v := 6) rfl (tz_in0 rfl)).trans ?_
          refine (tz_g_ic_ne (t := 84) (by decide) (tz_in0 rfl)).trans ?_
          refine tz_cg ?_ ?_
          · skip
            refine (tz_g_iload_n rfl (tz_in0 rfl)).trans ?_
            refine (tz_g_iconst (v := 5) rfl (tz_in0 rfl)).trans ?_
            refine (tz_g_ic_ne (t := 96) (by decide) (tz_in0 rfl)).trans ?_
            refine tz_cg ?_ ?_
            · skip
              refine (tz_g_iload rfl (tz_in0 rfl)).trans ?_
              exact tz_g_ret1 (tz_in0 rfl) rfl
            · skip
              refine (tz_g_iload rfl (tz_in0 rfl)).trans ?_
              refine (tz_g_iconst (v := 5) rfl (tz_in0 rfl)).trans ?_
              refine (tz_g_ixor (tz_in0 rfl)).trans ?_
              refine (tz_g_goto (t := 98) (by decide) (tz_in0 rfl)).trans ?_
              exact tz_g_ret1 (tz_in0 rfl) rfl
          · skip
            refine (tz_g_iload rfl (tz_in0 rfl)).trans ?_
            refine (tz_g_ineg (tz_in0 rfl)).trans ?_
            refine (tz_g_goto (t := 98) (by decide) (tz_in0 rfl)).trans ?_
            exact tz_g_ret1 (tz_in0 rfl) rfl

theorem e_X7_countSame_s5 (A : tz_Mem) : f_X7_countSame_s5 A =
  q_X7_countSame_s5_2 0 A := by
  refine (tz_Fe (L := [some (.ref 122), some (.ref 5), none]) rfl).trans ?_
  refine (tz_g_iconst (v := 0) rfl (tz_in0 rfl)).trans ?_
  refine (tz_g_istore_n (L2 := [some (.ref 122), some (.ref 5), some (.int 0)]) rfl rfl (tz_in0 rfl)).trans ?_
  exact tz_Gm (L2 := [some (.ref 122), some (.ref 5), some (.int 0)]) rfl rfl rfl rfl

theorem e_X7_countSame_s5_2 (z2 : Int32) (A : tz_Mem) : q_X7_countSame_s5_2 z2 A =
  tz_bI (f_J0_length_s5 A) (fun y1 A1 =>
if y1 ≤ z2 then
  some (some (.int z2), A1)
else
  if (tz_g A1 122 4) ≤ ((tz_g A1 122 5) + z2) then
    some (some (.int z2), A1)
  else
    if ((tz_g A1 122 5) + z2) < 0 ∨ 160 ≤ (Int32.toNatClampNeg ((tz_g A1 122 5) + z2)) then none else
    tz_bI (f_J0_charAt_s5 z2 A1) (fun y2 A2 =>
    if ¬ (tz_g A1 123 (Int32.toNatClampNeg ((tz_g A1 122 5) + z2))) = y2 then
      some (some (.int z2), A2)
    else
      q_X7_countSame_s5_2 (z2 + 1) A2)) := by
  show tz_Go 75 2 [some (.ref 122), some (.ref 5), some (.int z2)] [] A = _
  refine (tz_g_iload_n rfl (tz_inM rfl rfl rfl)).trans ?_
  refine (tz_g_aload_n rfl (tz_in0 rfl)).trans ?_
  refine (tz_g_cv0I (m2 := 76) (rc := 1) rfl rfl rfl rfl rfl rfl (by decide) (tz_in0 rfl)).trans ?_
  refine tz_jI (fun y1 A1 => ?_)
  refine (tz_g_ic_ge (t := 48) (by decide) (tz_in0 rfl)).trans ?_
  refine tz_cg ?_ ?_
  · skip
    refine (tz_g_iload_n rfl (tz_in0 rfl)).trans ?_
    exact tz_g_ret1 (tz_in0 rfl) rfl
  · skip
    refine (tz_g_aload_n rfl (tz_in0 rfl)).trans ?_
    refine (tz_g_geti rfl rfl rfl (tz_in0 rfl)).trans ?_
    refine (tz_g_iload_n rfl (tz_in0 rfl)).trans ?_
    refine (tz_g_iadd (tz_in0 rfl)).trans ?_
    refine (tz_g_aload_n rfl (tz_in0 rfl)).trans ?_
    refine (tz_g_geti rfl rfl rfl (tz_in0 rfl)).trans ?_
    refine (tz_g_ic_ge (t := 48) (by decide) (tz_in0 rfl)).trans ?_
    refine tz_cg ?_ ?_
    · skip
      refine (tz_g_iload_n rfl (tz_in0 rfl)).trans ?_
      exact tz_g_ret1 (tz_in0 rfl) rfl
    · skip
      refine (tz_g_aload_n rfl (tz_in0 rfl)).trans ?_
      refine (tz_g_getr (j := 123) rfl rfl rfl rfl rfl (tz_in0 rfl)).trans ?_
      refine (tz_g_aload_n rfl (tz_in0 rfl)).trans ?_
      refine (tz_g_geti rfl rfl rfl (tz_in0 rfl)).trans ?_
      refine (tz_g_iload_n rfl (tz_in0 rfl)).trans ?_
      refine (tz_g_iadd (tz_in0 rfl)).trans ?_
      refine (tz_g_iald (n := 160) rfl rfl rfl (tz_in0 rfl)).trans ?_
      refine tz_cn1 ?_
      refine (tz_g_aload_n rfl (tz_in0 rfl)).trans ?_
      refine (tz_g_iload_n rfl (tz_in0 rfl)).trans ?_
      refine (tz_g_cv1I (m2 := 78) (rc := 5) rfl rfl rfl rfl rfl rfl (by decide) (tz_in0 rfl)).trans ?_
      refine tz_jI (fun y2 A2 => ?_)
      refine (tz_g_ic_ne (t := 48) (by decide) (tz_in0 rfl)).trans ?_
      refine tz_cg ?_ ?_
      · skip
        refine (tz_g_iload_n rfl (tz_in0 rfl)).trans ?_
        exact tz_g_ret1 (tz_in0 rfl) rfl
      · skip
        refine (tz_g_iinc (v := 1) (L2 := [some (.ref 122), some (.ref 5), some (.int (z2 + 1))]) rfl rfl rfl rfl (tz_in0 rfl)).trans ?_
        refine (tz_g_goto (t := 2) (by decide) (tz_in0 rfl)).trans ?_
        exact tz_Gm (L2 := [some (.ref 122), some (.ref 5), some (.int (z2 + 1))]) rfl rfl rfl rfl

theorem e_X7_countSame_s6 (A : tz_Mem) : f_X7_countSame_s6 A =
  q_X7_countSame_s6_2 0 A := by
  refine (tz_Fe (L := [some (.ref 122), some (.ref 6), none]) rfl).trans ?_
  refine (tz_g_iconst (v := 0) rfl (tz_in0 rfl)).trans ?_
  refine (tz_g_istore_n (L2 := [some (.ref 122), some (.ref 6), some (.int 0)]) rfl rfl (tz_in0 rfl)).trans ?_
  exact tz_Gm (L2 := [some (.ref 122), some (.ref 6), some (.int 0)]) rfl rfl rfl rfl

theorem e_X7_countSame_s6_2 (z2 : Int32) (A : tz_Mem) : q_X7_countSame_s6_2 z2 A =
  tz_bI (f_J0_length_s6 A) (fun y1 A1 =>
if y1 ≤ z2 then
  some (some (.int z2), A1)
else
  if (tz_g A1 122 4) ≤ ((tz_g A1 122 5) + z2) then
    some (some (.int z2), A1)
  else
    if ((tz_g A1 122 5) + z2) < 0 ∨ 160 ≤ (Int32.toNatClampNeg ((tz_g A1 122 5) + z2)) then none else
    tz_bI (f_J0_charAt_s6 z2 A1) (fun y2 A2 =>
    if ¬ (tz_g A1 123 (Int32.toNatClampNeg ((tz_g A1 122 5) + z2))) = y2 then
      some (some (.int z2), A2)
    else
      q_X7_countSame_s6_2 (z2 + 1) A2)) := by
  show tz_Go 75 2 [some (.ref 122), some (.ref 6), some (.int z2)] [] A = _
  refine (tz_g_iload_n rfl (tz_inM rfl rfl rfl)).trans ?_
  refine (tz_g_aload_n rfl (tz_in0 rfl)).trans ?_
  refine (tz_g_cv0I (m2 := 76) (rc := 1) rfl rfl rfl rfl rfl rfl (by decide) (tz_in0 rfl)).trans ?_
  refine tz_jI (fun y1 A1 => ?_)
  refine (tz_g_ic_ge (t := 48) (by decide) (tz_in0 rfl)).trans ?_
  refine tz_cg ?_ ?_
  · skip
    refine (tz_g_iload_n rfl (tz_in0 rfl)).trans ?_
    exact tz_g_ret1 (tz_in0 rfl) rfl
  · skip
    refine (tz_g_aload_n rfl (tz_in0 rfl)).trans ?_
    refine (tz_g_geti rfl rfl rfl (tz_in0 rfl)).trans ?_
    refine (tz_g_iload_n rfl (tz_in0 rfl)).trans ?_
    refine (tz_g_iadd (tz_in0 rfl)).trans ?_
    refine (tz_g_aload_n rfl (tz_in0 rfl)).trans ?_
    refine (tz_g_geti rfl rfl rfl (tz_in0 rfl)).trans ?_
    refine (tz_g_ic_ge (t := 48) (by decide) (tz_in0 rfl)).trans ?_
    refine tz_cg ?_ ?_
    · skip
      refine (tz_g_iload_n rfl (tz_in0 rfl)).trans ?_
      exact tz_g_ret1 (tz_in0 rfl) rfl
    · skip
      refine (tz_g_aload_n rfl (tz_in0 rfl)).trans ?_
      refine (tz_g_getr (j := 123) rfl rfl rfl rfl rfl (tz_in0 rfl)).trans ?_
      refine (tz_g_aload_n rfl (tz_in0 rfl)).trans ?_
      refine (tz_g_geti rfl rfl rfl (tz_in0 rfl)).trans ?_
      refine (tz_g_iload_n rfl (tz_in0 rfl)).trans ?_
      refine (tz_g_iadd (tz_in0 rfl)).trans ?_
      refine (tz_g_iald (n := 160) rfl rfl rfl (tz_in0 rfl)).trans ?_
      refine tz_cn1 ?_
      refine (tz_g_aload_n rfl (tz_in0 rfl)).trans ?_
      refine (tz_g_iload_n rfl (tz_in0 rfl)).trans ?_
      refine (tz_g_cv1I (m2 := 78) (rc := 5) rfl rfl rfl rfl rfl rfl (by decide) (tz_in0 rfl)).trans ?_
      refine tz_jI (fun y2 A2 => ?_)
      refine (tz_g_ic_ne (t := 48) (by decide) (tz_in0 rfl)).trans ?_
      refine tz_cg ?_ ?_
      · skip
        refine (tz_g_iload_n rfl (tz_in0 rfl)).trans ?_
        exact tz_g_ret1 (tz_in0 rfl) rfl
      · skip
        refine (tz_g_iinc (v := 1) (L2 := [some (.ref 122), some (.ref 6), some (.int (z2 + 1))]) rfl rfl rfl rfl (tz_in0 rfl)).trans ?_
        refine (tz_g_goto (t := 2) (by decide) (tz_in0 rfl)).trans ?_
        exact tz_Gm (L2 := [some (.ref 122), some (.ref 6), some (.int (z2 + 1))]) rfl rfl rfl rfl

theorem e_X7_countSame_s7 (A : tz_Mem) : f_X7_countSame_s7 A =
  q_X7_countSame_s7_2 0 A := by
  refine (tz_Fe (L := [some (.ref 122), some (.ref 7), none]) rfl).trans ?_
  refine (tz_g_iconst (v := 0) rfl (tz_in0 rfl)).trans ?_
  refine (tz_g_istore_n (L2 := [some (.ref 122), some (.ref 7), some (.int 0)]) rfl rfl (tz_in0 rfl)).trans ?_
  exact tz_Gm (L2 := [some (.ref 122), some (.ref 7), some (.int 0)]) rfl rfl rfl rfl

theorem e_X7_countSame_s7_2 (z2 : Int32) (A : tz_Mem) : q_X7_countSame_s7_2 z2 A =
  tz_bI (f_J0_length_s7 A) (fun y1 A1 =>
if y1 ≤ z2 then
  some (some (.int z2), A1)
else
  if (tz_g A1 122 4) ≤ ((tz_g A1 122 5) + z2) then
    some (some (.int z2), A1)
  else
    if ((tz_g A1 122 5) + z2) < 0 ∨ 160 ≤ (Int32.toNatClampNeg ((tz_g A1 122 5) + z2)) then none else
    tz_bI (f_J0_charAt_s7 z2 A1) (fun y2 A2 =>
    if ¬ (tz_g A1 123 (Int32.toNatClampNeg ((tz_g A1 122 5) + z2))) = y2 then
      some (some (.int z2), A2)
    else
      q_X7_countSame_s7_2 (z2 + 1) A2)) := by
  show tz_Go 75 2 [some (.ref 122), some (.ref 7), some (.int z2)] [] A = _
  refine (tz_g_iload_n rfl (tz_inM rfl rfl rfl)).trans ?_
  refine (tz_g_aload_n rfl (tz_in0 rfl)).trans ?_
  refine (tz_g_cv0I (m2 := 76) (rc := 1) rfl rfl rfl rfl rfl rfl (by decide) (tz_in0 rfl)).trans ?_
  refine tz_jI (fun y1 A1 => ?_)
  refine (tz_g_ic_ge (t := 48) (by decide) (tz_in0 rfl)).trans ?_
  refine tz_cg ?_ ?_
  · skip
    refine (tz_g_iload_n rfl (tz_in0 rfl)).trans ?_
    exact tz_g_ret1 (tz_in0 rfl) rfl
  · skip
    refine (tz_g_aload_n rfl (tz_in0 rfl)).trans ?_
    refine (tz_g_geti rfl rfl rfl (tz_in0 rfl)).trans ?_
    refine (tz_g_iload_n rfl (tz_in0 rfl)).trans ?_
    refine (tz_g_iadd (tz_in0 rfl)).trans ?_
    refine (tz_g_aload_n rfl (tz_in0 rfl)).trans ?_
    refine (tz_g_geti rfl rfl rfl (tz_in0 rfl)).trans ?_
    refine (tz_g_ic_ge (t := 48) (by decide) (tz_in0 rfl)).trans ?_
    refine tz_cg ?_ ?_
    · skip
      refine (tz_g_iload_n rfl (tz_in0 rfl)).trans ?_
      exact tz_g_ret1 (tz_in0 rfl) rfl
    · skip
      refine (tz_g_aload_n rfl (tz_in0 rfl)).trans ?_
      refine (tz_g_getr (j := 123) rfl rfl rfl rfl rfl (tz_in0 rfl)).trans ?_
      refine (tz_g_aload_n rfl (tz_in0 rfl)).trans ?_
      refine (tz_g_geti rfl rfl rfl (tz_in0 rfl)).trans ?_
      refine (tz_g_iload_n rfl (tz_in0 rfl)).trans ?_
      refine (tz_g_iadd (tz_in0 rfl)).trans ?_
      refine (tz_g_iald (n := 160) rfl rfl rfl (tz_in0 rfl)).trans ?_
      refine tz_cn1 ?_
      refine (tz_g_aload_n rfl (tz_in0 rfl)).trans ?_
      refine (tz_g_iload_n rfl (tz_in0 rfl)).trans ?_
      refine (tz_g_cv1I (m2 := 78) (rc := 5) rfl rfl rfl rfl rfl rfl (by decide) (tz_in0 rfl)).trans ?_
      refine tz_jI (fun y2 A2 => ?_)
      refine (tz_g_ic_ne (t := 48) (by decide) (tz_in0 rfl)).trans ?_
      refine tz_cg ?_ ?_
      · skip
        refine (tz_g_iload_n rfl (tz_in0 rfl)).trans ?_
        exact tz_g_ret1 (tz_in0 rfl) rfl
      · skip
        refine (tz_g_iinc (v := 1) (L2 := [some (.ref 122), some (.ref 7), some (.int (z2 + 1))]) rfl rfl rfl rfl (tz_in0 rfl)).trans ?_
        refine (tz_g_goto (t := 2) (by decide) (tz_in0 rfl)).trans ?_
        exact tz_Gm (L2 := [some (.ref 122), some (.ref 7), some (.int (z2 + 1))]) rfl rfl rfl rfl

theorem e_X7_countSame_s8 (A : tz_Mem) : f_X7_countSame_s8 A =
  q_X7_countSame_s8_2 0 A := by
  refine (tz_Fe (L := [some (.ref 122), some (.ref 8), none]) rfl).trans ?_
  refine (tz_g_iconst (v := 0) rfl (tz_in0 rfl)).trans ?_
  refine (tz_g_istore_n (L2 := [some (.ref 122), some (.ref 8), some (.int 0)]) rfl rfl (tz_in0 rfl)).trans ?_
  exact tz_Gm (L2 := [some (.ref 122), some (.ref 8), some (.int 0)]) rfl rfl rfl rfl

theorem e_X7_countSame_s8_2 (z2 : Int32) (A : tz_Mem) : q_X7_countSame_s8_2 z2 A =
  tz_bI (f_J0_length_s8 A) (fun y1 A1 =>
if y1 ≤ z2 then
  some (some (.int z2), A1)
else
  if (tz_g A1 122 4) ≤ ((tz_g A1 122 5) + z2) then
    some (some (.int z2), A1)
  else
    if ((tz_g A1 122 5) + z2) < 0 ∨ 160 ≤ (Int32.toNatClampNeg ((tz_g A1 122 5) + z2)) then none else
    tz_bI (f_J0_charAt_s8 z2 A1) (fun y2 A2 =>
    if ¬ (tz_g A1 123 (Int32.toNatClampNeg ((tz_g A1 122 5) + z2))) = y2 then
      some (some (.int z2), A2)
    else
      q_X7_countSame_s8_2 (z2 + 1) A2)) := by
  show tz_Go 75 2 [some (.ref 122), some (.ref 8), some (.int z2)] [] A = _
  refine (tz_g_iload_n rfl (tz_inM rfl rfl rfl)).trans ?_
  refine (tz_g_aload_n rfl (tz_in0 rfl)).trans ?_
  refine (tz_g_cv0I (m2 := 76) (rc := 1) rfl rfl rfl rfl rfl rfl (by decide) (tz_in0 rfl)).trans ?_
  refine tz_jI (fun y1 A1 => ?_)
  refine (tz_g_ic_ge (t := 48) (by decide) (tz_in0 rfl)).trans ?_
  refine tz_cg ?_ ?_
  · skip
    refine (tz_g_iload_n rfl (tz_in0 rfl)).trans ?_
    exact tz_g_ret1 (tz_in0 rfl) rfl
  · skip
    refine (tz_g_aload_n rfl (tz_in0 rfl)).trans ?_
    refine (tz_g_geti rfl rfl rfl (tz_in0 rfl)).trans ?_
    refine (tz_g_iload_n rfl (tz_in0 rfl)).trans ?_
    refine (tz_g_iadd (tz_in0 rfl)).trans ?_
    refine (tz_g_aload_n rfl (tz_in0 rfl)).trans ?_
    refine (tz_g_geti rfl rfl rfl (tz_in0 rfl)).trans ?_
    refine (tz_g_ic_ge (t := 48) (by decide) (tz_in0 rfl)).trans ?_
    refine tz_cg ?_ ?_
    · skip
      refine (tz_g_iload_n rfl (tz_in0 rfl)).trans ?_
      exact tz_g_ret1 (tz_in0 rfl) rfl
    · skip
      refine (tz_g_aload_n rfl (tz_in0 rfl)).trans ?_
      refine (tz_g_getr (j := 123) rfl rfl rfl rfl rfl (tz_in0 rfl)).trans ?_
      refine (tz_g_aload_n rfl (tz_in0 rfl)).trans ?_
      refine (tz_g_geti rfl rfl rfl (tz_in0 rfl)).trans ?_
      refine (tz_g_iload_n rfl (tz_in0 rfl)).trans ?_
      refine (tz_g_iadd (tz_in0 rfl)).trans ?_
      refine (tz_g_iald (n := 160) rfl rfl rfl (tz_in0 rfl)).trans ?_
      refine tz_cn1 ?_
      refine (tz_g_aload_n rfl (tz_in0 rfl)).trans ?_
      refine (tz_g_iload_n rfl (tz_in0 rfl)).trans ?_
      refine (tz_g_cv1I (m2 := 78) (rc := 5) rfl rfl rfl rfl rfl rfl (by decide) (tz_in0 rfl)).trans ?_
      refine tz_jI (fun y2 A2 => ?_)
      refine (tz_g_ic_ne (t := 48) (by decide) (tz_in0 rfl)).trans ?_
      refine tz_cg ?_ ?_
      · skip
        refine (tz_g_iload_n rfl (tz_in0 rfl)).trans ?_
        exact tz_g_ret1 (tz_in0 rfl) rfl
      · skip
        refine (tz_g_iinc (v := 1) (L2 := [some (.ref 122), some (.ref 8), some (.int (z2 + 1))]) rfl rfl rfl rfl (tz_in0 rfl)).trans ?_
        refine (tz_g_goto (t := 2) (by decide) (tz_in0 rfl)).trans ?_
        exact tz_Gm (L2 := [some (.ref 122), some (.ref 8), some (.int (z2 + 1))]) rfl rfl rfl rfl

theorem e_X7_countSame_s9 (A : tz_Mem) : f_X7_countSame_s9 A =
  q_X7_countSame_s9_2 0 A := by
  refine (tz_Fe (L := [some (.ref 122), some (.ref 9), none]) rfl).trans ?_
  refine (tz_g_iconst (v := 0) rfl (tz_in0 rfl)).trans ?_
  refine (tz_g_istore_n (L2 := [some (.ref 122), some (.ref 9), some (.int 0)]) rfl rfl (tz_in0 rfl)).trans ?_
  exact tz_Gm (L2 := [some (.ref 122), some (.ref 9), some (.int 0)]) rfl rfl rfl rfl

theorem e_X7_countSame_s9_2 (z2 : Int32) (A : tz_Mem) : q_X7_countSame_s9_2 z2 A =
  tz_bI (f_J0_length_s9 A) (fun y1 A1 =>
if y1 ≤ z2 then
  some (some (.int z2), A1)
else
  if (tz_g A1 122 4) ≤ ((tz_g A1 122 5) + z2) then
    some (some (.int z2), A1)
  else
    if ((tz_g A1 122 5) + z2) < 0 ∨ 160 ≤ (Int32.toNatClampNeg ((tz_g A1 122 5) + z2)) then none else
    tz_bI (f_J0_charAt_s9 z2 A1) (fun y2 A2 =>
    if ¬ (tz_g A1 123 (Int32.toNatClampNeg ((tz_g A1 122 5) + z2))) = y2 then
      some (some (.int z2), A2)
    else
      q_X7_countSame_s9_2 (z2 + 1) A2)) := by
  show tz_Go 75 2 [some (.ref 122), some (.ref 9), some (.int z2)] [] A = _
  refine (tz_g_iload_n rfl (tz_inM rfl rfl rfl)).trans ?_
  refine (tz_g_aload_n rfl (tz_in0 rfl)).trans ?_
  refine (tz_g_cv0I (m2 := 76) (rc := 1) rfl rfl rfl rfl rfl rfl (by decide) (tz_in0 rfl)).trans ?_
  refine tz_jI (fun y1 A1 => ?_)
  refine (tz_g_ic_ge (t := 48) (by decide) (tz_in0 rfl)).trans ?_
  refine tz_cg ?_ ?_
  · skip
    refine (tz_g_iload_n rfl (tz_in0 rfl)).trans ?_
    exact tz_g_ret1 (tz_in0 rfl) rfl
  · skip
    refine (tz_g_aload_n rfl (tz_in0 rfl)).trans ?_
    refine (tz_g_geti rfl rfl rfl (tz_in0 rfl)).trans ?_
    refine (tz_g_iload_n rfl (tz_in0 rfl)).trans ?_
    refine (tz_g_iadd (tz_in0 rfl)).trans ?_
    refine (tz_g_aload_n rfl (tz_in0 rfl)).trans ?_
    refine (tz_g_geti rfl rfl rfl (tz_in0 rfl)).trans ?_
    refine (tz_g_ic_ge (t := 48) (by decide) (tz_in0 rfl)).trans ?_
    refine tz_cg ?_ ?_
    · skip
      refine (tz_g_iload_n rfl (tz_in0 rfl)).trans ?_
      exact tz_g_ret1 (tz_in0 rfl) rfl
    · skip
      refine (tz_g_aload_n rfl (tz_in0 rfl)).trans ?_
      refine (tz_g_getr (j := 123) rfl rfl rfl rfl rfl (tz_in0 rfl)).trans ?_
      refine (tz_g_aload_n rfl (tz_in0 rfl)).trans ?_
      refine (tz_g_geti rfl rfl rfl (tz_in0 rfl)).trans ?_
      refine (tz_g_iload_n rfl (tz_in0 rfl)).trans ?_
      refine (tz_g_iadd (tz_in0 rfl)).trans ?_
      refine (tz_g_iald (n := 160) rfl rfl rfl (tz_in0 rfl)).trans ?_
      refine tz_cn1 ?_
      refine (tz_g_aload_n rfl (tz_in0 rfl)).trans ?_
      refine (tz_g_iload_n rfl (tz_in0 rfl)).trans ?_
      refine (tz_g_cv1I (m2 := 78) (rc := 5) rfl rfl rfl rfl rfl rfl (by decide) (tz_in0 rfl)).trans ?_
      refine tz_jI (fun y2 A2 => ?_)
      refine (tz_g_ic_ne (t := 48) (by decide) (tz_in0 rfl)).trans ?_
      refine tz_cg ?_ ?_
      · skip
        refine (tz_g_iload_n rfl (tz_in0 rfl)).trans ?_
        exact tz_g_ret1 (tz_in0 rfl) rfl
      · skip
        refine (tz_g_iinc (v := 1) (L2 := [some (.ref 122), some (.ref 9), some (.int (z2 + 1))]) rfl rfl rfl rfl (tz_in0 rfl)).trans ?_
        refine (tz_g_goto (t := 2) (by decide) (tz_in0 rfl)).trans ?_
        exact tz_Gm (L2 := [some (.ref 122), some (.ref 9), some (.int (z2 + 1))]) rfl rfl rfl rfl

theorem e_X7_readStorm (A : tz_Mem) : f_X7_readStorm A =
  tz_bI (f_X7_readNumber 1 9 A) (fun y1 A1 =>
tz_bI (f_X7_readNumber 1 99 A1) (fun y2 A2 =>
tz_bI (f_X7_readNumber 1 9 A2) (fun y3 A3 =>
tz_bI (f_X7_readWay A3) (fun y4 A4 =>
if ¬ (tz_g A4 122 0) = (-1) then
  some (none, A4)
else
  tz_bI (f_X10_add_s147 124 y4 y1 y2 y3 A4) (fun y5 A5 =>
  some (none, A5)))))) := by
  refine (tz_Fe (L := [some (.ref 122), none, none, none, none]) rfl).trans ?_
  refine (tz_g_aload_n rfl (tz_in0 rfl)).trans ?_
  refine (tz_g_iconst (v := 1) rfl (tz_in0 rfl)).trans ?_
  refine (tz_g_bipush (v := 9) rfl (tz_in0 rfl)).trans ?_
  refine (tz_g_cv2I (m2 := 85) (rc := 1) rfl rfl rfl rfl rfl rfl (by decide) (tz_in0 rfl)).trans ?_
  refine tz_jI (fun y1 A1 => ?_)
  refine (tz_g_istore_n (L2 := [some (.ref 122), some (.int y1), none, none, none]) rfl rfl (tz_in0 rfl)).trans ?_
  refine (tz_g_aload_n rfl (tz_in0 rfl)).trans ?_
  refine (tz_g_iconst (v := 1) rfl (tz_in0 rfl)).trans ?_
  refine (tz_g_bipush (v := 99) rfl (tz_in0 rfl)).trans ?_
  refine (tz_g_cv2I (m2 := 85) (rc := 1) rfl rfl rfl rfl rfl rfl (by decide) (tz_in0 rfl)).trans ?_
  refine tz_jI (fun y2 A2 => ?_)
  refine (tz_g_istore_n (L2 := [some (.ref 122), some (.int y1), some (.int y2), none, none]) rfl rfl (tz_in0 rfl)).trans ?_
  refine (tz_g_aload_n rfl (tz_in0 rfl)).trans ?_
  refine (tz_g_iconst (v := 1) rfl (tz_in0 rfl)).trans ?_
  refine (tz_g_bipush (v := 9) rfl (tz_in0 rfl)).trans ?_
  refine (tz_g_cv2I (m2 := 85) (rc := 1) rfl rfl rfl rfl rfl rfl (by decide) (tz_in0 rfl)).trans ?_
  refine tz_jI (fun y3 A3 => ?_)
  refine (tz_g_istore_n (L2 := [some (.ref 122), some (.int y1), some (.int y2), some (.int y3), none]) rfl rfl (tz_in0 rfl)).trans ?_
  refine (tz_g_aload_n rfl (tz_in0 rfl)).trans ?_
  refine (tz_g_cv0I (m2 := 89) (rc := 1) rfl rfl rfl rfl rfl rfl (by decide) (tz_in0 rfl)).trans ?_
  refine tz_jI (fun y4 A4 => ?_)
  refine (tz_g_istore (L2 := [some (.ref 122), some (.int y1), some (.int y2), some (.int y3), some (.int y4)]) rfl rfl (tz_in0 rfl)).trans ?_
  refine (tz_g_aload_n rfl (tz_in0 rfl)).trans ?_
  refine (tz_g_geti rfl rfl rfl (tz_in0 rfl)).trans ?_
  refine (tz_g_iconst (v := (-1)) rfl (tz_in0 rfl)).trans ?_
  refine (tz_g_ic_ne (t := 58) (by decide) (tz_in0 rfl)).trans ?_
  refine tz_cg ?_ ?_
  · skip
    exact tz_g_ret0 (tz_in0 rfl) rfl
  · skip
    refine (tz_g_aload_n rfl (tz_in0 rfl)).trans ?_
    refine (tz_g_getr (j := 124) rfl rfl rfl rfl rfl (tz_in0 rfl)).trans ?_
    refine (tz_g_getr (j := 131) rfl rfl rfl rfl rfl (tz_in0 rfl)).trans ?_
    refine (tz_g_aload_n rfl (tz_in0 rfl)).trans ?_
    refine (tz_g_getr (j := 147) rfl rfl rfl rfl rfl (tz_in0 rfl)).trans ?_
    refine (tz_g_iload rfl (tz_in0 rfl)).trans ?_
    refine (tz_g_iload_n rfl (tz_in0 rfl)).trans ?_
    refine (tz_g_iload_n rfl (tz_in0 rfl)).trans ?_
    refine (tz_g_iload_n rfl (tz_in0 rfl)).trans ?_
    refine (tz_g_cv5I (m2 := 47) (rc := 1) rfl rfl rfl rfl rfl rfl (by decide) (tz_in0 rfl)).trans ?_
    refine tz_jI (fun y5 A5 => ?_)
    refine (tz_g_pop rfl (tz_in0 rfl)).trans ?_
    exact tz_g_ret0 (tz_in0 rfl) rfl

theorem e_X9_tick (b : Nat) (hb : tz_sky b) (A : tz_Mem) : f_X9_tick b A =
  q_X9_tick_12 b 0 (tz_s A b 3 ((tz_g A b 3) + 1)) := by
  obtain rfl | rfl | rfl | rfl | rfl := hb
  all_goals
    refine (tz_Fe (L := [some (.ref _), none]) rfl).trans ?_
    refine (tz_g_aload_n rfl (tz_in0 rfl)).trans ?_
    refine (tz_g_dup rfl (tz_in0 rfl)).trans ?_
    refine (tz_g_geti rfl rfl rfl (tz_in0 rfl)).trans ?_
    refine (tz_g_iconst (v := 1) rfl (tz_in0 rfl)).trans ?_
    refine (tz_g_iadd (tz_in0 rfl)).trans ?_
    refine (tz_g_puti rfl rfl rfl (tz_in0 rfl)).trans ?_
    refine (tz_g_iconst (v := 0) rfl (tz_in0 rfl)).trans ?_
    refine (tz_g_istore_n (L2 := [some (.ref _), some (.int 0)]) rfl rfl (tz_in0 rfl)).trans ?_
    exact tz_Gm (L2 := [some (.ref _), some (.int 0)]) rfl rfl rfl rfl

theorem e_X9_tick_12 (b : Nat) (z1 : Int32) (hb : tz_sky b) (A : tz_Mem) : q_X9_tick_12 b z1 A =
  if (tz_g A (b + 7) 0) ≤ z1 then
  some (none, A)
else
  tz_bI (f_X10_hasTurn b z1 (tz_g A b 3) A) (fun y1 A1 =>
  if y1 = 0 then
    q_X9_tick_12 b (z1 + 1) A1
  else
    if z1 = (tz_g A1 b 6) then
      q_X9_tick_12 b (z1 + 1) A1
    else
      tz_bV (f_X9_goOn b z1 A1) (fun A2 =>
      q_X9_tick_12 b (z1 + 1) A2)) := by
  obtain rfl | rfl | rfl | rfl | rfl := hb
  all_goals
    show tz_Go 93 12 _ [] A = _
    refine (tz_g_iload_n rfl (tz_inM rfl rfl rfl)).trans ?_
    refine (tz_g_aload_n rfl (tz_in0 rfl)).trans ?_
    refine (tz_g_getr (j := _) rfl rfl rfl rfl rfl (tz_in0 rfl)).trans ?_
    refine (tz_g_geti rfl rfl rfl (tz_in0 rfl)).trans ?_
    refine (tz_g_ic_ge (t := 57) (by decide) (tz_in0 rfl)).trans ?_
    refine tz_cg ?_ ?_
    · skip
      exact tz_g_ret0 (tz_in0 rfl) rfl
    · skip
      refine (tz_g_aload_n rfl (tz_in0 rfl)).trans ?_
      refine (tz_g_getr (j := _) rfl rfl rfl rfl rfl (tz_in0 rfl)).trans ?_
      refine (tz_g_iload_n rfl (tz_in0 rfl)).trans ?_
      refine (tz_g_aload_n rfl (tz_in0 rfl)).trans ?_
      refine (tz_g_geti rfl rfl rfl (tz_in0 rfl)).trans ?_
      refine (tz_g_cv2I (m2 := 94) (rc := 4) rfl rfl rfl rfl rfl rfl (by decide) (tz_in0 rfl)).trans ?_
      refine tz_jI (fun y1 A1 => ?_)
      refine (tz_g_if_eq (t := 51) (by decide) (tz_in0 rfl)).trans ?_
      refine tz_cg ?_ ?_
      · skip
        refine (tz_g_iinc (v := 1) (L2 := [some (.ref _), some (.int (z1 + 1))]) rfl rfl rfl rfl (tz_in0 rfl)).trans ?_
        refine (tz_g_goto (t := 12) (by decide) (tz_in0 rfl)).trans ?_
        exact tz_Gm (L2 := [some (.ref _), some (.int (z1 + 1))]) rfl rfl rfl rfl
      · skip
        refine (tz_g_iload_n rfl (tz_in0 rfl)).trans ?_
        refine (tz_g_aload_n rfl (tz_in0 rfl)).trans ?_
        refine (tz_g_geti rfl rfl rfl (tz_in0 rfl)).trans ?_
        refine (tz_g_ic_eq (t := 51) (by decide) (tz_in0 rfl)).trans ?_
        refine tz_cg ?_ ?_
        · skip
          refine (tz_g_iinc (v := 1) (L2 := [some (.ref _), some (.int (z1 + 1))]) rfl rfl rfl rfl (tz_in0 rfl)).trans ?_
          refine (tz_g_goto (t := 12) (by decide) (tz_in0 rfl)).trans ?_
          exact tz_Gm (L2 := [some (.ref _), some (.int (z1 + 1))]) rfl rfl rfl rfl
        · skip
          refine (tz_g_aload_n rfl (tz_in0 rfl)).trans ?_
          refine (tz_g_iload_n rfl (tz_in0 rfl)).trans ?_
          refine (tz_g_cv1V (m2 := 95) (rc := 0) rfl rfl rfl rfl rfl rfl (by decide) (tz_in0 rfl)).trans ?_
          refine tz_jV (fun A2 => ?_)
          refine (tz_g_iinc (v := 1) (L2 := [some (.ref _), some (.int (z1 + 1))]) rfl rfl rfl rfl (tz_in0 rfl)).trans ?_
          refine (tz_g_goto (t := 12) (by decide) (tz_in0 rfl)).trans ?_
          exact tz_Gm (L2 := [some (.ref _), some (.int (z1 + 1))]) rfl rfl rfl rfl

theorem e_X9_tickDry (b : Nat) (hb : tz_sky b) (A : tz_Mem) : f_X9_tickDry b A =
  q_X9_tickDry_14 b 0 0 (tz_s A b 3 ((tz_g A b 3) + 1)) := by
  obtain rfl | rfl | rfl | rfl | rfl := hb
  all_goals
    refine (tz_Fe (L := [some (.ref _), none, none]) rfl).trans ?_
    refine (tz_g_iconst (v := 0) rfl (tz_in0 rfl)).trans ?_
    refine (tz_g_istore_n (L2 := [some (.ref _), some (.int 0), none]) rfl rfl (tz_in0 rfl)).trans ?_
    refine (tz_g_aload_n rfl (tz_in0 rfl)).trans ?_
    refine (tz_g_dup rfl (tz_in0 rfl)).trans ?_
    refine (tz_g_geti rfl rfl rfl (tz_in0 rfl)).trans ?_
    refine (tz_g_iconst (v := 1) rfl (tz_in0 rfl)).trans ?_
    refine (tz_g_iadd (tz_in0 rfl)).trans ?_
    refine (tz_g_puti rfl rfl rfl (tz_in0 rfl)).trans ?_
    refine (tz_g_iconst (v := 0) rfl (tz_in0 rfl)).trans ?_
    refine (tz_g_istore_n (L2 := [some (.ref _), some (.int 0), some (.int 0)]) rfl rfl (tz_in0 rfl)).trans ?_
    exact tz_Gm (L2 := [some (.ref _), some (.int 0), some (.int 0)]) rfl rfl rfl rfl

theorem e_X9_tickDry_14 (b : Nat) (z1 : Int32) (z2 : Int32) (hb : tz_sky b) (A : tz_Mem) : q_X9_tickDry_14 b z1 z2 A =
  if (tz_g A (b + 7) 0) ≤ z2 then
  some (some (.int z1), A)
else
  tz_bI (f_X10_hasTurn b z2 (tz_g A b 3) A) (fun y1 A1 =>
  if y1 = 0 then
    q_X9_tickDry_14 b z1 (z2 + 1) A1
  else
    tz_bI (f_X9_drawBelow100 b A1) (fun y2 A2 =>
    if y2 < (tz_g A2 b 4) then
      q_X9_tickDry_14 b (z1 + 1) (z2 + 1) A2
    else
      tz_bV (f_X9_goOn b z2 A2) (fun A3 =>
      q_X9_tickDry_14 b z1 (z2 + 1) A3))) := by
  obtain rfl | rfl | rfl | rfl | rfl := hb
  all_goals
    show tz_Go 139 14 _ [] A = _
    refine (tz_g_iload_n rfl (tz_inM rfl rfl rfl)).trans ?_
    refine (tz_g_aload_n rfl (tz_in0 rfl)).trans ?_
    refine (tz_g_getr (j := _) rfl rfl rfl rfl rfl (tz_in0 rfl)).trans ?_
    refine (tz_g_geti rfl rfl rfl (tz_in0 rfl)).trans ?_
    refine (tz_g_ic_ge (t := 68) (by decide) (tz_in0 rfl)).trans ?_
    refine tz_cg ?_ ?_
    · skip
      refine (tz_g_iload_n rfl (tz_in0 rfl)).trans ?_
      exact tz_g_ret1 (tz_in0 rfl) rfl
    · skip
      refine (tz_g_aload_n rfl (tz_in0 rfl)).trans ?_
      refine (tz_g_getr (j := _) rfl rfl rfl rfl rfl (tz_in0 rfl)).trans ?_
      refine (tz_g_iload_n rfl (tz_in0 rfl)).trans ?_
      refine (tz_g_aload_n rfl (tz_in0 rfl)).trans ?_
      refine (tz_g_geti rfl rfl rfl (tz_in0 rfl)).trans ?_
      refine (tz_g_cv2I (m2 := 94) (rc := 4) rfl rfl rfl rfl rfl rfl (by decide) (tz_in0 rfl)).trans ?_
      refine tz_jI (fun y1 A1 => ?_)
      refine (tz_g_if_eq (t := 62) (by decide) (tz_in0 rfl)).trans ?_
      refine tz_cg ?_ ?_
      · skip
        refine (tz_g_iinc (v := 1) (L2 := [some (.ref _), some (.int z1), some (.int (z2 + 1))]) rfl rfl rfl rfl (tz_in0 rfl)).trans ?_
        refine (tz_g_goto (t := 14) (by decide) (tz_in0 rfl)).trans ?_
        exact tz_Gm (L2 := [some (.ref _), some (.int z1), some (.int (z2 + 1))]) rfl rfl rfl rfl
      · skip
        refine (tz_g_aload_n rfl (tz_in0 rfl)).trans ?_
        refine (tz_g_cv0I (m2 := 140) (rc := 1) rfl rfl rfl rfl rfl rfl (by decide) (tz_in0 rfl)).trans ?_
        refine tz_jI (fun y2 A2 => ?_)
        refine (tz_g_aload_n rfl (tz_in0 rfl)).trans ?_
        refine (tz_g_geti rfl rfl rfl (tz_in0 rfl)).trans ?_
        refine (tz_g_ic_lt (t := 59) (by decide) (tz_in0 rfl)).trans ?_
        refine tz_cg ?_ ?_
        · skip
          refine (tz_g_iinc (v := 1) (L2 := [some (.ref _), some (.int (z1 + 1)), some (.int z2)]) rfl rfl rfl rfl (tz_in0 rfl)).trans ?_
          refine (tz_g_iinc (v := 1) (L2 := [some (.ref _), some (.int (z1 + 1)), some (.int (z2 + 1))]) rfl rfl rfl rfl (tz_in0 rfl)).trans ?_
          refine (tz_g_goto (t := 14) (by decide) (tz_in0 rfl)).trans ?_
          exact tz_Gm (L2 := [some (.ref _), some (.int (z1 + 1)), some (.int (z2 + 1))]) rfl rfl rfl rfl
        · skip
          refine (tz_g_aload_n rfl (tz_in0 rfl)).trans ?_
          refine (tz_g_iload_n rfl (tz_in0 rfl)).trans ?_
          refine (tz_g_cv1V (m2 := 95) (rc := 0) rfl rfl rfl rfl rfl rfl (by decide) (tz_in0 rfl)).trans ?_
          refine tz_jV (fun A3 => ?_)
          refine (tz_g_goto (t := 62) (by decide) (tz_in0 rfl)).trans ?_
          refine (tz_g_iinc (v := 1) (L2 := [some (.ref _), some (.int z1), some (.int (z2 + 1))]) rfl rfl rfl rfl (tz_in0 rfl)).trans ?_
          refine (tz_g_goto (t := 14) (by decide) (tz_in0 rfl)).trans ?_
          exact tz_Gm (L2 := [some (.ref _), some (.int z1), some (.int (z2 + 1))]) rfl rfl rfl rfl

theorem e_X0_run_5 (x1 : Int32) (x2 : Int32) (x3 : Int32) (x4 : Int32) (A : tz_Mem) : f_X0_run_5 x1 x2 x3 x4 A =
  if x4 < 40 then
  tz_bI (f_X0_kindWithBody x1 x2 A) (fun y1 A1 =>
  tz_bI (f_X0_bodyOf x1 y1 A1) (fun y2 A2 =>
  if y1 < 0 ∨ 7 ≤ (Int32.toNatClampNeg y1) then none else
  tz_bV (f_X0_note y2 A2) (fun A3 =>
  if y2 = 10 then
    some (some (.int (x3 + (tz_g A3 148 2))), A3)
  else if y2 = 11 then
    tz_bI (f_X0_run_6 0 (tz_g A3 148 4) x3 (x4 + 1) A3) (fun y4 A4 =>
    some (some (.int (y4 * 2)), A4))
  else if y2 = 12 then
    tz_bI (f_X0_run_6 1 (tz_g A3 148 4) x3 (x4 + 1) A3) (fun y4 A4 =>
    tz_bI (f_X0_run_6 0 (tz_g A4 148 4) (x3 - (tz_g A4 148 3)) (x4 + 1) A4) (fun y5 A5 =>
    some (some (.int (y4 ^^^ y5)), A5)))
  else if y2 = 20 then
    tz_bI (f_X0_run_6 0 (tz_XT 1 (Int32.toNatClampNeg y1)) x3 (x4 + 1) A3) (fun y4 A4 =>
    some (some (.int (y4 + (tz_g A4 148 3))), A4))
  else if y2 = 30 then
    tz_bI (f_X0_run_6 1 (tz_XT 1 (Int32.toNatClampNeg y1)) x3 (x4 + 1) A3) (fun y4 A4 =>
    some (some (.int (y4 * 3)), A4))
  else if y2 = 40 then
    tz_bI (f_X0_run_6 1 (tz_XT 1 (Int32.toNatClampNeg y1)) (x3 + 1) (x4 + 1) A3) (fun y4 A4 =>
    some (some (.int y4), A4))
  else if y2 = 50 then
    tz_bI (f_X0_run_6 2 (tz_XT 1 (Int32.toNatClampNeg y1)) x3 (x4 + 1) A3) (fun y4 A4 =>
    some (some (.int (-y4)), A4))
  else if y2 = 51 then
    tz_bI (f_X0_run_6 0 (tz_XT 1 (Int32.toNatClampNeg y1)) x3 (x4 + 1) A3) (fun y4 A4 =>
    some (some (.int (y4 - (tz_g A4 148 2))), A4))
  else if y2 = 60 then
    tz_bI (f_X0_run_6 2 (tz_XT 1 (Int32.toNatClampNeg y1)) x3 (x4 + 1) A3) (fun y4 A4 =>
    some (some (.int (y4 ^^^ 5)), A4))
  else if y2 = 70 then
    tz_bI (f_X0_run_6 0 (tz_XT 1 (Int32.toNatClampNeg y1)) x3 (x4 + 1) A3) (fun y4 A4 =>
    some (some (.int (y4 * 2)), A4))
  else tz_bI (f_X0_run_6 1 (tz_XT 1 (Int32.toNatClampNeg y1)) (x3 - (tz_g A3 148 3)) (x4 + 1) A3) (fun y4 A4 =>
  some (some (.int y4), A4)))))
else
  some (some (.int 0), A) := by
  refine (tz_Fe (L := [some (.ref 148), some (.int x1), some (.int x2), some (.int x3), some (.int x4), none, none, none, none]) rfl).trans ?_
  refine (tz_g_iload rfl (tz_in0 rfl)).trans ?_
  refine (tz_g_bipush (v := 40) rfl (tz_in0 rfl)).trans ?_
  refine (tz_g_ic_lt (t := 9) (by decide) (tz_in0 rfl)).trans ?_
  refine tz_cg ?_ ?_
  · skip
    refine (tz_g_iload_n rfl (tz_in0 rfl)).trans ?_
    refine (tz_g_iload_n rfl (tz_in0 rfl)).trans ?_
    refine (tz_g_cs2I (m2 := 153) (rc := 1) rfl rfl rfl rfl rfl rfl (by decide) (tz_in0 rfl)).trans ?_
    refine tz_jI (fun y1 A1 => ?_)
    refine (tz_g_istore (L2 := [some (.ref 148), some (.int x1), some (.int x2), some (.int x3), some (.int x4), some (.int y1), none, none, none]) rfl rfl (tz_in0 rfl)).trans ?_
    refine (tz_g_iload_n rfl (tz_in0 rfl)).trans ?_
    refine (tz_g_iload rfl (tz_in0 rfl)).trans ?_
    refine (tz_g_cs2I (m2 := 154) (rc := 1) rfl rfl rfl rfl rfl rfl (by decide) (tz_in0 rfl)).trans ?_
    refine tz_jI (fun y2 A2 => ?_)
    refine (tz_g_istore (L2 := [some (.ref 148), some (.int x1), some (.int x2), some (.int x3), some (.int x4), some (.int y1), some (.int y2), none, none]) rfl rfl (tz_in0 rfl)).trans ?_
    refine (tz_g_gets0 (j := 1) rfl (tz_in0 rfl)).trans ?_
    refine (tz_g_iload rfl (tz_in0 rfl)).trans ?_
    refine (tz_g_ialx (n := 7) rfl rfl rfl (tz_in0 rfl)).trans ?_
    refine tz_cn1 ?_
    refine (tz_g_istore (L2 := [some (.ref 148), some (.int x1), some (.int x2), some (.int x3), some (.int x4), some (.int y1), some (.int y2), some (.int (tz_XT 1 (Int32.toNatClampNeg y1))), none]) rfl rfl (tz_in0 rfl)).trans ?_
    refine (tz_g_iload rfl (tz_in0 rfl)).trans ?_
    refine (tz_g_iconst (v := 1) rfl (tz_in0 rfl)).trans ?_
    refine (tz_g_iadd (tz_in0 rfl)).trans ?_
    refine (tz_g_istore (L2 := [some (.ref 148), some (.int x1), some (.int x2), some (.int x3), some (.int x4), some (.int y1), some (.int y2), some (.int (tz_XT 1 (Int32.toNatClampNeg y1))), some (.int (x4 + 1))]) rfl rfl (tz_in0 rfl)).trans ?_
    refine (tz_g_aload_n rfl (tz_in0 rfl)).trans ?_
    refine (tz_g_iload rfl (tz_in0 rfl)).trans ?_
    refine (tz_g_cv1V (m2 := 155) (rc := 0) rfl rfl rfl rfl rfl rfl (by decide) (tz_in0 rfl)).trans ?_
    refine tz_jV (fun A3 => ?_)
    refine (tz_g_iload rfl (tz_in0 rfl)).trans ?_
    refine (tz_g_lsw (by decide) (tz_in0 rfl)).trans ?_
    refine tz_slc (v := 10) (by decide) ?_ ?_
    · refine (tz_tg (t := 136) (by decide)).trans ?_
      refine (tz_g_iload_n rfl (tz_in0 rfl)).trans ?_
      refine (tz_g_aload_n rfl (tz_in0 rfl)).trans ?_
      refine (tz_g_geti rfl rfl rfl (tz_in0 rfl)).trans ?_
      refine (tz_g_iadd (tz_in0 rfl)).trans ?_
      exact tz_g_ret1 (tz_in0 rfl) rfl
    refine tz_slc (v := 11) (by decide) ?_ ?_
    · refine (tz_tg (t := 143) (by decide)).trans ?_
      refine (tz_g_aload_n rfl (tz_in0 rfl)).trans ?_
      refine (tz_g_iconst (v := 0) rfl (tz_in0 rfl)).trans ?_
      refine (tz_g_aload_n rfl (tz_in0 rfl)).trans ?_
      refine (tz_g_geti rfl rfl rfl (tz_in0 rfl)).trans ?_
      refine (tz_g_iload_n rfl (tz_in0 rfl)).trans ?_
      refine (tz_g_iload rfl (tz_in0 rfl)).trans ?_
      refine (tz_g_cv4I (m2 := 151) (rc := 1) rfl rfl rfl rfl rfl rfl (by decide) (tz_in0 rfl)).trans ?_
      refine tz_jI (fun y4 A4 => ?_)
      refine (tz_g_iconst (v := 2) rfl (tz_in0 rfl)).trans ?_
      refine (tz_g_imul (tz_in0 rfl)).trans ?_
      exact tz_g_ret1 (tz_in0 rfl) rfl
    refine tz_slc (v := 12) (by decide) ?_ ?_
    · refine (tz_tg (t := 158) (by decide)).trans ?_
      refine (tz_g_aload_n rfl (tz_in0 rfl)).trans ?_
      refine (tz_g_iconst (v := 1) rfl (tz_in0 rfl)).trans ?_
      refine (tz_g_aload_n rfl (tz_in0 rfl)).trans ?_
      refine (tz_g_geti rfl rfl rfl (tz_in0 rfl)).trans ?_
      refine (tz_g_iload_n rfl (tz_in0 rfl)).trans ?_
      refine (tz_g_iload rfl (tz_in0 rfl)).trans ?_
      refine (tz_g_cv4I (m2 := 151) (rc := 1) rfl rfl rfl rfl rfl rfl (by decide) (tz_in0 rfl)).trans ?_
      refine tz_jI (fun y4 A4 => ?_)
      refine (tz_g_aload_n rfl (tz_in0 rfl)).trans ?_
      refine (tz_g_iconst (v := 0) rfl (tz_in0 rfl)).trans ?_
      refine (tz_g_aload_n rfl (tz_in0 rfl)).trans ?_
      refine (tz_g_geti rfl rfl rfl (tz_in0 rfl)).trans ?_
      refine (tz_g_iload_n rfl (tz_in0 rfl)).trans ?_
      refine (tz_g_aload_n rfl (tz_in0 rfl)).trans ?_
      refine (tz_g_geti rfl rfl rfl (tz_in0 rfl)).trans ?_
      refine (tz_g_isub (tz_in0 rfl)).trans ?_
      refine (tz_g_iload rfl (tz_in0 rfl)).trans ?_
      refine (tz_g_cv4I (m2 := 151) (rc := 1) rfl rfl rfl rfl rfl rfl (by decide) (tz_in0 rfl)).trans ?_
      refine tz_jI (fun y5 A5 => ?_)
      refine (tz_g_ixor (tz_in0 rfl)).trans ?_
      exact tz_g_ret1 (tz_in0 rfl) rfl
    refine tz_slc (v := 20) (by decide) ?_ ?_
    · refine (tz_tg (t := 189) (by decide)).trans ?_
      refine (tz_g_aload_n rfl (tz_in0 rfl)).trans ?_
      refine (tz_g_iconst (v := 0) rfl (tz_in0 rfl)).trans ?_
      refine (tz_g_iload rfl (tz_in0 rfl)).trans ?_
      refine (tz_g_iload_n rfl (tz_in0 rfl)).trans ?_
      refine (tz_g_iload rfl (tz_in0 rfl)).trans ?_
      refine (tz_g_cv4I (m2 := 151) (rc := 1) rfl rfl rfl rfl rfl rfl (by decide) (tz_in0 rfl)).trans ?_
      refine tz_jI (fun y4 A4 => ?_)
      refine (tz_g_aload_n rfl (tz_in0 rfl)).trans ?_
      refine (tz_g_geti rfl rfl rfl (tz_in0 rfl)).trans ?_
      refine (tz_g_iadd (tz_in0 rfl)).trans ?_
      exact tz_g_ret1 (tz_in0 rfl) rfl
    refine tz_slc (v := 30) (by decide) ?_ ?_
    · refine (tz_tg (t := 205) (by decide)).trans ?_
      refine (tz_g_aload_n rfl (tz_in0 rfl)).trans ?_
      refine (tz_g_iconst (v := 1) rfl (tz_in0 rfl)).trans ?_
      refine (tz_g_iload rfl (tz_in0 rfl)).trans ?_
      refine (tz_g_iload_n rfl (tz_in0 rfl)).trans ?_
      refine (tz_g_iload rfl (tz_in0 rfl)).trans ?_
      refine (tz_g_cv4I (m2 := 151) (rc := 1) rfl rfl rfl rfl rfl rfl (by decide) (tz_in0 rfl)).trans ?_
      refine tz_jI (fun y4 A4 => ?_)
      refine (tz_g_iconst (v := 3) rfl (tz_in0 rfl)).trans ?_
      refine (tz_g_imul (tz_in0 rfl)).trans ?_
      exact tz_g_ret1 (tz_in0 rfl) rfl
    refine tz_slc (v := 40) (by decide) ?_ ?_
    · refine (tz_tg (t := 218) (by decide)).trans ?_
      refine (tz_g_aload_n rfl (tz_in0 rfl)).trans ?_
      refine (tz_g_iconst (v := 1) rfl (tz_in0 rfl)).trans ?_
      refine (tz_g_iload rfl (tz_in0 rfl)).trans ?_
      refine (tz_g_iload_n rfl (tz_in0 rfl)).trans ?_
      refine (tz_g_iconst (v := 1) rfl (tz_in0 rfl)).trans ?_
      refine (tz_g_iadd (tz_in0 rfl)).trans ?_
      refine (tz_g_iload rfl (tz_in0 rfl)).trans ?_
      refine (tz_g_cv4I (m2 := 151) (rc := 1) rfl rfl rfl rfl rfl rfl (by decide) (tz_in0 rfl)).trans ?_
      refine tz_jI (fun y4 A4 => ?_)
      exact tz_g_ret1 (tz_in0 rfl) rfl
    refine tz_slc (v := 50) (by decide) ?_ ?_
    · refine (tz_tg (t := 231) (by decide)).trans ?_
      refine (tz_g_aload_n rfl (tz_in0 rfl)).trans ?_
      refine (tz_g_iconst (v := 2) rfl (tz_in0 rfl)).trans ?_
      refine (tz_g_iload rfl (tz_in0 rfl)).trans ?_
      refine (tz_g_iload_n rfl (tz_in0 rfl)).trans ?_
      refine (tz_g_iload rfl (tz_in0 rfl)).trans ?_
      refine (tz_g_cv4I (m2 := 151) (rc := 1) rfl rfl rfl rfl rfl rfl (by decide) (tz_in0 rfl)).trans ?_
      refine tz_jI (fun y4 A4 => ?_)
      refine (tz_g_ineg (tz_in0 rfl)).trans ?_
      exact tz_g_ret1 (tz_in0 rfl) rfl
    refine tz_slc (v := 51) (by decide) ?_ ?_
    · refine (tz_tg (t := 243) (by decide)).trans ?_
      refine (tz_g_aload_n rfl (tz_in0 rfl)).trans ?_
      refine (tz_g_iconst (v := 0) rfl (tz_in0 rfl)).trans ?_
      refine (tz_g_iload rfl (tz_in0 rfl)).trans ?_
      refine (tz_g_iload_n rfl (tz_in0 rfl)).trans ?_
      refine (tz_g_iload rfl (tz_in0 rfl)).trans ?_
      refine (tz_g_cv4I (m2 := 151) (rc := 1) rfl rfl rfl rfl rfl rfl (by decide) (tz_in0 rfl)).trans ?_
      refine tz_jI (fun y4 A4 => ?_)
      refine (tz_g_aload_n rfl (tz_in0 rfl)).trans ?_
      refine (tz_g_geti rfl rfl rfl (tz_in0 rfl)).trans ?_
      refine (tz_g_isub (tz_in0 rfl)).trans ?_
      exact tz_g_ret1 (tz_in0 rfl) rfl
    refine tz_slc (v := 60) (by decide) ?_ ?_
    · refine (tz_tg (t := 259) (by decide)).trans ?_
      refine (tz_g_aload_n rfl (tz_in0 rfl)).trans ?_
      refine (tz_g_iconst (v := 2) rfl (tz_in0 rfl)).trans ?_
      refine (tz_g_iload rfl (tz_in0 rfl)).trans ?_
      refine (tz_g_iload_n rfl (tz_in0 rfl)).trans ?_
      refine (tz_g_iload rfl (tz_in0 rfl)).trans ?_
      refine (tz_g_cv4I (m2 := 151) (rc := 1) rfl rfl rfl rfl rfl rfl (by decide) (tz_in0 rfl)).trans ?_
      refine tz_jI (fun y4 A4 => ?_)
      refine (tz_g_iconst (v := 5) rfl (tz_in0 rfl)).trans ?_
      refine (tz_g_ixor (tz_in0 rfl)).trans ?_
      exact tz_g_ret1 (tz_in0 rfl) rfl
    refine tz_slc (v := 70) (by decide) ?_ ?_
    · refine (tz_tg (t := 272) (by decide)).trans ?_
      refine (tz_g_aload_n rfl (tz_in0 rfl)).trans ?_
      refine (tz_g_iconst (v := 0) rfl (tz_in0 rfl)).trans ?_
      refine (tz_g_iload rfl (tz_in0 rfl)).trans ?_
      refine (tz_g_iload_n rfl (tz_in0 rfl)).trans ?_
      refine (tz_g_iload rfl (tz_in0 rfl)).trans ?_
      refine (tz_g_cv4I (m2 := 151) (rc := 1) rfl rfl rfl rfl rfl rfl (by decide) (tz_in0 rfl)).trans ?_
      refine tz_jI (fun y4 A4 => ?_)
      refine (tz_g_iconst (v := 2) rfl (tz_in0 rfl)).trans ?_
      refine (tz_g_imul (tz_in0 rfl)).trans ?_
      exact tz_g_ret1 (tz_in0 rfl) rfl
    refine tz_sld ?_
    refine (tz_tg (t := 285) (by decide)).trans ?_
    refine (tz_g_aload_n rfl (tz_in0 rfl)).trans ?_
    refine (tz_g_iconst (v := 1) rfl (tz_in0 rfl)).trans ?_
    refine (tz_g_iload rfl (tz_in0 rfl)).trans ?_
    refine (tz_g_iload_n rfl (tz_in0 rfl)).trans ?_
    refine (tz_g_aload_n rfl (tz_in0 rfl)).trans ?_
    refine (tz_g_geti rfl rfl rfl (tz_in0 rfl)).trans ?_
    refine (tz_g_isub (tz_in0 rfl)).trans ?_
    refine (tz_g_iload rfl (tz_in0 rfl)).trans ?_
    refine (tz_g_cv4I (m2 := 151) (rc := 1) rfl rfl rfl rfl rfl rfl (by decide) (tz_in0 rfl)).trans ?_
    refine tz_jI (fun y4 A4 => ?_)
    exact tz_g_ret1 (tz_in0 rfl) rfl
  · skip
    refine (tz_g_iconst (v := 0) rfl (tz_in0 rfl)).trans ?_
    exact tz_g_ret1 (tz_in0 rfl) rfl

theorem e_X12_word_s5 (A : tz_Mem) : f_X12_word_s5 A =
  q_X12_word_s5_2 0 A := by
  refine (tz_Fe (L := [some (.ref 157), some (.ref 5), none]) rfl).trans ?_
  refine (tz_g_iconst (v := 0) rfl (tz_in0 rfl)).trans ?_
  refine (tz_g_istore_n (L2 := [some (.ref 157), some (.ref 5), some (.int 0)]) rfl rfl (tz_in0 rfl)).trans ?_
  exact tz_Gm (L2 := [some (.ref 157), some (.ref 5), some (.int 0)]) rfl rfl rfl rfl

theorem e_X12_word_s5_2 (z2 : Int32) (A : tz_Mem) : q_X12_word_s5_2 z2 A =
  tz_bI (f_J0_length_s5 A) (fun y1 A1 =>
if y1 ≤ z2 then
  some (some (.int 1), A1)
else
  tz_bI (f_J0_charAt_s5 z2 A1) (fun y2 A2 =>
  tz_bI (f_X12_is y2 A2) (fun y3 A3 =>
  if ¬ y3 = 0 then
    q_X12_word_s5_2 (z2 + 1) A3
  else
    some (some (.int 0), A3)))) := by
  show tz_Go 199 2 [some (.ref 157), some (.ref 5), some (.int z2)] [] A = _
  refine (tz_g_iload_n rfl (tz_inM rfl rfl rfl)).trans ?_
  refine (tz_g_aload_n rfl (tz_in0 rfl)).trans ?_
  refine (tz_g_cv0I (m2 := 76) (rc := 1) rfl rfl rfl rfl rfl rfl (by decide) (tz_in0 rfl)).trans ?_
  refine tz_jI (fun y1 A1 => ?_)
  refine (tz_g_ic_ge (t := 30) (by decide) (tz_in0 rfl)).trans ?_
  refine tz_cg ?_ ?_
  · skip
    refine (tz_g_iconst (v := 1) rfl (tz_in0 rfl)).trans ?_
    exact tz_g_ret4K (by decide) (tz_in0 rfl) rfl
  · skip
    refine (tz_g_aload_n rfl (tz_in0 rfl)).trans ?_
    refine (tz_g_aload_n rfl (tz_in0 rfl)).trans ?_
    refine (tz_g_iload_n rfl (tz_in0 rfl)).trans ?_
    refine (tz_g_cv1I (m2 := 78) (rc := 5) rfl rfl rfl rfl rfl rfl (by decide) (tz_in0 rfl)).trans ?_
    refine tz_jI (fun y2 A2 => ?_)
    refine (tz_g_cv1I (m2 := 200) (rc := 4) rfl rfl rfl rfl rfl rfl (by decide) (tz_in0 rfl)).trans ?_
    refine tz_jI (fun y3 A3 => ?_)
    refine (tz_g_if_ne (t := 24) (by decide) (tz_in0 rfl)).trans ?_
    refine tz_cg ?_ ?_
    · skip
      refine (tz_g_iinc (v := 1) (L2 := [some (.ref 157), some (.ref 5), some (.int (z2 + 1))]) rfl rfl rfl rfl (tz_in0 rfl)).trans ?_
      refine (tz_g_goto (t := 2) (by decide) (tz_in0 rfl)).trans ?_
      exact tz_Gm (L2 := [some (.ref 157), some (.ref 5), some (.int (z2 + 1))]) rfl rfl rfl rfl
    · skip
      refine (tz_g_iconst (v := 0) rfl (tz_in0 rfl)).trans ?_
      exact tz_g_ret4K (by decide) (tz_in0 rfl) rfl

theorem e_X12_word_s6 (A : tz_Mem) : f_X12_word_s6 A =
  q_X12_word_s6_2 0 A := by
  refine (tz_Fe (L := [some (.ref 157), some (.ref 6), none]) rfl).trans ?_
  refine (tz_g_iconst (v := 0) rfl (tz_in0 rfl)).trans ?_
  refine (tz_g_istore_n (L2 := [some (.ref 157), some (.ref 6), some (.int 0)]) rfl rfl (tz_in0 rfl)).trans ?_
  exact tz_Gm (L2 := [some (.ref 157), some (.ref 6), some (.int 0)]) rfl rfl rfl rfl

theorem e_X12_word_s6_2 (z2 : Int32) (A : tz_Mem) : q_X12_word_s6_2 z2 A =
  tz_bI (f_J0_length_s6 A) (fun y1 A1 =>
if y1 ≤ z2 then
  some (some (.int 1), A1)
else
  tz_bI (f_J0_charAt_s6 z2 A1) (fun y2 A2 =>
  tz_bI (f_X12_is y2 A2) (fun y3 A3 =>
  if ¬ y3 = 0 then
    q_X12_word_s6_2 (z2 + 1) A3
  else
    some (some (.int 0), A3)))) := by
  show tz_Go 199 2 [some (.ref 157), some (.ref 6), some (.int z2)] [] A = _
  refine (tz_g_iload_n rfl (tz_inM rfl rfl rfl)).trans ?_
  refine (tz_g_aload_n rfl (tz_in0 rfl)).trans ?_
  refine (tz_g_cv0I (m2 := 76) (rc := 1) rfl rfl rfl rfl rfl rfl (by decide) (tz_in0 rfl)).trans ?_
  refine tz_jI (fun y1 A1 => ?_)
  refine (tz_g_ic_ge (t := 30) (by decide) (tz_in0 rfl)).trans ?_
  refine tz_cg ?_ ?_
  · skip
    refine (tz_g_iconst (v := 1) rfl (tz_in0 rfl)).trans ?_
    exact tz_g_ret4K (by decide) (tz_in0 rfl) rfl
  · skip
    refine (tz_g_aload_n rfl (tz_in0 rfl)).trans ?_
    refine (tz_g_aload_n rfl (tz_in0 rfl)).trans ?_
    refine (tz_g_iload_n rfl (tz_in0 rfl)).trans ?_
    refine (tz_g_cv1I (m2 := 78) (rc := 5) rfl rfl rfl rfl rfl rfl (by decide) (tz_in0 rfl)).trans ?_
    refine tz_jI (fun y2 A2 => ?_)
    refine (tz_g_cv1I (m2 := 200) (rc := 4) rfl rfl rfl rfl rfl rfl (by decide) (tz_in0 rfl)).trans ?_
    refine tz_jI (fun y3 A3 => ?_)
    refine (tz_g_if_ne (t := 24) (by decide) (tz_in0 rfl)).trans ?_
    refine tz_cg ?_ ?_
    · skip
      refine (tz_g_iinc (v := 1) (L2 := [some (.ref 157), some (.ref 6), some (.int (z2 + 1))]) rfl rfl rfl rfl (tz_in0 rfl)).trans ?_
      refine (tz_g_goto (t := 2) (by decide) (tz_in0 rfl)).trans ?_
      exact tz_Gm (L2 := [some (.ref 157), some (.ref 6), some (.int (z2 + 1))]) rfl rfl rfl rfl
    · skip
      refine (tz_g_iconst (v := 0) rfl (tz_in0 rfl)).trans ?_
      exact tz_g_ret4K (by decide) (tz_in0 rfl) rfl

theorem e_X12_word_s7 (A : tz_Mem) : f_X12_word_s7 A =
  q_X12_word_s7_2 0 A := by
  refine (tz_Fe (L := [some (.ref 157), some (.ref 7), none]) rfl).trans ?_
  refine (tz_g_iconst (v := 0) rfl (tz_in0 rfl)).trans ?_
  refine (tz_g_istore_n (L2 := [some (.ref 157), some (.ref 7), some (.int 0)]) rfl rfl (tz_in0 rfl)).trans ?_
  exact tz_Gm (L2 := [some (.ref 157), some (.ref 7), some (.int 0)]) rfl rfl rfl rfl

theorem e_X12_word_s7_2 (z2 : Int32) (A : tz_Mem) : q_X12_word_s7_2 z2 A =
  tz_bI (f_J0_length_s7 A) (fun y1 A1 =>
if y1 ≤ z2 then
  some (some (.int 1), A1)
else
  tz_bI (f_J0_charAt_s7 z2 A1) (fun y2 A2 =>
  tz_bI (f_X12_is y2 A2) (fun y3 A3 =>
  if ¬ y3 = 0 then
    q_X12_word_s7_2 (z2 + 1) A3
  else
    some (some (.int 0), A3)))) := by
  show tz_Go 199 2 [some (.ref 157), some (.ref 7), some (.int z2)] [] A = _
  refine (tz_g_iload_n rfl (tz_inM rfl rfl rfl)).trans ?_
  refine (tz_g_aload_n rfl (tz_in0 rfl)).trans ?_
  refine (tz_g_cv0I (m2 := 76) (rc := 1) rfl rfl rfl rfl rfl rfl (by decide) (tz_in0 rfl)).trans ?_
  refine tz_jI (fun y1 A1 => ?_)
  refine (tz_g_ic_ge (t := 30) (by decide) (tz_in0 rfl)).trans ?_
  refine tz_cg ?_ ?_
  · skip
    refine (tz_g_iconst (v := 1) rfl (tz_in0 rfl)).trans ?_
    exact tz_g_ret4K (by decide) (tz_in0 rfl) rfl
  · skip
    refine (tz_g_aload_n rfl (tz_in0 rfl)).trans ?_
    refine (tz_g_aload_n rfl (tz_in0 rfl)).trans ?_
    refine (tz_g_iload_n rfl (tz_in0 rfl)).trans ?_
    refine (tz_g_cv1I (m2 := 78) (rc := 5) rfl rfl rfl rfl rfl rfl (by decide) (tz_in0 rfl)).trans ?_
    refine tz_jI (fun y2 A2 => ?_)
    refine (tz_g_cv1I (m2 := 200) (rc := 4) rfl rfl rfl rfl rfl rfl (by decide) (tz_in0 rfl)).trans ?_
    refine tz_jI (fun y3 A3 => ?_)
    refine (tz_g_if_ne (t := 24) (by decide) (tz_in0 rfl)).trans ?_
    refine tz_cg ?_ ?_
    · skip
      refine (tz_g_iinc (v := 1) (L2 := [some (.ref 157), some (.ref 7), some (.int (z2 + 1))]) rfl rfl rfl rfl (tz_in0 rfl)).trans ?_
      refine (tz_g_goto (t := 2) (by decide) (tz_in0 rfl)).trans ?_
      exact tz_Gm (L2 := [some (.ref 157), some (.ref 7), some (.int (z2 + 1))]) rfl rfl rfl rfl
    · skip
      refine (tz_g_iconst (v := 0) rfl (tz_in0 rfl)).trans ?_
      exact tz_g_ret4K (by decide) (tz_in0 rfl) rfl

theorem e_X12_word_s9 (A : tz_Mem) : f_X12_word_s9 A =
  q_X12_word_s9_2 0 A := by
  refine (tz_Fe (L := [some (.ref 157), some (.ref 9), none]) rfl).trans ?_
  refine (tz_g_iconst (v := 0) rfl (tz_in0 rfl)).trans ?_
  refine (tz_g_istore_n (L2 := [some (.ref 157), some (.ref 9), some (.int 0)]) rfl rfl (tz_in0 rfl)).trans ?_
  exact tz_Gm (L2 := [some (.ref 157), some (.ref 9), some (.int 0)]) rfl rfl rfl rfl

theorem e_X12_word_s9_2 (z2 : Int32) (A : tz_Mem) : q_X12_word_s9_2 z2 A =
  tz_bI (f_J0_length_s9 A) (fun y1 A1 =>
if y1 ≤ z2 then
  some (some (.int 1), A1)
else
  tz_bI (f_J0_charAt_s9 z2 A1) (fun y2 A2 =>
  tz_bI (f_X12_is y2 A2) (fun y3 A3 =>
  if ¬ y3 = 0 then
    q_X12_word_s9_2 (z2 + 1) A3
  else
    some (some (.int 0), A3)))) := by
  show tz_Go 199 2 [some (.ref 157), some (.ref 9), some (.int z2)] [] A = _
  refine (tz_g_iload_n rfl (tz_inM rfl rfl rfl)).trans ?_
  refine (tz_g_aload_n rfl (tz_in0 rfl)).trans ?_
  refine (tz_g_cv0I (m2 := 76) (rc := 1) rfl rfl rfl rfl rfl rfl (by decide) (tz_in0 rfl)).trans ?_
  refine tz_jI (fun y1 A1 => ?_)
  refine (tz_g_ic_ge (t := 30) (by decide) (tz_in0 rfl)).trans ?_
  refine tz_cg ?_ ?_
  · skip
    refine (tz_g_iconst (v := 1) rfl (tz_in0 rfl)).trans ?_
    exact tz_g_ret4K (by decide) (tz_in0 rfl) rfl
  · skip
    refine (tz_g_aload_n rfl (tz_in0 rfl)).trans ?_
    refine (tz_g_aload_n rfl (tz_in0 rfl)).trans ?_
    refine (tz_g_iload_n rfl (tz_in0 rfl)).trans ?_
    refine (tz_g_cv1I (m2 := 78) (rc := 5) rfl rfl rfl rfl rfl rfl (by decide) (tz_in0 rfl)).trans ?_
    refine tz_jI (fun y2 A2 => ?_)
    refine (tz_g_cv1I (m2 := 200) (rc := 4) rfl rfl rfl rfl rfl rfl (by decide) (tz_in0 rfl)).trans ?_
    refine tz_jI (fun y3 A3 => ?_)
    refine (tz_g_if_ne (t := 24) (by decide) (tz_in0 rfl)).trans ?_
    refine tz_cg ?_ ?_
    · skip
      refine (tz_g_iinc (v := 1) (L2 := [some (.ref 157), some (.ref 9), some (.int (z2 + 1))]) rfl rfl rfl rfl (tz_in0 rfl)).trans ?_
      refine (tz_g_goto (t := 2) (by decide) (tz_in0 rfl)).trans ?_
      exact tz_Gm (L2 := [some (.ref 157), some (.ref 9), some (.int (z2 + 1))]) rfl rfl rfl rfl
    · skip
      refine (tz_g_iconst (v := 0) rfl (tz_in0 rfl)).trans ?_
      exact tz_g_ret4K (by decide) (tz_in0 rfl) rfl

theorem e_X12_word_s10 (A : tz_Mem) : f_X12_word_s10 A =
  q_X12_word_s10_2 0 A := by
  refine (tz_Fe (L := [some (.ref 157), some (.ref 10), none]) rfl).trans ?_
  refine (tz_g_iconst (v := 0) rfl (tz_in0 rfl)).trans ?_
  refine (tz_g_istore_n (L2 := [some (.ref 157), some (.ref 10), some (.int 0)]) rfl rfl (tz_in0 rfl)).trans ?_
  exact tz_Gm (L2 := [some (.ref 157), some (.ref 10), some (.int 0)]) rfl rfl rfl rfl

theorem e_X12_word_s10_2 (z2 : Int32) (A : tz_Mem) : q_X12_word_s10_2 z2 A =
  tz_bI (f_J0_length_s10 A) (fun y1 A1 =>
if y1 ≤ z2 then
  some (some (.int 1), A1)
else
  tz_bI (f_J0_charAt_s10 z2 A1) (fun y2 A2 =>
  tz_bI (f_X12_is y2 A2) (fun y3 A3 =>
  if ¬ y3 = 0 then
    q_X12_word_s10_2 (z2 + 1) A3
  else
    some (some (.int 0), A3)))) := by
  show tz_Go 199 2 [some (.ref 157), some (.ref 10), some (.int z2)] [] A = _
  refine (tz_g_iload_n rfl (tz_inM rfl rfl rfl)).trans ?_
  refine (tz_g_aload_n rfl (tz_in0 rfl)).trans ?_
  refine (tz_g_cv0I (m2 := 76) (rc := 1) rfl rfl rfl rfl rfl rfl (by decide) (tz_in0 rfl)).trans ?_
  refine tz_jI (fun y1 A1 => ?_)
  refine (tz_g_ic_ge (t := 30) (by decide) (tz_in0 rfl)).trans ?_
  refine tz_cg ?_ ?_
  · skip
    refine (tz_g_iconst (v := 1) rfl (tz_in0 rfl)).trans ?_
    exact tz_g_ret4K (by decide) (tz_in0 rfl) rfl
  · skip
    refine (tz_g_aload_n rfl (tz_in0 rfl)).trans ?_
    refine (tz_g_aload_n rfl (tz_in0 rfl)).trans ?_
    refine (tz_g_iload_n rfl (tz_in0 rfl)).trans ?_
    refine (tz_g_cv1I (m2 := 78) (rc := 5) rfl rfl rfl rfl rfl rfl (by decide) (tz_in0 rfl)).trans ?_
    refine tz_jI (fun y2 A2 => ?_)
    refine (tz_g_cv1I (m2 := 200) (rc := 4) rfl rfl rfl rfl rfl rfl (by decide) (tz_in0 rfl)).trans ?_
    refine tz_jI (fun y3 A3 => ?_)
    refine (tz_g_if_ne (t := 24) (by decide) (tz_in0 rfl)).trans ?_
    refine tz_cg ?_ ?_
    · skip
      refine (tz_g_iinc (v := 1) (L2 := [some (.ref 157), some (.ref 10), some (.int (z2 + 1))]) rfl rfl rfl rfl (tz_in0 rfl)).trans ?_
      refine (tz_g_goto (t := 2) (by decide) (tz_in0 rfl)).trans ?_
      exact tz_Gm (L2 := [some (.ref 157), some (.ref 10), some (.int (z2 + 1))]) rfl rfl rfl rfl
    · skip
      refine (tz_g_iconst (v := 0) rfl (tz_in0 rfl)).trans ?_
      exact tz_g_ret4K (by decide) (tz_in0 rfl) rfl

theorem e_X12_goOn (A : tz_Mem) : f_X12_goOn A =
  q_X12_goOn_12 0 (tz_s A 157 22 ((tz_g A 157 22) + 1)) := by
  refine (tz_Fe (L := [some (.ref 157), none]) rfl).trans ?_
  refine (tz_g_aload_n rfl (tz_in0 rfl)).trans ?_
  refine (tz_g_dup rfl (tz_in0 rfl)).trans ?_
  refine (tz_g_geti rfl rfl rfl (tz_in0 rfl)).trans ?_
  refine (tz_g_iconst (v := 1) rfl (tz_in0 rfl)).trans ?_
  refine (tz_g_iadd (tz_in0 rfl)).trans ?_
  refine (tz_g_puti rfl rfl rfl (tz_in0 rfl)).trans ?_
  refine (tz_g_iconst (v := 0) rfl (tz_in0 rfl)).trans ?_
  refine (tz_g_istore_n (L2 := [some (.ref 157), some (.int 0)]) rfl rfl (tz_in0 rfl)).trans ?_
  exact tz_Gm (L2 := [some (.ref 157), some (.int 0)]) rfl rfl rfl rfl

theorem e_X12_goOn_12 (z1 : Int32) (A : tz_Mem) : q_X12_goOn_12 z1 A =
  if (tz_g A 157 8) ≤ z1 then
  some (none, A)
else
  if z1 < 0 ∨ 4 ≤ (Int32.toNatClampNeg z1) then none else
  if (tz_g A 168 (Int32.toNatClampNeg z1)) = 0 then none else
  if ¬ ((tz_g A 157 22) - (tz_g A 157 22) / (tz_g A 168 (Int32.toNatClampNeg z1)) * (tz_g A 168 (Int32.toNatClampNeg z1))) = 0 then
    q_X12_goOn_12 (z1 + 1) A
  else
    tz_bI (f_X12_has (tz_g A 157 34) z1 A) (fun y1 A1 =>
    if ¬ y1 = 0 then
      q_X12_goOn_12 (z1 + 1) A1
    else
      tz_bV (f_X12_comes z1 A1) (fun A2 =>
      q_X12_goOn_12 (z1 + 1) A2)) := by
  show tz_Go 202 12 [some (.ref 157), some (.int z1)] [] A = _
  refine (tz_g_iload_n rfl (tz_inM rfl rfl rfl)).trans ?_
  refine (tz_g_aload_n rfl (tz_in0 rfl)).trans ?_
  refine (tz_g_geti rfl rfl rfl (tz_in0 rfl)).trans ?_
  refine (tz_g_ic_ge (t := 56) (by decide) (tz_in0 rfl)).trans ?_
  refine tz_cg ?_ ?_
  · skip
    exact tz_g_ret0 (tz_in0 rfl) rfl
  · skip
    refine (tz_g_aload_n rfl (tz_in0 rfl)).trans ?_
    refine (tz_g_geti rfl rfl rfl (tz_in0 rfl)).trans ?_
    refine (tz_g_aload_n rfl (tz_in0 rfl)).trans ?_
    refine (tz_g_getr (j := 168) rfl rfl rfl rfl rfl (tz_in0 rfl)).trans ?_
    refine (tz_g_iload_n rfl (tz_in0 rfl)).trans ?_
    refine (tz_g_iald (n := 4) rfl rfl rfl (tz_in0 rfl)).trans ?_
    refine tz_cn1 ?_
    refine (tz_g_irem (tz_in0 rfl)).trans ?_
    refine tz_cn1 ?_
    refine (tz_g_if_ne (t := 50) (by decide) (tz_in0 rfl)).trans ?_
    refine tz_cg ?_ ?_
    · skip
      refine (tz_g_iinc (v := 1) (L2 := [some (.ref 157), some (.int (z1 + 1))]) rfl rfl rfl rfl (tz_in0 rfl)).trans ?_
      refine (tz_g_goto (t := 12) (by decide) (tz_in0 rfl)).trans ?_
      exact tz_Gm (L2 := [some (.ref 157), some (.int (z1 + 1))]) rfl rfl rfl rfl
    · skip
      refine (tz_g_aload_n rfl (tz_in0 rfl)).trans ?_
      refine (tz_g_geti rfl rfl rfl (tz_in0 rfl)).trans ?_
      refine (tz_g_iload_n rfl (tz_in0 rfl)).trans ?_
      refine (tz_g_cs2I (m2 := 203) (rc := 4) rfl rfl rfl rfl rfl rfl (by decide) (tz_in0 rfl)).trans ?_
      refine tz_jI (fun y1 A1 => ?_)
      refine (tz_g_if_ne (t := 50) (by decide) (tz_in0 rfl)).trans ?_
      refine tz_cg ?_ ?_
      · skip
        refine (tz_g_iinc (v := 1) (L2 := [some (.ref 157), some (.int (z1 + 1))]) rfl rfl rfl rfl (tz_in0 rfl)).trans ?_
        refine (tz_g_goto (t := 12) (by decide) (tz_in0 rfl)).trans ?_
        exact tz_Gm (L2 := [some (.ref 157), some (.int (z1 + 1))]) rfl rfl rfl rfl
      · skip
        refine (tz_g_aload_n rfl (tz_in0 rfl)).trans ?_
        refine (tz_g_iload_n rfl (tz_in0 rfl)).trans ?_
        refine (tz_g_cv1V (m2 := 204) (rc := 0) rfl rfl rfl rfl rfl rfl (by decide) (tz_in0 rfl)).trans ?_
        refine tz_jV (fun A2 => ?_)
        refine (tz_g_iinc (v := 1) (L2 := [some (.ref 157), some (.int (z1 + 1))]) rfl rfl rfl rfl (tz_in0 rfl)).trans ?_
        refine (tz_g_goto (t := 12) (by decide) (tz_in0 rfl)).trans ?_
        exact tz_Gm (L2 := [some (.ref 157), some (.int (z1 + 1))]) rfl rfl rfl rfl

theorem e_X12_ways (A : tz_Mem) : f_X12_ways A =
  tz_bI (f_X12_number 3 0 ((tz_g A 157 3) - 1) A) (fun y1 A1 =>
if ¬ y1 = 0 then
  q_X12_ways_24 1 (tz_g A1 157 40) A1
else
  some (some (.int 0), A1)) := by
  refine (tz_Fe (L := [some (.ref 157), none, none, none]) rfl).trans ?_
  refine (tz_g_aload_n rfl (tz_in0 rfl)).trans ?_
  refine (tz_g_iconst (v := 3) rfl (tz_in0 rfl)).trans ?_
  refine (tz_g_iconst (v := 0) rfl (tz_in0 rfl)).trans ?_
  refine (tz_g_aload_n rfl (tz_in0 rfl)).trans ?_
  refine (tz_g_geti rfl rfl rfl (tz_in0 rfl)).trans ?_
  refine (tz_g_iconst (v := 1) rfl (tz_in0 rfl)).trans ?_
  refine (tz_g_isub (tz_in0 rfl)).trans ?_
  refine (tz_g_cv3I (m2 := 201) (rc := 4) rfl rfl rfl rfl rfl rfl (by decide) (tz_in0 rfl)).trans ?_
  refine tz_jI (fun y1 A1 => ?_)
  refine (tz_g_if_ne (t := 17) (by decide) (tz_in0 rfl)).trans ?_
  refine tz_cg ?_ ?_
  · skip
    refine (tz_g_iconst (v := 1) rfl (tz_in0 rfl)).trans ?_
    refine (tz_g_istore_n (L2 := [some (.ref 157), some (.int 1), none, none]) rfl rfl (tz_in0 rfl)).trans ?_
    refine (tz_g_aload_n rfl (tz_in0 rfl)).trans ?_
    refine (tz_g_geti rfl rfl rfl (tz_in0 rfl)).trans ?_
    refine (tz_g_istore_n (L2 := [some (.ref 157), some (.int 1), some (.int (tz_g A1 157 40)), none]) rfl rfl (tz_in0 rfl)).trans ?_
    exact tz_Gm (L2 := [some (.ref 157), some (.int 1), some (.int (tz_g A1 157 40)), none]) rfl rfl rfl rfl
  · skip
    refine (tz_g_iconst (v := 0) rfl (tz_in0 rfl)).trans ?_
    exact tz_g_ret4K (by decide) (tz_in0 rfl) rfl

theorem e_X12_ways_24 (z1 : Int32) (z2 : Int32) (A : tz_Mem) : q_X12_ways_24 z1 z2 A =
  if z1 < 2 then
  tz_bI (f_X12_hillBut (3 + z1) (2 + z1) A) (fun y1 A1 =>
  if ¬ y1 = 0 then
    q_X12_ways_24 (z1 + 1) ((tz_g A 157 40) + 1) A1
  else
    some (some (.int 0), A1))
else
  if 6 ≤ z1 then
    if (2 + z1) < 0 ∨ 10 ≤ (Int32.toNatClampNeg (2 + z1)) then none else
    if (3 : Int32) < 0 ∨ 10 ≤ 3 then none else
    if ¬ (tz_g A 183 (Int32.toNatClampNeg (2 + z1))) = (tz_g A 183 3) then
      if (tz_g A 157 8) < 0 ∨ 4 ≤ (Int32.toNatClampNeg (tz_g A 157 8)) then none else
      q_X12_ways_108 z1 0 (tz_s A 165 (Int32.toNatClampNeg (tz_g A 157 8)) z1)
    else
      some (some (.int 0), (tz_s A 157 40 z2))
  else
    tz_bI (f_X12_sign A) (fun y1 A1 =>
    if ¬ y1 = 32 then
      if (2 + z1) < 0 ∨ 10 ≤ (Int32.toNatClampNeg (2 + z1)) then none else
      if (3 : Int32) < 0 ∨ 10 ≤ 3 then none else
      if ¬ (tz_g A1 183 (Int32.toNatClampNeg (2 + z1))) = (tz_g A1 183 3) then
        if (tz_g A1 157 8) < 0 ∨ 4 ≤ (Int32.toNatClampNeg (tz_g A1 157 8)) then none else
        q_X12_ways_108 z1 0 (tz_s A1 165 (Int32.toNatClampNeg (tz_g A1 157 8)) z1)
      else
        some (some (.int 0), (tz_s A1 157 40 z2))
    else
      tz_bI (f_X12_hillBut (3 + z1) (2 + z1) A1) (fun y2 A2 =>
      if ¬ y2 = 0 then
        q_X12_ways_24 (z1 + 1) ((tz_g A1 157 40) + 1) A2
      else
        some (some (.int 0), A2))) := by
  show tz_Go 208 24 [some (.ref 157), some (.int z1), some (.int z2), none] [] A = _
  refine (tz_g_iload_n rfl (tz_inM rfl rfl rfl)).trans ?_
  refine (tz_g_iconst (v := 2) rfl (tz_in0 rfl)).trans ?_
  refine (tz_g_ic_lt (t := 44) (by decide) (tz_in0 rfl)).trans ?_
  refine tz_cg ?_ ?_
  · skip
    refine (tz_g_aload_n rfl (tz_in0 rfl)).trans ?_
    refine (tz_g_geti rfl rfl rfl (tz_in0 rfl)).trans ?_
    refine (tz_g_iconst (v := 1) rfl (tz_in0 rfl)).trans ?_
    refine (tz_g_iadd (tz_in0 rfl)).trans ?_
    refine (tz_g_istore_n (L2 := [some (.ref 157), some (.int z1), some (.int ((tz_g A 157 40) + 1)), none]) rfl rfl (tz_in0 rfl)).trans ?_
    refine (tz_g_aload_n rfl (tz_in0 rfl)).trans ?_
    refine (tz_g_iconst (v := 3) rfl (tz_in0 rfl)).trans ?_
    refine (tz_g_iload_n rfl (tz_in0 rfl)).trans ?_
    refine (tz_g_iadd (tz_in0 rfl)).trans ?_
    refine (tz_g_iconst (v := 2) rfl (tz_in0 rfl)).trans ?_
    refine (tz_g_iload_n rfl (tz_in0 rfl)).trans ?_
    refine (tz_g_iadd (tz_in0 rfl)).trans ?_
    refine (tz_g_cv2I (m2 := 209) (rc := 4) rfl rfl rfl rfl rfl rfl (by decide) (tz_in0 rfl)).trans ?_
    refine tz_jI (fun y1 A1 => ?_)
    refine (tz_g_if_ne (t := 66) (by decide) (tz_in0 rfl)).trans ?_
    refine tz_cg ?_ ?_
    · skip
      refine (tz_g_iinc (v := 1) (L2 := [some (.ref 157), some (.int (z1 + 1)), some (.int ((tz_g A 157 40) + 1)), none]) rfl rfl rfl rfl (tz_in0 rfl)).trans ?_
      refine (tz_g_goto (t := 24) (by decide) (tz_in0 rfl)).trans ?_
      exact tz_Gm (L2 := [some (.ref 157), some (.int (z1 + 1)), some (.int ((tz_g A 157 40) + 1)), none]) rfl rfl rfl rfl
    · skip
      refine (tz_g_iconst (v := 0) rfl (tz_in0 rfl)).trans ?_
      exact tz_g_ret4K (by decide) (tz_in0 rfl) rfl
  · skip
    refine (tz_g_iload_n rfl (tz_in0 rfl)).trans ?_
    refine (tz_g_bipush (v := 6) rfl (tz_in0 rfl)).trans ?_
    refine (tz_g_ic_ge (t := 72) (by decide) (tz_in0 rfl)).trans ?_
    refine tz_cg ?_ ?_
    · skip
      refine (tz_g_aload_n rfl (tz_in0 rfl)).trans ?_
      refine (tz_g_getr (j := 183) rfl rfl rfl rfl rfl (tz_in0 rfl)).trans ?_
      refine (tz_g_iconst (v := 2) rfl (tz_in0 rfl)).trans ?_
      refine (tz_g_iload_n rfl (tz_in0 rfl)).trans ?_
      refine (tz_g_iadd (tz_in0 rfl)).trans ?_
      refine (tz_g_iald (n := 10) rfl rfl rfl (tz_in0 rfl)).trans ?_
      refine tz_cn1 ?_
      refine (tz_g_aload_n rfl (tz_in0 rfl)).trans ?_
      refine (tz_g_getr (j := 183) rfl rfl rfl rfl rfl (tz_in0 rfl)).trans ?_
      refine (tz_g_iconst (v := 3) rfl (tz_in0 rfl)).trans ?_
      refine (tz_g_iald (n := 10) rfl rfl rfl (tz_in0 rfl)).trans ?_
      refine tz_cn1 ?_
      refine (tz_g_ic_ne (t := 96) (by decide) (tz_in0 rfl)).trans ?_
      refine tz_cg ?_ ?_
      · skip
        refine (tz_g_aload_n rfl (tz_in0 rfl)).trans ?_
        refine (tz_g_getr (j := 165) rfl rfl rfl rfl rfl (tz_in0 rfl)).trans ?_
        refine (tz_g_aload_n rfl (tz_in0 rfl)).trans ?_
        refine (tz_g_geti rfl rfl rfl (tz_in0 rfl)).trans ?_
        refine (tz_g_iload_n rfl (tz_in0 rfl)).trans ?_
        refine (tz_g_iast (n := 4) rfl rfl rfl (tz_in0 rfl)).trans ?_
        refine tz_cn1 ?_
        refine (tz_g_iconst (v := 0) rfl (tz_in0 rfl)).trans ?_
        refine (tz_g_istore_n (L2 := [some (.ref 157), some (.int z1), some (.int z2), some (.int 0)]) rfl rfl (tz_in0 rfl)).trans ?_
        exact tz_Gm (L2 := [some (.ref 157), some (.int z1), none, some (.int 0)]) rfl rfl rfl rfl
      · skip
        refine (tz_g_aload_n rfl (tz_in0 rfl)).trans ?_
        refine (tz_g_iload_n rfl (tz_in0 rfl)).trans ?_
        refine (tz_g_puti rfl rfl rfl (tz_in0 rfl)).trans ?_
        refine (tz_g_iconst (v := 0) rfl (tz_in0 rfl)).trans ?_
        exact tz_g_ret4K (by decide) (tz_in0 rfl) rfl
    · skip
      refine (tz_g_aload_n rfl (tz_in0 rfl)).trans ?_
      refine (tz_g_cv0I (m2 := 198) (rc := 1) rfl rfl rfl rfl rfl rfl (by decide) (tz_in0 rfl)).trans ?_
      refine tz_jI (fun y1 A1 => ?_)
      refine (tz_g_bipush (v := 32) rfl (tz_in0 rfl)).trans ?_
      refine (tz_g_ic_ne (t := 72) (by decide) (tz_in0 rfl)).trans ?_
      refine tz_cg ?_ ?_
      · skip
        refine (tz_g_aload_n rfl (tz_in0 rfl)).trans ?_
        refine (tz_g_getr (j := 183) rfl rfl rfl rfl rfl (tz_in0 rfl)).trans ?_
        refine (tz_g_iconst (v := 2) rfl (tz_in0 rfl)).trans ?_
        refine (tz_g_iload_n rfl (tz_in0 rfl)).trans ?_
        refine (tz_g_iadd (tz_in0 rfl)).trans ?_
        refine (tz_g_iald (n := 10) rfl rfl rfl (tz_in0 rfl)).trans ?_
        refine tz_cn1 ?_
        refine (tz_g_aload_n rfl (tz_in0 rfl)).trans ?_
        refine (tz_g_getr (j := 183) rfl rfl rfl rfl rfl (tz_in0 rfl)).trans ?_
        refine (tz_g_iconst (v := 3) rfl (tz_in0 rfl)).trans ?_
        refine (tz_g_iald (n := 10) rfl rfl rfl (tz_in0 rfl)).trans ?_
        refine tz_cn1 ?_
        refine (tz_g_ic_ne (t := 96) (by decide) (tz_in0 rfl)).trans ?_
        refine tz_cg ?_ ?_
        · skip
          refine (tz_g_aload_n rfl (tz_in0 rfl)).trans ?_
          refine (tz_g_getr (j := 165) rfl rfl rfl rfl rfl (tz_in0 rfl)).trans ?_
          refine (tz_g_aload_n rfl (tz_in0 rfl)).trans ?_
          refine (tz_g_geti rfl rfl rfl (tz_in0 rfl)).trans ?_
          refine (tz_g_iload_n rfl (tz_in0 rfl)).trans ?_
          refine (tz_g_iast (n := 4) rfl rfl rfl (tz_in0 rfl)).trans ?_
          refine tz_cn1 ?_
          refine (tz_g_iconst (v := 0) rfl (tz_in0 rfl)).trans ?_
          refine (tz_g_istore_n (L2 := [some (.ref 157), some (.int z1), some (.int z2), some (.int 0)]) rfl rfl (tz_in0 rfl)).trans ?_
          exact tz_Gm (L2 := [some (.ref 157), some (.int z1), none, some (.int 0)]) rfl rfl rfl rfl
        · skip
          refine (tz_g_aload_n rfl (tz_in0 rfl)).trans ?_
          refine (tz_g_iload_n rfl (tz_in0 rfl)).trans ?_
          refine (tz_g_puti rfl rfl rfl (tz_in0 rfl)).trans ?_
          refine (tz_g_iconst (v := 0) rfl (tz_in0 rfl)).trans ?_
          exact tz_g_ret4K (by decide) (tz_in0 rfl) rfl
      · skip
        refine (tz_g_aload_n rfl (tz_in0 rfl)).trans ?_
        refine (tz_g_geti rfl rfl rfl (tz_in0 rfl)).trans ?_
        refine (tz_g_iconst (v := 1) rfl (tz_in0 rfl)).trans ?_
        refine (tz_g_iadd (tz_in0 rfl)).trans ?_
        refine (tz_g_istore_n (L2 := [some (.ref 157), some (.int z1), some (.int ((tz_g A1 157 40) + 1)), none]) rfl rfl (tz_in0 rfl)).trans ?_
        refine (tz_g_aload_n rfl (tz_in0 rfl)).trans ?_
        refine (tz_g_iconst (v := 3) rfl (tz_in0 rfl)).trans ?_
        refine (tz_g_iload_n rfl (tz_in0 rfl)).trans ?_
        refine (tz_g_iadd (tz_in0 rfl)).trans ?_
        refine (tz_g_iconst (v := 2) rfl (tz_in0 rfl)).trans ?_
        refine (tz_g_iload_n rfl (tz_in0 rfl)).trans ?_
        refine (tz_g_iadd (tz_in0 rfl)).trans ?_
        refine (tz_g_cv2I (m2 := 209) (rc := 4) rfl rfl rfl rfl rfl rfl (by decide) (tz_in0 rfl)).trans ?_
        refine tz_jI (fun y2 A2 => ?_)
        refine (tz_g_if_ne (t := 66) (by decide) (tz_in0 rfl)).trans ?_
        refine tz_cg ?_ ?_
        · skip
          refine (tz_g_iinc (v := 1) (L2 := [some (.ref 157), some (.int (z1 + 1)), some (.int ((tz_g A1 157 40) + 1)), none]) rfl rfl rfl rfl (tz_in0 rfl)).trans ?_
          refine (tz_g_goto (t := 24) (by decide) (tz_in0 rfl)).trans ?_
          exact tz_Gm (L2 := [some (.ref 157), some (.int (z1 + 1)), some (.int ((tz_g A1 157 40) + 1)), none]) rfl rfl rfl rfl
        · skip
          refine (tz_g_iconst (v := 0) rfl (tz_in0 rfl)).trans ?_
          exact tz_g_ret4K (by decide) (tz_in0 rfl) rfl

theorem e_X12_ways_108 (z1 : Int32) (z3 : Int32) (A : tz_Mem) : q_X12_ways_108 z1 z3 A =
  if z1 ≤ z3 then
  some (some (.int 1), A)
else
  if (3 + z3) < 0 ∨ 10 ≤ (Int32.toNatClampNeg (3 + z3)) then none else
  if ((6 * (tz_g A 157 8)) + z3) < 0 ∨ 24 ≤ (Int32.toNatClampNeg ((6 * (tz_g A 157 8)) + z3)) then none else
  q_X12_ways_108 z1 (z3 + 1) (tz_s A 166 (Int32.toNatClampNeg ((6 * (tz_g A 157 8)) + z3)) (tz_g A 183 (Int32.toNatClampNeg (3 + z3)))) := by
  show tz_Go 208 108 [some (.ref 157), some (.int z1), none, some (.int z3)] [] A = _
  refine (tz_g_iload_n rfl (tz_inM rfl rfl rfl)).trans ?_
  refine (tz_g_iload_n rfl (tz_in0 rfl)).trans ?_
  refine (tz_g_ic_ge (t := 141) (by decide) (tz_in0 rfl)).trans ?_
  refine tz_cg ?_ ?_
  · skip
    refine (tz_g_iconst (v := 1) rfl (tz_in0 rfl)).trans ?_
    exact tz_g_ret4K (by decide) (tz_in0 rfl) rfl
  · skip
    refine (tz_g_aload_n rfl (tz_in0 rfl)).trans ?_
    refine (tz_g_getr (j := 166) rfl rfl rfl rfl rfl (tz_in0 rfl)).trans ?_
    refine (tz_g_bipush (v := 6) rfl (tz_in0 rfl)).trans ?_
    refine (tz_g_aload_n rfl (tz_in0 rfl)).trans ?_
    refine (tz_g_geti rfl rfl rfl (tz_in0 rfl)).trans ?_
    refine (tz_g_imul (tz_in0 rfl)).trans ?_
    refine (tz_g_iload_n rfl (tz_in0 rfl)).trans ?_
    refine (tz_g_iadd (tz_in0 rfl)).trans ?_
    refine (tz_g_aload_n rfl (tz_in0 rfl)).trans ?_
    refine (tz_g_getr (j := 183) rfl rfl rfl rfl rfl (tz_in0 rfl)).trans ?_
    refine (tz_g_iconst (v := 3) rfl (tz_in0 rfl)).trans ?_
    refine (tz_g_iload_n rfl (tz_in0 rfl)).trans ?_
    refine (tz_g_iadd (tz_in0 rfl)).trans ?_
    refine (tz_g_iald (n := 10) rfl rfl rfl (tz_in0 rfl)).trans ?_
    refine tz_cn1 ?_
    refine (tz_g_iast (n := 24) rfl rfl rfl (tz_in0 rfl)).trans ?_
    refine tz_cn1 ?_
    refine (tz_g_iinc (v := 1) (L2 := [some (.ref 157), some (.int z1), none, some (.int (z3 + 1))]) rfl rfl rfl rfl (tz_in0 rfl)).trans ?_
    refine (tz_g_goto (t := 108) (by decide) (tz_in0 rfl)).trans ?_
    exact tz_Gm (L2 := [some (.ref 157), some (.int z1), none, some (.int (z3 + 1))]) rfl rfl rfl rfl

theorem e_X12_night (x1 : Int32) (x2 : Int32) (x3 : Int32) (A : tz_Mem) : f_X12_night x1 x2 x3 A =
  tz_bI (f_X12_isHill x1 A) (fun y1 A1 =>
if ¬ y1 = 0 then
  tz_bI (f_X12_noRow x2 A1) (fun y2 A2 =>
  if 0 ≤ y2 then
    if 0 ≤ x3 then
      if x2 < 0 ∨ 8 ≤ (Int32.toNatClampNeg x2) then none else
      if x3 ≤ (tz_g A2 159 (Int32.toNatClampNeg x2)) then
        if x3 ≤ 40 then
          tz_bV (f_X12_keep_s181 A2) (fun A3 =>
          q_X12_night_91 x1 x2 x3 0 1 0 A3)
        else
          tz_bI (f_X12_no10 (-6) A2) (fun y3 A3 =>
          some (some (.int y3), A3))
      else
        tz_bI (f_X12_no10 (-5) A2) (fun y3 A3 =>
        some (some (.int y3), A3))
    else
      tz_bI (f_X12_no10 (-4) A2) (fun y3 A3 =>
      some (some (.int y3), A3))
  else
    tz_bI (f_X12_no10 y2 A2) (fun y3 A3 =>
    some (some (.int y3), A3)))
else
  tz_bI (f_X12_no10 (-1) A1) (fun y2 A2 =>
  some (some (.int y2), A2))) := by
  refine (tz_Fe (L := [some (.ref 157), some (.int x1), some (.int x2), some (.int x3), none, none, none, none, none]) rfl).trans ?_
  refine (tz_g_aload_n rfl (tz_in0 rfl)).trans ?_
  refine (tz_g_iload_n rfl (tz_in0 rfl)).trans ?_
  refine (tz_g_cv1I (m2 := 173) (rc := 4) rfl rfl rfl rfl rfl rfl (by decide) (tz_in0 rfl)).trans ?_
  refine tz_jI (fun y1 A1 => ?_)
  refine (tz_g_if_ne (t := 14) (by decide) (tz_in0 rfl)).trans ?_
  refine tz_cg ?_ ?_
  · skip
    refine (tz_g_aload_n rfl (tz_in0 rfl)).trans ?_
    refine (tz_g_iload_n rfl (tz_in0 rfl)).trans ?_
    refine (tz_g_cv1I (m2 := 168) (rc := 1) rfl rfl rfl rfl rfl rfl (by decide) (tz_in0 rfl)).trans ?_
    refine tz_jI (fun y2 A2 => ?_)
    refine (tz_g_istore (L2 := [some (.ref 157), some (.int x1), some (.int x2), some (.int x3), some (.int y2), none, none, none, none]) rfl rfl (tz_in0 rfl)).trans ?_
    refine (tz_g_iload rfl (tz_in0 rfl)).trans ?_
    refine (tz_g_if_ge (t := 33) (by decide) (tz_in0 rfl)).trans ?_
    refine tz_cg ?_ ?_
    · skip
      refine (tz_g_iload_n rfl (tz_in0 rfl)).trans ?_
      refine (tz_g_if_ge (t := 44) (by decide) (tz_in0 rfl)).trans ?_
      refine tz_cg ?_ ?_
      · skip
        refine (tz_g_iload_n rfl (tz_in0 rfl)).trans ?_
        refine (tz_g_aload_n rfl (tz_in0 rfl)).trans ?_
        refine (tz_g_getr (j := 159) rfl rfl rfl rfl rfl (tz_in0 rfl)).trans ?_
        refine (tz_g_iload_n rfl (tz_in0 rfl)).trans ?_
        refine (tz_g_iald (n := 8) rfl rfl rfl (tz_in0 rfl)).trans ?_
        refine tz_cn1 ?_
        refine (tz_g_ic_le (t := 61) (by decide) (tz_in0 rfl)).trans ?_
        refine tz_cg ?_ ?_
        · skip
          refine (tz_g_iload_n rfl (tz_in0 rfl)).trans ?_
          refine (tz_g_bipush (v := 40) rfl (tz_in0 rfl)).trans ?_
          refine (tz_g_ic_le (t := 74) (by decide) (tz_in0 rfl)).trans ?_
          refine tz_cg ?_ ?_
          · skip
            refine (tz_g_aload_n rfl (tz_in0 rfl)).trans ?_
            refine (tz_g_aload_n rfl (tz_in0 rfl)).trans ?_
            refine (tz_g_getr (j := 181) rfl rfl rfl rfl rfl (tz_in0 rfl)).trans ?_
            refine (tz_g_cv1V (m2 := 196) (rc := 0) rfl rfl rfl rfl rfl rfl (by decide) (tz_in0 rfl)).trans ?_
            refine tz_jV (fun A3 => ?_)
            refine (tz_g_iconst (v := 0) rfl (tz_in0 rfl)).trans ?_
            refine (tz_g_istore (L2 := [some (.ref 157), some (.int x1), some (.int x2), some (.int x3), some (.int y2), some (.int 0), none, none, none]) rfl rfl (tz_in0 rfl)).trans ?_
            refine (tz_g_iconst (v := 1) rfl (tz_in0 rfl)).trans ?_
            refine (tz_g_istore (L2 := [some (.ref 157), some (.int x1), some (.int x2), some (.int x3), some (.int y2), some (.int 0), some (.int 1), none, none]) rfl rfl (tz_in0 rfl)).trans ?_
            refine (tz_g_iconst (v := 0) rfl (tz_in0 rfl)).trans ?_
            refine (tz_g_istore (L2 := [some (.ref 157), some (.int x1), some (.int x2), some (.int x3), some (.int y2), some (.int 0), some (.int 1), some (.int 0), none]) rfl rfl (tz_in0 rfl)).trans ?_
            exact tz_Gm (L2 := [some (.ref 157), some (.int x1), some (.int x2), some (.int x3), none, some (.int 0), some (.int 1), some (.int 0), none]) rfl rfl rfl rfl
          · skip
            refine (tz_g_aload_n rfl (tz_in0 rfl)).trans ?_
            refine (tz_g_bipush (v := (-6)) rfl (tz_in0 rfl)).trans ?_
            refine (tz_g_cv1I (m2 := 218) (rc := 1) rfl rfl rfl rfl rfl rfl (by decide) (tz_in0 rfl)).trans ?_
            refine tz_jI (fun y3 A3 => ?_)
            exact tz_g_ret1 (tz_in0 rfl) rfl
        · skip
          refine (tz_g_aload_n rfl (tz_in0 rfl)).trans ?_
          refine (tz_g_bipush (v := (-5)) rfl (tz_in0 rfl)).trans ?_
          refine (tz_g_cv1I (m2 := 218) (rc := 1) rfl rfl rfl rfl rfl rfl (by decide) (tz_in0 rfl)).trans ?_
          refine tz_jI (fun y3 A3 => ?_)
          exact tz_g_ret1 (tz_in0 rfl) rfl
      · skip
        refine (tz_g_aload_n rfl (tz_in0 rfl)).trans ?_
        refine (tz_g_bipush (v := (-4)) rfl (tz_in0 rfl)).trans ?_
        refine (tz_g_cv1I (m2 := 218) (rc := 1) rfl rfl rfl rfl rfl rfl (by decide) (tz_in0 rfl)).trans ?_
        refine tz_jI (fun y3 A3 => ?_)
        exact tz_g_ret1 (tz_in0 rfl) rfl
    · skip
      refine (tz_g_aload_n rfl (tz_in0 rfl)).trans ?_
      refine (tz_g_iload rfl (tz_in0 rfl)).trans ?_
      refine (tz_g_cv1I (m2 := 218) (rc := 1) rfl rfl rfl rfl rfl rfl (by decide) (tz_in0 rfl)).trans ?_
      refine tz_jI (fun y3 A3 => ?_)
      exact tz_g_ret1 (tz_in0 rfl) rfl
  · skip
    refine (tz_g_aload_n rfl (tz_in0 rfl)).trans ?_
    refine (tz_g_iconst (v := (-1)) rfl (tz_in0 rfl)).trans ?_
    refine (tz_g_cv1I (m2 := 218) (rc := 1) rfl rfl rfl rfl rfl rfl (by decide) (tz_in0 rfl)).trans ?_
    refine tz_jI (fun y2 A2 => ?_)
    exact tz_g_ret1 (tz_in0 rfl) rfl

theorem e_X12_night_91 (z1 : Int32) (z2 : Int32) (z3 : Int32) (z5 : Int32) (z6 : Int32) (z7 : Int32) (A : tz_Mem) : q_X12_night_91 z1 z2 z3 z5 z6 z7 A =
  if 500 ≤ z7 then
  tz_bV (f_X12_again_s181 A) (fun A1 =>
  if z5 < z3 then
    some (some (.int z5), A1)
  else
    some (some (.int (-1)), A1))
else
  if z3 ≤ z5 then
    tz_bV (f_X12_again_s181 A) (fun A1 =>
    if z5 < z3 then
      some (some (.int z5), A1)
    else
      some (some (.int (-1)), A1))
  else
    if z6 = 0 then
      tz_bV (f_X12_again_s181 A) (fun A1 =>
      if z5 < z3 then
        some (some (.int z5), A1)
      else
        some (some (.int (-1)), A1))
    else
      q_X12_night_123 z1 z2 z3 z5 z6 z7 0 (tz_s A 157 22 ((tz_g A 157 22) + 1)) := by
  show tz_Go 229 91 [some (.ref 157), some (.int z1), some (.int z2), some (.int z3), none, some (.int z5), some (.int z6), some (.int z7), none] [] A = _
  refine (tz_g_iload rfl (tz_inM rfl rfl rfl)).trans ?_
  refine (tz_g_sipush (v := 500) rfl (tz_in0 rfl)).trans ?_
  refine (tz_g_ic_ge (t := 189) (by decide) (tz_in0 rfl)).trans ?_
  refine tz_cg ?_ ?_
  · skip
    refine (tz_g_aload_n rfl (tz_in0 rfl)).trans ?_
    refine (tz_g_aload_n rfl (tz_in0 rfl)).trans ?_
    refine (tz_g_getr (j := 181) rfl rfl rfl rfl rfl (tz_in0 rfl)).trans ?_
    refine (tz_g_cv1V (m2 := 211) (rc := 0) rfl rfl rfl rfl rfl rfl (by decide) (tz_in0 rfl)).trans ?_
    refine tz_jV (fun A1 => ?_)
    refine (tz_g_iload rfl (tz_in0 rfl)).trans ?_
    refine (tz_g_iload_n rfl (tz_in0 rfl)).trans ?_
    refine (tz_g_ic_lt (t := 207) (by decide) (tz_in0 rfl)).trans ?_
    refine tz_cg ?_ ?_
    · skip
      refine (tz_g_iload rfl (tz_in0 rfl)).trans ?_
      exact tz_g_ret1 (tz_in0 rfl) rfl
    · skip
      refine (tz_g_iconst (v := (-1)) rfl (tz_in0 rfl)).trans ?_
      refine (tz_g_goto (t := 209) (by decide) (tz_in0 rfl)).trans ?_
      exact tz_g_ret1 (tz_in0 rfl) rfl
  · skip
    refine (tz_g_iload rfl (tz_in0 rfl)).trans ?_
    refine (tz_g_iload_n rfl (tz_in0 rfl)).trans ?_
    refine (tz_g_ic_ge (t := 189) (by decide) (tz_in0 rfl)).trans ?_
    refine tz_cg ?_ ?_
    · skip
      refine (tz_g_aload_n rfl (tz_in0 rfl)).trans ?_
      refine (tz_g_aload_n rfl (tz_in0 rfl)).trans ?_
      refine (tz_g_getr (j := 181) rfl rfl rfl rfl rfl (tz_in0 rfl)).trans ?_
      refine (tz_g_cv1V (m2 := 211) (rc := 0) rfl rfl rfl rfl rfl rfl (by decide) (tz_in0 rfl)).trans ?_
      refine tz_jV (fun A1 => ?_)
      refine (tz_g_iload rfl (tz_in0 rfl)).trans ?_
      refine (tz_g_iload_n rfl (tz_in0 rfl)).trans ?_
      refine (tz_g_ic_lt (t := 207) (by decide) (tz_in0 rfl)).trans ?_
      refine tz_cg ?_ ?_
      · skip
        refine (tz_g_iload rfl (tz_in0 rfl)).trans ?_
        exact tz_g_ret1 (tz_in0 rfl) rfl
      · skip
        refine (tz_g_iconst (v := (-1)) rfl (tz_in0 rfl)).trans ?_
        refine (tz_g_goto (t := 209) (by decide) (tz_in0 rfl)).trans ?_
        exact tz_g_ret1 (tz_in0 rfl) rfl
    · skip
      refine (tz_g_iload rfl (tz_in0 rfl)).trans ?_
      refine (tz_g_if_eq (t := 189) (by decide) (tz_in0 rfl)).trans ?_
      refine tz_cg ?_ ?_
      · skip
        refine (tz_g_aload_n rfl (tz_in0 rfl)).trans ?_
        refine (tz_g_aload_n rfl (tz_in0 rfl)).trans ?_
        refine (tz_g_getr (j := 181) rfl rfl rfl rfl rfl (tz_in0 rfl)).trans ?_
        refine (tz_g_cv1V (m2 := 211) (rc := 0) rfl rfl rfl rfl rfl rfl (by decide) (tz_in0 rfl)).trans ?_
        refine tz_jV (fun A1 => ?_)
        refine (tz_g_iload rfl (tz_in0 rfl)).trans ?_
        refine (tz_g_iload_n rfl (tz_in0 rfl)).trans ?_
        refine (tz_g_ic_lt (t := 207) (by decide) (tz_in0 rfl)).trans ?_
        refine tz_cg ?_ ?_
        · skip
          refine (tz_g_iload rfl (tz_in0 rfl)).trans ?_
          exact tz_g_ret1 (tz_in0 rfl) rfl
        · skip
          refine (tz_g_iconst (v := (-1)) rfl (tz_in0 rfl)).trans ?_
          refine (tz_g_goto (t := 209) (by decide) (tz_in0 rfl)).trans ?_
          exact tz_g_ret1 (tz_in0 rfl) rfl
      · skip
        refine (tz_g_aload_n rfl (tz_in0 rfl)).trans ?_
        refine (tz_g_dup rfl (tz_in0 rfl)).trans ?_
        refine (tz_g_geti rfl rfl rfl (tz_in0 rfl)).trans ?_
        refine (tz_g_iconst (v := 1) rfl (tz_in0 rfl)).trans ?_
        refine (tz_g_iadd (tz_in0 rfl)).trans ?_
        refine (tz_g_puti rfl rfl rfl (tz_in0 rfl)).trans ?_
        refine (tz_g_iconst (v := 0) rfl (tz_in0 rfl)).trans ?_
        refine (tz_g_istore (L2 := [some (.ref 157), some (.int z1), some (.int z2), some (.int z3), none, some (.int z5), some (.int z6), some (.int z7), some (.int 0)]) rfl rfl (tz_in0 rfl)).trans ?_
        exact tz_Gm (L2 := [some (.ref 157), some (.int z1), some (.int z2), some (.int z3), none, some (.int z5), some (.int z6), some (.int z7), some (.int 0)]) rfl rfl rfl rfl

theorem e_X12_night_123 (z1 : Int32) (z2 : Int32) (z3 : Int32) (z5 : Int32) (z6 : Int32) (z7 : Int32) (z8 : Int32) (A : tz_Mem) : q_X12_night_123 z1 z2 z3 z5 z6 z7 z8 A =
  if (tz_g A 157 8) ≤ z8 then
  q_X12_night_91 z1 z2 z3 z5 z6 (z7 + 1) A
else
  if z6 = 0 then
    q_X12_night_123 z1 z2 z3 z5 z6 z7 (z8 + 1) A
  else
    if z8 < 0 ∨ 4 ≤ (Int32.toNatClampNeg z8) then none else
    if (tz_g A 168 (Int32.toNatClampNeg z8)) = 0 then none else
    if ((tz_g A 157 22) - (tz_g A 157 22) / (tz_g A 168 (Int32.toNatClampNeg z8)) * (tz_g A 168 (Int32.toNatClampNeg z8))) = 0 then
      tz_bI (f_X12_listens z8 z1 z2 z3 z5 A) (fun y1 A1 =>
      q_X12_night_123 z1 z2 z3 (z5 + (tz_g A1 157 38)) y1 z7 (z8 + 1) A1)
    else
      q_X12_night_123 z1 z2 z3 z5 z6 z7 (z8 + 1) A := by
  show tz_Go 229 123 [some (.ref 157), some (.int z1), some (.int z2), some (.int z3), none, some (.int z5), some (.int z6), some (.int z7), some (.int z8)] [] A = _
  refine (tz_g_iload rfl (tz_inM rfl rfl rfl)).trans ?_
  refine (tz_g_aload_n rfl (tz_in0 rfl)).trans ?_
  refine (tz_g_geti rfl rfl rfl (tz_in0 rfl)).trans ?_
  refine (tz_g_ic_ge (t := 183) (by decide) (tz_in0 rfl)).trans ?_
  refine tz_cg ?_ ?_
  · skip
    refine (tz_g_iinc (v := 1) (L2 := [some (.ref 157), some (.int z1), some (.int z2), some (.int z3), none, some (.int z5), some (.int z6), some (.int (z7 + 1)), some (.int z8)]) rfl rfl rfl rfl (tz_in0 rfl)).trans ?_
    refine (tz_g_goto (t := 91) (by decide) (tz_in0 rfl)).trans ?_
    exact tz_Gm (L2 := [some (.ref 157), some (.int z1), some (.int z2), some (.int z3), none, some (.int z5), some (.int z6), some (.int (z7 + 1)), none]) rfl rfl rfl rfl
  · skip
    refine (tz_g_iload rfl (tz_in0 rfl)).trans ?_
    refine (tz_g_if_eq (t := 177) (by decide) (tz_in0 rfl)).trans ?_
    refine tz_cg ?_ ?_
    · skip
      refine (tz_g_iinc (v := 1) (L2 := [some (.ref 157), some (.int z1), some (.int z2), some (.int z3), none, some (.int z5), some (.int z6), some (.int z7), some (.int (z8 + 1))]) rfl rfl rfl rfl (tz_in0 rfl)).trans ?_
      refine (tz_g_goto (t := 123) (by decide) (tz_in0 rfl)).trans ?_
      exact tz_Gm (L2 := [some (.ref 157), some (.int z1), some (.int z2), some (.int z3), none, some (.int z5), some (.int z6), some (.int z7), some (.int (z8 + 1))]) rfl rfl rfl rfl
    · skip
      refine (tz_g_aload_n rfl (tz_in0 rfl)).trans ?_
      refine (tz_g_geti rfl rfl rfl (tz_in0 rfl)).trans ?_
      refine (tz_g_aload_n rfl (tz_in0 rfl)).trans ?_
      refine (tz_g_getr (j := 168) rfl rfl rfl rfl rfl (tz_in0 rfl)).trans ?_
      refine (tz_g_iload rfl (tz_in0 rfl)).trans ?_
      refine (tz_g_iald (n := 4) rfl rfl rfl (tz_in0 rfl)).trans ?_
      refine tz_cn1 ?_
      refine (tz_g_irem (tz_in0 rfl)).trans ?_
      refine tz_cn1 ?_
      refine (tz_g_if_eq (t := 155) (by decide) (tz_in0 rfl)).trans ?_
      refine tz_cg ?_ ?_
      · skip
        refine (tz_g_aload_n rfl (tz_in0 rfl)).trans ?_
        refine (tz_g_iload rfl (tz_in0 rfl)).trans ?_
        refine (tz_g_iload_n rfl (tz_in0 rfl)).trans ?_
        refine (tz_g_iload_n rfl (tz_in0 rfl)).trans ?_
        refine (tz_g_iload_n rfl (tz_in0 rfl)).trans ?_
        refine (tz_g_iload rfl (tz_in0 rfl)).trans ?_
        refine (tz_g_cv5I (m2 := 230) (rc := 4) rfl rfl rfl rfl rfl rfl (by decide) (tz_in0 rfl)).trans ?_
        refine tz_jI (fun y1 A1 => ?_)
        refine (tz_g_istore (L2 := [some (.ref 157), some (.int z1), some (.int z2), some (.int z3), none, some (.int z5), some (.int y1), some (.int z7), some (.int z8)]) rfl rfl (tz_in0 rfl)).trans ?_
        refine (tz_g_iload rfl (tz_in0 rfl)).trans ?_
        refine (tz_g_aload_n rfl (tz_in0 rfl)).trans ?_
        refine (tz_g_geti rfl rfl rfl (tz_in0 rfl)).trans ?_
        refine (tz_g_iadd (tz_in0 rfl)).trans ?_
        refine (tz_g_istore (L2 := [some (.ref 157), some (.int z1), some (.int z2), some (.int z3), none, some (.int (z5 + (tz_g A1 157 38))), some (.int y1), some (.int z7), some (.int z8)]) rfl rfl (tz_in0 rfl)).trans ?_
        refine (tz_g_iinc (v := 1) (L2 := [some (.ref 157), some (.int z1), some (.int z2), some (.int z3), none, some (.int (z5 + (tz_g A1 157 38))), some (.int y1), some (.int z7), some (.int (z8 + 1))]) rfl rfl rfl rfl (tz_in0 rfl)).trans ?_
        refine (tz_g_goto (t := 123) (by decide) (tz_in0 rfl)).trans ?_
        exact tz_Gm (L2 := [some (.ref 157), some (.int z1), some (.int z2), some (.int z3), none, some (.int (z5 + (tz_g A1 157 38))), some (.int y1), some (.int z7), some (.int (z8 + 1))]) rfl rfl rfl rfl
      · skip
        refine (tz_g_goto (t := 177) (by decide) (tz_in0 rfl)).trans ?_
        refine (tz_g_iinc (v := 1) (L2 := [some (.ref 157), some (.int z1), some (.int z2), some (.int z3), none, some (.int z5), some (.int z6), some (.int z7), some (.int (z8 + 1))]) rfl rfl rfl rfl (tz_in0 rfl)).trans ?_
        refine (tz_g_goto (t := 123) (by decide) (tz_in0 rfl)).trans ?_
        exact tz_Gm (L2 := [some (.ref 157), some (.int z1), some (.int z2), some (.int z3), none, some (.int z5), some (.int z6), some (.int z7), some (.int (z8 + 1))]) rfl rfl rfl rfl

theorem e_X12_drought (x1 : Int32) (A : tz_Mem) : f_X12_drought x1 A =
  tz_bI (f_X12_within x1 1 200 A) (fun y1 A1 =>
if ¬ y1 = 0 then
  q_X12_drought_22 x1 0 0 A1
else
  tz_bI (f_X12_no (-6) A1) (fun y2 A2 =>
  some (some (.int y2), A2))) := by
  refine (tz_Fe (L := [some (.ref 157), some (.int x1), none, none, none]) rfl).trans ?_
  refine (tz_g_iload_n rfl (tz_in0 rfl)).trans ?_
  refine (tz_g_iconst (v := 1) rfl (tz_in0 rfl)).trans ?_
  refine (tz_g_sipush (v := 200) rfl (tz_in0 rfl)).trans ?_
  refine (tz_g_cs3I (m2 := 165) (rc := 4) rfl rfl rfl rfl rfl rfl (by decide) (tz_in0 rfl)).trans ?_
  refine tz_jI (fun y1 A1 => ?_)
  refine (tz_g_if_ne (t := 18) (by decide) (tz_in0 rfl)).trans ?_
  refine tz_cg ?_ ?_
  · skip
    refine (tz_g_iconst (v := 0) rfl (tz_in0 rfl)).trans ?_
    refine (tz_g_istore_n (L2 := [some (.ref 157), some (.int x1), some (.int 0), none, none]) rfl rfl (tz_in0 rfl)).trans ?_
    refine (tz_g_iconst (v := 0) rfl (tz_in0 rfl)).trans ?_
    refine (tz_g_istore_n (L2 := [some (.ref 157), some (.int x1), some (.int 0), some (.int 0), none]) rfl rfl (tz_in0 rfl)).trans ?_
    exact tz_Gm (L2 := [some (.ref 157), some (.int x1), some (.int 0), some (.int 0), none]) rfl rfl rfl rfl
  · skip
    refine (tz_g_aload_n rfl (tz_in0 rfl)).trans ?_
    refine (tz_g_bipush (v := (-6)) rfl (tz_in0 rfl)).trans ?_
    refine (tz_g_cv1I (m2 := 166) (rc := 1) rfl rfl rfl rfl rfl rfl (by decide) (tz_in0 rfl)).trans ?_
    refine tz_jI (fun y2 A2 => ?_)
    exact tz_g_ret1 (tz_in0 rfl) rfl

theorem e_X12_drought_22 (z1 : Int32) (z2 : Int32) (z3 : Int32) (A : tz_Mem) : q_X12_drought_22 z1 z2 z3 A =
  if z1 ≤ z3 then
  some (some (.int z2), A)
else
  q_X12_drought_40 z1 z2 z3 0 (tz_s A 157 22 ((tz_g A 157 22) + 1)) := by
  show tz_Go 237 22 [some (.ref 157), some (.int z1), some (.int z2), some (.int z3), none] [] A = _
  refine (tz_g_iload_n rfl (tz_inM rfl rfl rfl)).trans ?_
  refine (tz_g_iload_n rfl (tz_in0 rfl)).trans ?_
  refine (tz_g_ic_ge (t := 104) (by decide) (tz_in0 rfl)).trans ?_
  refine tz_cg ?_ ?_
  · skip
    refine (tz_g_iload_n rfl (tz_in0 rfl)).trans ?_
    exact tz_g_ret1 (tz_in0 rfl) rfl
  · skip
    refine (tz_g_aload_n rfl (tz_in0 rfl)).trans ?_
    refine (tz_g_dup rfl (tz_in0 rfl)).trans ?_
    refine (tz_g_geti rfl rfl rfl (tz_in0 rfl)).trans ?_
    refine (tz_g_iconst (v := 1) rfl (tz_in0 rfl)).trans ?_
    refine (tz_g_iadd (tz_in0 rfl)).trans ?_
    refine (tz_g_puti rfl rfl rfl (tz_in0 rfl)).trans ?_
    refine (tz_g_iconst (v := 0) rfl (tz_in0 rfl)).trans ?_
    refine (tz_g_istore (L2 := [some (.ref 157), some (.int z1), some (.int z2), some (.int z3), some (.int 0)]) rfl rfl (tz_in0 rfl)).trans ?_
    exact tz_Gm (L2 := [some (.ref 157), some (.int z1), some (.int z2), some (.int z3), some (.int 0)]) rfl rfl rfl rfl

theorem e_X12_drought_40 (z1 : Int32) (z2 : Int32) (z3 : Int32) (z4 : Int32) (A : tz_Mem) : q_X12_drought_40 z1 z2 z3 z4 A =
  if (tz_g A 157 8) ≤ z4 then
  q_X12_drought_22 z1 z2 (z3 + 1) A
else
  if z4 < 0 ∨ 4 ≤ (Int32.toNatClampNeg z4) then none else
  if (tz_g A 168 (Int32.toNatClampNeg z4)) = 0 then none else
  if ((tz_g A 157 22) - (tz_g A 157 22) / (tz_g A 168 (Int32.toNatClampNeg z4)) * (tz_g A 168 (Int32.toNatClampNeg z4))) = 0 then
    tz_bI (f_X12_draw 100 A) (fun y1 A1 =>
    if y1 < (tz_g A1 157 23) then
      q_X12_drought_40 z1 (z2 + 1) z3 (z4 + 1) A1
    else
      tz_bV (f_X12_comes z4 A1) (fun A2 =>
      q_X12_drought_40 z1 z2 z3 (z4 + 1) A2))
  else
    q_X12_drought_40 z1 z2 z3 (z4 + 1) A := by
  show tz_Go 237 40 [some (.ref 157), some (.int z1), some (.int z2), some (.int z3), some (.int z4)] [] A = _
  refine (tz_g_iload rfl (tz_inM rfl rfl rfl)).trans ?_
  refine (tz_g_aload_n rfl (tz_in0 rfl)).trans ?_
  refine (tz_g_geti rfl rfl rfl (tz_in0 rfl)).trans ?_
  refine (tz_g_ic_ge (t := 98) (by decide) (tz_in0 rfl)).trans ?_
  refine tz_cg ?_ ?_
  · skip
    refine (tz_g_iinc (v := 1) (L2 := [some (.ref 157), some (.int z1), some (.int z2), some (.int (z3 + 1)), some (.int z4)]) rfl rfl rfl rfl (tz_in0 rfl)).trans ?_
    refine (tz_g_goto (t := 22) (by decide) (tz_in0 rfl)).trans ?_
    exact tz_Gm (L2 := [some (.ref 157), some (.int z1), some (.int z2), some (.int (z3 + 1)), none]) rfl rfl rfl rfl
  · skip
    refine (tz_g_aload_n rfl (tz_in0 rfl)).trans ?_
    refine (tz_g_geti rfl rfl rfl (tz_in0 rfl)).trans ?_
    refine (tz_g_aload_n rfl (tz_in0 rfl)).trans ?_
    refine (tz_g_getr (j := 168) rfl rfl rfl rfl rfl (tz_in0 rfl)).trans ?_
    refine (tz_g_iload rfl (tz_in0 rfl)).trans ?_
    refine (tz_g_iald (n := 4) rfl rfl rfl (tz_in0 rfl)).trans ?_
    refine tz_cn1 ?_
    refine (tz_g_irem (tz_in0 rfl)).trans ?_
    refine tz_cn1 ?_
    refine (tz_g_if_eq (t := 67) (by decide) (tz_in0 rfl)).trans ?_
    refine tz_cg ?_ ?_
    · skip
      refine (tz_g_aload_n rfl (tz_in0 rfl)).trans ?_
      refine (tz_g_bipush (v := 100) rfl (tz_in0 rfl)).trans ?_
      refine (tz_g_cv1I (m2 := 238) (rc := 1) rfl rfl rfl rfl rfl rfl (by decide) (tz_in0 rfl)).trans ?_
      refine tz_jI (fun y1 A1 => ?_)
      refine (tz_g_aload_n rfl (tz_in0 rfl)).trans ?_
      refine (tz_g_geti rfl rfl rfl (tz_in0 rfl)).trans ?_
      refine (tz_g_ic_lt (t := 89) (by decide) (tz_in0 rfl)).trans ?_
      refine tz_cg ?_ ?_
      · skip
        refine (tz_g_iinc (v := 1) (L2 := [some (.ref 157), some (.int z1), some (.int (z2 + 1)), some (.int z3), some (.int z4)]) rfl rfl rfl rfl (tz_in0 rfl)).trans ?_
        refine (tz_g_iinc (v := 1) (L2 := [some (.ref 157), some (.int z1), some (.int (z2 + 1)), some (.int z3), some (.int (z4 + 1))]) rfl rfl rfl rfl (tz_in0 rfl)).trans ?_
        refine (tz_g_goto (t := 40) (by decide) (tz_in0 rfl)).trans ?_
        exact tz_Gm (L2 := [some (.ref 157), some (.int z1), some (.int (z2 + 1)), some (.int z3), some (.int (z4 + 1))]) rfl rfl rfl rfl
      · skip
        refine (tz_g_aload_n rfl (tz_in0 rfl)).trans ?_
        refine (tz_g_iload rfl (tz_in0 rfl)).trans ?_
        refine (tz_g_cv1V (m2 := 204) (rc := 0) rfl rfl rfl rfl rfl rfl (by decide) (tz_in0 rfl)).trans ?_
        refine tz_jV (fun A2 => ?_)
        refine (tz_g_goto (t := 92) (by decide) (tz_in0 rfl)).trans ?_
        refine (tz_g_iinc (v := 1) (L2 := [some (.ref 157), some (.int z1), some (.int z2), some (.int z3), some (.int (z4 + 1))]) rfl rfl rfl rfl (tz_in0 rfl)).trans ?_
        refine (tz_g_goto (t := 40) (by decide) (tz_in0 rfl)).trans ?_
        exact tz_Gm (L2 := [some (.ref 157), some (.int z1), some (.int z2), some (.int z3), some (.int (z4 + 1))]) rfl rfl rfl rfl
    · skip
      refine (tz_g_goto (t := 92) (by decide) (tz_in0 rfl)).trans ?_
      refine (tz_g_iinc (v := 1) (L2 := [some (.ref 157), some (.int z1), some (.int z2), some (.int z3), some (.int (z4 + 1))]) rfl rfl rfl rfl (tz_in0 rfl)).trans ?_
      refine (tz_g_goto (t := 40) (by decide) (tz_in0 rfl)).trans ?_
      exact tz_Gm (L2 := [some (.ref 157), some (.int z1), some (.int z2), some (.int z3), some (.int (z4 + 1))]) rfl rfl rfl rfl

theorem e_X12_act (x1 : Int32) (x2 : Int32) (x3 : Int32) (A : tz_Mem) : f_X12_act x1 x2 x3 A =
  tz_bI (f_X12_isHill x1 (tz_s A 157 28 0)) (fun y1 A1 =>
if y1 = 0 then
  some (some (.int 0), A1)
else
  tz_bI (f_X12_within x2 0 2 A1) (fun y2 A2 =>
  if ¬ y2 = 0 then
    if ¬ x2 = 0 then
      if ¬ x2 = 1 then
        tz_bI (f_X12_fadesBy x1 x3 A2) (fun y3 A3 =>
        some (some (.int y3), A3))
      else
        tz_bI (f_X12_rollsBy x1 x3 A2) (fun y3 A3 =>
        some (some (.int y3), A3))
    else
      tz_bI (f_X12_saysBy x1 x3 A2) (fun y3 A3 =>
      some (some (.int y3), A3))
  else
    some (some (.int 0), A2))) := by
  refine (tz_Fe (L := [some (.ref 157), some (.int x1), some (.int x2), some (.int x3)]) rfl).trans ?_
  refine (tz_g_aload_n rfl (tz_in0 rfl)).trans ?_
  refine (tz_g_iconst (v := 0) rfl (tz_in0 rfl)).trans ?_
  refine (tz_g_puti rfl rfl rfl (tz_in0 rfl)).trans ?_
  refine (tz_g_aload_n rfl (tz_in0 rfl)).trans ?_
  refine (tz_g_iload_n rfl (tz_in0 rfl)).trans ?_
  refine (tz_g_cv1I (m2 := 173) (rc := 4) rfl rfl rfl rfl rfl rfl (by decide) (tz_in0 rfl)).trans ?_
  refine tz_jI (fun y1 A1 => ?_)
  refine (tz_g_if_eq (t := 22) (by decide) (tz_in0 rfl)).trans ?_
  refine tz_cg ?_ ?_
  · skip
    refine (tz_g_iconst (v := 0) rfl (tz_in0 rfl)).trans ?_
    exact tz_g_ret1 (tz_in0 rfl) rfl
  · skip
    refine (tz_g_iload_n rfl (tz_in0 rfl)).trans ?_
    refine (tz_g_iconst (v := 0) rfl (tz_in0 rfl)).trans ?_
    refine (tz_g_iconst (v := 2) rfl (tz_in0 rfl)).trans ?_
    refine (tz_g_cs3I (m2 := 165) (rc := 4) rfl rfl rfl rfl rfl rfl (by decide) (tz_in0 rfl)).trans ?_
    refine tz_jI (fun y2 A2 => ?_)
    refine (tz_g_if_ne (t := 24) (by decide) (tz_in0 rfl)).trans ?_
    refine tz_cg ?_ ?_
    · skip
      refine (tz_g_iload_n rfl (tz_in0 rfl)).trans ?_
      refine (tz_g_if_ne (t := 37) (by decide) (tz_in0 rfl)).trans ?_
      refine tz_cg ?_ ?_
      · skip
        refine (tz_g_iload_n rfl (tz_in0 rfl)).trans ?_
        refine (tz_g_iconst (v := 1) rfl (tz_in0 rfl)).trans ?_
        refine (tz_g_ic_ne (t := 51) (by decide) (tz_in0 rfl)).trans ?_
        refine tz_cg ?_ ?_
        · skip
          refine (tz_g_aload_n rfl (tz_in0 rfl)).trans ?_
          refine (tz_g_iload_n rfl (tz_in0 rfl)).trans ?_
          refine (tz_g_iload_n rfl (tz_in0 rfl)).trans ?_
          refine (tz_g_cv2I (m2 := 244) (rc := 1) rfl rfl rfl rfl rfl rfl (by decide) (tz_in0 rfl)).trans ?_
          refine tz_jI (fun y3 A3 => ?_)
          exact tz_g_ret1 (tz_in0 rfl) rfl
        · skip
          refine (tz_g_aload_n rfl (tz_in0 rfl)).trans ?_
          refine (tz_g_iload_n rfl (tz_in0 rfl)).trans ?_
          refine (tz_g_iload_n rfl (tz_in0 rfl)).trans ?_
          refine (tz_g_cv2I (m2 := 243) (rc := 1) rfl rfl rfl rfl rfl rfl (by decide) (tz_in0 rfl)).trans ?_
          refine tz_jI (fun y3 A3 => ?_)
          refine (tz_g_goto (t := 57) (by decide) (tz_in0 rfl)).trans ?_
          exact tz_g_ret1 (tz_in0 rfl) rfl
      · skip
        refine (tz_g_aload_n rfl (tz_in0 rfl)).trans ?_
        refine (tz_g_iload_n rfl (tz_in0 rfl)).trans ?_
        refine (tz_g_iload_n rfl (tz_in0 rfl)).trans ?_
        refine (tz_g_cv2I (m2 := 241) (rc := 1) rfl rfl rfl rfl rfl rfl (by decide) (tz_in0 rfl)).trans ?_
        refine tz_jI (fun y3 A3 => ?_)
        refine (tz_g_goto (t := 57) (by decide) (tz_in0 rfl)).trans ?_
        exact tz_g_ret1 (tz_in0 rfl) rfl
    · skip
      refine (tz_g_iconst (v := 0) rfl (tz_in0 rfl)).trans ?_
      exact tz_g_ret1 (tz_in0 rfl) rfl

theorem e_X7_readWord (A : tz_Mem) : f_X7_readWord A =
  q_X7_readWord_4 0 0 A := by
  refine (tz_Fe (L := [some (.ref 122), none, none, none, none]) rfl).trans ?_
  refine (tz_g_iconst (v := 0) rfl (tz_in0 rfl)).trans ?_
  refine (tz_g_istore_n (L2 := [some (.ref 122), some (.int 0), none, none, none]) rfl rfl (tz_in0 rfl)).trans ?_
  refine (tz_g_iconst (v := 0) rfl (tz_in0 rfl)).trans ?_
  refine (tz_g_istore_n (L2 := [some (.ref 122), some (.int 0), some (.int 0), none, none]) rfl rfl (tz_in0 rfl)).trans ?_
  exact tz_Gm (L2 := [some (.ref 122), some (.int 0), some (.int 0), none, none]) rfl rfl rfl rfl

theorem e_X7_readWord_4 (z1 : Int32) (z2 : Int32) (A : tz_Mem) : q_X7_readWord_4 z1 z2 A =
  if 5 ≤ z2 then
  some (some (.int (-1)), (tz_s A 122 0 ((tz_g A 122 5) + z1)))
else
  if z2 = 0 then
    tz_bI (f_X7_countSame_s5 A) (fun y2 A2 =>
    tz_bI (f_J0_length_s5 A2) (fun y3 A3 =>
    if ¬ y2 = y3 then
      q_X7_readWord_4 (if z1 < y2 then y2 else z1) (z2 + 1) A3
    else
      some (some (.int z2), (tz_s A3 122 5 ((tz_g A3 122 5) + y2)))))
  else if z2 = 1 then
    tz_bI (f_X7_countSame_s6 A) (fun y2 A2 =>
    tz_bI (f_J0_length_s6 A2) (fun y3 A3 =>
    if ¬ y2 = y3 then
      q_X7_readWord_4 (if z1 < y2 then y2 else z1) (z2 + 1) A3
    else
      some (some (.int z2), (tz_s A3 122 5 ((tz_g A3 122 5) + y2)))))
  else if z2 = 2 then
    tz_bI (f_X7_countSame_s7 A) (fun y2 A2 =>
    tz_bI (f_J0_length_s7 A2) (fun y3 A3 =>
    if ¬ y2 = y3 then
      q_X7_readWord_4 (if z1 < y2 then y2 else z1) (z2 + 1) A3
    else
      some (some (.int z2), (tz_s A3 122 5 ((tz_g A3 122 5) + y2)))))
  else if z2 = 3 then
    tz_bI (f_X7_countSame_s8 A) (fun y2 A2 =>
    tz_bI (f_J0_length_s8 A2) (fun y3 A3 =>
    if ¬ y2 = y3 then
      q_X7_readWord_4 (if z1 < y2 then y2 else z1) (z2 + 1) A3
    else
      some (some (.int z2), (tz_s A3 122 5 ((tz_g A3 122 5) + y2)))))
  else tz_bI (f_X7_countSame_s9 A) (fun y2 A2 =>
  tz_bI (f_J0_length_s9 A2) (fun y3 A3 =>
  if ¬ y2 = y3 then
    q_X7_readWord_4 (if z1 < y2 then y2 else z1) (z2 + 1) A3
  else
    some (some (.int z2), (tz_s A3 122 5 ((tz_g A3 122 5) + y2))))) := by
  show tz_Go 73 4 [some (.ref 122), some (.int z1), some (.int z2), none, none] [] A = _
  refine (tz_g_iload_n rfl (tz_inM rfl rfl rfl)).trans ?_
  refine (tz_g_iconst (v := 5) rfl (tz_in0 rfl)).trans ?_
  refine (tz_g_ic_ge (t := 56) (by decide) (tz_in0 rfl)).trans ?_
  refine tz_cg ?_ ?_
  · skip
    refine (tz_g_aload_n rfl (tz_in0 rfl)).trans ?_
    refine (tz_g_aload_n rfl (tz_in0 rfl)).trans ?_
    refine (tz_g_geti rfl rfl rfl (tz_in0 rfl)).trans ?_
    refine (tz_g_iload_n rfl (tz_in0 rfl)).trans ?_
    refine (tz_g_iadd (tz_in0 rfl)).trans ?_
    refine (tz_g_puti rfl rfl rfl (tz_in0 rfl)).trans ?_
    refine (tz_g_iconst (v := (-1)) rfl (tz_in0 rfl)).trans ?_
    exact tz_g_ret1 (tz_in0 rfl) rfl
  · skip
    refine (tz_g_iload_n rfl (tz_in0 rfl)).trans ?_
    refine (tz_g_cs1R (m2 := 74) (rc := 3) rfl rfl rfl rfl rfl rfl (by decide) (tz_in0 rfl)).trans ?_
    refine (congrArg (fun o => tz_bR o _) (e_X7_wordOf z2 A)).trans ?_
    refine tz_bR_ite.trans ?_
    refine tz_cg ?_ ?_
    · refine tz_bR_some.trans ?_
      refine (tz_g_astore_n (L2 := [some (.ref 122), some (.int z1), some (.int z2), some (.ref 5), none]) rfl rfl (tz_in0 rfl)).trans ?_
      refine (tz_g_aload_n rfl (tz_in0 rfl)).trans ?_
      refine (tz_g_aload_n rfl (tz_in0 rfl)).trans ?_
      refine (tz_g_cv1I (m2 := 75) (rc := 1) rfl rfl rfl rfl rfl rfl (by decide) (tz_in0 rfl)).trans ?_
      refine tz_jI (fun y2 A2 => ?_)
      refine (tz_g_istore (L2 := [some (.ref 122), some (.int z1), some (.int z2), some (.ref 5), some (.int y2)]) rfl rfl (tz_in0 rfl)).trans ?_
      refine (tz_g_iload rfl (tz_in0 rfl)).trans ?_
      refine (tz_g_aload_n rfl (tz_in0 rfl)).trans ?_
      refine (tz_g_cv0I (m2 := 76) (rc := 1) rfl rfl rfl rfl rfl rfl (by decide) (tz_in0 rfl)).trans ?_
      refine tz_jI (fun y3 A3 => ?_)
      refine (tz_g_ic_ne (t := 43) (by decide) (tz_in0 rfl)).trans ?_
      refine tz_cg ?_ ?_
      · skip
        refine (tz_g_iload_n rfl (tz_in0 rfl)).trans ?_
        refine (tz_g_iload rfl (tz_in0 rfl)).trans ?_
        refine (tz_g_max rfl rfl rfl (tz_in0 rfl)).trans ?_
        refine (tz_g_istore_n (L2 := [some (.ref 122), some (.int (if z1 < y2 then y2 else z1)), some (.int z2), some (.ref 5), some (.int y2)]) rfl rfl (tz_in0 rfl)).trans ?_
        refine (tz_g_iinc (v := 1) (L2 := [some (.ref 122), some (.int (if z1 < y2 then y2 else z1)), some (.int (z2 + 1)), some (.ref 5), some (.int y2)]) rfl rfl rfl rfl (tz_in0 rfl)).trans ?_
        refine (tz_g_goto (t := 4) (by decide) (tz_in0 rfl)).trans ?_
        exact tz_Gm (L2 := [some (.ref 122), some (.int (if z1 < y2 then y2 else z1)), some (.int (z2 + 1)), none, none]) rfl rfl rfl rfl
      · skip
        refine (tz_g_aload_n rfl (tz_in0 rfl)).trans ?_
        refine (tz_g_dup rfl (tz_in0 rfl)).trans ?_
        refine (tz_g_geti rfl rfl rfl (tz_in0 rfl)).trans ?_
        refine (tz_g_iload rfl (tz_in0 rfl)).trans ?_
        refine (tz_g_iadd (tz_in0 rfl)).trans ?_
        refine (tz_g_puti rfl rfl rfl (tz_in0 rfl)).trans ?_
        refine (tz_g_iload_n rfl (tz_in0 rfl)).trans ?_
        exact tz_g_ret1 (tz_in0 rfl) rfl
    refine tz_bR_ite.trans ?_
    refine tz_cg ?_ ?_
    · refine tz_bR_some.trans ?_
      refine (tz_g_astore_n (L2 := [some (.ref 122), some (.int z1), some (.int z2), some (.ref 6), none]) rfl rfl (tz_in0 rfl)).trans ?_
      refine (tz_g_aload_n rfl (tz_in0 rfl)).trans ?_
      refine (tz_g_aload_n rfl (tz_in0 rfl)).trans ?_
      refine (tz_g_cv1I (m2 := 75) (rc := 1) rfl rfl rfl rfl rfl rfl (by decide) (tz_in0 rfl)).trans ?_
      refine tz_jI (fun y2 A2 => ?_)
      refine (tz_g_istore (L2 := [some (.ref 122), some (.int z1), some (.int z2), some (.ref 6), some (.int y2)]) rfl rfl (tz_in0 rfl)).trans ?_
      refine (tz_g_iload rfl (tz_in0 rfl)).trans ?_
      refine (tz_g_aload_n rfl (tz_in0 rfl)).trans ?_
      refine (tz_g_cv0I (m2 := 76) (rc := 1) rfl rfl rfl rfl rfl rfl (by decide) (tz_in0 rfl)).trans ?_
      refine tz_jI (fun y3 A3 => ?_)
      refine (tz_g_ic_ne (t := 43) (by decide) (tz_in0 rfl)).trans ?_
      refine tz_cg ?_ ?_
      · skip
        refine (tz_g_iload_n rfl (tz_in0 rfl)).trans ?_
        refine (tz_g_iload rfl (tz_in0 rfl)).trans ?_
        refine (tz_g_max rfl rfl rfl (tz_in0 rfl)).trans ?_
        refine (tz_g_istore_n (L2 := [some (.ref 122), some (.int (if z1 < y2 then y2 else z1)), some (.int z2), some (.ref 6), some (.int y2)]) rfl rfl (tz_in0 rfl)).trans ?_
        refine (tz_g_iinc (v := 1) (L2 := [some (.ref 122), some (.int (if z1 < y2 then y2 else z1)), some (.int (z2 + 1)), some (.ref 6), some (.int y2)]) rfl rfl rfl rfl (tz_in0 rfl)).trans ?_
        refine (tz_g_goto (t := 4) (by decide) (tz_in0 rfl)).trans ?_
        exact tz_Gm (L2 := [some (.ref 122), some (.int (if z1 < y2 then y2 else z1)), some (.int (z2 + 1)), none, none]) rfl rfl rfl rfl
      · skip
        refine (tz_g_aload_n rfl (tz_in0 rfl)).trans ?_
        refine (tz_g_dup rfl (tz_in0 rfl)).trans ?_
        refine (tz_g_geti rfl rfl rfl (tz_in0 rfl)).trans ?_
        refine (tz_g_iload rfl (tz_in0 rfl)).trans ?_
        refine (tz_g_iadd (tz_in0 rfl)).trans ?_
        refine (tz_g_puti rfl rfl rfl (tz_in0 rfl)).trans ?_
        refine (tz_g_iload_n rfl (tz_in0 rfl)).trans ?_
        exact tz_g_ret1 (tz_in0 rfl) rfl
    refine tz_bR_ite.trans ?_
    refine tz_cg ?_ ?_
    · refine tz_bR_some.trans ?_
      refine (tz_g_astore_n (L2 := [some (.ref 122), some (.int z1), some (.int z2), some (.ref 7), none]) rfl rfl (tz_in0 rfl)).trans ?_
      refine (tz_g_aload_n rfl (tz_in0 rfl)).trans ?_
      refine (tz_g_aload_n rfl (tz_in0 rfl)).trans ?_
      refine (tz_g_cv1I (m2 := 75) (rc := 1) rfl rfl rfl rfl rfl rfl (by decide) (tz_in0 rfl)).trans ?_
      refine tz_jI (fun y2 A2 => ?_)
      refine (tz_g_istore (L2 := [some (.ref 122), some (.int z1), some (.int z2), some (.ref 7), some (.int y2)]) rfl rfl (tz_in0 rfl)).trans ?_
      refine (tz_g_iload rfl (tz_in0 rfl)).trans ?_
      refine (tz_g_aload_n rfl (tz_in0 rfl)).trans ?_
      refine (tz_g_cv0I (m2 := 76) (rc := 1) rfl rfl rfl rfl rfl rfl (by decide) (tz_in0 rfl)).trans ?_
      refine tz_jI (fun y3 A3 => ?_)
      refine (tz_g_ic_ne (t := 43) (by decide) (tz_in0 rfl)).trans ?_
      refine tz_cg ?_ ?_
      · skip
        refine (tz_g_iload_n rfl (tz_in0 rfl)).trans ?_
        refine (tz_g_iload rfl (tz_in0 rfl)).trans ?_
        refine (tz_g_max rfl rfl rfl (tz_in0 rfl)).trans ?_
        refine (tz_g_istore_n (L2 := [some (.ref 122), some (.int (if z1 < y2 then y2 else z1)), some (.int z2), some (.ref 7), some (.int y2)]) rfl rfl (tz_in0 rfl)).trans ?_
        refine (tz_g_iinc (v := 1) (L2 := [some (.ref 122), some (.int (if z1 < y2 then y2 else z1)), some (.int (z2 + 1)), some (.ref 7), some (.int y2)]) rfl rfl rfl rfl (tz_in0 rfl)).trans ?_
        refine (tz_g_goto (t := 4) (by decide) (tz_in0 rfl)).trans ?_
        exact tz_Gm (L2 := [some (.ref 122), some (.int (if z1 < y2 then y2 else z1)), some (.int (z2 + 1)), none, none]) rfl rfl rfl rfl
      · skip
        refine (tz_g_aload_n rfl (tz_in0 rfl)).trans ?_
        refine (tz_g_dup rfl (tz_in0 rfl)).trans ?_
        refine (tz_g_geti rfl rfl rfl (tz_in0 rfl)).trans ?_
        refine (tz_g_iload rfl (tz_in0 rfl)).trans ?_
        refine (tz_g_iadd (tz_in0 rfl)).trans ?_
        refine (tz_g_puti rfl rfl rfl (tz_in0 rfl)).trans ?_
        refine (tz_g_iload_n rfl (tz_in0 rfl)).trans ?_
        exact tz_g_ret1 (tz_in0 rfl) rfl
    refine tz_bR_ite.trans ?_
    refine tz_cg ?_ ?_
    · refine tz_bR_some.trans ?_
      refine (tz_g_astore_n (L2 := [some (.ref 122), some (.int z1), some (.int z2), some (.ref 8), none]) rfl rfl (tz_in0 rfl)).trans ?_
      refine (tz_g_aload_n rfl (tz_in0 rfl)).trans ?_
      refine (tz_g_aload_n rfl (tz_in0 rfl)).trans ?_
      refine (tz_g_cv1I (m2 := 75) (rc := 1) rfl rfl rfl rfl rfl rfl (by decide) (tz_in0 rfl)).trans ?_
      refine tz_jI (fun y2 A2 => ?_)
      refine (tz_g_istore (L2 := [some (.ref 122), some (.int z1), some (.int z2), some (.ref 8), some (.int y2)]) rfl rfl (tz_in0 rfl)).trans ?_
      refine (tz_g_iload rfl (tz_in0 rfl)).trans ?_
      refine (tz_g_aload_n rfl (tz_in0 rfl)).trans ?_
      refine (tz_g_cv0I (m2 := 76) (rc := 1) rfl rfl rfl rfl rfl rfl (by decide) (tz_in0 rfl)).trans ?_
      refine tz_jI (fun y3 A3 => ?_)
      refine (tz_g_ic_ne (t := 43) (by decide) (tz_in0 rfl)).trans ?_
      refine tz_cg ?_ ?_
      · skip
        refine (tz_g_iload_n rfl (tz_in0 rfl)).trans ?_
        refine (tz_g_iload rfl (tz_in0 rfl)).trans ?_
        refine (tz_g_max rfl rfl rfl (tz_in0 rfl)).trans ?_
        refine (tz_g_istore_n (L2 := [some (.ref 122), some (.int (if z1 < y2 then y2 else z1)), some (.int z2), some (.ref 8), some (.int y2)]) rfl rfl (tz_in0 rfl)).trans ?_
        refine (tz_g_iinc (v := 1) (L2 := [some (.ref 122), some (.int (if z1 < y2 then y2 else z1)), some (.int (z2 + 1)), some (.ref 8), some (.int y2)]) rfl rfl rfl rfl (tz_in0 rfl)).trans ?_
        refine (tz_g_goto (t := 4) (by decide) (tz_in0 rfl)).trans ?_
        exact tz_Gm (L2 := [some (.ref 122), some (.int (if z1 < y2 then y2 else z1)), some (.int (z2 + 1)), none, none]) rfl rfl rfl rfl
      · skip
        refine (tz_g_aload_n rfl (tz_in0 rfl)).trans ?_
        refine (tz_g_dup rfl (tz_in0 rfl)).trans ?_
        refine (tz_g_geti rfl rfl rfl (tz_in0 rfl)).trans ?_
        refine (tz_g_iload rfl (tz_in0 rfl)).trans ?_
        refine (tz_g_iadd (tz_in0 rfl)).trans ?_
        refine (tz_g_puti rfl rfl rfl (tz_in0 rfl)).trans ?_
        refine (tz_g_iload_n rfl (tz_in0 rfl)).trans ?_
        exact tz_g_ret1 (tz_in0 rfl) rfl
    refine tz_bR_some.trans ?_
    refine (tz_g_astore_n (L2 := [some (.ref 122), some (.int z1), some (.int z2), some (.ref 9), none]) rfl rfl (tz_in0 rfl)).trans ?_
    refine (tz_g_aload_n rfl (tz_in0 rfl)).trans ?_
    refine (tz_g_aload_n rfl (tz_in0 rfl)).trans ?_
    refine (tz_g_cv1I (m2 := 75) (rc := 1) rfl rfl rfl rfl rfl rfl (by decide) (tz_in0 rfl)).trans ?_
    refine tz_jI (fun y2 A2 => ?_)
    refine (tz_g_istore (L2 := [some (.ref 122), some (.int z1), some (.int z2), some (.ref 9), some (.int y2)]) rfl rfl (tz_in0 rfl)).trans ?_
    refine (tz_g_iload rfl (tz_in0 rfl)).trans ?_
    refine (tz_g_aload_n rfl (tz_in0 rfl)).trans ?_
    refine (tz_g_cv0I (m2 := 76) (rc := 1) rfl rfl rfl rfl rfl rfl (by decide) (tz_in0 rfl)).trans ?_
    refine tz_jI (fun y3 A3 => ?_)
    refine (tz_g_ic_ne (t := 43) (by decide) (tz_in0 rfl)).trans ?_
    refine tz_cg ?_ ?_
    · skip
      refine (tz_g_iload_n rfl (tz_in0 rfl)).trans ?_
      refine (tz_g_iload rfl (tz_in0 rfl)).trans ?_
      refine (tz_g_max rfl rfl rfl (tz_in0 rfl)).trans ?_
      refine (tz_g_istore_n (L2 := [some (.ref 122), some (.int (if z1 < y2 then y2 else z1)), some (.int z2), some (.ref 9), some (.int y2)]) rfl rfl (tz_in0 rfl)).trans ?_
      refine (tz_g_iinc (v := 1) (L2 := [some (.ref 122), some (.int (if z1 < y2 then y2 else z1)), some (.int (z2 + 1)), some (.ref 9), some (.int y2)]) rfl rfl rfl rfl (tz_in0 rfl)).trans ?_
      refine (tz_g_goto (t := 4) (by decide) (tz_in0 rfl)).trans ?_
      exact tz_Gm (L2 := [some (.ref 122), some (.int (if z1 < y2 then y2 else z1)), some (.int (z2 + 1)), none, none]) rfl rfl rfl rfl
    · skip
      refine (tz_g_aload_n rfl (tz_in0 rfl)).trans ?_
      refine (tz_g_dup rfl (tz_in0 rfl)).trans ?_
      refine (tz_g_geti rfl rfl rfl (tz_in0 rfl)).trans ?_
      refine (tz_g_iload rfl (tz_in0 rfl)).trans ?_
      refine (tz_g_iadd (tz_in0 rfl)).trans ?_
      refine (tz_g_puti rfl rfl rfl (tz_in0 rfl)).trans ?_
      refine (tz_g_iload_n rfl (tz_in0 rfl)).trans ?_
      exact tz_g_ret1 (tz_in0 rfl) rfl

theorem e_X7_readHour (A : tz_Mem) : f_X7_readHour A =
  tz_bI (f_X7_readNumber 1 99 A) (fun y1 A1 =>
q_X7_readHour_10 y1 0 A1) := by
  refine (tz_Fe (L := [some (.ref 122), none, none]) rfl).trans ?_
  refine (tz_g_aload_n rfl (tz_in0 rfl)).trans ?_
  refine (tz_g_iconst (v := 1) rfl (tz_in0 rfl)).trans ?_
  refine (tz_g_bipush (v := 99) rfl (tz_in0 rfl)).trans ?_
  refine (tz_g_cv2I (m2 := 85) (rc := 1) rfl rfl rfl rfl rfl rfl (by decide) (tz_in0 rfl)).trans ?_
  refine tz_jI (fun y1 A1 => ?_)
  refine (tz_g_istore_n (L2 := [some (.ref 122), some (.int y1), none]) rfl rfl (tz_in0 rfl)).trans ?_
  refine (tz_g_iconst (v := 0) rfl (tz_in0 rfl)).trans ?_
  refine (tz_g_istore_n (L2 := [some (.ref 122), some (.int y1), some (.int 0)]) rfl rfl (tz_in0 rfl)).trans ?_
  exact tz_Gm (L2 := [some (.ref 122), some (.int y1), some (.int 0)]) rfl rfl rfl rfl

theorem e_X7_readHour_10 (z1 : Int32) (z2 : Int32) (A : tz_Mem) : q_X7_readHour_10 z1 z2 A =
  if z1 ≤ z2 then
  some (none, A)
else
  tz_bV (f_X9_tick 124 A) (fun A1 =>
  q_X7_readHour_10 z1 (z2 + 1) A1) := by
  show tz_Go 92 10 [some (.ref 122), some (.int z1), some (.int z2)] [] A = _
  refine (tz_g_iload_n rfl (tz_inM rfl rfl rfl)).trans ?_
  refine (tz_g_iload_n rfl (tz_in0 rfl)).trans ?_
  refine (tz_g_ic_ge (t := 28) (by decide) (tz_in0 rfl)).trans ?_
  refine tz_cg ?_ ?_
  · skip
    exact tz_g_ret0 (tz_in0 rfl) rfl
  · skip
    refine (tz_g_aload_n rfl (tz_in0 rfl)).trans ?_
    refine (tz_g_getr (j := 124) rfl rfl rfl rfl rfl (tz_in0 rfl)).trans ?_
    refine (tz_g_cv0V (m2 := 93) (rc := 0) rfl rfl rfl rfl rfl rfl (by decide) (tz_in0 rfl)).trans ?_
    refine tz_jV (fun A1 => ?_)
    refine (tz_g_iinc (v := 1) (L2 := [some (.ref 122), some (.int z1), some (.int (z2 + 1))]) rfl rfl rfl rfl (tz_in0 rfl)).trans ?_
    refine (tz_g_goto (t := 10) (by decide) (tz_in0 rfl)).trans ?_
    exact tz_Gm (L2 := [some (.ref 122), some (.int z1), some (.int (z2 + 1))]) rfl rfl rfl rfl

theorem e_X9_pass (b : Nat) (x1 : Int32) (hb : tz_sky b) (A : tz_Mem) : f_X9_pass b x1 A =
  q_X9_pass_2 b x1 0 A := by
  obtain rfl | rfl | rfl | rfl | rfl := hb
  all_goals
    refine (tz_Fe (L := [some (.ref _), some (.int x1), none]) rfl).trans ?_
    refine (tz_g_iconst (v := 0) rfl (tz_in0 rfl)).trans ?_
    refine (tz_g_istore_n (L2 := [some (.ref _), some (.int x1), some (.int 0)]) rfl rfl (tz_in0 rfl)).trans ?_
    exact tz_Gm (L2 := [some (.ref _), some (.int x1), some (.int 0)]) rfl rfl rfl rfl

theorem e_X9_pass_2 (b : Nat) (z1 : Int32) (z2 : Int32) (hb : tz_sky b) (A : tz_Mem) : q_X9_pass_2 b z1 z2 A =
  if z1 ≤ z2 then
  some (none, A)
else
  tz_bV (f_X9_tick b A) (fun A1 =>
  q_X9_pass_2 b z1 (z2 + 1) A1) := by
  obtain rfl | rfl | rfl | rfl | rfl := hb
  all_goals
    show tz_Go 110 2 _ [] A = _
    refine (tz_g_iload_n rfl (tz_inM rfl rfl rfl)).trans ?_
    refine (tz_g_iload_n rfl (tz_in0 rfl)).trans ?_
    refine (tz_g_ic_ge (t := 17) (by decide) (tz_in0 rfl)).trans ?_
    refine tz_cg ?_ ?_
    · skip
      exact tz_g_ret0 (tz_in0 rfl) rfl
    · skip
      refine (tz_g_aload_n rfl (tz_in0 rfl)).trans ?_
      refine (tz_g_cv0V (m2 := 93) (rc := 0) rfl rfl rfl rfl rfl rfl (by decide) (tz_in0 rfl)).trans ?_
      refine tz_jV (fun A1 => ?_)
      refine (tz_g_iinc (v := 1) (L2 := [some (.ref _), some (.int z1), some (.int (z2 + 1))]) rfl rfl rfl rfl (tz_in0 rfl)).trans ?_
      refine (tz_g_goto (t := 2) (by decide) (tz_in0 rfl)).trans ?_
      exact tz_Gm (L2 := [some (.ref _), some (.int z1), some (.int (z2 + 1))]) rfl rfl rfl rfl

theorem e_X9_arrival (b : Nat) (x1 : Int32) (x2 : Int32) (hb : tz_sky b) (A : tz_Mem) : f_X9_arrival b x1 x2 A =
  q_X9_arrival_2 b x1 x2 0 A := by
  obtain rfl | rfl | rfl | rfl | rfl := hb
  all_goals
    refine (tz_Fe (L := [some (.ref _), some (.int x1), some (.int x2), none]) rfl).trans ?_
    refine (tz_g_iconst (v := 0) rfl (tz_in0 rfl)).trans ?_
    refine (tz_g_istore_n (L2 := [some (.ref _), some (.int x1), some (.int x2), some (.int 0)]) rfl rfl (tz_in0 rfl)).trans ?_
    exact tz_Gm (L2 := [some (.ref _), some (.int x1), some (.int x2), some (.int 0)]) rfl rfl rfl rfl

theorem e_X9_arrival_2 (b : Nat) (z1 : Int32) (z2 : Int32) (z3 : Int32) (hb : tz_sky b) (A : tz_Mem) : q_X9_arrival_2 b z1 z2 z3 A =
  if 500 ≤ z3 then
  if z1 < 0 ∨ 12 ≤ (Int32.toNatClampNeg z1) then none else
  some (some (.int (tz_g A (b + 21) (Int32.toNatClampNeg z1))), A)
else
  if z2 ≤ (tz_g A b 3) then
    if z1 < 0 ∨ 12 ≤ (Int32.toNatClampNeg z1) then none else
    some (some (.int (tz_g A (b + 21) (Int32.toNatClampNeg z1))), A)
  else
    tz_bI (f_X4_isUnderWay b z1 A) (fun y1 A1 =>
    if y1 = 0 then
      if z1 < 0 ∨ 12 ≤ (Int32.toNatClampNeg z1) then none else
      some (some (.int (tz_g A1 (b + 21) (Int32.toNatClampNeg z1))), A1)
    else
      tz_bV (f_X9_tick b A1) (fun A2 =>
      q_X9_arrival_2 b z1 z2 (z3 + 1) A2)) := by
  obtain rfl | rfl | rfl | rfl | rfl := hb
  all_goals
    show tz_Go 114 2 _ [] A = _
    refine (tz_g_iload_n rfl (tz_inM rfl rfl rfl)).trans ?_
    refine (tz_g_sipush (v := 500) rfl (tz_in0 rfl)).trans ?_
    refine (tz_g_ic_ge (t := 38) (by decide) (tz_in0 rfl)).trans ?_
    refine tz_cg ?_ ?_
    · skip
      refine (tz_g_aload_n rfl (tz_in0 rfl)).trans ?_
      refine (tz_g_getr (j := _) rfl rfl rfl rfl rfl (tz_in0 rfl)).trans ?_
      refine (tz_g_getr (j := _) rfl rfl rfl rfl rfl (tz_in0 rfl)).trans ?_
      refine (tz_g_iload_n rfl (tz_in0 rfl)).trans ?_
      refine (tz_g_iald (n := 12) rfl rfl rfl (tz_in0 rfl)).trans ?_
      refine tz_cn1 ?_
      exact tz_g_ret1 (tz_in0 rfl) rfl
    · skip
      refine (tz_g_aload_n rfl (tz_in0 rfl)).trans ?_
      refine (tz_g_geti rfl rfl rfl (tz_in0 rfl)).trans ?_
      refine (tz_g_iload_n rfl (tz_in0 rfl)).trans ?_
      refine (tz_g_ic_ge (t := 38) (by decide) (tz_in0 rfl)).trans ?_
      refine tz_cg ?_ ?_
      · skip
        refine (tz_g_aload_n rfl (tz_in0 rfl)).trans ?_
        refine (tz_g_getr (j := _) rfl rfl rfl rfl rfl (tz_in0 rfl)).trans ?_
        refine (tz_g_getr (j := _) rfl rfl rfl rfl rfl (tz_in0 rfl)).trans ?_
        refine (tz_g_iload_n rfl (tz_in0 rfl)).trans ?_
        refine (tz_g_iald (n := 12) rfl rfl rfl (tz_in0 rfl)).trans ?_
        refine tz_cn1 ?_
        exact tz_g_ret1 (tz_in0 rfl) rfl
      · skip
        refine (tz_g_aload_n rfl (tz_in0 rfl)).trans ?_
        refine (tz_g_getr (j := _) rfl rfl rfl rfl rfl (tz_in0 rfl)).trans ?_
        refine (tz_g_iload_n rfl (tz_in0 rfl)).trans ?_
        refine (tz_g_cv1I (m2 := 115) (rc := 4) rfl rfl rfl rfl rfl rfl (by decide) (tz_in0 rfl)).trans ?_
        refine tz_jI (fun y1 A1 => ?_)
        refine (tz_g_if_eq (t := 38) (by decide) (tz_in0 rfl)).trans ?_
        refine tz_cg ?_ ?_
        · skip
          refine (tz_g_aload_n rfl (tz_in0 rfl)).trans ?_
          refine (tz_g_getr (j := _) rfl rfl rfl rfl rfl (tz_in0 rfl)).trans ?_
          refine (tz_g_getr (j := _) rfl rfl rfl rfl rfl (tz_in0 rfl)).trans ?_
          refine (tz_g_iload_n rfl (tz_in0 rfl)).trans ?_
          refine (tz_g_iald (n := 12) rfl rfl rfl (tz_in0 rfl)).trans ?_
          refine tz_cn1 ?_
          exact tz_g_ret1 (tz_in0 rfl) rfl
        · skip
          refine (tz_g_aload_n rfl (tz_in0 rfl)).trans ?_
          refine (tz_g_cv0V (m2 := 93) (rc := 0) rfl rfl rfl rfl rfl rfl (by decide) (tz_in0 rfl)).trans ?_
          refine tz_jV (fun A2 => ?_)
          refine (tz_g_iinc (v := 1) (L2 := [some (.ref _), some (.int z1), some (.int z2), some (.int (z3 + 1))]) rfl rfl rfl rfl (tz_in0 rfl)).trans ?_
          refine (tz_g_goto (t := 2) (by decide) (tz_in0 rfl)).trans ?_
          exact tz_Gm (L2 := [some (.ref _), some (.int z1), some (.int z2), some (.int (z3 + 1))]) rfl rfl rfl rfl

theorem e_X11_firstHeard (x1 : Int32) (x2 : Int32) (A : tz_Mem) : f_X11_firstHeard x1 x2 A =
  tz_bI (f_X11_isOneOfTwo x2 A) (fun y1 A1 =>
if ¬ y1 = 0 then
  tz_bI (f_X11_isWord x1 A1) (fun y2 A2 =>
  if ¬ y2 = 0 then
    tz_bV (f_X9_become 76 30 A2) (fun A3 =>
    tz_bV (f_X2_listenFor x1 A3) (fun A4 =>
    q_X11_firstHeard_60 x2 0 (tz_sr A4 76 7 151)))
  else
    tz_bI (f_X11_refuseLower (-6) A2) (fun y3 A3 =>
    some (some (.int y3), A3)))
else
  tz_bI (f_X11_refuseLower (-5) A1) (fun y2 A2 =>
  some (some (.int y2), A2))) := by
  refine (tz_Fe (L := [some (.ref 17), some (.int x1), some (.int x2), none]) rfl).trans ?_
  refine (tz_g_iload_n rfl (tz_in0 rfl)).trans ?_
  refine (tz_g_cs1I (m2 := 109) (rc := 4) rfl rfl rfl rfl rfl rfl (by decide) (tz_in0 rfl)).trans ?_
  refine tz_jI (fun y1 A1 => ?_)
  refine (tz_g_if_ne (t := 14) (by decide) (tz_in0 rfl)).trans ?_
  refine tz_cg ?_ ?_
  · skip
    refine (tz_g_iload_n rfl (tz_in0 rfl)).trans ?_
    refine (tz_g_cs1I (m2 := 50) (rc := 4) rfl rfl rfl rfl rfl rfl (by decide) (tz_in0 rfl)).trans ?_
    refine tz_jI (fun y2 A2 => ?_)
    refine (tz_g_if_ne (t := 28) (by decide) (tz_in0 rfl)).trans ?_
    refine tz_cg ?_ ?_
    · skip
      refine (tz_g_aload_n rfl (tz_in0 rfl)).trans ?_
      refine (tz_g_getr (j := 76) rfl rfl rfl rfl rfl (tz_in0 rfl)).trans ?_
      refine (tz_g_aload_n rfl (tz_in0 rfl)).trans ?_
      refine (tz_g_getr (j := 30) rfl rfl rfl rfl rfl (tz_in0 rfl)).trans ?_
      refine (tz_g_cv1V (m2 := 68) (rc := 0) rfl rfl rfl rfl rfl rfl (by decide) (tz_in0 rfl)).trans ?_
      refine tz_jV (fun A3 => ?_)
      refine (tz_g_aload_n rfl (tz_in0 rfl)).trans ?_
      refine (tz_g_getr (j := 150) rfl rfl rfl rfl rfl (tz_in0 rfl)).trans ?_
      refine (tz_g_iload_n rfl (tz_in0 rfl)).trans ?_
      refine (tz_g_cv1V (m2 := 129) (rc := 0) rfl rfl rfl rfl rfl rfl (by decide) (tz_in0 rfl)).trans ?_
      refine tz_jV (fun A4 => ?_)
      refine (tz_g_aload_n rfl (tz_in0 rfl)).trans ?_
      refine (tz_g_getr (j := 76) rfl rfl rfl rfl rfl (tz_in0 rfl)).trans ?_
      refine (tz_g_aload_n rfl (tz_in0 rfl)).trans ?_
      refine (tz_g_getr (j := 150) rfl rfl rfl rfl rfl (tz_in0 rfl)).trans ?_
      refine (tz_g_pute rfl rfl rfl (tz_in0 rfl)).trans ?_
      refine (tz_g_iconst (v := 0) rfl (tz_in0 rfl)).trans ?_
      refine (tz_g_istore_n (L2 := [some (.ref 17), some (.int x1), some (.int x2), some (.int 0)]) rfl rfl (tz_in0 rfl)).trans ?_
      exact tz_Gm (L2 := [some (.ref 17), none, some (.int x2), some (.int 0)]) rfl rfl rfl rfl
    · skip
      refine (tz_g_aload_n rfl (tz_in0 rfl)).trans ?_
      refine (tz_g_bipush (v := (-6)) rfl (tz_in0 rfl)).trans ?_
      refine (tz_g_cv1I (m2 := 112) (rc := 1) rfl rfl rfl rfl rfl rfl (by decide) (tz_in0 rfl)).trans ?_
      refine tz_jI (fun y3 A3 => ?_)
      exact tz_g_ret1 (tz_in0 rfl) rfl
  · skip
    refine (tz_g_aload_n rfl (tz_in0 rfl)).trans ?_
    refine (tz_g_bipush (v := (-5)) rfl (tz_in0 rfl)).trans ?_
    refine (tz_g_cv1I (m2 := 112) (rc := 1) rfl rfl rfl rfl rfl rfl (by decide) (tz_in0 rfl)).trans ?_
    refine tz_jI (fun y2 A2 => ?_)
    exact tz_g_ret1 (tz_in0 rfl) rfl

theorem e_X11_firstHeard_60 (z2 : Int32) (z3 : Int32) (A : tz_Mem) : q_X11_firstHeard_60 z2 z3 A =
  if 500 ≤ z3 then
  if z2 = 0 then
    some (some (.int (tz_g A 150 0)), A)
  else
    if ¬ (tz_g A 150 0) = (-1) then
      some (some (.int (tz_g A 76 3)), A)
    else
      some (some (.int (tz_g A 150 0)), A)
else
  if ¬ (tz_g A 150 0) = (-1) then
    if z2 = 0 then
      some (some (.int (tz_g A 150 0)), A)
    else
      if ¬ (tz_g A 150 0) = (-1) then
        some (some (.int (tz_g A 76 3)), A)
      else
        some (some (.int (tz_g A 150 0)), A)
  else
    tz_bV (f_X9_tick 76 A) (fun A1 =>
    q_X11_firstHeard_60 z2 (z3 + 1) A1) := by
  show tz_Go 128 60 [some (.ref 17), none, some (.int z2), some (.int z3)] [] A = _
  refine (tz_g_iload_n rfl (tz_inM rfl rfl rfl)).trans ?_
  refine (tz_g_sipush (v := 500) rfl (tz_in0 rfl)).trans ?_
  refine (tz_g_ic_ge (t := 91) (by decide) (tz_in0 rfl)).trans ?_
  refine tz_cg ?_ ?_
  · skip
    refine (tz_g_iload_n rfl (tz_in0 rfl)).trans ?_
    refine (tz_g_if_eq (t := 106) (by decide) (tz_in0 rfl)).trans ?_
    refine tz_cg ?_ ?_
    · skip
      refine (tz_g_aload_n rfl (tz_in0 rfl)).trans ?_
      refine (tz_g_getr (j := 150) rfl rfl rfl rfl rfl (tz_in0 rfl)).trans ?_
      refine (tz_g_geti rfl rfl rfl (tz_in0 rfl)).trans ?_
      refine (tz_g_goto (t := 123) (by decide) (tz_in0 rfl)).trans ?_
      exact tz_g_ret1 (tz_in0 rfl) rfl
    · skip
      refine (tz_g_aload_n rfl (tz_in0 rfl)).trans ?_
      refine (tz_g_getr (j := 150) rfl rfl rfl rfl rfl (tz_in0 rfl)).trans ?_
      refine (tz_g_geti rfl rfl rfl (tz_in0 rfl)).trans ?_
      refine (tz_g_iconst (v := (-1)) rfl (tz_in0 rfl)).trans ?_
      refine (tz_g_ic_ne (t := 116) (by decide) (tz_in0 rfl)).trans ?_
      refine tz_cg ?_ ?_
      · skip
        refine (tz_g_aload_n rfl (tz_in0 rfl)).trans ?_
        refine (tz_g_getr (j := 76) rfl rfl rfl rfl rfl (tz_in0 rfl)).trans ?_
        refine (tz_g_geti rfl rfl rfl (tz_in0 rfl)).trans ?_
        exact tz_g_ret1 (tz_in0 rfl) rfl
      · skip
        refine (tz_g_aload_n rfl (tz_in0 rfl)).trans ?_
        refine (tz_g_getr (j := 150) rfl rfl rfl rfl rfl (tz_in0 rfl)).trans ?_
        refine (tz_g_geti rfl rfl rfl (tz_in0 rfl)).trans ?_
        refine (tz_g_goto (t := 123) (by decide) (tz_in0 rfl)).trans ?_
        exact tz_g_ret1 (tz_in0 rfl) rfl
  · skip
    refine (tz_g_aload_n rfl (tz_in0 rfl)).trans ?_
    refine (tz_g_getr (j := 150) rfl rfl rfl rfl rfl (tz_in0 rfl)).trans ?_
    refine (tz_g_geti rfl rfl rfl (tz_in0 rfl)).trans ?_
    refine (tz_g_iconst (v := (-1)) rfl (tz_in0 rfl)).trans ?_
    refine (tz_g_ic_ne (t := 91) (by decide) (tz_in0 rfl)).trans ?_
    refine tz_cg ?_ ?_
    · skip
      refine (tz_g_iload_n rfl (tz_in0 rfl)).trans ?_
      refine (tz_g_if_eq (t := 106) (by decide) (tz_in0 rfl)).trans ?_
      refine tz_cg ?_ ?_
      · skip
        refine (tz_g_aload_n rfl (tz_in0 rfl)).trans ?_
        refine (tz_g_getr (j := 150) rfl rfl rfl rfl rfl (tz_in0 rfl)).trans ?_
        refine (tz_g_geti rfl rfl rfl (tz_in0 rfl)).trans ?_
        refine (tz_g_goto (t := 123) (by decide) (tz_in0 rfl)).trans ?_
        exact tz_g_ret1 (tz_in0 rfl) rfl
      · skip
        refine (tz_g_aload_n rfl (tz_in0 rfl)).trans ?_
        refine (tz_g_getr (j := 150) rfl rfl rfl rfl rfl (tz_in0 rfl)).trans ?_
        refine (tz_g_geti rfl rfl rfl (tz_in0 rfl)).trans ?_
        refine (tz_g_iconst (v := (-1)) rfl (tz_in0 rfl)).trans ?_
        refine (tz_g_ic_ne (t := 116) (by decide) (tz_in0 rfl)).trans ?_
        refine tz_cg ?_ ?_
        · skip
          refine (tz_g_aload_n rfl (tz_in0 rfl)).trans ?_
          refine (tz_g_getr (j := 76) rfl rfl rfl rfl rfl (tz_in0 rfl)).trans ?_
          refine (tz_g_geti rfl rfl rfl (tz_in0 rfl)).trans ?_
          exact tz_g_ret1 (tz_in0 rfl) rfl
        · skip
          refine (tz_g_aload_n rfl (tz_in0 rfl)).trans ?_
          refine (tz_g_getr (j := 150) rfl rfl rfl rfl rfl (tz_in0 rfl)).trans ?_
          refine (tz_g_geti rfl rfl rfl (tz_in0 rfl)).trans ?_
          refine (tz_g_goto (t := 123) (by decide) (tz_in0 rfl)).trans ?_
          exact tz_g_ret1 (tz_in0 rfl) rfl
    · skip
      refine (tz_g_aload_n rfl (tz_in0 rfl)).trans ?_
      refine (tz_g_getr (j := 76) rfl rfl rfl rfl rfl (tz_in0 rfl)).trans ?_
      refine (tz_g_cv0V (m2 := 93) (rc := 0) rfl rfl rfl rfl rfl rfl (by decide) (tz_in0 rfl)).trans ?_
      refine tz_jV (fun A1 => ?_)
      refine (tz_g_iinc (v := 1) (L2 := [some (.ref 17), none, some (.int z2), some (.int (z3 + 1))]) rfl rfl rfl rfl (tz_in0 rfl)).trans ?_
      refine (tz_g_goto (t := 60) (by decide) (tz_in0 rfl)).trans ?_
      exact tz_Gm (L2 := [some (.ref 17), none, some (.int z2), some (.int (z3 + 1))]) rfl rfl rfl rfl

theorem e_X11_night (x1 : Int32) (x2 : Int32) (x3 : Int32) (A : tz_Mem) : f_X11_night x1 x2 x3 A =
  tz_bI (f_X3_has 30 x1 A) (fun y1 A1 =>
if y1 = 0 then
  tz_bI (f_X11_refuseLower (-1) A1) (fun y2 A2 =>
  some (some (.int y2), A2))
else
  tz_bI (f_X8_refusalOfElements x2 x3 A1) (fun y2 A2 =>
  if ¬ y2 = 0 then
    if y2 = 0 then
      tz_bV (f_X9_become 76 30 A2) (fun A3 =>
      tz_bV (f_X8_copyNumbers_s152 x2 x3 A3) (fun A4 =>
      tz_bV (f_X5_judge x1 x3 A4) (fun A5 =>
      q_X11_night_106 x3 0 (tz_sr A5 76 7 152))))
    else
      tz_bI (f_X11_refuseLower y2 A2) (fun y3 A3 =>
      some (some (.int y3), A3))
  else
    if x3 ≤ 40 then
      if y2 = 0 then
        tz_bV (f_X9_become 76 30 A2) (fun A3 =>
        tz_bV (f_X8_copyNumbers_s152 x2 x3 A3) (fun A4 =>
        tz_bV (f_X5_judge x1 x3 A4) (fun A5 =>
        q_X11_night_106 x3 0 (tz_sr A5 76 7 152))))
      else
        tz_bI (f_X11_refuseLower y2 A2) (fun y3 A3 =>
        some (some (.int y3), A3))
    else
      tz_bI (f_X11_refuseLower (-6) A2) (fun y3 A3 =>
      some (some (.int y3), A3)))) := by
  refine (tz_Fe (L := [some (.ref 17), some (.int x1), some (.int x2), some (.int x3), none, none]) rfl).trans ?_
  refine (tz_g_aload_n rfl (tz_in0 rfl)).trans ?_
  refine (tz_g_getr (j := 30) rfl rfl rfl rfl rfl (tz_in0 rfl)).trans ?_
  refine (tz_g_getr (j := 31) rfl rfl rfl rfl rfl (tz_in0 rfl)).trans ?_
  refine (tz_g_iload_n rfl (tz_in0 rfl)).trans ?_
  refine (tz_g_cv1I (m2 := 28) (rc := 4) rfl rfl rfl rfl rfl rfl (by decide) (tz_in0 rfl)).trans ?_
  refine tz_jI (fun y1 A1 => ?_)
  refine (tz_g_if_eq (t := 26) (by decide) (tz_in0 rfl)).trans ?_
  refine tz_cg ?_ ?_
  · skip
    refine (tz_g_iconst (v := (-1)) rfl (tz_in0 rfl)).trans ?_
    refine (tz_g_istore (L2 := [some (.ref 17), some (.int x1), some (.int x2), some (.int x3), some (.int (-1)), none]) rfl rfl (tz_in0 rfl)).trans ?_
    refine (tz_g_iload rfl (tz_in0 rfl)).trans ?_
    refine (tz_g_if_ne (t := 44) (by decide) (tz_in0 rfl)).trans ?_
    refine (if_pos (by decide)).trans ?_
    refine (tz_g_iload rfl (tz_in0 rfl)).trans ?_
    refine (tz_g_if_eq (t := 56) (by decide) (tz_in0 rfl)).trans ?_
    refine (if_neg (by decide)).trans ?_
    refine (tz_g_aload_n rfl (tz_in0 rfl)).trans ?_
    refine (tz_g_iload rfl (tz_in0 rfl)).trans ?_
    refine (tz_g_cv1I (m2 := 112) (rc := 1) rfl rfl rfl rfl rfl rfl (by decide) (tz_in0 rfl)).trans ?_
    refine tz_jI (fun y2 A2 => ?_)
    exact tz_g_ret1 (tz_in0 rfl) rfl
  · skip
    refine (tz_g_aload_n rfl (tz_in0 rfl)).trans ?_
    refine (tz_g_getr (j := 18) rfl rfl rfl rfl rfl (tz_in0 rfl)).trans ?_
    refine (tz_g_iload_n rfl (tz_in0 rfl)).trans ?_
    refine (tz_g_iload_n rfl (tz_in0 rfl)).trans ?_
    refine (tz_g_cv2I (m2 := 41) (rc := 1) rfl rfl rfl rfl rfl rfl (by decide) (tz_in0 rfl)).trans ?_
    refine tz_jI (fun y2 A2 => ?_)
    refine (tz_g_goto (t := 27) (by decide) (tz_in0 rfl)).trans ?_
    refine (tz_g_istore (L2 := [some (.ref 17), some (.int x1), some (.int x2), some (.int x3), some (.int y2), none]) rfl rfl (tz_in0 rfl)).trans ?_
    refine (tz_g_iload rfl (tz_in0 rfl)).trans ?_
    refine (tz_g_if_ne (t := 44) (by decide) (tz_in0 rfl)).trans ?_
    refine tz_cg ?_ ?_
    · skip
      refine (tz_g_iload rfl (tz_in0 rfl)).trans ?_
      refine (tz_g_if_eq (t := 56) (by decide) (tz_in0 rfl)).trans ?_
      refine tz_cg ?_ ?_
      · skip
        refine (tz_g_aload_n rfl (tz_in0 rfl)).trans ?_
        refine (tz_g_getr (j := 76) rfl rfl rfl rfl rfl (tz_in0 rfl)).trans ?_
        refine (tz_g_aload_n rfl (tz_in0 rfl)).trans ?_
        refine (tz_g_getr (j := 30) rfl rfl rfl rfl rfl (tz_in0 rfl)).trans ?_
        refine (tz_g_cv1V (m2 := 68) (rc := 0) rfl rfl rfl rfl rfl rfl (by decide) (tz_in0 rfl)).trans ?_
        refine tz_jV (fun A3 => ?_)
        refine (tz_g_aload_n rfl (tz_in0 rfl)).trans ?_
        refine (tz_g_getr (j := 18) rfl rfl rfl rfl rfl (tz_in0 rfl)).trans ?_
        refine (tz_g_iload_n rfl (tz_in0 rfl)).trans ?_
        refine (tz_g_iload_n rfl (tz_in0 rfl)).trans ?_
        refine (tz_g_aload_n rfl (tz_in0 rfl)).trans ?_
        refine (tz_g_getr (j := 151) rfl rfl rfl rfl rfl (tz_in0 rfl)).trans ?_
        refine (tz_g_getr (j := 152) rfl rfl rfl rfl rfl (tz_in0 rfl)).trans ?_
        refine (tz_g_cv3V (m2 := 46) (rc := 0) rfl rfl rfl rfl rfl rfl (by decide) (tz_in0 rfl)).trans ?_
        refine tz_jV (fun A4 => ?_)
        refine (tz_g_aload_n rfl (tz_in0 rfl)).trans ?_
        refine (tz_g_getr (j := 151) rfl rfl rfl rfl rfl (tz_in0 rfl)).trans ?_
        refine (tz_g_iload_n rfl (tz_in0 rfl)).trans ?_
        refine (tz_g_iload_n rfl (tz_in0 rfl)).trans ?_
        refine (tz_g_cv2V (m2 := 131) (rc := 0) rfl rfl rfl rfl rfl rfl (by decide) (tz_in0 rfl)).trans ?_
        refine tz_jV (fun A5 => ?_)
        refine (tz_g_aload_n rfl (tz_in0 rfl)).trans ?_
        refine (tz_g_getr (j := 76) rfl rfl rfl rfl rfl (tz_in0 rfl)).trans ?_
        refine (tz_g_aload_n rfl (tz_in0 rfl)).trans ?_
        refine (tz_g_getr (j := 151) rfl rfl rfl rfl rfl (tz_in0 rfl)).trans ?_
        refine (tz_g_pute rfl rfl rfl (tz_in0 rfl)).trans ?_
        refine (tz_g_iconst (v := 0) rfl (tz_in0 rfl)).trans ?_
        refine (tz_g_istore (L2 := [some (.ref 17), some (.int x1), some (.int x2), some (.int x3), some (.int y2), some (.int 0)]) rfl rfl (tz_in0 rfl)).trans ?_
        exact tz_Gm (L2 := [some (.ref 17), none, none, some (.int x3), none, some (.int 0)]) rfl rfl rfl rfl
      · skip
        refine (tz_g_aload_n rfl (tz_in0 rfl)).trans ?_
        refine (tz_g_iload rfl (tz_in0 rfl)).trans ?_
        refine (tz_g_cv1I (m2 := 112) (rc := 1) rfl rfl rfl rfl rfl rfl (by decide) (tz_in0 rfl)).trans ?_
        refine tz_jI (fun y3 A3 => ?_)
        exact tz_g_ret1 (tz_in0 rfl) rfl
    · skip
      refine (tz_g_iload_n rfl (tz_in0 rfl)).trans ?_
      refine (tz_g_bipush (v := 40) rfl (tz_in0 rfl)).trans ?_
      refine (tz_g_ic_le (t := 44) (by decide) (tz_in0 rfl)).trans ?_
      refine tz_cg ?_ ?_
      · skip
        refine (tz_g_iload rfl (tz_in0 rfl)).trans ?_
        refine (tz_g_if_eq (t := 56) (by decide) (tz_in0 rfl)).trans ?_
        refine tz_cg ?_ ?_
        · skip
          refine (tz_g_aload_n rfl (tz_in0 rfl)).trans ?_
          refine (tz_g_getr (j := 76) rfl rfl rfl rfl rfl (tz_in0 rfl)).trans ?_
          refine (tz_g_aload_n rfl (tz_in0 rfl)).trans ?_
          refine (tz_g_getr (j := 30) rfl rfl rfl rfl rfl (tz_in0 rfl)).trans ?_
          refine (tz_g_cv1V (m2 := 68) (rc := 0) rfl rfl rfl rfl rfl rfl (by decide) (tz_in0 rfl)).trans ?_
          refine tz_jV (fun A3 => ?_)
          refine (tz_g_aload_n rfl (tz_in0 rfl)).trans ?_
          refine (tz_g_getr (j := 18) rfl rfl rfl rfl rfl (tz_in0 rfl)).trans ?_
          refine (tz_g_iload_n rfl (tz_in0 rfl)).trans ?_
          refine (tz_g_iload_n rfl (tz_in0 rfl)).trans ?_
          refine (tz_g_aload_n rfl (tz_in0 rfl)).trans ?_
          refine (tz_g_getr (j := 151) rfl rfl rfl rfl rfl (tz_in0 rfl)).trans ?_
          refine (tz_g_getr (j := 152) rfl rfl rfl rfl rfl (tz_in0 rfl)).trans ?_
          refine (tz_g_cv3V (m2 := 46) (rc := 0) rfl rfl rfl rfl rfl rfl (by decide) (tz_in0 rfl)).trans ?_
          refine tz_jV (fun A4 => ?_)
          refine (tz_g_aload_n rfl (tz_in0 rfl)).trans ?_
          refine (tz_g_getr (j := 151) rfl rfl rfl rfl rfl (tz_in0 rfl)).trans ?_
          refine (tz_g_iload_n rfl (tz_in0 rfl)).trans ?_
          refine (tz_g_iload_n rfl (tz_in0 rfl)).trans ?_
          refine (tz_g_cv2V (m2 := 131) (rc := 0) rfl rfl rfl rfl rfl rfl (by decide) (tz_in0 rfl)).trans ?_
          refine tz_jV (fun A5 => ?_)
          refine (tz_g_aload_n rfl (tz_in0 rfl)).trans ?_
          refine (tz_g_getr (j := 76) rfl rfl rfl rfl rfl (tz_in0 rfl)).trans ?_
          refine (tz_g_aload_n rfl (tz_in0 rfl)).trans ?_
          refine (tz_g_getr (j := 151) rfl rfl rfl rfl rfl (tz_in0 rfl)).trans ?_
          refine (tz_g_pute rfl rfl rfl (tz_in0 rfl)).trans ?_
          refine (tz_g_iconst (v := 0) rfl (tz_in0 rfl)).trans ?_
          refine (tz_g_istore (L2 := [some (.ref 17), some (.int x1), some (.int x2), some (.int x3), some (.int y2), some (.int 0)]) rfl rfl (tz_in0 rfl)).trans ?_
          exact tz_Gm (L2 := [some (.ref 17), none, none, some (.int x3), none, some (.int 0)]) rfl rfl rfl rfl
        · skip
          refine (tz_g_aload_n rfl (tz_in0 rfl)).trans ?_
          refine (tz_g_iload rfl (tz_in0 rfl)).trans ?_
          refine (tz_g_cv1I (m2 := 112) (rc := 1) rfl rfl rfl rfl rfl rfl (by decide) (tz_in0 rfl)).trans ?_
          refine tz_jI (fun y3 A3 => ?_)
          exact tz_g_ret1 (tz_in0 rfl) rfl
      · skip
        refine (tz_g_bipush (v := (-6)) rfl (tz_in0 rfl)).trans ?_
        refine (tz_g_istore (L2 := [some (.ref 17), some (.int x1), some (.int x2), some (.int x3), some (.int (-6)), none]) rfl rfl (tz_in0 rfl)).trans ?_
        refine (tz_g_iload rfl (tz_in0 rfl)).trans ?_
        refine (tz_g_if_eq (t := 56) (by decide) (tz_in0 rfl)).trans ?_
        refine (if_neg (by decide)).trans ?_
        refine (tz_g_aload_n rfl (tz_in0 rfl)).trans ?_
        refine (tz_g_iload rfl (tz_in0 rfl)).trans ?_
        refine (tz_g_cv1I (m2 := 112) (rc := 1) rfl rfl rfl rfl rfl rfl (by decide) (tz_in0 rfl)).trans ?_
        refine tz_jI (fun y3 A3 => ?_)
        exact tz_g_ret1 (tz_in0 rfl) rfl

theorem e_X11_night_106 (z3 : Int32) (z5 : Int32) (A : tz_Mem) : q_X11_night_106 z3 z5 A =
  if 500 ≤ z5 then
  if ¬ (tz_g A 151 0) = z3 then
    some (some (.int (tz_g A 151 0)), A)
  else
    some (some (.int (-1)), A)
else
  tz_bI (f_X5_listens A) (fun y1 A1 =>
  if y1 = 0 then
    if ¬ (tz_g A1 151 0) = z3 then
      some (some (.int (tz_g A1 151 0)), A1)
    else
      some (some (.int (-1)), A1)
  else
    tz_bV (f_X9_tick 76 A1) (fun A2 =>
    q_X11_night_106 z3 (z5 + 1) A2)) := by
  show tz_Go 130 106 [some (.ref 17), none, none, some (.int z3), none, some (.int z5)] [] A = _
  refine (tz_g_iload rfl (tz_inM rfl rfl rfl)).trans ?_
  refine (tz_g_sipush (v := 500) rfl (tz_in0 rfl)).trans ?_
  refine (tz_g_ic_ge (t := 137) (by decide) (tz_in0 rfl)).trans ?_
  refine tz_cg ?_ ?_
  · skip
    refine (tz_g_aload_n rfl (tz_in0 rfl)).trans ?_
    refine (tz_g_getr (j := 151) rfl rfl rfl rfl rfl (tz_in0 rfl)).trans ?_
    refine (tz_g_geti rfl rfl rfl (tz_in0 rfl)).trans ?_
    refine (tz_g_iload_n rfl (tz_in0 rfl)).trans ?_
    refine (tz_g_ic_ne (t := 152) (by decide) (tz_in0 rfl)).trans ?_
    refine tz_cg ?_ ?_
    · skip
      refine (tz_g_aload_n rfl (tz_in0 rfl)).trans ?_
      refine (tz_g_getr (j := 151) rfl rfl rfl rfl rfl (tz_in0 rfl)).trans ?_
      refine (tz_g_geti rfl rfl rfl (tz_in0 rfl)).trans ?_
      exact tz_g_ret1 (tz_in0 rfl) rfl
    · skip
      refine (tz_g_iconst (v := (-1)) rfl (tz_in0 rfl)).trans ?_
      refine (tz_g_goto (t := 159) (by decide) (tz_in0 rfl)).trans ?_
      exact tz_g_ret1 (tz_in0 rfl) rfl
  · skip
    refine (tz_g_aload_n rfl (tz_in0 rfl)).trans ?_
    refine (tz_g_getr (j := 151) rfl rfl rfl rfl rfl (tz_in0 rfl)).trans ?_
    refine (tz_g_cv0I (m2 := 101) (rc := 4) rfl rfl rfl rfl rfl rfl (by decide) (tz_in0 rfl)).trans ?_
    refine tz_jI (fun y1 A1 => ?_)
    refine (tz_g_if_eq (t := 137) (by decide) (tz_in0 rfl)).trans ?_
    refine tz_cg ?_ ?_
    · skip
      refine (tz_g_aload_n rfl (tz_in0 rfl)).trans ?_
      refine (tz_g_getr (j := 151) rfl rfl rfl rfl rfl (tz_in0 rfl)).trans ?_
      refine (tz_g_geti rfl rfl rfl (tz_in0 rfl)).trans ?_
      refine (tz_g_iload_n rfl (tz_in0 rfl)).trans ?_
      refine (tz_g_ic_ne (t := 152) (by decide) (tz_in0 rfl)).trans ?_
      refine tz_cg ?_ ?_
      · skip
        refine (tz_g_aload_n rfl (tz_in0 rfl)).trans ?_
        refine (tz_g_getr (j := 151) rfl rfl rfl rfl rfl (tz_in0 rfl)).trans ?_
        refine (tz_g_geti rfl rfl rfl (tz_in0 rfl)).trans ?_
        exact tz_g_ret1 (tz_in0 rfl) rfl
      · skip
        refine (tz_g_iconst (v := (-1)) rfl (tz_in0 rfl)).trans ?_
        refine (tz_g_goto (t := 159) (by decide) (tz_in0 rfl)).trans ?_
        exact tz_g_ret1 (tz_in0 rfl) rfl
    · skip
      refine (tz_g_aload_n rfl (tz_in0 rfl)).trans ?_
      refine (tz_g_getr (j := 76) rfl rfl rfl rfl rfl (tz_in0 rfl)).trans ?_
      refine (tz_g_cv0V (m2 := 93) (rc := 0) rfl rfl rfl rfl rfl rfl (by decide) (tz_in0 rfl)).trans ?_
      refine tz_jV (fun A2 => ?_)
      refine (tz_g_iinc (v := 1) (L2 := [some (.ref 17), none, none, some (.int z3), none, some (.int (z5 + 1))]) rfl rfl rfl rfl (tz_in0 rfl)).trans ?_
      refine (tz_g_goto (t := 106) (by decide) (tz_in0 rfl)).trans ?_
      exact tz_Gm (L2 := [some (.ref 17), none, none, some (.int z3), none, some (.int (z5 + 1))]) rfl rfl rfl rfl

theorem e_X11_meet (x1 : Int32) (x2 : Int32) (A : tz_Mem) : f_X11_meet x1 x2 A =
  tz_bI (f_X10_has 30 x1 A) (fun y1 A1 =>
if y1 = 0 then
  tz_bI (f_X11_refuseLower (-5) A1) (fun y2 A2 =>
  some (some (.int y2), A2))
else
  tz_bI (f_X10_has 30 x2 A1) (fun y2 A2 =>
  if y2 = 0 then
    tz_bI (f_X11_refuseLower (-5) A2) (fun y3 A3 =>
    some (some (.int y3), A3))
  else
    if ¬ x1 = x2 then
      tz_bV (f_X9_become 76 30 A2) (fun A3 =>
      q_X11_meet_53 x1 x2 0 A3)
    else
      tz_bI (f_X11_refuseLower (-5) A2) (fun y3 A3 =>
      some (some (.int y3), A3)))) := by
  refine (tz_Fe (L := [some (.ref 17), some (.int x1), some (.int x2), none]) rfl).trans ?_
  refine (tz_g_aload_n rfl (tz_in0 rfl)).trans ?_
  refine (tz_g_getr (j := 30) rfl rfl rfl rfl rfl (tz_in0 rfl)).trans ?_
  refine (tz_g_getr (j := 37) rfl rfl rfl rfl rfl (tz_in0 rfl)).trans ?_
  refine (tz_g_iload_n rfl (tz_in0 rfl)).trans ?_
  refine (tz_g_cv1I (m2 := 59) (rc := 4) rfl rfl rfl rfl rfl rfl (by decide) (tz_in0 rfl)).trans ?_
  refine tz_jI (fun y1 A1 => ?_)
  refine (tz_g_if_eq (t := 33) (by decide) (tz_in0 rfl)).trans ?_
  refine tz_cg ?_ ?_
  · skip
    refine (tz_g_aload_n rfl (tz_in0 rfl)).trans ?_
    refine (tz_g_bipush (v := (-5)) rfl (tz_in0 rfl)).trans ?_
    refine (tz_g_cv1I (m2 := 112) (rc := 1) rfl rfl rfl rfl rfl rfl (by decide) (tz_in0 rfl)).trans ?_
    refine tz_jI (fun y2 A2 => ?_)
    exact tz_g_ret1 (tz_in0 rfl) rfl
  · skip
    refine (tz_g_aload_n rfl (tz_in0 rfl)).trans ?_
    refine (tz_g_getr (j := 30) rfl rfl rfl rfl rfl (tz_in0 rfl)).trans ?_
    refine (tz_g_getr (j := 37) rfl rfl rfl rfl rfl (tz_in0 rfl)).trans ?_
    refine (tz_g_iload_n rfl (tz_in0 rfl)).trans ?_
    refine (tz_g_cv1I (m2 := 59) (rc := 4) rfl rfl rfl rfl rfl rfl (by decide) (tz_in0 rfl)).trans ?_
    refine tz_jI (fun y2 A2 => ?_)
    refine (tz_g_if_eq (t := 33) (by decide) (tz_in0 rfl)).trans ?_
    refine tz_cg ?_ ?_
    · skip
      refine (tz_g_aload_n rfl (tz_in0 rfl)).trans ?_
      refine (tz_g_bipush (v := (-5)) rfl (tz_in0 rfl)).trans ?_
      refine (tz_g_cv1I (m2 := 112) (rc := 1) rfl rfl rfl rfl rfl rfl (by decide) (tz_in0 rfl)).trans ?_
      refine tz_jI (fun y3 A3 => ?_)
      exact tz_g_ret1 (tz_in0 rfl) rfl
    · skip
      refine (tz_g_iload_n rfl (tz_in0 rfl)).trans ?_
      refine (tz_g_iload_n rfl (tz_in0 rfl)).trans ?_
      refine (tz_g_ic_ne (t := 40) (by decide) (tz_in0 rfl)).trans ?_
      refine tz_cg ?_ ?_
      · skip
        refine (tz_g_aload_n rfl (tz_in0 rfl)).trans ?_
        refine (tz_g_getr (j := 76) rfl rfl rfl rfl rfl (tz_in0 rfl)).trans ?_
        refine (tz_g_aload_n rfl (tz_in0 rfl)).trans ?_
        refine (tz_g_getr (j := 30) rfl rfl rfl rfl rfl (tz_in0 rfl)).trans ?_
        refine (tz_g_cv1V (m2 := 68) (rc := 0) rfl rfl rfl rfl rfl rfl (by decide) (tz_in0 rfl)).trans ?_
        refine tz_jV (fun A3 => ?_)
        refine (tz_g_iconst (v := 0) rfl (tz_in0 rfl)).trans ?_
        refine (tz_g_istore_n (L2 := [some (.ref 17), some (.int x1), some (.int x2), some (.int 0)]) rfl rfl (tz_in0 rfl)).trans ?_
        exact tz_Gm (L2 := [some (.ref 17), some (.int x1), some (.int x2), some (.int 0)]) rfl rfl rfl rfl
      · skip
        refine (tz_g_aload_n rfl (tz_in0 rfl)).trans ?_
        refine (tz_g_bipush (v := (-5)) rfl (tz_in0 rfl)).trans ?_
        refine (tz_g_cv1I (m2 := 112) (rc := 1) rfl rfl rfl rfl rfl rfl (by decide) (tz_in0 rfl)).trans ?_
        refine tz_jI (fun y3 A3 => ?_)
        exact tz_g_ret1 (tz_in0 rfl) rfl

theorem e_X11_meet_53 (z1 : Int32) (z2 : Int32) (z3 : Int32) (A : tz_Mem) : q_X11_meet_53 z1 z2 z3 A =
  if 500 ≤ z3 then
  some (some (.int (-1)), A)
else
  tz_bV (f_X9_tick 76 A) (fun A1 =>
  tz_bI (f_X10_hillOfStorm 76 z1 A1) (fun y2 A2 =>
  tz_bI (f_X10_hillOfStorm 76 z2 A2) (fun y3 A3 =>
  if ¬ y2 = y3 then
    q_X11_meet_53 z1 z2 (z3 + 1) A3
  else
    some (some (.int (tz_g A3 76 3)), A3)))) := by
  show tz_Go 132 53 [some (.ref 17), some (.int z1), some (.int z2), some (.int z3)] [] A = _
  refine (tz_g_iload_n rfl (tz_inM rfl rfl rfl)).trans ?_
  refine (tz_g_sipush (v := 500) rfl (tz_in0 rfl)).trans ?_
  refine (tz_g_ic_ge (t := 106) (by decide) (tz_in0 rfl)).trans ?_
  refine tz_cg ?_ ?_
  · skip
    refine (tz_g_iconst (v := (-1)) rfl (tz_in0 rfl)).trans ?_
    exact tz_g_ret1 (tz_in0 rfl) rfl
  · skip
    refine (tz_g_aload_n rfl (tz_in0 rfl)).trans ?_
    refine (tz_g_getr (j := 76) rfl rfl rfl rfl rfl (tz_in0 rfl)).trans ?_
    refine (tz_g_cv0V (m2 := 93) (rc := 0) rfl rfl rfl rfl rfl rfl (by decide) (tz_in0 rfl)).trans ?_
    refine tz_jV (fun A1 => ?_)
    refine (tz_g_aload_n rfl (tz_in0 rfl)).trans ?_
    refine (tz_g_getr (j := 76) rfl rfl rfl rfl rfl (tz_in0 rfl)).trans ?_
    refine (tz_g_getr (j := 83) rfl rfl rfl rfl rfl (tz_in0 rfl)).trans ?_
    refine (tz_g_iload_n rfl (tz_in0 rfl)).trans ?_
    refine (tz_g_cv1I (m2 := 56) (rc := 1) rfl rfl rfl rfl rfl rfl (by decide) (tz_in0 rfl)).trans ?_
    refine tz_jI (fun y2 A2 => ?_)
    refine (tz_g_aload_n rfl (tz_in0 rfl)).trans ?_
    refine (tz_g_getr (j := 76) rfl rfl rfl rfl rfl (tz_in0 rfl)).trans ?_
    refine (tz_g_getr (j := 83) rfl rfl rfl rfl rfl (tz_in0 rfl)).trans ?_
    refine (tz_g_iload_n rfl (tz_in0 rfl)).trans ?_
    refine (tz_g_cv1I (m2 := 56) (rc := 1) rfl rfl rfl rfl rfl rfl (by decide) (tz_in0 rfl)).trans ?_
    refine tz_jI (fun y3 A3 => ?_)
    refine (tz_g_ic_ne (t := 100) (by decide) (tz_in0 rfl)).trans ?_
    refine tz_cg ?_ ?_
    · skip
      refine (tz_g_iinc (v := 1) (L2 := [some (.ref 17), some (.int z1), some (.int z2), some (.int (z3 + 1))]) rfl rfl rfl rfl (tz_in0 rfl)).trans ?_
      refine (tz_g_goto (t := 53) (by decide) (tz_in0 rfl)).trans ?_
      exact tz_Gm (L2 := [some (.ref 17), some (.int z1), some (.int z2), some (.int (z3 + 1))]) rfl rfl rfl rfl
    · skip
      refine (tz_g_aload_n rfl (tz_in0 rfl)).trans ?_
      refine (tz_g_getr (j := 76) rfl rfl rfl rfl rfl (tz_in0 rfl)).trans ?_
      refine (tz_g_geti rfl rfl rfl (tz_in0 rfl)).trans ?_
      exact tz_g_ret1 (tz_in0 rfl) rfl

theorem e_X11_drought (x1 : Int32) (A : tz_Mem) : f_X11_drought x1 A =
  if x1 < 1 then
  tz_bI (f_X11_refuse (-6) A) (fun y1 A1 =>
  some (some (.int y1), A1))
else
  if x1 ≤ 200 then
    q_X11_drought_23 x1 0 0 A
  else
    tz_bI (f_X11_refuse (-6) A) (fun y1 A1 =>
    some (some (.int y1), A1)) := by
  refine (tz_Fe (L := [some (.ref 17), some (.int x1), none, none]) rfl).trans ?_
  refine (tz_g_iload_n rfl (tz_in0 rfl)).trans ?_
  refine (tz_g_iconst (v := 1) rfl (tz_in0 rfl)).trans ?_
  refine (tz_g_ic_lt (t := 12) (by decide) (tz_in0 rfl)).trans ?_
  refine tz_cg ?_ ?_
  · skip
    refine (tz_g_aload_n rfl (tz_in0 rfl)).trans ?_
    refine (tz_g_bipush (v := (-6)) rfl (tz_in0 rfl)).trans ?_
    refine (tz_g_cv1I (m2 := 15) (rc := 1) rfl rfl rfl rfl rfl rfl (by decide) (tz_in0 rfl)).trans ?_
    refine tz_jI (fun y1 A1 => ?_)
    exact tz_g_ret1 (tz_in0 rfl) rfl
  · skip
    refine (tz_g_iload_n rfl (tz_in0 rfl)).trans ?_
    refine (tz_g_sipush (v := 200) rfl (tz_in0 rfl)).trans ?_
    refine (tz_g_ic_le (t := 19) (by decide) (tz_in0 rfl)).trans ?_
    refine tz_cg ?_ ?_
    · skip
      refine (tz_g_iconst (v := 0) rfl (tz_in0 rfl)).trans ?_
      refine (tz_g_istore_n (L2 := [some (.ref 17), some (.int x1), some (.int 0), none]) rfl rfl (tz_in0 rfl)).trans ?_
      refine (tz_g_iconst (v := 0) rfl (tz_in0 rfl)).trans ?_
      refine (tz_g_istore_n (L2 := [some (.ref 17), some (.int x1), some (.int 0), some (.int 0)]) rfl rfl (tz_in0 rfl)).trans ?_
      exact tz_Gm (L2 := [some (.ref 17), some (.int x1), some (.int 0), some (.int 0)]) rfl rfl rfl rfl
    · skip
      refine (tz_g_aload_n rfl (tz_in0 rfl)).trans ?_
      refine (tz_g_bipush (v := (-6)) rfl (tz_in0 rfl)).trans ?_
      refine (tz_g_cv1I (m2 := 15) (rc := 1) rfl rfl rfl rfl rfl rfl (by decide) (tz_in0 rfl)).trans ?_
      refine tz_jI (fun y1 A1 => ?_)
      exact tz_g_ret1 (tz_in0 rfl) rfl

theorem e_X11_drought_23 (z1 : Int32) (z2 : Int32) (z3 : Int32) (A : tz_Mem) : q_X11_drought_23 z1 z2 z3 A =
  if z1 ≤ z3 then
  some (some (.int z2), A)
else
  tz_bI (f_X9_tickDry 30 A) (fun y1 A1 =>
  q_X11_drought_23 z1 (z2 + y1) (z3 + 1) A1) := by
  show tz_Go 138 23 [some (.ref 17), some (.int z1), some (.int z2), some (.int z3)] [] A = _
  refine (tz_g_iload_n rfl (tz_inM rfl rfl rfl)).trans ?_
  refine (tz_g_iload_n rfl (tz_in0 rfl)).trans ?_
  refine (tz_g_ic_ge (t := 44) (by decide) (tz_in0 rfl)).trans ?_
  refine tz_cg ?_ ?_
  · skip
    refine (tz_g_iload_n rfl (tz_in0 rfl)).trans ?_
    exact tz_g_ret1 (tz_in0 rfl) rfl
  · skip
    refine (tz_g_iload_n rfl (tz_in0 rfl)).trans ?_
    refine (tz_g_aload_n rfl (tz_in0 rfl)).trans ?_
    refine (tz_g_getr (j := 30) rfl rfl rfl rfl rfl (tz_in0 rfl)).trans ?_
    refine (tz_g_cv0I (m2 := 139) (rc := 1) rfl rfl rfl rfl rfl rfl (by decide) (tz_in0 rfl)).trans ?_
    refine tz_jI (fun y1 A1 => ?_)
    refine (tz_g_iadd (tz_in0 rfl)).trans ?_
    refine (tz_g_istore_n (L2 := [some (.ref 17), some (.int z1), some (.int (z2 + y1)), some (.int z3)]) rfl rfl (tz_in0 rfl)).trans ?_
    refine (tz_g_iinc (v := 1) (L2 := [some (.ref 17), some (.int z1), some (.int (z2 + y1)), some (.int (z3 + 1))]) rfl rfl rfl rfl (tz_in0 rfl)).trans ?_
    refine (tz_g_goto (t := 23) (by decide) (tz_in0 rfl)).trans ?_
    exact tz_Gm (L2 := [some (.ref 17), some (.int z1), some (.int (z2 + y1)), some (.int (z3 + 1))]) rfl rfl rfl rfl

theorem e_X0_run_4 (x1 : Int32) (x2 : Int32) (x3 : Int32) (x4 : Int32) (A : tz_Mem) : f_X0_run_4 x1 x2 x3 x4 A =
  if x4 < 40 then
  tz_bI (f_X0_kindWithBody x1 x2 A) (fun y1 A1 =>
  tz_bI (f_X0_bodyOf x1 y1 A1) (fun y2 A2 =>
  if y1 < 0 ∨ 7 ≤ (Int32.toNatClampNeg y1) then none else
  tz_bV (f_X0_note y2 A2) (fun A3 =>
  if y2 = 10 then
    some (some (.int (x3 + (tz_g A3 148 2))), A3)
  else if y2 = 11 then
    tz_bI (f_X0_run_5 0 (tz_g A3 148 4) x3 (x4 + 1) A3) (fun y4 A4 =>
    some (some (.int (y4 * 2)), A4))
  else if y2 = 12 then
    tz_bI (f_X0_run_5 1 (tz_g A3 148 4) x3 (x4 + 1) A3) (fun y4 A4 =>
    tz_bI (f_X0_run_5 0 (tz_g A4 148 4) (x3 - (tz_g A4 148 3)) (x4 + 1) A4) (fun y5 A5 =>
    some (some (.int (y4 ^^^ y5)), A5)))
  else if y2 = 20 then
    tz_bI (f_X0_run_5 0 (tz_XT 1 (Int32.toNatClampNeg y1)) x3 (x4 + 1) A3) (fun y4 A4 =>
    some (some (.int (y4 + (tz_g A4 148 3))), A4))
  else if y2 = 30 then
    tz_bI (f_X0_run_5 1 (tz_XT 1 (Int32.toNatClampNeg y1)) x3 (x4 + 1) A3) (fun y4 A4 =>
    some (some (.int (y4 * 3)), A4))
  else if y2 = 40 then
    tz_bI (f_X0_run_5 1 (tz_XT 1 (Int32.toNatClampNeg y1)) (x3 + 1) (x4 + 1) A3) (fun y4 A4 =>
    some (some (.int y4), A4))
  else if y2 = 50 then
    tz_bI (f_X0_run_5 2 (tz_XT 1 (Int32.toNatClampNeg y1)) x3 (x4 + 1) A3) (fun y4 A4 =>
    some (some (.int (-y4)), A4))
  else if y2 = 51 then
    tz_bI (f_X0_run_5 0 (tz_XT 1 (Int32.toNatClampNeg y1)) x3 (x4 + 1) A3) (fun y4 A4 =>
    some (some (.int (y4 - (tz_g A4 148 2))), A4))
  else if y2 = 60 then
    tz_bI (f_X0_run_5 2 (tz_XT 1 (Int32.toNatClampNeg y1)) x3 (x4 + 1) A3) (fun y4 A4 =>
    some (some (.int (y4 ^^^ 5)), A4))
  else if y2 = 70 then
    tz_bI (f_X0_run_5 0 (tz_XT 1 (Int32.toNatClampNeg y1)) x3 (x4 + 1) A3) (fun y4 A4 =>
    some (some (.int (y4 * 2)), A4))
  else tz_bI (f_X0_run_5 1 (tz_XT 1 (Int32.toNatClampNeg y1)) (x3 - (tz_g A3 148 3)) (x4 + 1) A3) (fun y4 A4 =>
  some (some (.int y4), A4)))))
else
  some (some (.int 0), A) := by
  refine (tz_Fe (L := [some (.ref 148), some (.int x1), some (.int x2), some (.int x3), some (.int x4), none, none, none, none]) rfl).trans ?_
  refine (tz_g_iload rfl (tz_in0 rfl)).trans ?_
  refine (tz_g_bipush (v := 40) rfl (tz_in0 rfl)).trans ?_
  refine (tz_g_ic_lt (t := 9) (by decide) (tz_in0 rfl)).trans ?_
  refine tz_cg ?_ ?_
  · skip
    refine (tz_g_iload_n rfl (tz_in0 rfl)).trans ?_
    refine (tz_g_iload_n rfl (tz_in0 rfl)).trans ?_
    refine (tz_g_cs2I (m2 := 153) (rc := 1) rfl rfl rfl rfl rfl rfl (by decide) (tz_in0 rfl)).trans ?_
    refine tz_jI (fun y1 A1 => ?_)
    refine (tz_g_istore (L2 := [some (.ref 148), some (.int x1), some (.int x2), some (.int x3), some (.int x4), some (.int y1), none, none, none]) rfl rfl (tz_in0 rfl)).trans ?_
    refine (tz_g_iload_n rfl (tz_in0 rfl)).trans ?_
    refine (tz_g_iload rfl (tz_in0 rfl)).trans ?_
    refine (tz_g_cs2I (m2 := 154) (rc := 1) rfl rfl rfl rfl rfl rfl (by decide) (tz_in0 rfl)).trans ?_
    refine tz_jI (fun y2 A2 => ?_)
    refine (tz_g_istore (L2 := [some (.ref 148), some (.int x1), some (.int x2), some (.int x3), some (.int x4), some (.int y1), some (.int y2), none, none]) rfl rfl (tz_in0 rfl)).trans ?_
    refine (tz_g_gets0 (j := 1) rfl (tz_in0 rfl)).trans ?_
    refine (tz_g_iload rfl (tz_in0 rfl)).trans ?_
    refine (tz_g_ialx (n := 7) rfl rfl rfl (tz_in0 rfl)).trans ?_
    refine tz_cn1 ?_
    refine (tz_g_istore (L2 := [some (.ref 148), some (.int x1), some (.int x2), some (.int x3), some (.int x4), some (.int y1), some (.int y2), some (.int (tz_XT 1 (Int32.toNatClampNeg y1))), none]) rfl rfl (tz_in0 rfl)).trans ?_
    refine (tz_g_iload rfl (tz_in0 rfl)).trans ?_
    refine (tz_g_iconst (v := 1) rfl (tz_in0 rfl)).trans ?_
    refine (tz_g_iadd (tz_in0 rfl)).trans ?_
    refine (tz_g_istore (L2 := [some (.ref 148), some (.int x1), some (.int x2), some (.int x3), some (.int x4), some (.int y1), some (.int y2), some (.int (tz_XT 1 (Int32.toNatClampNeg y1))), some (.int (x4 + 1))]) rfl rfl (tz_in0 rfl)).trans ?_
    refine (tz_g_aload_n rfl (tz_in0 rfl)).trans ?_
    refine (tz_g_iload rfl (tz_in0 rfl)).trans ?_
    refine (tz_g_cv1V (m2 := 155) (rc := 0) rfl rfl rfl rfl rfl rfl (by decide) (tz_in0 rfl)).trans ?_
    refine tz_jV (fun A3 => ?_)
    refine (tz_g_iload rfl (tz_in0 rfl)).trans ?_
    refine (tz_g_lsw (by decide) (tz_in0 rfl)).trans ?_
    refine tz_slc (v := 10) (by decide) ?_ ?_
    · refine (tz_tg (t := 136) (by decide)).trans ?_
      refine (tz_g_iload_n rfl (tz_in0 rfl)).trans ?_
      refine (tz_g_aload_n rfl (tz_in0 rfl)).trans ?_
      refine (tz_g_geti rfl rfl rfl (tz_in0 rfl)).trans ?_
      refine (tz_g_iadd (tz_in0 rfl)).trans ?_
      exact tz_g_ret1 (tz_in0 rfl) rfl
    refine tz_slc (v := 11) (by decide) ?_ ?_
    · refine (tz_tg (t := 143) (by decide)).trans ?_
      refine (tz_g_aload_n rfl (tz_in0 rfl)).trans ?_
      refine (tz_g_iconst (v := 0) rfl (tz_in0 rfl)).trans ?_
      refine (tz_g_aload_n rfl (tz_in0 rfl)).trans ?_
      refine (tz_g_geti rfl rfl rfl (tz_in0 rfl)).trans ?_
      refine (tz_g_iload_n rfl (tz_in0 rfl)).trans ?_
      refine (tz_g_iload rfl (tz_in0 rfl)).trans ?_
      refine (tz_g_cv4I (m2 := 150) (rc := 1) rfl rfl rfl rfl rfl rfl (by decide) (tz_in0 rfl)).trans ?_
      refine tz_jI (fun y4 A4 => ?_)
      refine (tz_g_iconst (v := 2) rfl (tz_in0 rfl)).trans ?_
      refine (tz_g_imul (tz_in0 rfl)).trans ?_
      exact tz_g_ret1 (tz_in0 rfl) rfl
    refine tz_slc (v := 12) (by decide) ?_ ?_
    · refine (tz_tg (t := 158) (by decide)).trans ?_
      refine (tz_g_aload_n rfl (tz_in0 rfl)).trans ?_
      refine (tz_g_iconst (v := 1) rfl (tz_in0 rfl)).trans ?_
      refine (tz_g_aload_n rfl (tz_in0 rfl)).trans ?_
      refine (tz_g_geti rfl rfl rfl (tz_in0 rfl)).trans ?_
      refine (tz_g_iload_n rfl (tz_in0 rfl)).trans ?_
      refine (tz_g_iload rfl (tz_in0 rfl)).trans ?_
      refine (tz_g_cv4I (m2 := 150) (rc := 1) rfl rfl rfl rfl rfl rfl (by decide) (tz_in0 rfl)).trans ?_
      refine tz_jI (fun y4 A4 => ?_)
      refine (tz_g_aload_n rfl (tz_in0 rfl)).trans ?_
      refine (tz_g_iconst (v := 0) rfl (tz_in0 rfl)).trans ?_
      refine (tz_g_aload_n rfl (tz_in0 rfl)).trans ?_
      refine (tz_g_geti rfl rfl rfl (tz_in0 rfl)).trans ?_
      refine (tz_g_iload_n rfl (tz_in0 rfl)).trans ?_
      refine (tz_g_aload_n rfl (tz_in0 rfl)).trans ?_
      refine (tz_g_geti rfl rfl rfl (tz_in0 rfl)).trans ?_
      refine (tz_g_isub (tz_in0 rfl)).trans ?_
      refine (tz_g_iload rfl (tz_in0 rfl)).trans ?_
      refine (tz_g_cv4I (m2 := 150) (rc := 1) rfl rfl rfl rfl rfl rfl (by decide) (tz_in0 rfl)).trans ?_
      refine tz_jI (fun y5 A5 => ?_)
      refine (tz_g_ixor (tz_in0 rfl)).trans ?_
      exact tz_g_ret1 (tz_in0 rfl) rfl
    refine tz_slc (v := 20) (by decide) ?_ ?_
    · refine (tz_tg (t := 189) (by decide)).trans ?_
      refine (tz_g_aload_n rfl (tz_in0 rfl)).trans ?_
      refine (tz_g_iconst (v := 0) rfl (tz_in0 rfl)).trans ?_
      refine (tz_g_iload rfl (tz_in0 rfl)).trans ?_
      refine (tz_g_iload_n rfl (tz_in0 rfl)).trans ?_
      refine (tz_g_iload rfl (tz_in0 rfl)).trans ?_
      refine (tz_g_cv4I (m2 := 150) (rc := 1) rfl rfl rfl rfl rfl rfl (by decide) (tz_in0 rfl)).trans ?_
      refine tz_jI (fun y4 A4 => ?_)
      refine (tz_g_aload_n rfl (tz_in0 rfl)).trans ?_
      refine (tz_g_geti rfl rfl rfl (tz_in0 rfl)).trans ?_
      refine (tz_g_iadd (tz_in0 rfl)).trans ?_
      exact tz_g_ret1 (tz_in0 rfl) rfl
    refine tz_slc (v := 30) (by decide) ?_ ?_
    · refine (tz_tg (t := 205) (by decide)).trans ?_
      refine (tz_g_aload_n rfl (tz_in0 rfl)).trans ?_
      refine (tz_g_iconst (v := 1) rfl (tz_in0 rfl)).trans ?_
      refine (tz_g_iload rfl (tz_in0 rfl)).trans ?_
      refine (tz_g_iload_n rfl (tz_in0 rfl)).trans ?_
      refine (tz_g_iload rfl (tz_in0 rfl)).trans ?_
      refine (tz_g_cv4I (m2 := 150) (rc := 1) rfl rfl rfl rfl rfl rfl (by decide) (tz_in0 rfl)).trans ?_
      refine tz_jI (fun y4 A4 => ?_)
      refine (tz_g_iconst (v := 3) rfl (tz_in0 rfl)).trans ?_
      refine (tz_g_imul (tz_in0 rfl)).trans ?_
      exact tz_g_ret1 (tz_in0 rfl) rfl
    refine tz_slc (v := 40) (by decide) ?_ ?_
    · refine (tz_tg (t := 218) (by decide)).trans ?_
      refine (tz_g_aload_n rfl (tz_in0 rfl)).trans ?_
      refine (tz_g_iconst (v := 1) rfl (tz_in0 rfl)).trans ?_
      refine (tz_g_iload rfl (tz_in0 rfl)).trans ?_
      refine (tz_g_iload_n rfl (tz_in0 rfl)).trans ?_
      refine (tz_g_iconst (v := 1) rfl (tz_in0 rfl)).trans ?_
      refine (tz_g_iadd (tz_in0 rfl)).trans ?_
      refine (tz_g_iload rfl (tz_in0 rfl)).trans ?_
      refine (tz_g_cv4I (m2 := 150) (rc := 1) rfl rfl rfl rfl rfl rfl (by decide) (tz_in0 rfl)).trans ?_
      refine tz_jI (fun y4 A4 => ?_)
      exact tz_g_ret1 (tz_in0 rfl) rfl
    refine tz_slc (v := 50) (by decide) ?_ ?_
    · refine (tz_tg (t := 231) (by decide)).trans ?_
      refine (tz_g_aload_n rfl (tz_in0 rfl)).trans ?_
      refine (tz_g_iconst (v := 2) rfl (tz_in0 rfl)).trans ?_
      refine (tz_g_iload rfl (tz_in0 rfl)).trans ?_
      refine (tz_g_iload_n rfl (tz_in0 rfl)).trans ?_
      refine (tz_g_iload rfl (tz_in0 rfl)).trans ?_
      refine (tz_g_cv4I (m2 := 150) (rc := 1) rfl rfl rfl rfl rfl rfl (by decide) (tz_in0 rfl)).trans ?_
      refine tz_jI (fun y4 A4 => ?_)
      refine (tz_g_ineg (tz_in0 rfl)).trans ?_
      exact tz_g_ret1 (tz_in0 rfl) rfl
    refine tz_slc (v := 51) (by decide) ?_ ?_
    · refine (tz_tg (t := 243) (by decide)).trans ?_
      refine (tz_g_aload_n rfl (tz_in0 rfl)).trans ?_
      refine (tz_g_iconst (v := 0) rfl (tz_in0 rfl)).trans ?_
      refine (tz_g_iload rfl (tz_in0 rfl)).trans ?_
      refine (tz_g_iload_n rfl (tz_in0 rfl)).trans ?_
      refine (tz_g_iload rfl (tz_in0 rfl)).trans ?_
      refine (tz_g_cv4I (m2 := 150) (rc := 1) rfl rfl rfl rfl rfl rfl (by decide) (tz_in0 rfl)).trans ?_
      refine tz_jI (fun y4 A4 => ?_)
      refine (tz_g_aload_n rfl (tz_in0 rfl)).trans ?_
      refine (tz_g_geti rfl rfl rfl (tz_in0 rfl)).trans ?_
      refine (tz_g_isub (tz_in0 rfl)).trans ?_
      exact tz_g_ret1 (tz_in0 rfl) rfl
    refine tz_slc (v := 60) (by decide) ?_ ?_
    · refine (tz_tg (t := 259) (by decide)).trans ?_
      refine (tz_g_aload_n rfl (tz_in0 rfl)).trans ?_
      refine (tz_g_iconst (v := 2) rfl (tz_in0 rfl)).trans ?_
      refine (tz_g_iload rfl (tz_in0 rfl)).trans ?_
      refine (tz_g_iload_n rfl (tz_in0 rfl)).trans ?_
      refine (tz_g_iload rfl (tz_in0 rfl)).trans ?_
      refine (tz_g_cv4I (m2 := 150) (rc := 1) rfl rfl rfl rfl rfl rfl (by decide) (tz_in0 rfl)).trans ?_
      refine tz_jI (fun y4 A4 => ?_)
      refine (tz_g_iconst (v := 5) rfl (tz_in0 rfl)).trans ?_
      refine (tz_g_ixor (tz_in0 rfl)).trans ?_
      exact tz_g_ret1 (tz_in0 rfl) rfl
    refine tz_slc (v := 70) (by decide) ?_ ?_
    · refine (tz_tg (t := 272) (by decide)).trans ?_
      refine (tz_g_aload_n rfl (tz_in0 rfl)).trans ?_
      refine (tz_g_iconst (v := 0) rfl (tz_in0 rfl)).trans ?_
      refine (tz_g_iload rfl (tz_in0 rfl)).trans ?_
      refine (tz_g_iload_n rfl (tz_in0 rfl)).trans ?_
      refine (tz_g_iload rfl (tz_in0 rfl)).trans ?_
      refine (tz_g_cv4I (m2 := 150) (rc := 1) rfl rfl rfl rfl rfl rfl (by decide) (tz_in0 rfl)).trans ?_
      refine tz_jI (fun y4 A4 => ?_)
      refine (tz_g_iconst (v := 2) rfl (tz_in0 rfl)).trans ?_
      refine (tz_g_imul (tz_in0 rfl)).trans ?_
      exact tz_g_ret1 (tz_in0 rfl) rfl
    refine tz_sld ?_
    refine (tz_tg (t := 285) (by decide)).trans ?_
    refine (tz_g_aload_n rfl (tz_in0 rfl)).trans ?_
    refine (tz_g_iconst (v := 1) rfl (tz_in0 rfl)).trans ?_
    refine (tz_g_iload rfl (tz_in0 rfl)).trans ?_
    refine (tz_g_iload_n rfl (tz_in0 rfl)).trans ?_
    refine (tz_g_aload_n rfl (tz_in0 rfl)).trans ?_
    refine (tz_g_geti rfl rfl rfl (tz_in0 rfl)).trans ?_
    refine (tz_g_isub (tz_in0 rfl)).trans ?_
    refine (tz_g_iload rfl (tz_in0 rfl)).trans ?_
    refine (tz_g_cv4I (m2 := 150) (rc := 1) rfl rfl rfl rfl rfl rfl (by decide) (tz_in0 rfl)).trans ?_
    refine tz_jI (fun y4 A4 => ?_)
    exact tz_g_ret1 (tz_in0 rfl) rfl
  · skip
    refine (tz_g_iconst (v := 0) rfl (tz_in0 rfl)).trans ?_
    exact tz_g_ret1 (tz_in0 rfl) rfl

