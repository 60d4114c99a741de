theorem e_X12_keep_s180 (A : tz_Mem) : f_X12_keep_s180 A =
  q_X12_keep_s180_2 0 A := by
  refine (tz_Fe (L := [some (.ref 157), some (.ref 180), none]) rfl).trans ?_
  refine (tz_g_iconst (v := 0) rfl (tz_in0 rfl)).trans ?_
  refine (tz_g_istore_n (L2 := [some (.ref 157), some (.ref 180), some (.int 0)]) rfl rfl (tz_in0 rfl)).trans ?_
  exact tz_Gm (L2 := [some (.ref 157), some (.ref 180), some (.int 0)]) rfl rfl rfl rfl

theorem e_X12_keep_s180_2 (z2 : Int32) (A : tz_Mem) : q_X12_keep_s180_2 z2 A =
  if 8 ≤ z2 then
  q_X12_keep_s180_49 0 A
else
  if z2 < 0 ∨ 8 ≤ (Int32.toNatClampNeg z2) then none else
  if z2 < 0 ∨ 215 ≤ (Int32.toNatClampNeg z2) then none else
  if z2 < 0 ∨ 8 ≤ (Int32.toNatClampNeg z2) then none else
  if (8 + z2) < 0 ∨ 215 ≤ (Int32.toNatClampNeg (8 + z2)) then none else
  if z2 < 0 ∨ 8 ≤ (Int32.toNatClampNeg z2) then none else
  if (16 + z2) < 0 ∨ 215 ≤ (Int32.toNatClampNeg (16 + z2)) then none else
  q_X12_keep_s180_2 (z2 + 1) (tz_s (tz_s (tz_s A 180 (Int32.toNatClampNeg z2) (tz_g A 161 (Int32.toNatClampNeg z2))) 180 (Int32.toNatClampNeg (8 + z2)) (tz_g (tz_s A 180 (Int32.toNatClampNeg z2) (tz_g A 161 (Int32.toNatClampNeg z2))) 162 (Int32.toNatClampNeg z2))) 180 (Int32.toNatClampNeg (16 + z2)) (tz_g (tz_s (tz_s A 180 (Int32.toNatClampNeg z2) (tz_g A 161 (Int32.toNatClampNeg z2))) 180 (Int32.toNatClampNeg (8 + z2)) (tz_g (tz_s A 180 (Int32.toNatClampNeg z2) (tz_g A 161 (Int32.toNatClampNeg z2))) 162 (Int32.toNatClampNeg z2))) 163 (Int32.toNatClampNeg z2))) := by
  show tz_Go 196 2 [some (.ref 157), some (.ref 180), some (.int z2)] [] A = _
  refine (tz_g_iload_n rfl (tz_inM rfl rfl rfl)).trans ?_
  refine (tz_g_bipush (v := 8) rfl (tz_in0 rfl)).trans ?_
  refine (tz_g_ic_ge (t := 47) (by decide) (tz_in0 rfl)).trans ?_
  refine tz_cg ?_ ?_
  · skip
    refine (tz_g_iconst (v := 0) rfl (tz_in0 rfl)).trans ?_
    refine (tz_g_istore_n (L2 := [some (.ref 157), some (.ref 180), some (.int 0)]) rfl rfl (tz_in0 rfl)).trans ?_
    exact tz_Gm (L2 := [some (.ref 157), some (.ref 180), some (.int 0)]) rfl rfl rfl rfl
  · skip
    refine (tz_g_aload_n rfl (tz_in0 rfl)).trans ?_
    refine (tz_g_iload_n rfl (tz_in0 rfl)).trans ?_
    refine (tz_g_aload_n rfl (tz_in0 rfl)).trans ?_
    refine (tz_g_getr (j := 161) rfl rfl rfl rfl rfl (tz_in0 rfl)).trans ?_
    refine (tz_g_iload_n rfl (tz_in0 rfl)).trans ?_
    refine (tz_g_iald (n := 8) rfl rfl rfl (tz_in0 rfl)).trans ?_
    refine tz_cn1 ?_
    refine (tz_g_iast (n := 215) rfl rfl rfl (tz_in0 rfl)).trans ?_
    refine tz_cn1 ?_
    refine (tz_g_aload_n rfl (tz_in0 rfl)).trans ?_
    refine (tz_g_bipush (v := 8) rfl (tz_in0 rfl)).trans ?_
    refine (tz_g_iload_n rfl (tz_in0 rfl)).trans ?_
    refine (tz_g_iadd (tz_in0 rfl)).trans ?_
    refine (tz_g_aload_n rfl (tz_in0 rfl)).trans ?_
    refine (tz_g_getr (j := 162) rfl rfl rfl rfl rfl (tz_in0 rfl)).trans ?_
    refine (tz_g_iload_n rfl (tz_in0 rfl)).trans ?_
    refine (tz_g_iald (n := 8) rfl rfl rfl (tz_in0 rfl)).trans ?_
    refine tz_cn1 ?_
    refine (tz_g_iast (n := 215) rfl rfl rfl (tz_in0 rfl)).trans ?_
    refine tz_cn1 ?_
    refine (tz_g_aload_n rfl (tz_in0 rfl)).trans ?_
    refine (tz_g_bipush (v := 16) rfl (tz_in0 rfl)).trans ?_
    refine (tz_g_iload_n rfl (tz_in0 rfl)).trans ?_
    refine (tz_g_iadd (tz_in0 rfl)).trans ?_
    refine (tz_g_aload_n rfl (tz_in0 rfl)).trans ?_
    refine (tz_g_getr (j := 163) rfl rfl rfl rfl rfl (tz_in0 rfl)).trans ?_
    refine (tz_g_iload_n rfl (tz_in0 rfl)).trans ?_
    refine (tz_g_iald (n := 8) rfl rfl rfl (tz_in0 rfl)).trans ?_
    refine tz_cn1 ?_
    refine (tz_g_iast (n := 215) rfl rfl rfl (tz_in0 rfl)).trans ?_
    refine tz_cn1 ?_
    refine (tz_g_iinc (v := 1) (L2 := [some (.ref 157), some (.ref 180), some (.int (z2 + 1))]) rfl rfl rfl rfl (tz_in0 rfl)).trans ?_
    refine (tz_g_goto (t := 2) (by decide) (tz_in0 rfl)).trans ?_
    exact tz_Gm (L2 := [some (.ref 157), some (.ref 180), some (.int (z2 + 1))]) rfl rfl rfl rfl

theorem e_X12_keep_s180_49 (z2 : Int32) (A : tz_Mem) : q_X12_keep_s180_49 z2 A =
  if 64 ≤ z2 then
  q_X12_keep_s180_75 0 A
else
  if z2 < 0 ∨ 64 ≤ (Int32.toNatClampNeg z2) then none else
  if (24 + z2) < 0 ∨ 215 ≤ (Int32.toNatClampNeg (24 + z2)) then none else
  q_X12_keep_s180_49 (z2 + 1) (tz_s A 180 (Int32.toNatClampNeg (24 + z2)) (tz_g A 164 (Int32.toNatClampNeg z2))) := by
  show tz_Go 196 49 [some (.ref 157), some (.ref 180), some (.int z2)] [] A = _
  refine (tz_g_iload_n rfl (tz_inM rfl rfl rfl)).trans ?_
  refine (tz_g_bipush (v := 64) rfl (tz_in0 rfl)).trans ?_
  refine (tz_g_ic_ge (t := 73) (by decide) (tz_in0 rfl)).trans ?_
  refine tz_cg ?_ ?_
  · skip
    refine (tz_g_iconst (v := 0) rfl (tz_in0 rfl)).trans ?_
    refine (tz_g_istore_n (L2 := [some (.ref 157), some (.ref 180), some (.int 0)]) rfl rfl (tz_in0 rfl)).trans ?_
    exact tz_Gm (L2 := [some (.ref 157), some (.ref 180), some (.int 0)]) rfl rfl rfl rfl
  · skip
    refine (tz_g_aload_n rfl (tz_in0 rfl)).trans ?_
    refine (tz_g_bipush (v := 24) rfl (tz_in0 rfl)).trans ?_
    refine (tz_g_iload_n rfl (tz_in0 rfl)).trans ?_
    refine (tz_g_iadd (tz_in0 rfl)).trans ?_
    refine (tz_g_aload_n rfl (tz_in0 rfl)).trans ?_
    refine (tz_g_getr (j := 164) rfl rfl rfl rfl rfl (tz_in0 rfl)).trans ?_
    refine (tz_g_iload_n rfl (tz_in0 rfl)).trans ?_
    refine (tz_g_iald (n := 64) rfl rfl rfl (tz_in0 rfl)).trans ?_
    refine tz_cn1 ?_
    refine (tz_g_iast (n := 215) rfl rfl rfl (tz_in0 rfl)).trans ?_
    refine tz_cn1 ?_
    refine (tz_g_iinc (v := 1) (L2 := [some (.ref 157), some (.ref 180), some (.int (z2 + 1))]) rfl rfl rfl rfl (tz_in0 rfl)).trans ?_
    refine (tz_g_goto (t := 49) (by decide) (tz_in0 rfl)).trans ?_
    exact tz_Gm (L2 := [some (.ref 157), some (.ref 180), some (.int (z2 + 1))]) rfl rfl rfl rfl

theorem e_X12_keep_s180_75 (z2 : Int32) (A : tz_Mem) : q_X12_keep_s180_75 z2 A =
  if 4 ≤ z2 then
  q_X12_keep_s180_148 0 A
else
  if z2 < 0 ∨ 4 ≤ (Int32.toNatClampNeg z2) then none else
  if (88 + z2) < 0 ∨ 215 ≤ (Int32.toNatClampNeg (88 + z2)) then none else
  if z2 < 0 ∨ 4 ≤ (Int32.toNatClampNeg z2) then none else
  if (92 + z2) < 0 ∨ 215 ≤ (Int32.toNatClampNeg (92 + z2)) then none else
  if z2 < 0 ∨ 4 ≤ (Int32.toNatClampNeg z2) then none else
  if (96 + z2) < 0 ∨ 215 ≤ (Int32.toNatClampNeg (96 + z2)) then none else
  if z2 < 0 ∨ 4 ≤ (Int32.toNatClampNeg z2) then none else
  if (100 + z2) < 0 ∨ 215 ≤ (Int32.toNatClampNeg (100 + z2)) then none else
  if z2 < 0 ∨ 4 ≤ (Int32.toNatClampNeg z2) then none else
  if (104 + z2) < 0 ∨ 215 ≤ (Int32.toNatClampNeg (104 + z2)) then none else
  q_X12_keep_s180_75 (z2 + 1) (tz_s (tz_s (tz_s (tz_s (tz_s A 180 (Int32.toNatClampNeg (88 + z2)) (tz_g A 165 (Int32.toNatClampNeg z2))) 180 (Int32.toNatClampNeg (92 + z2)) (tz_g (tz_s A 180 (Int32.toNatClampNeg (88 + z2)) (tz_g A 165 (Int32.toNatClampNeg z2))) 167 (Int32.toNatClampNeg z2))) 180 (Int32.toNatClampNeg (96 + z2)) (tz_g (tz_s (tz_s A 180 (Int32.toNatClampNeg (88 + z2)) (tz_g A 165 (Int32.toNatClampNeg z2))) 180 (Int32.toNatClampNeg (92 + z2)) (tz_g (tz_s A 180 (Int32.toNatClampNeg (88 + z2)) (tz_g A 165 (Int32.toNatClampNeg z2))) 167 (Int32.toNatClampNeg z2))) 168 (Int32.toNatClampNeg z2))) 180 (Int32.toNatClampNeg (100 + z2)) (tz_g (tz_s (tz_s (tz_s A 180 (Int32.toNatClampNeg (88 + z2)) (tz_g A 165 (Int32.toNatClampNeg z2))) 180 (Int32.toNatClampNeg (92 + z2)) (tz_g (tz_s A 180 (Int32.toNatClampNeg (88 + z2)) (tz_g A 165 (Int32.toNatClampNeg z2))) 167 (Int32.toNatClampNeg z2))) 180 (Int32.toNatClampNeg (96 + z2)) (tz_g (tz_s (tz_s A 180 (Int32.toNatClampNeg (88 + z2)) (tz_g A 165 (Int32.toNatClampNeg z2))) 180 (Int32.toNatClampNeg (92 + z2)) (tz_g (tz_s A 180 (Int32.toNatClampNeg (88 + z2)) (tz_g A 165 (Int32.toNatClampNeg z2))) 167 (Int32.toNatClampNeg z2))) 168 (Int32.toNatClampNeg z2))) 169 (Int32.toNatClampNeg z2))) 180 (Int32.toNatClampNeg (104 + z2)) (tz_g (tz_s (tz_s (tz_s (tz_s A 180 (Int32.toNatClampNeg (88 + z2)) (tz_g A 165 (Int32.toNatClampNeg z2))) 180 (Int32.toNatClampNeg (92 + z2)) (tz_g (tz_s A 180 (Int32.toNatClampNeg (88 + z2)) (tz_g A 165 (Int32.toNatClampNeg z2))) 167 (Int32.toNatClampNeg z2))) 180 (Int32.toNatClampNeg (96 + z2)) (tz_g (tz_s (tz_s A 180 (Int32.toNatClampNeg (88 + z2)) (tz_g A 165 (Int32.toNatClampNeg z2))) 180 (Int32.toNatClampNeg (92 + z2)) (tz_g (tz_s A 180 (Int32.toNatClampNeg (88 + z2)) (tz_g A 165 (Int32.toNatClampNeg z2))) 167 (Int32.toNatClampNeg z2))) 168 (Int32.toNatClampNeg z2))) 180 (Int32.toNatClampNeg (100 + z2)) (tz_g (tz_s (tz_s (tz_s A 180 (Int32.toNatClampNeg (88 + z2)) (tz_g A 165 (Int32.toNatClampNeg z2))) 180 (Int32.toNatClampNeg (92 + z2)) (tz_g (tz_s A 180 (Int32.toNatClampNeg (88 + z2)) (tz_g A 165 (Int32.toNatClampNeg z2))) 167 (Int32.toNatClampNeg z2))) 180 (Int32.toNatClampNeg (96 + z2)) (tz_g (tz_s (tz_s A 180 (Int32.toNatClampNeg (88 + z2)) (tz_g A 165 (Int32.toNatClampNeg z2))) 180 (Int32.toNatClampNeg (92 + z2)) (tz_g (tz_s A 180 (Int32.toNatClampNeg (88 + z2)) (tz_g A 165 (Int32.toNatClampNeg z2))) 167 (Int32.toNatClampNeg z2))) 168 (Int32.toNatClampNeg z2))) 169 (Int32.toNatClampNeg z2))) 170 (Int32.toNatClampNeg z2))) := by
  show tz_Go 196 75 [some (.ref 157), some (.ref 180), some (.int z2)] [] A = _
  refine (tz_g_iload_n rfl (tz_inM rfl rfl rfl)).trans ?_
  refine (tz_g_iconst (v := 4) rfl (tz_in0 rfl)).trans ?_
  refine (tz_g_ic_ge (t := 146) (by decide) (tz_in0 rfl)).trans ?_
  refine tz_cg ?_ ?_
  · skip
    refine (tz_g_iconst (v := 0) rfl (tz_in0 rfl)).trans ?_
    refine (tz_g_istore_n (L2 := [some (.ref 157), some (.ref 180), some (.int 0)]) rfl rfl (tz_in0 rfl)).trans ?_
    exact tz_Gm (L2 := [some (.ref 157), some (.ref 180), some (.int 0)]) rfl rfl rfl rfl
  · skip
    refine (tz_g_aload_n rfl (tz_in0 rfl)).trans ?_
    refine (tz_g_bipush (v := 88) rfl (tz_in0 rfl)).trans ?_
    refine (tz_g_iload_n rfl (tz_in0 rfl)).trans ?_
    refine (tz_g_iadd (tz_in0 rfl)).trans ?_
    refine (tz_g_aload_n rfl (tz_in0 rfl)).trans ?_
    refine (tz_g_getr (j := 165) rfl rfl rfl rfl rfl (tz_in0 rfl)).trans ?_
    refine (tz_g_iload_n rfl (tz_in0 rfl)).trans ?_
    refine (tz_g_iald (n := 4) rfl rfl rfl (tz_in0 rfl)).trans ?_
    refine tz_cn1 ?_
    refine (tz_g_iast (n := 215) rfl rfl rfl (tz_in0 rfl)).trans ?_
    refine tz_cn1 ?_
    refine (tz_g_aload_n rfl (tz_in0 rfl)).trans ?_
    refine (tz_g_bipush (v := 92) rfl (tz_in0 rfl)).trans ?_
    refine (tz_g_iload_n rfl (tz_in0 rfl)).trans ?_
    refine (tz_g_iadd (tz_in0 rfl)).trans ?_
    refine (tz_g_aload_n rfl (tz_in0 rfl)).trans ?_
    refine (tz_g_getr (j := 167) rfl rfl rfl rfl rfl (tz_in0 rfl)).trans ?_
    refine (tz_g_iload_n rfl (tz_in0 rfl)).trans ?_
    refine (tz_g_iald (n := 4) rfl rfl rfl (tz_in0 rfl)).trans ?_
    refine tz_cn1 ?_
    refine (tz_g_iast (n := 215) rfl rfl rfl (tz_in0 rfl)).trans ?_
    refine tz_cn1 ?_
    refine (tz_g_aload_n rfl (tz_in0 rfl)).trans ?_
    refine (tz_g_bipush (v := 96) rfl (tz_in0 rfl)).trans ?_
    refine (tz_g_iload_n rfl (tz_in0 rfl)).trans ?_
    refine (tz_g_iadd (tz_in0 rfl)).trans ?_
    refine (tz_g_aload_n rfl (tz_in0 rfl)).trans ?_
    refine (tz_g_getr (j := 168) rfl rfl rfl rfl rfl (tz_in0 rfl)).trans ?_
    refine (tz_g_iload_n rfl (tz_in0 rfl)).trans ?_
    refine (tz_g_iald (n := 4) rfl rfl rfl (tz_in0 rfl)).trans ?_
    refine tz_cn1 ?_
    refine (tz_g_iast (n := 215) rfl rfl rfl (tz_in0 rfl)).trans ?_
    refine tz_cn1 ?_
    refine (tz_g_aload_n rfl (tz_in0 rfl)).trans ?_
    refine (tz_g_bipush (v := 100) rfl (tz_in0 rfl)).trans ?_
    refine (tz_g_iload_n rfl (tz_in0 rfl)).trans ?_
    refine (tz_g_iadd (tz_in0 rfl)).trans ?_
    refine (tz_g_aload_n rfl (tz_in0 rfl)).trans ?_
    refine (tz_g_getr (j := 169) rfl rfl rfl rfl rfl (tz_in0 rfl)).trans ?_
    refine (tz_g_iload_n rfl (tz_in0 rfl)).trans ?_
    refine (tz_g_iald (n := 4) rfl rfl rfl (tz_in0 rfl)).trans ?_
    refine tz_cn1 ?_
    refine (tz_g_iast (n := 215) rfl rfl rfl (tz_in0 rfl)).trans ?_
    refine tz_cn1 ?_
    refine (tz_g_aload_n rfl (tz_in0 rfl)).trans ?_
    refine (tz_g_bipush (v := 104) rfl (tz_in0 rfl)).trans ?_
    refine (tz_g_iload_n rfl (tz_in0 rfl)).trans ?_
    refine (tz_g_iadd (tz_in0 rfl)).trans ?_
    refine (tz_g_aload_n rfl (tz_in0 rfl)).trans ?_
    refine (tz_g_getr (j := 170) rfl rfl rfl rfl rfl (tz_in0 rfl)).trans ?_
    refine (tz_g_iload_n rfl (tz_in0 rfl)).trans ?_
    refine (tz_g_iald (n := 4) rfl rfl rfl (tz_in0 rfl)).trans ?_
    refine tz_cn1 ?_
    refine (tz_g_iast (n := 215) rfl rfl rfl (tz_in0 rfl)).trans ?_
    refine tz_cn1 ?_
    refine (tz_g_iinc (v := 1) (L2 := [some (.ref 157), some (.ref 180), some (.int (z2 + 1))]) rfl rfl rfl rfl (tz_in0 rfl)).trans ?_
    refine (tz_g_goto (t := 75) (by decide) (tz_in0 rfl)).trans ?_
    exact tz_Gm (L2 := [some (.ref 157), some (.ref 180), some (.int (z2 + 1))]) rfl rfl rfl rfl

theorem e_X12_keep_s180_148 (z2 : Int32) (A : tz_Mem) : q_X12_keep_s180_148 z2 A =
  if 24 ≤ z2 then
  q_X12_keep_s180_174 0 A
else
  if z2 < 0 ∨ 24 ≤ (Int32.toNatClampNeg z2) then none else
  if (108 + z2) < 0 ∨ 215 ≤ (Int32.toNatClampNeg (108 + z2)) then none else
  q_X12_keep_s180_148 (z2 + 1) (tz_s A 180 (Int32.toNatClampNeg (108 + z2)) (tz_g A 166 (Int32.toNatClampNeg z2))) := by
  show tz_Go 196 148 [some (.ref 157), some (.ref 180), some (.int z2)] [] A = _
  refine (tz_g_iload_n rfl (tz_inM rfl rfl rfl)).trans ?_
  refine (tz_g_bipush (v := 24) rfl (tz_in0 rfl)).trans ?_
  refine (tz_g_ic_ge (t := 172) (by decide) (tz_in0 rfl)).trans ?_
  refine tz_cg ?_ ?_
  · skip
    refine (tz_g_iconst (v := 0) rfl (tz_in0 rfl)).trans ?_
    refine (tz_g_istore_n (L2 := [some (.ref 157), some (.ref 180), some (.int 0)]) rfl rfl (tz_in0 rfl)).trans ?_
    exact tz_Gm (L2 := [some (.ref 157), some (.ref 180), some (.int 0)]) rfl rfl rfl rfl
  · skip
    refine (tz_g_aload_n rfl (tz_in0 rfl)).trans ?_
    refine (tz_g_bipush (v := 108) rfl (tz_in0 rfl)).trans ?_
    refine (tz_g_iload_n rfl (tz_in0 rfl)).trans ?_
    refine (tz_g_iadd (tz_in0 rfl)).trans ?_
    refine (tz_g_aload_n rfl (tz_in0 rfl)).trans ?_
    refine (tz_g_getr (j := 166) rfl rfl rfl rfl rfl (tz_in0 rfl)).trans ?_
    refine (tz_g_iload_n rfl (tz_in0 rfl)).trans ?_
    refine (tz_g_iald (n := 24) rfl rfl rfl (tz_in0 rfl)).trans ?_
    refine tz_cn1 ?_
    refine (tz_g_iast (n := 215) rfl rfl rfl (tz_in0 rfl)).trans ?_
    refine tz_cn1 ?_
    refine (tz_g_iinc (v := 1) (L2 := [some (.ref 157), some (.ref 180), some (.int (z2 + 1))]) rfl rfl rfl rfl (tz_in0 rfl)).trans ?_
    refine (tz_g_goto (t := 148) (by decide) (tz_in0 rfl)).trans ?_
    exact tz_Gm (L2 := [some (.ref 157), some (.ref 180), some (.int (z2 + 1))]) rfl rfl rfl rfl

theorem e_X12_keep_s180_174 (z2 : Int32) (A : tz_Mem) : q_X12_keep_s180_174 z2 A =
  if 12 ≤ z2 then
  if (204 : Int32) < 0 ∨ 215 ≤ 204 then none else
  if (205 : Int32) < 0 ∨ 215 ≤ 205 then none else
  if (206 : Int32) < 0 ∨ 215 ≤ 206 then none else
  if (207 : Int32) < 0 ∨ 215 ≤ 207 then none else
  if (208 : Int32) < 0 ∨ 215 ≤ 208 then none else
  if (209 : Int32) < 0 ∨ 215 ≤ 209 then none else
  if (210 : Int32) < 0 ∨ 215 ≤ 210 then none else
  some (none, (tz_s (tz_s (tz_s (tz_s (tz_s (tz_s (tz_s A 180 204 (tz_g A 157 3)) 180 205 (tz_g (tz_s A 180 204 (tz_g A 157 3)) 157 8)) 180 206 (tz_g (tz_s (tz_s A 180 204 (tz_g A 157 3)) 180 205 (tz_g (tz_s A 180 204 (tz_g A 157 3)) 157 8)) 157 15)) 180 207 (tz_g (tz_s (tz_s (tz_s A 180 204 (tz_g A 157 3)) 180 205 (tz_g (tz_s A 180 204 (tz_g A 157 3)) 157 8)) 180 206 (tz_g (tz_s (tz_s A 180 204 (tz_g A 157 3)) 180 205 (tz_g (tz_s A 180 204 (tz_g A 157 3)) 157 8)) 157 15)) 157 22)) 180 208 (tz_g (tz_s (tz_s (tz_s (tz_s A 180 204 (tz_g A 157 3)) 180 205 (tz_g (tz_s A 180 204 (tz_g A 157 3)) 157 8)) 180 206 (tz_g (tz_s (tz_s A 180 204 (tz_g A 157 3)) 180 205 (tz_g (tz_s A 180 204 (tz_g A 157 3)) 157 8)) 157 15)) 180 207 (tz_g (tz_s (tz_s (tz_s A 180 204 (tz_g A 157 3)) 180 205 (tz_g (tz_s A 180 204 (tz_g A 157 3)) 157 8)) 180 206 (tz_g (tz_s (tz_s A 180 204 (tz_g A 157 3)) 180 205 (tz_g (tz_s A 180 204 (tz_g A 157 3)) 157 8)) 157 15)) 157 22)) 157 23)) 180 209 (tz_g (tz_s (tz_s (tz_s (tz_s (tz_s A 180 204 (tz_g A 157 3)) 180 205 (tz_g (tz_s A 180 204 (tz_g A 157 3)) 157 8)) 180 206 (tz_g (tz_s (tz_s A 180 204 (tz_g A 157 3)) 180 205 (tz_g (tz_s A 180 204 (tz_g A 157 3)) 157 8)) 157 15)) 180 207 (tz_g (tz_s (tz_s (tz_s A 180 204 (tz_g A 157 3)) 180 205 (tz_g (tz_s A 180 204 (tz_g A 157 3)) 157 8)) 180 206 (tz_g (tz_s (tz_s A 180 204 (tz_g A 157 3)) 180 205 (tz_g (tz_s A 180 204 (tz_g A 157 3)) 157 8)) 157 15)) 157 22)) 180 208 (tz_g (tz_s (tz_s (tz_s (tz_s A 180 204 (tz_g A 157 3)) 180 205 (tz_g (tz_s A 180 204 (tz_g A 157 3)) 157 8)) 180 206 (tz_g (tz_s (tz_s A 180 204 (tz_g A 157 3)) 180 205 (tz_g (tz_s A 180 204 (tz_g A 157 3)) 157 8)) 157 15)) 180 207 (tz_g (tz_s (tz_s (tz_s A 180 204 (tz_g A 157 3)) 180 205 (tz_g (tz_s A 180 204 (tz_g A 157 3)) 157 8)) 180 206 (tz_g (tz_s (tz_s A 180 204 (tz_g A 157 3)) 180 205 (tz_g (tz_s A 180 204 (tz_g A 157 3)) 157 8)) 157 15)) 157 22)) 157 23)) 157 24)) 180 210 (tz_g (tz_s (tz_s (tz_s (tz_s (tz_s (tz_s A 180 204 (tz_g A 157 3)) 180 205 (tz_g (tz_s A 180 204 (tz_g A 157 3)) 157 8)) 180 206 (tz_g (tz_s (tz_s A 180 204 (tz_g A 157 3)) 180 205 (tz_g (tz_s A 180 204 (tz_g A 157 3)) 157 8)) 157 15)) 180 207 (tz_g (tz_s (tz_s (tz_s A 180 204 (tz_g A 157 3)) 180 205 (tz_g (tz_s A 180 204 (tz_g A 157 3)) 157 8)) 180 206 (tz_g (tz_s (tz_s A 180 204 (tz_g A 157 3)) 180 205 (tz_g (tz_s A 180 204 (tz_g A 157 3)) 157 8)) 157 15)) 157 22)) 180 208 (tz_g (tz_s (tz_s (tz_s (tz_s A 180 204 (tz_g A 157 3)) 180 205 (tz_g (tz_s A 180 204 (tz_g A 157 3)) 157 8)) 180 206 (tz_g (tz_s (tz_s A 180 204 (tz_g A 157 3)) 180 205 (tz_g (tz_s A 180 204 (tz_g A 157 3)) 157 8)) 157 15)) 180 207 (tz_g (tz_s (tz_s (tz_s A 180 204 (tz_g A 157 3)) 180 205 (tz_g (tz_s A 180 204 (tz_g A 157 3)) 157 8)) 180 206 (tz_g (tz_s (tz_s A 180 204 (tz_g A 157 3)) 180 205 (tz_g (tz_s A 180 204 (tz_g A 157 3)) 157 8)) 157 15)) 157 22)) 157 23)) 180 209 (tz_g (tz_s (tz_s (tz_s (tz_s (tz_s A 180 204 (tz_g A 157 3)) 180 205 (tz_g (tz_s A 180 204 (tz_g A 157 3)) 157 8)) 180 206 (tz_g (tz_s (tz_s A 180 204 (tz_g A 157 3)) 180 205 (tz_g (tz_s A 180 204 (tz_g A 157 3)) 157 8)) 157 15)) 180 207 (tz_g (tz_s (tz_s (tz_s A 180 204 (tz_g A 157 3)) 180 205 (tz_g (tz_s A 180 204 (tz_g A 157 3)) 157 8)) 180 206 (tz_g (tz_s (tz_s A 180 204 (tz_g A 157 3)) 180 205 (tz_g (tz_s A 180 204 (tz_g A 157 3)) 157 8)) 157 15)) 157 22)) 180 208 (tz_g (tz_s (tz_s (tz_s (tz_s A 180 204 (tz_g A 157 3)) 180 205 (tz_g (tz_s A 180 204 (tz_g A 157 3)) 157 8)) 180 206 (tz_g (tz_s (tz_s A 180 204 (tz_g A 157 3)) 180 205 (tz_g (tz_s A 180 204 (tz_g A 157 3)) 157 8)) 157 15)) 180 207 (tz_g (tz_s (tz_s (tz_s A 180 204 (tz_g A 157 3)) 180 205 (tz_g (tz_s A 180 204 (tz_g A 157 3)) 157 8)) 180 206 (tz_g (tz_s (tz_s A 180 204 (tz_g A 157 3)) 180 205 (tz_g (tz_s A 180 204 (tz_g A 157 3)) 157 8)) 157 15)) 157 22)) 157 23)) 157 24)) 157 25)))
else
  if z2 < 0 ∨ 12 ≤ (Int32.toNatClampNeg z2) then none else
  if (132 + z2) < 0 ∨ 215 ≤ (Int32.toNatClampNeg (132 + z2)) then none else
  if z2 < 0 ∨ 12 ≤ (Int32.toNatClampNeg z2) then none else
  if (144 + z2) < 0 ∨ 215 ≤ (Int32.toNatClampNeg (144 + z2)) then none else
  if z2 < 0 ∨ 12 ≤ (Int32.toNatClampNeg z2) then none else
  if (156 + z2) < 0 ∨ 215 ≤ (Int32.toNatClampNeg (156 + z2)) then none else
  if z2 < 0 ∨ 12 ≤ (Int32.toNatClampNeg z2) then none else
  if (168 + z2) < 0 ∨ 215 ≤ (Int32.toNatClampNeg (168 + z2)) then none else
  if z2 < 0 ∨ 12 ≤ (Int32.toNatClampNeg z2) then none else
  if (180 + z2) < 0 ∨ 215 ≤ (Int32.toNatClampNeg (180 + z2)) then none else
  if z2 < 0 ∨ 12 ≤ (Int32.toNatClampNeg z2) then none else
  if (192 + z2) < 0 ∨ 215 ≤ (Int32.toNatClampNeg (192 + z2)) then none else
  q_X12_keep_s180_174 (z2 + 1) (tz_s (tz_s (tz_s (tz_s (tz_s (tz_s A 180 (Int32.toNatClampNeg (132 + z2)) (tz_g A 171 (Int32.toNatClampNeg z2))) 180 (Int32.toNatClampNeg (144 + z2)) (tz_g (tz_s A 180 (Int32.toNatClampNeg (132 + z2)) (tz_g A 171 (Int32.toNatClampNeg z2))) 172 (Int32.toNatClampNeg z2))) 180 (Int32.toNatClampNeg (156 + z2)) (tz_g (tz_s (tz_s A 180 (Int32.toNatClampNeg (132 + z2)) (tz_g A 171 (Int32.toNatClampNeg z2))) 180 (Int32.toNatClampNeg (144 + z2)) (tz_g (tz_s A 180 (Int32.toNatClampNeg (132 + z2)) (tz_g A 171 (Int32.toNatClampNeg z2))) 172 (Int32.toNatClampNeg z2))) 173 (Int32.toNatClampNeg z2))) 180 (Int32.toNatClampNeg (168 + z2)) (tz_g (tz_s (tz_s (tz_s A 180 (Int32.toNatClampNeg (132 + z2)) (tz_g A 171 (Int32.toNatClampNeg z2))) 180 (Int32.toNatClampNeg (144 + z2)) (tz_g (tz_s A 180 (Int32.toNatClampNeg (132 + z2)) (tz_g A 171 (Int32.toNatClampNeg z2))) 172 (Int32.toNatClampNeg z2))) 180 (Int32.toNatClampNeg (156 + z2)) (tz_g (tz_s (tz_s A 180 (Int32.toNatClampNeg (132 + z2)) (tz_g A 171 (Int32.toNatClampNeg z2))) 180 (Int32.toNatClampNeg (144 + z2)) (tz_g (tz_s A 180 (Int32.toNatClampNeg (132 + z2)) (tz_g A 171 (Int32.toNatClampNeg z2))) 172 (Int32.toNatClampNeg z2))) 173 (Int32.toNatClampNeg z2))) 174 (Int32.toNatClampNeg z2))) 180 (Int32.toNatClampNeg (180 + z2)) (tz_g (tz_s (tz_s (tz_s (tz_s A 180 (Int32.toNatClampNeg (132 + z2)) (tz_g A 171 (Int32.toNatClampNeg z2))) 180 (Int32.toNatClampNeg (144 + z2)) (tz_g (tz_s A 180 (Int32.toNatClampNeg (132 + z2)) (tz_g A 171 (Int32.toNatClampNeg z2))) 172 (Int32.toNatClampNeg z2))) 180 (Int32.toNatClampNeg (156 + z2)) (tz_g (tz_s (tz_s A 180 (Int32.toNatClampNeg (132 + z2)) (tz_g A 171 (Int32.toNatClampNeg z2))) 180 (Int32.toNatClampNeg (144 + z2)) (tz_g (tz_s A 180 (Int32.toNatClampNeg (132 + z2)) (tz_g A 171 (Int32.toNatClampNeg z2))) 172 (Int32.toNatClampNeg z2))) 173 (Int32.toNatClampNeg z2))) 180 (Int32.toNatClampNeg (168 + z2)) (tz_g (tz_s (tz_s (tz_s A 180 (Int32.toNatClampNeg (132 + z2)) (tz_g A 171 (Int32.toNatClampNeg z2))) 180 (Int32.toNatClampNeg (144 + z2)) (tz_g (tz_s A 180 (Int32.toNatClampNeg (132 + z2)) (tz_g A 171 (Int32.toNatClampNeg z2))) 172 (Int32.toNatClampNeg z2))) 180 (Int32.toNatClampNeg (156 + z2)) (tz_g (tz_s (tz_s A 180 (Int32.toNatClampNeg (132 + z2)) (tz_g A 171 (Int32.toNatClampNeg z2))) 180 (Int32.toNatClampNeg (144 + z2)) (tz_g (tz_s A 180 (Int32.toNatClampNeg (132 + z2)) (tz_g A 171 (Int32.toNatClampNeg z2))) 172 (Int32.toNatClampNeg z2))) 173 (Int32.toNatClampNeg z2))) 174 (Int32.toNatClampNeg z2))) 175 (Int32.toNatClampNeg z2))) 180 (Int32.toNatClampNeg (192 + z2)) (tz_g (tz_s (tz_s (tz_s (tz_s (tz_s A 180 (Int32.toNatClampNeg (132 + z2)) (tz_g A 171 (Int32.toNatClampNeg z2))) 180 (Int32.toNatClampNeg (144 + z2)) (tz_g (tz_s A 180 (Int32.toNatClampNeg (132 + z2)) (tz_g A 171 (Int32.toNatClampNeg z2))) 172 (Int32.toNatClampNeg z2))) 180 (Int32.toNatClampNeg (156 + z2)) (tz_g (tz_s (tz_s A 180 (Int32.toNatClampNeg (132 + z2)) (tz_g A 171 (Int32.toNatClampNeg z2))) 180 (Int32.toNatClampNeg (144 + z2)) (tz_g (tz_s A 180 (Int32.toNatClampNeg (132 + z2)) (tz_g A 171 (Int32.toNatClampNeg z2))) 172 (Int32.toNatClampNeg z2))) 173 (Int32.toNatClampNeg z2))) 180 (Int32.toNatClampNeg (168 + z2)) (tz_g (tz_s (tz_s (tz_s A 180 (Int32.toNatClampNeg (132 + z2)) (tz_g A 171 (Int32.toNatClampNeg z2))) 180 (Int32.toNatClampNeg (144 + z2)) (tz_g (tz_s A 180 (Int32.toNatClampNeg (132 + z2)) (tz_g A 171 (Int32.toNatClampNeg z2))) 172 (Int32.toNatClampNeg z2))) 180 (Int32.toNatClampNeg (156 + z2)) (tz_g (tz_s (tz_s A 180 (Int32.toNatClampNeg (132 + z2)) (tz_g A 171 (Int32.toNatClampNeg z2))) 180 (Int32.toNatClampNeg (144 + z2)) (tz_g (tz_s A 180 (Int32.toNatClampNeg (132 + z2)) (tz_g A 171 (Int32.toNatClampNeg z2))) 172 (Int32.toNatClampNeg z2))) 173 (Int32.toNatClampNeg z2))) 174 (Int32.toNatClampNeg z2))) 180 (Int32.toNatClampNeg (180 + z2)) (tz_g (tz_s (tz_s (tz_s (tz_s A 180 (Int32.toNatClampNeg (132 + z2)) (tz_g A 171 (Int32.toNatClampNeg z2))) 180 (Int32.toNatClampNeg (144 + z2)) (tz_g (tz_s A 180 (Int32.toNatClampNeg (132 + z2)) (tz_g A 171 (Int32.toNatClampNeg z2))) 172 (Int32.toNatClampNeg z2))) 180 (Int32.toNatClampNeg (156 + z2)) (tz_g (tz_s (tz_s A 180 (Int32.toNatClampNeg (132 + z2)) (tz_g A 171 (Int32.toNatClampNeg z2))) 180 (Int32.toNatClampNeg (144 + z2)) (tz_g (tz_s A 180 (Int32.toNatClampNeg (132 + z2)) (tz_g A 171 (Int32.toNatClampNeg z2))) 172 (Int32.toNatClampNeg z2))) 173 (Int32.toNatClampNeg z2))) 180 (Int32.toNatClampNeg (168 + z2)) (tz_g (tz_s (tz_s (tz_s A 180 (Int32.toNatClampNeg (132 + z2)) (tz_g A 171 (Int32.toNatClampNeg z2))) 180 (Int32.toNatClampNeg (144 + z2)) (tz_g (tz_s A 180 (Int32.toNatClampNeg (132 + z2)) (tz_g A 171 (Int32.toNatClampNeg z2))) 172 (Int32.toNatClampNeg z2))) 180 (Int32.toNatClampNeg (156 + z2)) (tz_g (tz_s (tz_s A 180 (Int32.toNatClampNeg (132 + z2)) (tz_g A 171 (Int32.toNatClampNeg z2))) 180 (Int32.toNatClampNeg (144 + z2)) (tz_g (tz_s A 180 (Int32.toNatClampNeg (132 + z2)) (tz_g A 171 (Int32.toNatClampNeg z2))) 172 (Int32.toNatClampNeg z2))) 173 (Int32.toNatClampNeg z2))) 174 (Int32.toNatClampNeg z2))) 175 (Int32.toNatClampNeg z2))) 176 (Int32.toNatClampNeg z2))) := by
  show tz_Go 196 174 [some (.ref 157), some (.ref 180), some (.int z2)] [] A = _
  refine (tz_g_iload_n rfl (tz_inM rfl rfl rfl)).trans ?_
  refine (tz_g_bipush (v := 12) rfl (tz_in0 rfl)).trans ?_
  refine (tz_g_ic_ge (t := 264) (by decide) (tz_in0 rfl)).trans ?_
  refine tz_cg ?_ ?_
  · skip
    refine (tz_g_aload_n rfl (tz_in0 rfl)).trans ?_
    refine (tz_g_sipush (v := 204) rfl (tz_in0 rfl)).trans ?_
    refine (tz_g_aload_n rfl (tz_in0 rfl)).trans ?_
    refine (tz_g_geti rfl rfl rfl (tz_in0 rfl)).trans ?_
    refine (tz_g_iast (n := 215) rfl rfl rfl (tz_in0 rfl)).trans ?_
    refine tz_cn1 ?_
    refine (tz_g_aload_n rfl (tz_in0 rfl)).trans ?_
    refine (tz_g_sipush (v := 205) rfl (tz_in0 rfl)).trans ?_
    refine (tz_g_aload_n rfl (tz_in0 rfl)).trans ?_
    refine (tz_g_geti rfl rfl rfl (tz_in0 rfl)).trans ?_
    refine (tz_g_iast (n := 215) rfl rfl rfl (tz_in0 rfl)).trans ?_
    refine tz_cn1 ?_
    refine (tz_g_aload_n rfl (tz_in0 rfl)).trans ?_
    refine (tz_g_sipush (v := 206) rfl (tz_in0 rfl)).trans ?_
    refine (tz_g_aload_n rfl (tz_in0 rfl)).trans ?_
    refine (tz_g_geti rfl rfl rfl (tz_in0 rfl)).trans ?_
    refine (tz_g_iast (n := 215) rfl rfl rfl (tz_in0 rfl)).trans ?_
    refine tz_cn1 ?_
    refine (tz_g_aload_n rfl (tz_in0 rfl)).trans ?_
    refine (tz_g_sipush (v := 207) rfl (tz_in0 rfl)).trans ?_
    refine (tz_g_aload_n rfl (tz_in0 rfl)).trans ?_
    refine (tz_g_geti rfl rfl rfl (tz_in0 rfl)).trans ?_
    refine (tz_g_iast (n := 215) rfl rfl rfl (tz_in0 rfl)).trans ?_
    refine tz_cn1 ?_
    refine (tz_g_aload_n rfl (tz_in0 rfl)).trans ?_
    refine (tz_g_sipush (v := 208) rfl (tz_in0 rfl)).trans ?_
    refine (tz_g_aload_n rfl (tz_in0 rfl)).trans ?_
    refine (tz_g_geti rfl rfl rfl (tz_in0 rfl)).trans ?_
    refine (tz_g_iast (n := 215) rfl rfl rfl (tz_in0 rfl)).trans ?_
    refine tz_cn1 ?_
    refine (tz_g_aload_n rfl (tz_in0 rfl)).trans ?_
    refine (tz_g_sipush (v := 209) rfl (tz_in0 rfl)).trans ?_
    refine (tz_g_aload_n rfl (tz_in0 rfl)).trans ?_
    refine (tz_g_geti rfl rfl rfl (tz_in0 rfl)).trans ?_
    refine (tz_g_iast (n := 215) rfl rfl rfl (tz_in0 rfl)).trans ?_
    refine tz_cn1 ?_
    refine (tz_g_aload_n rfl (tz_in0 rfl)).trans ?_
    refine (tz_g_sipush (v := 210) rfl (tz_in0 rfl)).trans ?_
    refine (tz_g_aload_n rfl (tz_in0 rfl)).trans ?_
    refine (tz_g_geti rfl rfl rfl (tz_in0 rfl)).trans ?_
    refine (tz_g_iast (n := 215) rfl rfl rfl (tz_in0 rfl)).trans ?_
    refine tz_cn1 ?_
    exact tz_g_ret0 (tz_in0 rfl) rfl
  · skip
    refine (tz_g_aload_n rfl (tz_in0 rfl)).trans ?_
    refine (tz_g_sipush (v := 132) rfl (tz_in0 rfl)).trans ?_
    refine (tz_g_iload_n rfl (tz_in0 rfl)).trans ?_
    refine (tz_g_iadd (tz_in0 rfl)).trans ?_
    refine (tz_g_aload_n rfl (tz_in0 rfl)).trans ?_
    refine (tz_g_getr (j := 171) rfl rfl rfl rfl rfl (tz_in0 rfl)).trans ?_
    refine (tz_g_iload_n rfl (tz_in0 rfl)).trans ?_
    refine (tz_g_iald (n := 12) rfl rfl rfl (tz_in0 rfl)).trans ?_
    refine tz_cn1 ?_
    refine (tz_g_iast (n := 215) rfl rfl rfl (tz_in0 rfl)).trans ?_
    refine tz_cn1 ?_
    refine (tz_g_aload_n rfl (tz_in0 rfl)).trans ?_
    refine (tz_g_sipush (v := 144) rfl (tz_in0 rfl)).trans ?_
    refine (tz_g_iload_n rfl (tz_in0 rfl)).trans ?_
    refine (tz_g_iadd (tz_in0 rfl)).trans ?_
    refine (tz_g_aload_n rfl (tz_in0 rfl)).trans ?_
    refine (tz_g_getr (j := 172) rfl rfl rfl rfl rfl (tz_in0 rfl)).trans ?_
    refine (tz_g_iload_n rfl (tz_in0 rfl)).trans ?_
    refine (tz_g_iald (n := 12) rfl rfl rfl (tz_in0 rfl)).trans ?_
    refine tz_cn1 ?_
    refine (tz_g_iast (n := 215) rfl rfl rfl (tz_in0 rfl)).trans ?_
    refine tz_cn1 ?_
    refine (tz_g_aload_n rfl (tz_in0 rfl)).trans ?_
    refine (tz_g_sipush (v := 156) rfl (tz_in0 rfl)).trans ?_
    refine (tz_g_iload_n rfl (tz_in0 rfl)).trans ?_
    refine (tz_g_iadd (tz_in0 rfl)).trans ?_
    refine (tz_g_aload_n rfl (tz_in0 rfl)).trans ?_
    refine (tz_g_getr (j := 173) rfl rfl rfl rfl rfl (tz_in0 rfl)).trans ?_
    refine (tz_g_iload_n rfl (tz_in0 rfl)).trans ?_
    refine (tz_g_iald (n := 12) rfl rfl rfl (tz_in0 rfl)).trans ?_
    refine tz_cn1 ?_
    refine (tz_g_iast (n := 215) rfl rfl rfl (tz_in0 rfl)).trans ?_
    refine tz_cn1 ?_
    refine (tz_g_aload_n rfl (tz_in0 rfl)).trans ?_
    refine (tz_g_sipush (v := 168) rfl (tz_in0 rfl)).trans ?_
    refine (tz_g_iload_n rfl (tz_in0 rfl)).trans ?_
    refine (tz_g_iadd (tz_in0 rfl)).trans ?_
    refine (tz_g_aload_n rfl (tz_in0 rfl)).trans ?_
    refine (tz_g_getr (j := 174) rfl rfl rfl rfl rfl (tz_in0 rfl)).trans ?_
    refine (tz_g_iload_n rfl (tz_in0 rfl)).trans ?_
    refine (tz_g_iald (n := 12) rfl rfl rfl (tz_in0 rfl)).trans ?_
    refine tz_cn1 ?_
    refine (tz_g_iast (n := 215) rfl rfl rfl (tz_in0 rfl)).trans ?_
    refine tz_cn1 ?_
    refine (tz_g_aload_n rfl (tz_in0 rfl)).trans ?_
    refine (tz_g_sipush (v := 180) rfl (tz_in0 rfl)).trans ?_
    refine (tz_g_iload_n rfl (tz_in0 rfl)).trans ?_
    refine (tz_g_iadd (tz_in0 rfl)).trans ?_
    refine (tz_g_aload_n rfl (tz_in0 rfl)).trans ?_
    refine (tz_g_getr (j := 175) rfl rfl rfl rfl rfl (tz_in0 rfl)).trans ?_
    refine (tz_g_iload_n rfl (tz_in0 rfl)).trans ?_
    refine (tz_g_iald (n := 12) rfl rfl rfl (tz_in0 rfl)).trans ?_
    refine tz_cn1 ?_
    refine (tz_g_iast (n := 215) rfl rfl rfl (tz_in0 rfl)).trans ?_
    refine tz_cn1 ?_
    refine (tz_g_aload_n rfl (tz_in0 rfl)).trans ?_
    refine (tz_g_sipush (v := 192) rfl (tz_in0 rfl)).trans ?_
    refine (tz_g_iload_n rfl (tz_in0 rfl)).trans ?_
    refine (tz_g_iadd (tz_in0 rfl)).trans ?_
    refine (tz_g_aload_n rfl (tz_in0 rfl)).trans ?_
    refine (tz_g_getr (j := 176) rfl rfl rfl rfl rfl (tz_in0 rfl)).trans ?_
    refine (tz_g_iload_n rfl (tz_in0 rfl)).trans ?_
    refine (tz_g_iald (n := 12) rfl rfl rfl (tz_in0 rfl)).trans ?_
    refine tz_cn1 ?_
    refine (tz_g_iast (n := 215) rfl rfl rfl (tz_in0 rfl)).trans ?_
    refine tz_cn1 ?_
    refine (tz_g_iinc (v := 1) (L2 := [some (.ref 157), some (.ref 180), some (.int (z2 + 1))]) rfl rfl rfl rfl (tz_in0 rfl)).trans ?_
    refine (tz_g_goto (t := 174) (by decide) (tz_in0 rfl)).trans ?_
    exact tz_Gm (L2 := [some (.ref 157), some (.ref 180), some (.int (z2 + 1))]) rfl rfl rfl rfl

theorem e_X12_keep_s181 (A : tz_Mem) : f_X12_keep_s181 A =
  q_X12_keep_s181_2 0 A := by
  refine (tz_Fe (L := [some (.ref 157), some (.ref 181), none]) rfl).trans ?_
  refine (tz_g_iconst (v := 0) rfl (tz_in0 rfl)).trans ?_
  refine (tz_g_istore_n (L2 := [some (.ref 157), some (.ref 181), some (.int 0)]) rfl rfl (tz_in0 rfl)).trans ?_
  exact tz_Gm (L2 := [some (.ref 157), some (.ref 181), some (.int 0)]) rfl rfl rfl rfl

theorem e_X12_keep_s181_2 (z2 : Int32) (A : tz_Mem) : q_X12_keep_s181_2 z2 A =
  if 8 ≤ z2 then
  q_X12_keep_s181_49 0 A
else
  if z2 < 0 ∨ 8 ≤ (Int32.toNatClampNeg z2) then none else
  if z2 < 0 ∨ 215 ≤ (Int32.toNatClampNeg z2) then none else
  if z2 < 0 ∨ 8 ≤ (Int32.toNatClampNeg z2) then none else
  if (8 + z2) < 0 ∨ 215 ≤ (Int32.toNatClampNeg (8 + z2)) then none else
  if z2 < 0 ∨ 8 ≤ (Int32.toNatClampNeg z2) then none else
  if (16 + z2) < 0 ∨ 215 ≤ (Int32.toNatClampNeg (16 + z2)) then none else
  q_X12_keep_s181_2 (z2 + 1) (tz_s (tz_s (tz_s A 181 (Int32.toNatClampNeg z2) (tz_g A 161 (Int32.toNatClampNeg z2))) 181 (Int32.toNatClampNeg (8 + z2)) (tz_g (tz_s A 181 (Int32.toNatClampNeg z2) (tz_g A 161 (Int32.toNatClampNeg z2))) 162 (Int32.toNatClampNeg z2))) 181 (Int32.toNatClampNeg (16 + z2)) (tz_g (tz_s (tz_s A 181 (Int32.toNatClampNeg z2) (tz_g A 161 (Int32.toNatClampNeg z2))) 181 (Int32.toNatClampNeg (8 + z2)) (tz_g (tz_s A 181 (Int32.toNatClampNeg z2) (tz_g A 161 (Int32.toNatClampNeg z2))) 162 (Int32.toNatClampNeg z2))) 163 (Int32.toNatClampNeg z2))) := by
  show tz_Go 196 2 [some (.ref 157), some (.ref 181), some (.int z2)] [] A = _
  refine (tz_g_iload_n rfl (tz_inM rfl rfl rfl)).trans ?_
  refine (tz_g_bipush (v := 8) rfl (tz_in0 rfl)).trans ?_
  refine (tz_g_ic_ge (t := 47) (by decide) (tz_in0 rfl)).trans ?_
  refine tz_cg ?_ ?_
  · skip
    refine (tz_g_iconst (v := 0) rfl (tz_in0 rfl)).trans ?_
    refine (tz_g_istore_n (L2 := [some (.ref 157), some (.ref 181), some (.int 0)]) rfl rfl (tz_in0 rfl)).trans ?_
    exact tz_Gm (L2 := [some (.ref 157), some (.ref 181), some (.int 0)]) rfl rfl rfl rfl
  · skip
    refine (tz_g_aload_n rfl (tz_in0 rfl)).trans ?_
    refine (tz_g_iload_n rfl (tz_in0 rfl)).trans ?_
    refine (tz_g_aload_n rfl (tz_in0 rfl)).trans ?_
    refine (tz_g_getr (j := 161) rfl rfl rfl rfl rfl (tz_in0 rfl)).trans ?_
    refine (tz_g_iload_n rfl (tz_in0 rfl)).trans ?_
    refine (tz_g_iald (n := 8) rfl rfl rfl (tz_in0 rfl)).trans ?_
    refine tz_cn1 ?_
    refine (tz_g_iast (n := 215) rfl rfl rfl (tz_in0 rfl)).trans ?_
    refine tz_cn1 ?_
    refine (tz_g_aload_n rfl (tz_in0 rfl)).trans ?_
    refine (tz_g_bipush (v := 8) rfl (tz_in0 rfl)).trans ?_
    refine (tz_g_iload_n rfl (tz_in0 rfl)).trans ?_
    refine (tz_g_iadd (tz_in0 rfl)).trans ?_
    refine (tz_g_aload_n rfl (tz_in0 rfl)).trans ?_
    refine (tz_g_getr (j := 162) rfl rfl rfl rfl rfl (tz_in0 rfl)).trans ?_
    refine (tz_g_iload_n rfl (tz_in0 rfl)).trans ?_
    refine (tz_g_iald (n := 8) rfl rfl rfl (tz_in0 rfl)).trans ?_
    refine tz_cn1 ?_
    refine (tz_g_iast (n := 215) rfl rfl rfl (tz_in0 rfl)).trans ?_
    refine tz_cn1 ?_
    refine (tz_g_aload_n rfl (tz_in0 rfl)).trans ?_
    refine (tz_g_bipush (v := 16) rfl (tz_in0 rfl)).trans ?_
    refine (tz_g_iload_n rfl (tz_in0 rfl)).trans ?_
    refine (tz_g_iadd (tz_in0 rfl)).trans ?_
    refine (tz_g_aload_n rfl (tz_in0 rfl)).trans ?_
    refine (tz_g_getr (j := 163) rfl rfl rfl rfl rfl (tz_in0 rfl)).trans ?_
    refine (tz_g_iload_n rfl (tz_in0 rfl)).trans ?_
    refine (tz_g_iald (n := 8) rfl rfl rfl (tz_in0 rfl)).trans ?_
    refine tz_cn1 ?_
    refine (tz_g_iast (n := 215) rfl rfl rfl (tz_in0 rfl)).trans ?_
    refine tz_cn1 ?_
    refine (tz_g_iinc (v := 1) (L2 := [some (.ref 157), some (.ref 181), some (.int (z2 + 1))]) rfl rfl rfl rfl (tz_in0 rfl)).trans ?_
    refine (tz_g_goto (t := 2) (by decide) (tz_in0 rfl)).trans ?_
    exact tz_Gm (L2 := [some (.ref 157), some (.ref 181), some (.int (z2 + 1))]) rfl rfl rfl rfl

theorem e_X12_keep_s181_49 (z2 : Int32) (A : tz_Mem) : q_X12_keep_s181_49 z2 A =
  if 64 ≤ z2 then
  q_X12_keep_s181_75 0 A
else
  if z2 < 0 ∨ 64 ≤ (Int32.toNatClampNeg z2) then none else
  if (24 + z2) < 0 ∨ 215 ≤ (Int32.toNatClampNeg (24 + z2)) then none else
  q_X12_keep_s181_49 (z2 + 1) (tz_s A 181 (Int32.toNatClampNeg (24 + z2)) (tz_g A 164 (Int32.toNatClampNeg z2))) := by
  show tz_Go 196 49 [some (.ref 157), some (.ref 181), some (.int z2)] [] A = _
  refine (tz_g_iload_n rfl (tz_inM rfl rfl rfl)).trans ?_
  refine (tz_g_bipush (v := 64) rfl (tz_in0 rfl)).trans ?_
  refine (tz_g_ic_ge (t := 73) (by decide) (tz_in0 rfl)).trans ?_
  refine tz_cg ?_ ?_
  · skip
    refine (tz_g_iconst (v := 0) rfl (tz_in0 rfl)).trans ?_
    refine (tz_g_istore_n (L2 := [some (.ref 157), some (.ref 181), some (.int 0)]) rfl rfl (tz_in0 rfl)).trans ?_
    exact tz_Gm (L2 := [some (.ref 157), some (.ref 181), some (.int 0)]) rfl rfl rfl rfl
  · skip
    refine (tz_g_aload_n rfl (tz_in0 rfl)).trans ?_
    refine (tz_g_bipush (v := 24) rfl (tz_in0 rfl)).trans ?_
    refine (tz_g_iload_n rfl (tz_in0 rfl)).trans ?_
    refine (tz_g_iadd (tz_in0 rfl)).trans ?_
    refine (tz_g_aload_n rfl (tz_in0 rfl)).trans ?_
    refine (tz_g_getr (j := 164) rfl rfl rfl rfl rfl (tz_in0 rfl)).trans ?_
    refine (tz_g_iload_n rfl (tz_in0 rfl)).trans ?_
    refine (tz_g_iald (n := 64) rfl rfl rfl (tz_in0 rfl)).trans ?_
    refine tz_cn1 ?_
    refine (tz_g_iast (n := 215) rfl rfl rfl (tz_in0 rfl)).trans ?_
    refine tz_cn1 ?_
    refine (tz_g_iinc (v := 1) (L2 := [some (.ref 157), some (.ref 181), some (.int (z2 + 1))]) rfl rfl rfl rfl (tz_in0 rfl)).trans ?_
    refine (tz_g_goto (t := 49) (by decide) (tz_in0 rfl)).trans ?_
    exact tz_Gm (L2 := [some (.ref 157), some (.ref 181), some (.int (z2 + 1))]) rfl rfl rfl rfl

theorem e_X12_keep_s181_75 (z2 : Int32) (A : tz_Mem) : q_X12_keep_s181_75 z2 A =
  if 4 ≤ z2 then
  q_X12_keep_s181_148 0 A
else
  if z2 < 0 ∨ 4 ≤ (Int32.toNatClampNeg z2) then none else
  if (88 + z2) < 0 ∨ 215 ≤ (Int32.toNatClampNeg (88 + z2)) then none else
  if z2 < 0 ∨ 4 ≤ (Int32.toNatClampNeg z2) then none else
  if (92 + z2) < 0 ∨ 215 ≤ (Int32.toNatClampNeg (92 + z2)) then none else
  if z2 < 0 ∨ 4 ≤ (Int32.toNatClampNeg z2) then none else
  if (96 + z2) < 0 ∨ 215 ≤ (Int32.toNatClampNeg (96 + z2)) then none else
  if z2 < 0 ∨ 4 ≤ (Int32.toNatClampNeg z2) then none else
  if (100 + z2) < 0 ∨ 215 ≤ (Int32.toNatClampNeg (100 + z2)) then none else
  if z2 < 0 ∨ 4 ≤ (Int32.toNatClampNeg z2) then none else
  if (104 + z2) < 0 ∨ 215 ≤ (Int32.toNatClampNeg (104 + z2)) then none else
  q_X12_keep_s181_75 (z2 + 1) (tz_s (tz_s (tz_s (tz_s (tz_s A 181 (Int32.toNatClampNeg (88 + z2)) (tz_g A 165 (Int32.toNatClampNeg z2))) 181 (Int32.toNatClampNeg (92 + z2)) (tz_g (tz_s A 181 (Int32.toNatClampNeg (88 + z2)) (tz_g A 165 (Int32.toNatClampNeg z2))) 167 (Int32.toNatClampNeg z2))) 181 (Int32.toNatClampNeg (96 + z2)) (tz_g (tz_s (tz_s A 181 (Int32.toNatClampNeg (88 + z2)) (tz_g A 165 (Int32.toNatClampNeg z2))) 181 (Int32.toNatClampNeg (92 + z2)) (tz_g (tz_s A 181 (Int32.toNatClampNeg (88 + z2)) (tz_g A 165 (Int32.toNatClampNeg z2))) 167 (Int32.toNatClampNeg z2))) 168 (Int32.toNatClampNeg z2))) 181 (Int32.toNatClampNeg (100 + z2)) (tz_g (tz_s (tz_s (tz_s A 181 (Int32.toNatClampNeg (88 + z2)) (tz_g A 165 (Int32.toNatClampNeg z2))) 181 (Int32.toNatClampNeg (92 + z2)) (tz_g (tz_s A 181 (Int32.toNatClampNeg (88 + z2)) (tz_g A 165 (Int32.toNatClampNeg z2))) 167 (Int32.toNatClampNeg z2))) 181 (Int32.toNatClampNeg (96 + z2)) (tz_g (tz_s (tz_s A 181 (Int32.toNatClampNeg (88 + z2)) (tz_g A 165 (Int32.toNatClampNeg z2))) 181 (Int32.toNatClampNeg (92 + z2)) (tz_g (tz_s A 181 (Int32.toNatClampNeg (88 + z2)) (tz_g A 165 (Int32.toNatClampNeg z2))) 167 (Int32.toNatClampNeg z2))) 168 (Int32.toNatClampNeg z2))) 169 (Int32.toNatClampNeg z2))) 181 (Int32.toNatClampNeg (104 + z2)) (tz_g (tz_s (tz_s (tz_s (tz_s A 181 (Int32.toNatClampNeg (88 + z2)) (tz_g A 165 (Int32.toNatClampNeg z2))) 181 (Int32.toNatClampNeg (92 + z2)) (tz_g (tz_s A 181 (Int32.toNatClampNeg (88 + z2)) (tz_g A 165 (Int32.toNatClampNeg z2))) 167 (Int32.toNatClampNeg z2))) 181 (Int32.toNatClampNeg (96 + z2)) (tz_g (tz_s (tz_s A 181 (Int32.toNatClampNeg (88 + z2)) (tz_g A 165 (Int32.toNatClampNeg z2))) 181 (Int32.toNatClampNeg (92 + z2)) (tz_g (tz_s A 181 (Int32.toNatClampNeg (88 + z2)) (tz_g A 165 (Int32.toNatClampNeg z2))) 167 (Int32.toNatClampNeg z2))) 168 (Int32.toNatClampNeg z2))) 181 (Int32.toNatClampNeg (100 + z2)) (tz_g (tz_s (tz_s (tz_s A 181 (Int32.toNatClampNeg (88 + z2)) (tz_g A 165 (Int32.toNatClampNeg z2))) 181 (Int32.toNatClampNeg (92 + z2)) (tz_g (tz_s A 181 (Int32.toNatClampNeg (88 + z2)) (tz_g A 165 (Int32.toNatClampNeg z2))) 167 (Int32.toNatClampNeg z2))) 181 (Int32.toNatClampNeg (96 + z2)) (tz_g (tz_s (tz_s A 181 (Int32.toNatClampNeg (88 + z2)) (tz_g A 165 (Int32.toNatClampNeg z2))) 181 (Int32.toNatClampNeg (92 + z2)) (tz_g (tz_s A 181 (Int32.toNatClampNeg (88 + z2)) (tz_g A 165 (Int32.toNatClampNeg z2))) 167 (Int32.toNatClampNeg z2))) 168 (Int32.toNatClampNeg z2))) 169 (Int32.toNatClampNeg z2))) 170 (Int32.toNatClampNeg z2))) := by
  show tz_Go 196 75 [some (.ref 157), some (.ref 181), some (.int z2)] [] A = _
  refine (tz_g_iload_n rfl (tz_inM rfl rfl rfl)).trans ?_
  refine (tz_g_iconst (v := 4) rfl (tz_in0 rfl)).trans ?_
  refine (tz_g_ic_ge (t := 146) (by decide) (tz_in0 rfl)).trans ?_
  refine tz_cg ?_ ?_
  · skip
    refine (tz_g_iconst (v := 0) rfl (tz_in0 rfl)).trans ?_
    refine (tz_g_istore_n (L2 := [some (.ref 157), some (.ref 181), some (.int 0)]) rfl rfl (tz_in0 rfl)).trans ?_
    exact tz_Gm (L2 := [some (.ref 157), some (.ref 181), some (.int 0)]) rfl rfl rfl rfl
  · skip
    refine (tz_g_aload_n rfl (tz_in0 rfl)).trans ?_
    refine (tz_g_bipush (v := 88) rfl (tz_in0 rfl)).trans ?_
    refine (tz_g_iload_n rfl (tz_in0 rfl)).trans ?_
    refine (tz_g_iadd (tz_in0 rfl)).trans ?_
    refine (tz_g_aload_n rfl (tz_in0 rfl)).trans ?_
    refine (tz_g_getr (j := 165) rfl rfl rfl rfl rfl (tz_in0 rfl)).trans ?_
    refine (tz_g_iload_n rfl (tz_in0 rfl)).trans ?_
    refine (tz_g_iald (n := 4) rfl rfl rfl (tz_in0 rfl)).trans ?_
    refine tz_cn1 ?_
    refine (tz_g_iast (n := 215) rfl rfl rfl (tz_in0 rfl)).trans ?_
    refine tz_cn1 ?_
    refine (tz_g_aload_n rfl (tz_in0 rfl)).trans ?_
    refine (tz_g_bipush (v := 92) rfl (tz_in0 rfl)).trans ?_
    refine (tz_g_iload_n rfl (tz_in0 rfl)).trans ?_
    refine (tz_g_iadd (tz_in0 rfl)).trans ?_
    refine (tz_g_aload_n rfl (tz_in0 rfl)).trans ?_
    refine (tz_g_getr (j := 167) rfl rfl rfl rfl rfl (tz_in0 rfl)).trans ?_
    refine (tz_g_iload_n rfl (tz_in0 rfl)).trans ?_
    refine (tz_g_iald (n := 4) rfl rfl rfl (tz_in0 rfl)).trans ?_
    refine tz_cn1 ?_
    refine (tz_g_iast (n := 215) rfl rfl rfl (tz_in0 rfl)).trans ?_
    refine tz_cn1 ?_
    refine (tz_g_aload_n rfl (tz_in0 rfl)).trans ?_
    refine (tz_g_bipush (v := 96) rfl (tz_in0 rfl)).trans ?_
    refine (tz_g_iload_n rfl (tz_in0 rfl)).trans ?_
    refine (tz_g_iadd (tz_in0 rfl)).trans ?_
    refine (tz_g_aload_n rfl (tz_in0 rfl)).trans ?_
    refine (tz_g_getr (j := 168) rfl rfl rfl rfl rfl (tz_in0 rfl)).trans ?_
    refine (tz_g_iload_n rfl (tz_in0 rfl)).trans ?_
    refine (tz_g_iald (n := 4) rfl rfl rfl (tz_in0 rfl)).trans ?_
    refine tz_cn1 ?_
    refine (tz_g_iast (n := 215) rfl rfl rfl (tz_in0 rfl)).trans ?_
    refine tz_cn1 ?_
    refine (tz_g_aload_n rfl (tz_in0 rfl)).trans ?_
    refine (tz_g_bipush (v := 100) rfl (tz_in0 rfl)).trans ?_
    refine (tz_g_iload_n rfl (tz_in0 rfl)).trans ?_
    refine (tz_g_iadd (tz_in0 rfl)).trans ?_
    refine (tz_g_aload_n rfl (tz_in0 rfl)).trans ?_
    refine (tz_g_getr (j := 169) rfl rfl rfl rfl rfl (tz_in0 rfl)).trans ?_
    refine (tz_g_iload_n rfl (tz_in0 rfl)).trans ?_
    refine (tz_g_iald (n := 4) rfl rfl rfl (tz_in0 rfl)).trans ?_
    refine tz_cn1 ?_
    refine (tz_g_iast (n := 215) rfl rfl rfl (tz_in0 rfl)).trans ?_
    refine tz_cn1 ?_
    refine (tz_g_aload_n rfl (tz_in0 rfl)).trans ?_
    refine (tz_g_bipush (v := 104) rfl (tz_in0 rfl)).trans ?_
    refine (tz_g_iload_n rfl (tz_in0 rfl)).trans ?_
    refine (tz_g_iadd (tz_in0 rfl)).trans ?_
    refine (tz_g_aload_n rfl (tz_in0 rfl)).trans ?_
    refine (tz_g_getr (j := 170) rfl rfl rfl rfl rfl (tz_in0 rfl)).trans ?_
    refine (tz_g_iload_n rfl (tz_in0 rfl)).trans ?_
    refine (tz_g_iald (n := 4) rfl rfl rfl (tz_in0 rfl)).trans ?_
    refine tz_cn1 ?_
    refine (tz_g_iast (n := 215) rfl rfl rfl (tz_in0 rfl)).trans ?_
    refine tz_cn1 ?_
    refine (tz_g_iinc (v := 1) (L2 := [some (.ref 157), some (.ref 181), some (.int (z2 + 1))]) rfl rfl rfl rfl (tz_in0 rfl)).trans ?_
    refine (tz_g_goto (t := 75) (by decide) (tz_in0 rfl)).trans ?_
    exact tz_Gm (L2 := [some (.ref 157), some (.ref 181), some (.int (z2 + 1))]) rfl rfl rfl rfl

theorem e_X12_keep_s181_148 (z2 : Int32) (A : tz_Mem) : q_X12_keep_s181_148 z2 A =
  if 24 ≤ z2 then
  q_X12_keep_s181_174 0 A
else
  if z2 < 0 ∨ 24 ≤ (Int32.toNatClampNeg z2) then none else
  if (108 + z2) < 0 ∨ 215 ≤ (Int32.toNatClampNeg (108 + z2)) then none else
  q_X12_keep_s181_148 (z2 + 1) (tz_s A 181 (Int32.toNatClampNeg (108 + z2)) (tz_g A 166 (Int32.toNatClampNeg z2))) := by
  show tz_Go 196 148 [some (.ref 157), some (.ref 181), some (.int z2)] [] A = _
  refine (tz_g_iload_n rfl (tz_inM rfl rfl rfl)).trans ?_
  refine (tz_g_bipush (v := 24) rfl (tz_in0 rfl)).trans ?_
  refine (tz_g_ic_ge (t := 172) (by decide) (tz_in0 rfl)).trans ?_
  refine tz_cg ?_ ?_
  · skip
    refine (tz_g_iconst (v := 0) rfl (tz_in0 rfl)).trans ?_
    refine (tz_g_istore_n (L2 := [some (.ref 157), some (.ref 181), some (.int 0)]) rfl rfl (tz_in0 rfl)).trans ?_
    exact tz_Gm (L2 := [some (.ref 157), some (.ref 181), some (.int 0)]) rfl rfl rfl rfl
  · skip
    refine (tz_g_aload_n rfl (tz_in0 rfl)).trans ?_
    refine (tz_g_bipush (v := 108) rfl (tz_in0 rfl)).trans ?_
    refine (tz_g_iload_n rfl (tz_in0 rfl)).trans ?_
    refine (tz_g_iadd (tz_in0 rfl)).trans ?_
    refine (tz_g_aload_n rfl (tz_in0 rfl)).trans ?_
    refine (tz_g_getr (j := 166) rfl rfl rfl rfl rfl (tz_in0 rfl)).trans ?_
    refine (tz_g_iload_n rfl (tz_in0 rfl)).trans ?_
    refine (tz_g_iald (n := 24) rfl rfl rfl (tz_in0 rfl)).trans ?_
    refine tz_cn1 ?_
    refine (tz_g_iast (n := 215) rfl rfl rfl (tz_in0 rfl)).trans ?_
    refine tz_cn1 ?_
    refine (tz_g_iinc (v := 1) (L2 := [some (.ref 157), some (.ref 181), some (.int (z2 + 1))]) rfl rfl rfl rfl (tz_in0 rfl)).trans ?_
    refine (tz_g_goto (t := 148) (by decide) (tz_in0 rfl)).trans ?_
    exact tz_Gm (L2 := [some (.ref 157), some (.ref 181), some (.int (z2 + 1))]) rfl rfl rfl rfl

theorem e_X12_keep_s181_174 (z2 : Int32) (A : tz_Mem) : q_X12_keep_s181_174 z2 A =
  if 12 ≤ z2 then
  if (204 : Int32) < 0 ∨ 215 ≤ 204 then none else
  if (205 : Int32) < 0 ∨ 215 ≤ 205 then none else
  if (206 : Int32) < 0 ∨ 215 ≤ 206 then none else
  if (207 : Int32) < 0 ∨ 215 ≤ 207 then none else
  if (208 : Int32) < 0 ∨ 215 ≤ 208 then none else
  if (209 : Int32) < 0 ∨ 215 ≤ 209 then none else
  if (210 : Int32) < 0 ∨ 215 ≤ 210 then none else
  some (none, (tz_s (tz_s (tz_s (tz_s (tz_s (tz_s (tz_s A 181 204 (tz_g A 157 3)) 181 205 (tz_g (tz_s A 181 204 (tz_g A 157 3)) 157 8)) 181 206 (tz_g (tz_s (tz_s A 181 204 (tz_g A 157 3)) 181 205 (tz_g (tz_s A 181 204 (tz_g A 157 3)) 157 8)) 157 15)) 181 207 (tz_g (tz_s (tz_s (tz_s A 181 204 (tz_g A 157 3)) 181 205 (tz_g (tz_s A 181 204 (tz_g A 157 3)) 157 8)) 181 206 (tz_g (tz_s (tz_s A 181 204 (tz_g A 157 3)) 181 205 (tz_g (tz_s A 181 204 (tz_g A 157 3)) 157 8)) 157 15)) 157 22)) 181 208 (tz_g (tz_s (tz_s (tz_s (tz_s A 181 204 (tz_g A 157 3)) 181 205 (tz_g (tz_s A 181 204 (tz_g A 157 3)) 157 8)) 181 206 (tz_g (tz_s (tz_s A 181 204 (tz_g A 157 3)) 181 205 (tz_g (tz_s A 181 204 (tz_g A 157 3)) 157 8)) 157 15)) 181 207 (tz_g (tz_s (tz_s (tz_s A 181 204 (tz_g A 157 3)) 181 205 (tz_g (tz_s A 181 204 (tz_g A 157 3)) 157 8)) 181 206 (tz_g (tz_s (tz_s A 181 204 (tz_g A 157 3)) 181 205 (tz_g (tz_s A 181 204 (tz_g A 157 3)) 157 8)) 157 15)) 157 22)) 157 23)) 181 209 (tz_g (tz_s (tz_s (tz_s (tz_s (tz_s A 181 204 (tz_g A 157 3)) 181 205 (tz_g (tz_s A 181 204 (tz_g A 157 3)) 157 8)) 181 206 (tz_g (tz_s (tz_s A 181 204 (tz_g A 157 3)) 181 205 (tz_g (tz_s A 181 204 (tz_g A 157 3)) 157 8)) 157 15)) 181 207 (tz_g (tz_s (tz_s (tz_s A 181 204 (tz_g A 157 3)) 181 205 (tz_g (tz_s A 181 204 (tz_g A 157 3)) 157 8)) 181 206 (tz_g (tz_s (tz_s A 181 204 (tz_g A 157 3)) 181 205 (tz_g (tz_s A 181 204 (tz_g A 157 3)) 157 8)) 157 15)) 157 22)) 181 208 (tz_g (tz_s (tz_s (tz_s (tz_s A 181 204 (tz_g A 157 3)) 181 205 (tz_g (tz_s A 181 204 (tz_g A 157 3)) 157 8)) 181 206 (tz_g (tz_s (tz_s A 181 204 (tz_g A 157 3)) 181 205 (tz_g (tz_s A 181 204 (tz_g A 157 3)) 157 8)) 157 15)) 181 207 (tz_g (tz_s (tz_s (tz_s A 181 204 (tz_g A 157 3)) 181 205 (tz_g (tz_s A 181 204 (tz_g A 157 3)) 157 8)) 181 206 (tz_g (tz_s (tz_s A 181 204 (tz_g A 157 3)) 181 205 (tz_g (tz_s A 181 204 (tz_g A 157 3)) 157 8)) 157 15)) 157 22)) 157 23)) 157 24)) 181 210 (tz_g (tz_s (tz_s (tz_s (tz_s (tz_s (tz_s A 181 204 (tz_g A 157 3)) 181 205 (tz_g (tz_s A 181 204 (tz_g A 157 3)) 157 8)) 181 206 (tz_g (tz_s (tz_s A 181 204 (tz_g A 157 3)) 181 205 (tz_g (tz_s A 181 204 (tz_g A 157 3)) 157 8)) 157 15)) 181 207 (tz_g (tz_s (tz_s (tz_s A 181 204 (tz_g A 157 3)) 181 205 (tz_g (tz_s A 181 204 (tz_g A 157 3)) 157 8)) 181 206 (tz_g (tz_s (tz_s A 181 204 (tz_g A 157 3)) 181 205 (tz_g (tz_s A 181 204 (tz_g A 157 3)) 157 8)) 157 15)) 157 22)) 181 208 (tz_g (tz_s (tz_s (tz_s (tz_s A 181 204 (tz_g A 157 3)) 181 205 (tz_g (tz_s A 181 204 (tz_g A 157 3)) 157 8)) 181 206 (tz_g (tz_s (tz_s A 181 204 (tz_g A 157 3)) 181 205 (tz_g (tz_s A 181 204 (tz_g A 157 3)) 157 8)) 157 15)) 181 207 (tz_g (tz_s (tz_s (tz_s A 181 204 (tz_g A 157 3)) 181 205 (tz_g (tz_s A 181 204 (tz_g A 157 3)) 157 8)) 181 206 (tz_g (tz_s (tz_s A 181 204 (tz_g A 157 3)) 181 205 (tz_g (tz_s A 181 204 (tz_g A 157 3)) 157 8)) 157 15)) 157 22)) 157 23)) 181 209 (tz_g (tz_s (tz_s (tz_s (tz_s (tz_s A 181 204 (tz_g A 157 3)) 181 205 (tz_g (tz_s A 181 204 (tz_g A 157 3)) 157 8)) 181 206 (tz_g (tz_s (tz_s A 181 204 (tz_g A 157 3)) 181 205 (tz_g (tz_s A 181 204 (tz_g A 157 3)) 157 8)) 157 15)) 181 207 (tz_g (tz_s (tz_s (tz_s A 181 204 (tz_g A 157 3)) 181 205 (tz_g (tz_s A 181 204 (tz_g A 157 3)) 157 8)) 181 206 (tz_g (tz_s (tz_s A 181 204 (tz_g A 157 3)) 181 205 (tz_g (tz_s A 181 204 (tz_g A 157 3)) 157 8)) 157 15)) 157 22)) 181 208 (tz_g (tz_s (tz_s (tz_s (tz_s A 181 204 (tz_g A 157 3)) 181 205 (tz_g (tz_s A 181 204 (tz_g A 157 3)) 157 8)) 181 206 (tz_g (tz_s (tz_s A 181 204 (tz_g A 157 3)) 181 205 (tz_g (tz_s A 181 204 (tz_g A 157 3)) 157 8)) 157 15)) 181 207 (tz_g (tz_s (tz_s (tz_s A 181 204 (tz_g A 157 3)) 181 205 (tz_g (tz_s A 181 204 (tz_g A 157 3)) 157 8)) 181 206 (tz_g (tz_s (tz_s A 181 204 (tz_g A 157 3)) 181 205 (tz_g (tz_s A 181 204 (tz_g A 157 3)) 157 8)) 157 15)) 157 22)) 157 23)) 157 24)) 157 25)))
else
  if z2 < 0 ∨ 12 ≤ (Int32.toNatClampNeg z2) then none else
  if (132 + z2) < 0 ∨ 215 ≤ (Int32.toNatClampNeg (132 + z2)) then none else
  if z2 < 0 ∨ 12 ≤ (Int32.toNatClampNeg z2) then none else
  if (144 + z2) < 0 ∨ 215 ≤ (Int32.toNatClampNeg (144 + z2)) then none else
  if z2 < 0 ∨ 12 ≤ (Int32.toNatClampNeg z2) then none else
  if (156 + z2) < 0 ∨ 215 ≤ (Int32.toNatClampNeg (156 + z2)) then none else
  if z2 < 0 ∨ 12 ≤ (Int32.toNatClampNeg z2) then none else
  if (168 + z2) < 0 ∨ 215 ≤ (Int32.toNatClampNeg (168 + z2)) then none else
  if z2 < 0 ∨ 12 ≤ (Int32.toNatClampNeg z2) then none else
  if (180 + z2) < 0 ∨ 215 ≤ (Int32.toNatClampNeg (180 + z2)) then none else
  if z2 < 0 ∨ 12 ≤ (Int32.toNatClampNeg z2) then none else
  if (192 + z2) < 0 ∨ 215 ≤ (Int32.toNatClampNeg (192 + z2)) then none else
  q_X12_keep_s181_174 (z2 + 1) (tz_s (tz_s (tz_s (tz_s (tz_s (tz_s A 181 (Int32.toNatClampNeg (132 + z2)) (tz_g A 171 (Int32.toNatClampNeg z2))) 181 (Int32.toNatClampNeg (144 + z2)) (tz_g (tz_s A 181 (Int32.toNatClampNeg (132 + z2)) (tz_g A 171 (Int32.toNatClampNeg z2))) 172 (Int32.toNatClampNeg z2))) 181 (Int32.toNatClampNeg (156 + z2)) (tz_g (tz_s (tz_s A 181 (Int32.toNatClampNeg (132 + z2)) (tz_g A 171 (Int32.toNatClampNeg z2))) 181 (Int32.toNatClampNeg (144 + z2)) (tz_g (tz_s A 181 (Int32.toNatClampNeg (132 + z2)) (tz_g A 171 (Int32.toNatClampNeg z2))) 172 (Int32.toNatClampNeg z2))) 173 (Int32.toNatClampNeg z2))) 181 (Int32.toNatClampNeg (168 + z2)) (tz_g (tz_s (tz_s (tz_s A 181 (Int32.toNatClampNeg (132 + z2)) (tz_g A 171 (Int32.toNatClampNeg z2))) 181 (Int32.toNatClampNeg (144 + z2)) (tz_g (tz_s A 181 (Int32.toNatClampNeg (132 + z2)) (tz_g A 171 (Int32.toNatClampNeg z2))) 172 (Int32.toNatClampNeg z2))) 181 (Int32.toNatClampNeg (156 + z2)) (tz_g (tz_s (tz_s A 181 (Int32.toNatClampNeg (132 + z2)) (tz_g A 171 (Int32.toNatClampNeg z2))) 181 (Int32.toNatClampNeg (144 + z2)) (tz_g (tz_s A 181 (Int32.toNatClampNeg (132 + z2)) (tz_g A 171 (Int32.toNatClampNeg z2))) 172 (Int32.toNatClampNeg z2))) 173 (Int32.toNatClampNeg z2))) 174 (Int32.toNatClampNeg z2))) 181 (Int32.toNatClampNeg (180 + z2)) (tz_g (tz_s (tz_s (tz_s (tz_s A 181 (Int32.toNatClampNeg (132 + z2)) (tz_g A 171 (Int32.toNatClampNeg z2))) 181 (Int32.toNatClampNeg (144 + z2)) (tz_g (tz_s A 181 (Int32.toNatClampNeg (132 + z2)) (tz_g A 171 (Int32.toNatClampNeg z2))) 172 (Int32.toNatClampNeg z2))) 181 (Int32.toNatClampNeg (156 + z2)) (tz_g (tz_s (tz_s A 181 (Int32.toNatClampNeg (132 + z2)) (tz_g A 171 (Int32.toNatClampNeg z2))) 181 (Int32.toNatClampNeg (144 + z2)) (tz_g (tz_s A 181 (Int32.toNatClampNeg (132 + z2)) (tz_g A 171 (Int32.toNatClampNeg z2))) 172 (Int32.toNatClampNeg z2))) 173 (Int32.toNatClampNeg z2))) 181 (Int32.toNatClampNeg (168 + z2)) (tz_g (tz_s (tz_s (tz_s A 181 (Int32.toNatClampNeg (132 + z2)) (tz_g A 171 (Int32.toNatClampNeg z2))) 181 (Int32.toNatClampNeg (144 + z2)) (tz_g (tz_s A 181 (Int32.toNatClampNeg (132 + z2)) (tz_g A 171 (Int32.toNatClampNeg z2))) 172 (Int32.toNatClampNeg z2))) 181 (Int32.toNatClampNeg (156 + z2)) (tz_g (tz_s (tz_s A 181 (Int32.toNatClampNeg (132 + z2)) (tz_g A 171 (Int32.toNatClampNeg z2))) 181 (Int32.toNatClampNeg (144 + z2)) (tz_g (tz_s A 181 (Int32.toNatClampNeg (132 + z2)) (tz_g A 171 (Int32.toNatClampNeg z2))) 172 (Int32.toNatClampNeg z2))) 173 (Int32.toNatClampNeg z2))) 174 (Int32.toNatClampNeg z2))) 175 (Int32.toNatClampNeg z2))) 181 (Int32.toNatClampNeg (192 + z2)) (tz_g (tz_s (tz_s (tz_s (tz_s (tz_s A 181 (Int32.toNatClampNeg (132 + z2)) (tz_g A 171 (Int32.toNatClampNeg z2))) 181 (Int32.toNatClampNeg (144 + z2)) (tz_g (tz_s A 181 (Int32.toNatClampNeg (132 + z2)) (tz_g A 171 (Int32.toNatClampNeg z2))) 172 (Int32.toNatClampNeg z2))) 181 (Int32.toNatClampNeg (156 + z2)) (tz_g (tz_s (tz_s A 181 (Int32.toNatClampNeg (132 + z2)) (tz_g A 171 (Int32.toNatClampNeg z2))) 181 (Int32.toNatClampNeg (144 + z2)) (tz_g (tz_s A 181 (Int32.toNatClampNeg (132 + z2)) (tz_g A 171 (Int32.toNatClampNeg z2))) 172 (Int32.toNatClampNeg z2))) 173 (Int32.toNatClampNeg z2))) 181 (Int32.toNatClampNeg (168 + z2)) (tz_g (tz_s (tz_s (tz_s A 181 (Int32.toNatClampNeg (132 + z2)) (tz_g A 171 (Int32.toNatClampNeg z2))) 181 (Int32.toNatClampNeg (144 + z2)) (tz_g (tz_s A 181 (Int32.toNatClampNeg (132 + z2)) (tz_g A 171 (Int32.toNatClampNeg z2))) 172 (Int32.toNatClampNeg z2))) 181 (Int32.toNatClampNeg (156 + z2)) (tz_g (tz_s (tz_s A 181 (Int32.toNatClampNeg (132 + z2)) (tz_g A 171 (Int32.toNatClampNeg z2))) 181 (Int32.toNatClampNeg (144 + z2)) (tz_g (tz_s A 181 (Int32.toNatClampNeg (132 + z2)) (tz_g A 171 (Int32.toNatClampNeg z2))) 172 (Int32.toNatClampNeg z2))) 173 (Int32.toNatClampNeg z2))) 174 (Int32.toNatClampNeg z2))) 181 (Int32.toNatClampNeg (180 + z2)) (tz_g (tz_s (tz_s (tz_s (tz_s A 181 (Int32.toNatClampNeg (132 + z2)) (tz_g A 171 (Int32.toNatClampNeg z2))) 181 (Int32.toNatClampNeg (144 + z2)) (tz_g (tz_s A 181 (Int32.toNatClampNeg (132 + z2)) (tz_g A 171 (Int32.toNatClampNeg z2))) 172 (Int32.toNatClampNeg z2))) 181 (Int32.toNatClampNeg (156 + z2)) (tz_g (tz_s (tz_s A 181 (Int32.toNatClampNeg (132 + z2)) (tz_g A 171 (Int32.toNatClampNeg z2))) 181 (Int32.toNatClampNeg (144 + z2)) (tz_g (tz_s A 181 (Int32.toNatClampNeg (132 + z2)) (tz_g A 171 (Int32.toNatClampNeg z2))) 172 (Int32.toNatClampNeg z2))) 173 (Int32.toNatClampNeg z2))) 181 (Int32.toNatClampNeg (168 + z2)) (tz_g (tz_s (tz_s (tz_s A 181 (Int32.toNatClampNeg (132 + z2)) (tz_g A 171 (Int32.toNatClampNeg z2))) 181 (Int32.toNatClampNeg (144 + z2)) (tz_g (tz_s A 181 (Int32.toNatClampNeg (132 + z2)) (tz_g A 171 (Int32.toNatClampNeg z2))) 172 (Int32.toNatClampNeg z2))) 181 (Int32.toNatClampNeg (156 + z2)) (tz_g (tz_s (tz_s A 181 (Int32.toNatClampNeg (132 + z2)) (tz_g A 171 (Int32.toNatClampNeg z2))) 181 (Int32.toNatClampNeg (144 + z2)) (tz_g (tz_s A 181 (Int32.toNatClampNeg (132 + z2)) (tz_g A 171 (Int32.toNatClampNeg z2))) 172 (Int32.toNatClampNeg z2))) 173 (Int32.toNatClampNeg z2))) 174 (Int32.toNatClampNeg z2))) 175 (Int32.toNatClampNeg z2))) 176 (Int32.toNatClampNeg z2))) := by
  show tz_Go 196 174 [some (.ref 157), some (.ref 181), some (.int z2)] [] A = _
  refine (tz_g_iload_n rfl (tz_inM rfl rfl rfl)).trans ?_
  refine (tz_g_bipush (v := 12) rfl (tz_in0 rfl)).trans ?_
  refine (tz_g_ic_ge (t := 264) (by decide) (tz_in0 rfl)).trans ?_
  refine tz_cg ?_ ?_
  · skip
    refine (tz_g_aload_n rfl (tz_in0 rfl)).trans ?_
    refine (tz_g_sipush (v := 204) rfl (tz_in0 rfl)).trans ?_
    refine (tz_g_aload_n rfl (tz_in0 rfl)).trans ?_
    refine (tz_g_geti rfl rfl rfl (tz_in0 rfl)).trans ?_
    refine (tz_g_iast (n := 215) rfl rfl rfl (tz_in0 rfl)).trans ?_
    refine tz_cn1 ?_
    refine (tz_g_aload_n rfl (tz_in0 rfl)).trans ?_
    refine (tz_g_sipush (v := 205) rfl (tz_in0 rfl)).trans ?_
    refine (tz_g_aload_n rfl (tz_in0 rfl)).trans ?_
    refine (tz_g_geti rfl rfl rfl (tz_in0 rfl)).trans ?_
    refine (tz_g_iast (n := 215) rfl rfl rfl (tz_in0 rfl)).trans ?_
    refine tz_cn1 ?_
    refine (tz_g_aload_n rfl (tz_in0 rfl)).trans ?_
    refine (tz_g_sipush (v := 206) rfl (tz_in0 rfl)).trans ?_
    refine (tz_g_aload_n rfl (tz_in0 rfl)).trans ?_
    refine (tz_g_geti rfl rfl rfl (tz_in0 rfl)).trans ?_
    refine (tz_g_iast (n := 215) rfl rfl rfl (tz_in0 rfl)).trans ?_
    refine tz_cn1 ?_
    refine (tz_g_aload_n rfl (tz_in0 rfl)).trans ?_
    refine (tz_g_sipush (v := 207) rfl (tz_in0 rfl)).trans ?_
    refine (tz_g_aload_n rfl (tz_in0 rfl)).trans ?_
    refine (tz_g_geti rfl rfl rfl (tz_in0 rfl)).trans ?_
    refine (tz_g_iast (n := 215) rfl rfl rfl (tz_in0 rfl)).trans ?_
    refine tz_cn1 ?_
    refine (tz_g_aload_n rfl (tz_in0 rfl)).trans ?_
    refine (tz_g_sipush (v := 208) rfl (tz_in0 rfl)).trans ?_
    refine (tz_g_aload_n rfl (tz_in0 rfl)).trans ?_
    refine (tz_g_geti rfl rfl rfl (tz_in0 rfl)).trans ?_
    refine (tz_g_iast (n := 215) rfl rfl rfl (tz_in0 rfl)).trans ?_
    refine tz_cn1 ?_
    refine (tz_g_aload_n rfl (tz_in0 rfl)).trans ?_
    refine (tz_g_sipush (v := 209) rfl (tz_in0 rfl)).trans ?_
    refine (tz_g_aload_n rfl (tz_in0 rfl)).trans ?_
    refine (tz_g_geti rfl rfl rfl (tz_in0 rfl)).trans ?_
    refine (tz_g_iast (n := 215) rfl rfl rfl (tz_in0 rfl)).trans ?_
    refine tz_cn1 ?_
    refine (tz_g_aload_n rfl (tz_in0 rfl)).trans ?_
    refine (tz_g_sipush (v := 210) rfl (tz_in0 rfl)).trans ?_
    refine (tz_g_aload_n rfl (tz_in0 rfl)).trans ?_
    refine (tz_g_geti rfl rfl rfl (tz_in0 rfl)).trans ?_
    refine (tz_g_iast (n := 215) rfl rfl rfl (tz_in0 rfl)).trans ?_
    refine tz_cn1 ?_
    exact tz_g_ret0 (tz_in0 rfl) rfl
  · skip
    refine (tz_g_aload_n rfl (tz_in0 rfl)).trans ?_
    refine (tz_g_sipush (v := 132) rfl (tz_in0 rfl)).trans ?_
    refine (tz_g_iload_n rfl (tz_in0 rfl)).trans ?_
    refine (tz_g_iadd (tz_in0 rfl)).trans ?_
    refine (tz_g_aload_n rfl (tz_in0 rfl)).trans ?_
    refine (tz_g_getr (j := 171) rfl rfl rfl rfl rfl (tz_in0 rfl)).trans ?_
    refine (tz_g_iload_n rfl (tz_in0 rfl)).trans ?_
    refine (tz_g_iald (n := 12) rfl rfl rfl (tz_in0 rfl)).trans ?_
    refine tz_cn1 ?_
    refine (tz_g_iast (n := 215) rfl rfl rfl (tz_in0 rfl)).trans ?_
    refine tz_cn1 ?_
    refine (tz_g_aload_n rfl (tz_in0 rfl)).trans ?_
    refine (tz_g_sipush (v := 144) rfl (tz_in0 rfl)).trans ?_
    refine (tz_g_iload_n rfl (tz_in0 rfl)).trans ?_
    refine (tz_g_iadd (tz_in0 rfl)).trans ?_
    refine (tz_g_aload_n rfl (tz_in0 rfl)).trans ?_
    refine (tz_g_getr (j := 172) rfl rfl rfl rfl rfl (tz_in0 rfl)).trans ?_
    refine (tz_g_iload_n rfl (tz_in0 rfl)).trans ?_
    refine (tz_g_iald (n := 12) rfl rfl rfl (tz_in0 rfl)).trans ?_
    refine tz_cn1 ?_
    refine (tz_g_iast (n := 215) rfl rfl rfl (tz_in0 rfl)).trans ?_
    refine tz_cn1 ?_
    refine (tz_g_aload_n rfl (tz_in0 rfl)).trans ?_
    refine (tz_g_sipush (v := 156) rfl (tz_in0 rfl)).trans ?_
    refine (tz_g_iload_n rfl (tz_in0 rfl)).trans ?_
    refine (tz_g_iadd (tz_in0 rfl)).trans ?_
    refine (tz_g_aload_n rfl (tz_in0 rfl)).trans ?_
    refine (tz_g_getr (j := 173) rfl rfl rfl rfl rfl (tz_in0 rfl)).trans ?_
    refine (tz_g_iload_n rfl (tz_in0 rfl)).trans ?_
    refine (tz_g_iald (n := 12) rfl rfl rfl (tz_in0 rfl)).trans ?_
    refine tz_cn1 ?_
    refine (tz_g_iast (n := 215) rfl rfl rfl (tz_in0 rfl)).trans ?_
    refine tz_cn1 ?_
    refine (tz_g_aload_n rfl (tz_in0 rfl)).trans ?_
    refine (tz_g_sipush (v := 168) rfl (tz_in0 rfl)).trans ?_
    refine (tz_g_iload_n rfl (tz_in0 rfl)).trans ?_
    refine (tz_g_iadd (tz_in0 rfl)).trans ?_
    refine (tz_g_aload_n rfl (tz_in0 rfl)).trans ?_
    refine (tz_g_getr (j := 174) rfl rfl rfl rfl rfl (tz_in0 rfl)).trans ?_
    refine (tz_g_iload_n rfl (tz_in0 rfl)).trans ?_
    refine (tz_g_iald (n := 12) rfl rfl rfl (tz_in0 rfl)).trans ?_
    refine tz_cn1 ?_
    refine (tz_g_iast (n := 215) rfl rfl rfl (tz_in0 rfl)).trans ?_
    refine tz_cn1 ?_
    refine (tz_g_aload_n rfl (tz_in0 rfl)).trans ?_
    refine (tz_g_sipush (v := 180) rfl (tz_in0 rfl)).trans ?_
    refine (tz_g_iload_n rfl (tz_in0 rfl)).trans ?_
    refine (tz_g_iadd (tz_in0 rfl)).trans ?_
    refine (tz_g_aload_n rfl (tz_in0 rfl)).trans ?_
    refine (tz_g_getr (j := 175) rfl rfl rfl rfl rfl (tz_in0 rfl)).trans ?_
    refine (tz_g_iload_n rfl (tz_in0 rfl)).trans ?_
    refine (tz_g_iald (n := 12) rfl rfl rfl (tz_in0 rfl)).trans ?_
    refine tz_cn1 ?_
    refine (tz_g_iast (n := 215) rfl rfl rfl (tz_in0 rfl)).trans ?_
    refine tz_cn1 ?_
    refine (tz_g_aload_n rfl (tz_in0 rfl)).trans ?_
    refine (tz_g_sipush (v := 192) rfl (tz_in0 rfl)).trans ?_
    refine (tz_g_iload_n rfl (tz_in0 rfl)).trans ?_
    refine (tz_g_iadd (tz_in0 rfl)).trans ?_
    refine (tz_g_aload_n rfl (tz_in0 rfl)).trans ?_
    refine (tz_g_getr (j := 176) rfl rfl rfl rfl rfl (tz_in0 rfl)).trans ?_
    refine (tz_g_iload_n rfl (tz_in0 rfl)).trans ?_
    refine (tz_g_iald (n := 12) rfl rfl rfl (tz_in0 rfl)).trans ?_
    refine tz_cn1 ?_
    refine (tz_g_iast (n := 215) rfl rfl rfl (tz_in0 rfl)).trans ?_
    refine tz_cn1 ?_
    refine (tz_g_iinc (v := 1) (L2 := [some (.ref 157), some (.ref 181), some (.int (z2 + 1))]) rfl rfl rfl rfl (tz_in0 rfl)).trans ?_
    refine (tz_g_goto (t := 174) (by decide) (tz_in0 rfl)).trans ?_
    exact tz_Gm (L2 := [some (.ref 157), some (.ref 181), some (.int (z2 + 1))]) rfl rfl rfl rfl

theorem e_X12_sign (A : tz_Mem) : f_X12_sign A =
  if (tz_g A 157 39) < 0 ∨ 8 ≤ (Int32.toNatClampNeg (tz_g A 157 39)) then none else
if (tz_g A 159 (Int32.toNatClampNeg (tz_g A 157 39))) ≤ (tz_g A 157 40) then
  some (some (.int (-1)), A)
else
  if ((160 * (tz_g A 157 39)) + (tz_g A 157 40)) < 0 ∨ 1280 ≤ (Int32.toNatClampNeg ((160 * (tz_g A 157 39)) + (tz_g A 157 40))) then none else
  some (some (.int (Int64.toInt32 (tz_gl A 160 (Int32.toNatClampNeg ((160 * (tz_g A 157 39)) + (tz_g A 157 40)))))), A) := by
  refine (tz_Fe (L := [some (.ref 157)]) rfl).trans ?_
  refine (tz_g_aload_n rfl (tz_in0 rfl)).trans ?_
  refine (tz_g_geti rfl rfl rfl (tz_in0 rfl)).trans ?_
  refine (tz_g_aload_n rfl (tz_in0 rfl)).trans ?_
  refine (tz_g_getr (j := 159) rfl rfl rfl rfl rfl (tz_in0 rfl)).trans ?_
  refine (tz_g_aload_n rfl (tz_in0 rfl)).trans ?_
  refine (tz_g_geti rfl rfl rfl (tz_in0 rfl)).trans ?_
  refine (tz_g_iald (n := 8) rfl rfl rfl (tz_in0 rfl)).trans ?_
  refine tz_cn1 ?_
  refine (tz_g_ic_ge (t := 38) (by decide) (tz_in0 rfl)).trans ?_
  refine tz_cg ?_ ?_
  · skip
    refine (tz_g_iconst (v := (-1)) rfl (tz_in0 rfl)).trans ?_
    exact tz_g_ret1 (tz_in0 rfl) rfl
  · skip
    refine (tz_g_aload_n rfl (tz_in0 rfl)).trans ?_
    refine (tz_g_getr (j := 160) rfl rfl rfl rfl rfl (tz_in0 rfl)).trans ?_
    refine (tz_g_sipush (v := 160) rfl (tz_in0 rfl)).trans ?_
    refine (tz_g_aload_n rfl (tz_in0 rfl)).trans ?_
    refine (tz_g_geti rfl rfl rfl (tz_in0 rfl)).trans ?_
    refine (tz_g_imul (tz_in0 rfl)).trans ?_
    refine (tz_g_aload_n rfl (tz_in0 rfl)).trans ?_
    refine (tz_g_geti rfl rfl rfl (tz_in0 rfl)).trans ?_
    refine (tz_g_iadd (tz_in0 rfl)).trans ?_
    refine (tz_g_lald (n := 1280) rfl rfl (tz_in0 rfl)).trans ?_
    refine tz_cn1 ?_
    refine (tz_g_l2i (tz_in0 rfl)).trans ?_
    refine (tz_g_goto (t := 39) (by decide) (tz_in0 rfl)).trans ?_
    exact tz_g_ret1 (tz_in0 rfl) rfl

theorem e_X12_has (x1 : Int32) (x2 : Int32) (A : tz_Mem) : f_X12_has x1 x2 A =
  if ¬ ((x1 >>> (x2 &&& 31)) &&& 1) = 1 then
  some (some (.int 0), A)
else
  some (some (.int 1), A) := by
  refine (tz_Fe (L := [some (.int x1), some (.int x2)]) rfl).trans ?_
  refine (tz_g_iload_n rfl (tz_in0 rfl)).trans ?_
  refine (tz_g_iload_n rfl (tz_in0 rfl)).trans ?_
  refine (tz_g_ishr (tz_in0 rfl)).trans ?_
  refine (tz_g_iconst (v := 1) rfl (tz_in0 rfl)).trans ?_
  refine (tz_g_iand (tz_in0 rfl)).trans ?_
  refine (tz_g_iconst (v := 1) rfl (tz_in0 rfl)).trans ?_
  refine (tz_g_ic_ne (t := 13) (by decide) (tz_in0 rfl)).trans ?_
  refine tz_cg ?_ ?_
  · skip
    refine (tz_g_iconst (v := 0) rfl (tz_in0 rfl)).trans ?_
    exact tz_g_ret4K (by decide) (tz_in0 rfl) rfl
  · skip
    refine (tz_g_iconst (v := 1) rfl (tz_in0 rfl)).trans ?_
    refine (tz_g_goto (t := 14) (by decide) (tz_in0 rfl)).trans ?_
    exact tz_g_ret4K (by decide) (tz_in0 rfl) rfl

theorem e_X12_heaviest (x1 : Int32) (x2 : Int32) (A : tz_Mem) : f_X12_heaviest x1 x2 A =
  q_X12_heaviest_5 x1 x2 (-1) 0 A := by
  refine (tz_Fe (L := [some (.ref 157), some (.int x1), some (.int x2), none, none]) rfl).trans ?_
  refine (tz_g_iconst (v := (-1)) rfl (tz_in0 rfl)).trans ?_
  refine (tz_g_istore_n (L2 := [some (.ref 157), some (.int x1), some (.int x2), some (.int (-1)), none]) rfl rfl (tz_in0 rfl)).trans ?_
  refine (tz_g_iconst (v := 0) rfl (tz_in0 rfl)).trans ?_
  refine (tz_g_istore (L2 := [some (.ref 157), some (.int x1), some (.int x2), some (.int (-1)), some (.int 0)]) rfl rfl (tz_in0 rfl)).trans ?_
  exact tz_Gm (L2 := [some (.ref 157), some (.int x1), some (.int x2), some (.int (-1)), some (.int 0)]) rfl rfl rfl rfl

theorem e_X12_heaviest_5 (z1 : Int32) (z2 : Int32) (z3 : Int32) (z4 : Int32) (A : tz_Mem) : q_X12_heaviest_5 z1 z2 z3 z4 A =
  if (tz_g A 157 15) ≤ z4 then
  some (some (.int z3), A)
else
  if z4 < 0 ∨ 12 ≤ (Int32.toNatClampNeg z4) then none else
  if ¬ (tz_g A 175 (Int32.toNatClampNeg z4)) = z1 then
    q_X12_heaviest_5 z1 z2 z3 (z4 + 1) A
  else
    if z4 < 0 ∨ 12 ≤ (Int32.toNatClampNeg z4) then none else
    if z2 < (tz_g A 174 (Int32.toNatClampNeg z4)) then
      q_X12_heaviest_5 z1 z2 z3 (z4 + 1) A
    else
      if z3 = (-1) then
        q_X12_heaviest_5 z1 z2 z4 (z4 + 1) A
      else
        if z4 < 0 ∨ 12 ≤ (Int32.toNatClampNeg z4) then none else
        if z3 < 0 ∨ 12 ≤ (Int32.toNatClampNeg z3) then none else
        if (tz_g A 174 (Int32.toNatClampNeg z4)) ≤ (tz_g A 174 (Int32.toNatClampNeg z3)) then
          q_X12_heaviest_5 z1 z2 z3 (z4 + 1) A
        else
          q_X12_heaviest_5 z1 z2 z4 (z4 + 1) A := by
  show tz_Go 205 5 [some (.ref 157), some (.int z1), some (.int z2), some (.int z3), some (.int z4)] [] A = _
  refine (tz_g_iload rfl (tz_inM rfl rfl rfl)).trans ?_
  refine (tz_g_aload_n rfl (tz_in0 rfl)).trans ?_
  refine (tz_g_geti rfl rfl rfl (tz_in0 rfl)).trans ?_
  refine (tz_g_ic_ge (t := 66) (by decide) (tz_in0 rfl)).trans ?_
  refine tz_cg ?_ ?_
  · skip
    refine (tz_g_iload_n rfl (tz_in0 rfl)).trans ?_
    exact tz_g_ret1 (tz_in0 rfl) rfl
  · skip
    refine (tz_g_aload_n rfl (tz_in0 rfl)).trans ?_
    refine (tz_g_getr (j := 175) rfl rfl rfl rfl rfl (tz_in0 rfl)).trans ?_
    refine (tz_g_iload rfl (tz_in0 rfl)).trans ?_
    refine (tz_g_iald (n := 12) rfl rfl rfl (tz_in0 rfl)).trans ?_
    refine tz_cn1 ?_
    refine (tz_g_iload_n rfl (tz_in0 rfl)).trans ?_
    refine (tz_g_ic_ne (t := 60) (by decide) (tz_in0 rfl)).trans ?_
    refine tz_cg ?_ ?_
    · skip
      refine (tz_g_iinc (v := 1) (L2 := [some (.ref 157), some (.int z1), some (.int z2), some (.int z3), some (.int (z4 + 1))]) rfl rfl rfl rfl (tz_in0 rfl)).trans ?_
      refine (tz_g_goto (t := 5) (by decide) (tz_in0 rfl)).trans ?_
      exact tz_Gm (L2 := [some (.ref 157), some (.int z1), some (.int z2), some (.int z3), some (.int (z4 + 1))]) rfl rfl rfl rfl
    · skip
      refine (tz_g_aload_n rfl (tz_in0 rfl)).trans ?_
      refine (tz_g_getr (j := 174) rfl rfl rfl rfl rfl (tz_in0 rfl)).trans ?_
      refine (tz_g_iload rfl (tz_in0 rfl)).trans ?_
      refine (tz_g_iald (n := 12) rfl rfl rfl (tz_in0 rfl)).trans ?_
      refine tz_cn1 ?_
      refine (tz_g_iload_n rfl (tz_in0 rfl)).trans ?_
      refine (tz_g_ic_gt (t := 60) (by decide) (tz_in0 rfl)).trans ?_
      refine tz_cg ?_ ?_
      · skip
        refine (tz_g_iinc (v := 1) (L2 := [some (.ref 157), some (.int z1), some (.int z2), some (.int z3), some (.int (z4 + 1))]) rfl rfl rfl rfl (tz_in0 rfl)).trans ?_
        refine (tz_g_goto (t := 5) (by decide) (tz_in0 rfl)).trans ?_
        exact tz_Gm (L2 := [some (.ref 157), some (.int z1), some (.int z2), some (.int z3), some (.int (z4 + 1))]) rfl rfl rfl rfl
      · skip
        refine (tz_g_iload_n rfl (tz_in0 rfl)).trans ?_
        refine (tz_g_iconst (v := (-1)) rfl (tz_in0 rfl)).trans ?_
        refine (tz_g_ic_eq (t := 57) (by decide) (tz_in0 rfl)).trans ?_
        refine tz_cg ?_ ?_
        · skip
          refine (tz_g_iload rfl (tz_in0 rfl)).trans ?_
          refine (tz_g_istore_n (L2 := [some (.ref 157), some (.int z1), some (.int z2), some (.int z4), some (.int z4)]) rfl rfl (tz_in0 rfl)).trans ?_
          refine (tz_g_iinc (v := 1) (L2 := [some (.ref 157), some (.int z1), some (.int z2), some (.int z4), some (.int (z4 + 1))]) rfl rfl rfl rfl (tz_in0 rfl)).trans ?_
          refine (tz_g_goto (t := 5) (by decide) (tz_in0 rfl)).trans ?_
          exact tz_Gm (L2 := [some (.ref 157), some (.int z1), some (.int z2), some (.int z4), some (.int (z4 + 1))]) rfl rfl rfl rfl
        · skip
          refine (tz_g_aload_n rfl (tz_in0 rfl)).trans ?_
          refine (tz_g_getr (j := 174) rfl rfl rfl rfl rfl (tz_in0 rfl)).trans ?_
          refine (tz_g_iload rfl (tz_in0 rfl)).trans ?_
          refine (tz_g_iald (n := 12) rfl rfl rfl (tz_in0 rfl)).trans ?_
          refine tz_cn1 ?_
          refine (tz_g_aload_n rfl (tz_in0 rfl)).trans ?_
          refine (tz_g_getr (j := 174) rfl rfl rfl rfl rfl (tz_in0 rfl)).trans ?_
          refine (tz_g_iload_n rfl (tz_in0 rfl)).trans ?_
          refine (tz_g_iald (n := 12) rfl rfl rfl (tz_in0 rfl)).trans ?_
          refine tz_cn1 ?_
          refine (tz_g_ic_le (t := 60) (by decide) (tz_in0 rfl)).trans ?_
          refine tz_cg ?_ ?_
          · skip
            refine (tz_g_iinc (v := 1) (L2 := [some (.ref 157), some (.int z1), some (.int z2), some (.int z3), some (.int (z4 + 1))]) rfl rfl rfl rfl (tz_in0 rfl)).trans ?_
            refine (tz_g_goto (t := 5) (by decide) (tz_in0 rfl)).trans ?_
            exact tz_Gm (L2 := [some (.ref 157), some (.int z1), some (.int z2), some (.int z3), some (.int (z4 + 1))]) rfl rfl rfl rfl
          · skip
            refine (tz_g_iload rfl (tz_in0 rfl)).trans ?_
            refine (tz_g_istore_n (L2 := [some (.ref 157), some (.int z1), some (.int z2), some (.int z4), some (.int z4)]) rfl rfl (tz_in0 rfl)).trans ?_
            refine (tz_g_iinc (v := 1) (L2 := [some (.ref 157), some (.int z1), some (.int z2), some (.int z4), some (.int (z4 + 1))]) rfl rfl rfl rfl (tz_in0 rfl)).trans ?_
            refine (tz_g_goto (t := 5) (by decide) (tz_in0 rfl)).trans ?_
            exact tz_Gm (L2 := [some (.ref 157), some (.int z1), some (.int z2), some (.int z4), some (.int (z4 + 1))]) rfl rfl rfl rfl

theorem e_X12_hears (x1 : Int32) (x2 : Int32) (x3 : Int32) (A : tz_Mem) : f_X12_hears x1 x2 x3 A =
  q_X12_hears_3 x1 x2 x3 0 A := by
  refine (tz_Fe (L := [some (.ref 157), some (.int x1), some (.int x2), some (.int x3), none, none]) rfl).trans ?_
  refine (tz_g_iconst (v := 0) rfl (tz_in0 rfl)).trans ?_
  refine (tz_g_istore (L2 := [some (.ref 157), some (.int x1), some (.int x2), some (.int x3), some (.int 0), none]) rfl rfl (tz_in0 rfl)).trans ?_
  exact tz_Gm (L2 := [some (.ref 157), some (.int x1), some (.int x2), some (.int x3), some (.int 0), none]) rfl rfl rfl rfl

theorem e_X12_hears_3 (z1 : Int32) (z2 : Int32) (z3 : Int32) (z4 : Int32) (A : tz_Mem) : q_X12_hears_3 z1 z2 z3 z4 A =
  if z3 ≤ z4 then
  if z3 ≤ 0 then
    some (none, A)
  else
    if ¬ z2 = (tz_g A 157 36) then
      some (none, A)
    else
      if (tz_g A 157 37) = (-1) then
        some (none, (tz_s A 157 37 z1))
      else
        if (tz_g A 157 37) ≤ z1 then
          some (none, A)
        else
          some (none, (tz_s A 157 37 z1))
else
  if z1 < 0 ∨ 8 ≤ (Int32.toNatClampNeg z1) then none else
  if ¬ (tz_g A 163 (Int32.toNatClampNeg z1)) = 8 then
    if z1 < 0 ∨ 8 ≤ (Int32.toNatClampNeg z1) then none else
    if z1 < 0 ∨ 8 ≤ (Int32.toNatClampNeg z1) then none else
    if ((8 * z1) + (tz_g A 163 (Int32.toNatClampNeg z1))) < 0 ∨ 64 ≤ (Int32.toNatClampNeg ((8 * z1) + (tz_g A 163 (Int32.toNatClampNeg z1)))) then none else
    if z1 < 0 ∨ 8 ≤ (Int32.toNatClampNeg z1) then none else
    if z1 < 0 ∨ 8 ≤ (Int32.toNatClampNeg z1) then none else
    q_X12_hears_3 z1 z2 z3 (z4 + 1) (tz_s (tz_s (tz_s (tz_s A 163 (Int32.toNatClampNeg z1) ((tz_g A 163 (Int32.toNatClampNeg z1)) + 1)) 164 (Int32.toNatClampNeg ((8 * z1) + (tz_g A 163 (Int32.toNatClampNeg z1)))) z2) 157 25 ((tz_g (tz_s (tz_s A 163 (Int32.toNatClampNeg z1) ((tz_g A 163 (Int32.toNatClampNeg z1)) + 1)) 164 (Int32.toNatClampNeg ((8 * z1) + (tz_g A 163 (Int32.toNatClampNeg z1)))) z2) 157 25) + 1)) 182 (Int32.toNatClampNeg z1) ((tz_g (tz_s (tz_s (tz_s A 163 (Int32.toNatClampNeg z1) ((tz_g A 163 (Int32.toNatClampNeg z1)) + 1)) 164 (Int32.toNatClampNeg ((8 * z1) + (tz_g A 163 (Int32.toNatClampNeg z1)))) z2) 157 25 ((tz_g (tz_s (tz_s A 163 (Int32.toNatClampNeg z1) ((tz_g A 163 (Int32.toNatClampNeg z1)) + 1)) 164 (Int32.toNatClampNeg ((8 * z1) + (tz_g A 163 (Int32.toNatClampNeg z1)))) z2) 157 25) + 1)) 182 (Int32.toNatClampNeg z1)) + 1))
  else
    q_X12_hears_23 z1 z2 z3 z4 0 A := by
  show tz_Go 206 3 [some (.ref 157), some (.int z1), some (.int z2), some (.int z3), some (.int z4), none] [] A = _
  refine (tz_g_iload rfl (tz_inM rfl rfl rfl)).trans ?_
  refine (tz_g_iload_n rfl (tz_in0 rfl)).trans ?_
  refine (tz_g_ic_ge (t := 118) (by decide) (tz_in0 rfl)).trans ?_
  refine tz_cg ?_ ?_
  · skip
    refine (tz_g_iload_n rfl (tz_in0 rfl)).trans ?_
    refine (tz_g_if_le (t := 151) (by decide) (tz_in0 rfl)).trans ?_
    refine tz_cg ?_ ?_
    · skip
      exact tz_g_ret0 (tz_in0 rfl) rfl
    · skip
      refine (tz_g_iload_n rfl (tz_in0 rfl)).trans ?_
      refine (tz_g_aload_n rfl (tz_in0 rfl)).trans ?_
      refine (tz_g_geti rfl rfl rfl (tz_in0 rfl)).trans ?_
      refine (tz_g_ic_ne (t := 151) (by decide) (tz_in0 rfl)).trans ?_
      refine tz_cg ?_ ?_
      · skip
        exact tz_g_ret0 (tz_in0 rfl) rfl
      · skip
        refine (tz_g_aload_n rfl (tz_in0 rfl)).trans ?_
        refine (tz_g_geti rfl rfl rfl (tz_in0 rfl)).trans ?_
        refine (tz_g_iconst (v := (-1)) rfl (tz_in0 rfl)).trans ?_
        refine (tz_g_ic_eq (t := 146) (by decide) (tz_in0 rfl)).trans ?_
        refine tz_cg ?_ ?_
        · skip
          refine (tz_g_aload_n rfl (tz_in0 rfl)).trans ?_
          refine (tz_g_iload_n rfl (tz_in0 rfl)).trans ?_
          refine (tz_g_puti rfl rfl rfl (tz_in0 rfl)).trans ?_
          exact tz_g_ret0 (tz_in0 rfl) rfl
        · skip
          refine (tz_g_iload_n rfl (tz_in0 rfl)).trans ?_
          refine (tz_g_aload_n rfl (tz_in0 rfl)).trans ?_
          refine (tz_g_geti rfl rfl rfl (tz_in0 rfl)).trans ?_
          refine (tz_g_ic_ge (t := 151) (by decide) (tz_in0 rfl)).trans ?_
          refine tz_cg ?_ ?_
          · skip
            exact tz_g_ret0 (tz_in0 rfl) rfl
          · skip
            refine (tz_g_aload_n rfl (tz_in0 rfl)).trans ?_
            refine (tz_g_iload_n rfl (tz_in0 rfl)).trans ?_
            refine (tz_g_puti rfl rfl rfl (tz_in0 rfl)).trans ?_
            exact tz_g_ret0 (tz_in0 rfl) rfl
  · skip
    refine (tz_g_aload_n rfl (tz_in0 rfl)).trans ?_
    refine (tz_g_getr (j := 163) rfl rfl rfl rfl rfl (tz_in0 rfl)).trans ?_
    refine (tz_g_iload_n rfl (tz_in0 rfl)).trans ?_
    refine (tz_g_iald (n := 8) rfl rfl rfl (tz_in0 rfl)).trans ?_
    refine tz_cn1 ?_
    refine (tz_g_bipush (v := 8) rfl (tz_in0 rfl)).trans ?_
    refine (tz_g_ic_ne (t := 70) (by decide) (tz_in0 rfl)).trans ?_
    refine tz_cg ?_ ?_
    · skip
      refine (tz_g_aload_n rfl (tz_in0 rfl)).trans ?_
      refine (tz_g_getr (j := 164) rfl rfl rfl rfl rfl (tz_in0 rfl)).trans ?_
      refine (tz_g_bipush (v := 8) rfl (tz_in0 rfl)).trans ?_
      refine (tz_g_iload_n rfl (tz_in0 rfl)).trans ?_
      refine (tz_g_imul (tz_in0 rfl)).trans ?_
      refine (tz_g_aload_n rfl (tz_in0 rfl)).trans ?_
      refine (tz_g_getr (j := 163) rfl rfl rfl rfl rfl (tz_in0 rfl)).trans ?_
      refine (tz_g_iload_n rfl (tz_in0 rfl)).trans ?_
      refine (tz_g_dup2a rfl rfl (tz_in0 rfl)).trans ?_
      refine (tz_g_iald (n := 8) rfl rfl rfl (tz_in0 rfl)).trans ?_
      refine tz_cn1 ?_
      refine (tz_g_dup_x2 rfl (tz_in0 rfl)).trans ?_
      refine (tz_g_iconst (v := 1) rfl (tz_in0 rfl)).trans ?_
      refine (tz_g_iadd (tz_in0 rfl)).trans ?_
      refine (tz_g_iast (n := 8) rfl rfl rfl (tz_in0 rfl)).trans ?_
      refine tz_cn1 ?_
      refine (tz_g_iadd (tz_in0 rfl)).trans ?_
      refine (tz_g_iload_n rfl (tz_in0 rfl)).trans ?_
      refine (tz_g_iast (n := 64) rfl rfl rfl (tz_in0 rfl)).trans ?_
      refine tz_cn1 ?_
      refine (tz_g_aload_n rfl (tz_in0 rfl)).trans ?_
      refine (tz_g_dup rfl (tz_in0 rfl)).trans ?_
      refine (tz_g_geti rfl rfl rfl (tz_in0 rfl)).trans ?_
      refine (tz_g_iconst (v := 1) rfl (tz_in0 rfl)).trans ?_
      refine (tz_g_iadd (tz_in0 rfl)).trans ?_
      refine (tz_g_puti rfl rfl rfl (tz_in0 rfl)).trans ?_
      refine (tz_g_aload_n rfl (tz_in0 rfl)).trans ?_
      refine (tz_g_getr (j := 182) rfl rfl rfl rfl rfl (tz_in0 rfl)).trans ?_
      refine (tz_g_iload_n rfl (tz_in0 rfl)).trans ?_
      refine (tz_g_dup2a rfl rfl (tz_in0 rfl)).trans ?_
      refine (tz_g_iald (n := 8) rfl rfl rfl (tz_in0 rfl)).trans ?_
      refine tz_cn1 ?_
      refine (tz_g_iconst (v := 1) rfl (tz_in0 rfl)).trans ?_
      refine (tz_g_iadd (tz_in0 rfl)).trans ?_
      refine (tz_g_iast (n := 8) rfl rfl rfl (tz_in0 rfl)).trans ?_
      refine tz_cn1 ?_
      refine (tz_g_iinc (v := 1) (L2 := [some (.ref 157), some (.int z1), some (.int z2), some (.int z3), some (.int (z4 + 1)), none]) rfl rfl rfl rfl (tz_in0 rfl)).trans ?_
      refine (tz_g_goto (t := 3) (by decide) (tz_in0 rfl)).trans ?_
      exact tz_Gm (L2 := [some (.ref 157), some (.int z1), some (.int z2), some (.int z3), some (.int (z4 + 1)), none]) rfl rfl rfl rfl
    · skip
      refine (tz_g_iconst (v := 0) rfl (tz_in0 rfl)).trans ?_
      refine (tz_g_istore (L2 := [some (.ref 157), some (.int z1), some (.int z2), some (.int z3), some (.int z4), some (.int 0)]) rfl rfl (tz_in0 rfl)).trans ?_
      exact tz_Gm (L2 := [some (.ref 157), some (.int z1), some (.int z2), some (.int z3), some (.int z4), some (.int 0)]) rfl rfl rfl rfl

theorem e_X12_hears_23 (z1 : Int32) (z2 : Int32) (z3 : Int32) (z4 : Int32) (z5 : Int32) (A : tz_Mem) : q_X12_hears_23 z1 z2 z3 z4 z5 A =
  if 7 ≤ z5 then
  if z1 < 0 ∨ 8 ≤ (Int32.toNatClampNeg z1) then none else
  if z1 < 0 ∨ 8 ≤ (Int32.toNatClampNeg z1) then none else
  if z1 < 0 ∨ 8 ≤ (Int32.toNatClampNeg z1) then none else
  if ((8 * z1) + (tz_g (tz_s A 163 (Int32.toNatClampNeg z1) 7) 163 (Int32.toNatClampNeg z1))) < 0 ∨ 64 ≤ (Int32.toNatClampNeg ((8 * z1) + (tz_g (tz_s A 163 (Int32.toNatClampNeg z1) 7) 163 (Int32.toNatClampNeg z1)))) then none else
  if z1 < 0 ∨ 8 ≤ (Int32.toNatClampNeg z1) then none else
  if z1 < 0 ∨ 8 ≤ (Int32.toNatClampNeg z1) then none else
  q_X12_hears_3 z1 z2 z3 (z4 + 1) (tz_s (tz_s (tz_s (tz_s (tz_s A 163 (Int32.toNatClampNeg z1) 7) 163 (Int32.toNatClampNeg z1) ((tz_g (tz_s A 163 (Int32.toNatClampNeg z1) 7) 163 (Int32.toNatClampNeg z1)) + 1)) 164 (Int32.toNatClampNeg ((8 * z1) + (tz_g (tz_s A 163 (Int32.toNatClampNeg z1) 7) 163 (Int32.toNatClampNeg z1)))) z2) 157 25 ((tz_g (tz_s (tz_s (tz_s A 163 (Int32.toNatClampNeg z1) 7) 163 (Int32.toNatClampNeg z1) ((tz_g (tz_s A 163 (Int32.toNatClampNeg z1) 7) 163 (Int32.toNatClampNeg z1)) + 1)) 164 (Int32.toNatClampNeg ((8 * z1) + (tz_g (tz_s A 163 (Int32.toNatClampNeg z1) 7) 163 (Int32.toNatClampNeg z1)))) z2) 157 25) + 1)) 182 (Int32.toNatClampNeg z1) ((tz_g (tz_s (tz_s (tz_s (tz_s A 163 (Int32.toNatClampNeg z1) 7) 163 (Int32.toNatClampNeg z1) ((tz_g (tz_s A 163 (Int32.toNatClampNeg z1) 7) 163 (Int32.toNatClampNeg z1)) + 1)) 164 (Int32.toNatClampNeg ((8 * z1) + (tz_g (tz_s A 163 (Int32.toNatClampNeg z1) 7) 163 (Int32.toNatClampNeg z1)))) z2) 157 25 ((tz_g (tz_s (tz_s (tz_s A 163 (Int32.toNatClampNeg z1) 7) 163 (Int32.toNatClampNeg z1) ((tz_g (tz_s A 163 (Int32.toNatClampNeg z1) 7) 163 (Int32.toNatClampNeg z1)) + 1)) 164 (Int32.toNatClampNeg ((8 * z1) + (tz_g (tz_s A 163 (Int32.toNatClampNeg z1) 7) 163 (Int32.toNatClampNeg z1)))) z2) 157 25) + 1)) 182 (Int32.toNatClampNeg z1)) + 1))
else
  if (((8 * z1) + z5) + 1) < 0 ∨ 64 ≤ (Int32.toNatClampNeg (((8 * z1) + z5) + 1)) then none else
  if ((8 * z1) + z5) < 0 ∨ 64 ≤ (Int32.toNatClampNeg ((8 * z1) + z5)) then none else
  q_X12_hears_23 z1 z2 z3 z4 (z5 + 1) (tz_s A 164 (Int32.toNatClampNeg ((8 * z1) + z5)) (tz_g A 164 (Int32.toNatClampNeg (((8 * z1) + z5) + 1)))) := by
  show tz_Go 206 23 [some (.ref 157), some (.int z1), some (.int z2), some (.int z3), some (.int z4), some (.int z5)] [] A = _
  refine (tz_g_iload rfl (tz_inM rfl rfl rfl)).trans ?_
  refine (tz_g_bipush (v := 7) rfl (tz_in0 rfl)).trans ?_
  refine (tz_g_ic_ge (t := 62) (by decide) (tz_in0 rfl)).trans ?_
  refine tz_cg ?_ ?_
  · skip
    refine (tz_g_aload_n rfl (tz_in0 rfl)).trans ?_
    refine (tz_g_getr (j := 163) rfl rfl rfl rfl rfl (tz_in0 rfl)).trans ?_
    refine (tz_g_iload_n rfl (tz_in0 rfl)).trans ?_
    refine (tz_g_bipush (v := 7) rfl (tz_in0 rfl)).trans ?_
    refine (tz_g_iast (n := 8) rfl rfl rfl (tz_in0 rfl)).trans ?_
    refine tz_cn1 ?_
    refine (tz_g_aload_n rfl (tz_in0 rfl)).trans ?_
    refine (tz_g_getr (j := 164) rfl rfl rfl rfl rfl (tz_in0 rfl)).trans ?_
    refine (tz_g_bipush (v := 8) rfl (tz_in0 rfl)).trans ?_
    refine (tz_g_iload_n rfl (tz_in0 rfl)).trans ?_
    refine (tz_g_imul (tz_in0 rfl)).trans ?_
    refine (tz_g_aload_n rfl (tz_in0 rfl)).trans ?_
    refine (tz_g_getr (j := 163) rfl rfl rfl rfl rfl (tz_in0 rfl)).trans ?_
    refine (tz_g_iload_n rfl (tz_in0 rfl)).trans ?_
    refine (tz_g_dup2a rfl rfl (tz_in0 rfl)).trans ?_
    refine (tz_g_iald (n := 8) rfl rfl rfl (tz_in0 rfl)).trans ?_
    refine tz_cn1 ?_
    refine (tz_g_dup_x2 rfl (tz_in0 rfl)).trans ?_
    refine (tz_g_iconst (v := 1) rfl (tz_in0 rfl)).trans ?_
    refine (tz_g_iadd (tz_in0 rfl)).trans ?_
    refine (tz_g_iast (n := 8) rfl rfl rfl (tz_in0 rfl)).trans ?_
    refine tz_cn1 ?_
    refine (tz_g_iadd (tz_in0 rfl)).trans ?_
    refine (tz_g_iload_n rfl (tz_in0 rfl)).trans ?_
    refine (tz_g_iast (n := 64) rfl rfl rfl (tz_in0 rfl)).trans ?_
    refine tz_cn1 ?_
    refine (tz_g_aload_n rfl (tz_in0 rfl)).trans ?_
    refine (tz_g_dup rfl (tz_in0 rfl)).trans ?_
    refine (tz_g_geti rfl rfl rfl (tz_in0 rfl)).trans ?_
    refine (tz_g_iconst (v := 1) rfl (tz_in0 rfl)).trans ?_
    refine (tz_g_iadd (tz_in0 rfl)).trans ?_
    refine (tz_g_puti rfl rfl rfl (tz_in0 rfl)).trans ?_
    refine (tz_g_aload_n rfl (tz_in0 rfl)).trans ?_
    refine (tz_g_getr (j := 182) rfl rfl rfl rfl rfl (tz_in0 rfl)).trans ?_
    refine (tz_g_iload_n rfl (tz_in0 rfl)).trans ?_
    refine (tz_g_dup2a rfl rfl (tz_in0 rfl)).trans ?_
    refine (tz_g_iald (n := 8) rfl rfl rfl (tz_in0 rfl)).trans ?_
    refine tz_cn1 ?_
    refine (tz_g_iconst (v := 1) rfl (tz_in0 rfl)).trans ?_
    refine (tz_g_iadd (tz_in0 rfl)).trans ?_
    refine (tz_g_iast (n := 8) rfl rfl rfl (tz_in0 rfl)).trans ?_
    refine tz_cn1 ?_
    refine (tz_g_iinc (v := 1) (L2 := [some (.ref 157), some (.int z1), some (.int z2), some (.int z3), some (.int (z4 + 1)), some (.int z5)]) rfl rfl rfl rfl (tz_in0 rfl)).trans ?_
    refine (tz_g_goto (t := 3) (by decide) (tz_in0 rfl)).trans ?_
    exact tz_Gm (L2 := [some (.ref 157), some (.int z1), some (.int z2), some (.int z3), some (.int (z4 + 1)), none]) rfl rfl rfl rfl
  · skip
    refine (tz_g_aload_n rfl (tz_in0 rfl)).trans ?_
    refine (tz_g_getr (j := 164) rfl rfl rfl rfl rfl (tz_in0 rfl)).trans ?_
    refine (tz_g_bipush (v := 8) rfl (tz_in0 rfl)).trans ?_
    refine (tz_g_iload_n rfl (tz_in0 rfl)).trans ?_
    refine (tz_g_imul (tz_in0 rfl)).trans ?_
    refine (tz_g_iload rfl (tz_in0 rfl)).trans ?_
    refine (tz_g_iadd (tz_in0 rfl)).trans ?_
    refine (tz_g_aload_n rfl (tz_in0 rfl)).trans ?_
    refine (tz_g_getr (j := 164) rfl rfl rfl rfl rfl (tz_in0 rfl)).trans ?_
    refine (tz_g_bipush (v := 8) rfl (tz_in0 rfl)).trans ?_
    refine (tz_g_iload_n rfl (tz_in0 rfl)).trans ?_
    refine (tz_g_imul (tz_in0 rfl)).trans ?_
    refine (tz_g_iload rfl (tz_in0 rfl)).trans ?_
    refine (tz_g_iadd (tz_in0 rfl)).trans ?_
    refine (tz_g_iconst (v := 1) rfl (tz_in0 rfl)).trans ?_
    refine (tz_g_iadd (tz_in0 rfl)).trans ?_
    refine (tz_g_iald (n := 64) rfl rfl rfl (tz_in0 rfl)).trans ?_
    refine tz_cn1 ?_
    refine (tz_g_iast (n := 64) rfl rfl rfl (tz_in0 rfl)).trans ?_
    refine tz_cn1 ?_
    refine (tz_g_iinc (v := 1) (L2 := [some (.ref 157), some (.int z1), some (.int z2), some (.int z3), some (.int z4), some (.int (z5 + 1))]) rfl rfl rfl rfl (tz_in0 rfl)).trans ?_
    refine (tz_g_goto (t := 23) (by decide) (tz_in0 rfl)).trans ?_
    exact tz_Gm (L2 := [some (.ref 157), some (.int z1), some (.int z2), some (.int z3), some (.int z4), some (.int (z5 + 1))]) rfl rfl rfl rfl

theorem e_X12_burns (x1 : Int32) (A : tz_Mem) : f_X12_burns x1 A =
  if x1 < 0 ∨ 12 ≤ (Int32.toNatClampNeg x1) then none else
if (tz_g A 175 (Int32.toNatClampNeg x1)) < 200 then
  if x1 < 0 ∨ 12 ≤ (Int32.toNatClampNeg x1) then none else
  some (some (.int 1), (tz_s A 175 (Int32.toNatClampNeg x1) 300))
else
  some (some (.int 0), A) := by
  refine (tz_Fe (L := [some (.ref 157), some (.int x1)]) rfl).trans ?_
  refine (tz_g_aload_n rfl (tz_in0 rfl)).trans ?_
  refine (tz_g_getr (j := 175) rfl rfl rfl rfl rfl (tz_in0 rfl)).trans ?_
  refine (tz_g_iload_n rfl (tz_in0 rfl)).trans ?_
  refine (tz_g_iald (n := 12) rfl rfl rfl (tz_in0 rfl)).trans ?_
  refine tz_cn1 ?_
  refine (tz_g_sipush (v := 200) rfl (tz_in0 rfl)).trans ?_
  refine (tz_g_ic_lt (t := 14) (by decide) (tz_in0 rfl)).trans ?_
  refine tz_cg ?_ ?_
  · skip
    refine (tz_g_aload_n rfl (tz_in0 rfl)).trans ?_
    refine (tz_g_getr (j := 175) rfl rfl rfl rfl rfl (tz_in0 rfl)).trans ?_
    refine (tz_g_iload_n rfl (tz_in0 rfl)).trans ?_
    refine (tz_g_sipush (v := 300) rfl (tz_in0 rfl)).trans ?_
    refine (tz_g_iast (n := 12) rfl rfl rfl (tz_in0 rfl)).trans ?_
    refine tz_cn1 ?_
    refine (tz_g_iconst (v := 1) rfl (tz_in0 rfl)).trans ?_
    exact tz_g_ret1 (tz_in0 rfl) rfl
  · skip
    refine (tz_g_iconst (v := 0) rfl (tz_in0 rfl)).trans ?_
    exact tz_g_ret1 (tz_in0 rfl) rfl

theorem e_X12_again_s179 (A : tz_Mem) : f_X12_again_s179 A =
  q_X12_again_s179_2 0 A := by
  refine (tz_Fe (L := [some (.ref 157), some (.ref 179), none]) rfl).trans ?_
  refine (tz_g_iconst (v := 0) rfl (tz_in0 rfl)).trans ?_
  refine (tz_g_istore_n (L2 := [some (.ref 157), some (.ref 179), some (.int 0)]) rfl rfl (tz_in0 rfl)).trans ?_
  exact tz_Gm (L2 := [some (.ref 157), some (.ref 179), some (.int 0)]) rfl rfl rfl rfl

theorem e_X12_again_s179_2 (z2 : Int32) (A : tz_Mem) : q_X12_again_s179_2 z2 A =
  if 8 ≤ z2 then
  q_X12_again_s179_49 0 A
else
  if z2 < 0 ∨ 215 ≤ (Int32.toNatClampNeg z2) then none else
  if z2 < 0 ∨ 8 ≤ (Int32.toNatClampNeg z2) then none else
  if (8 + z2) < 0 ∨ 215 ≤ (Int32.toNatClampNeg (8 + z2)) then none else
  if z2 < 0 ∨ 8 ≤ (Int32.toNatClampNeg z2) then none else
  if (16 + z2) < 0 ∨ 215 ≤ (Int32.toNatClampNeg (16 + z2)) then none else
  if z2 < 0 ∨ 8 ≤ (Int32.toNatClampNeg z2) then none else
  q_X12_again_s179_2 (z2 + 1) (tz_s (tz_s (tz_s A 161 (Int32.toNatClampNeg z2) (tz_g A 179 (Int32.toNatClampNeg z2))) 162 (Int32.toNatClampNeg z2) (tz_g (tz_s A 161 (Int32.toNatClampNeg z2) (tz_g A 179 (Int32.toNatClampNeg z2))) 179 (Int32.toNatClampNeg (8 + z2)))) 163 (Int32.toNatClampNeg z2) (tz_g (tz_s (tz_s A 161 (Int32.toNatClampNeg z2) (tz_g A 179 (Int32.toNatClampNeg z2))) 162 (Int32.toNatClampNeg z2) (tz_g (tz_s A 161 (Int32.toNatClampNeg z2) (tz_g A 179 (Int32.toNatClampNeg z2))) 179 (Int32.toNatClampNeg (8 + z2)))) 179 (Int32.toNatClampNeg (16 + z2)))) := by
  show tz_Go 211 2 [some (.ref 157), some (.ref 179), some (.int z2)] [] A = _
  refine (tz_g_iload_n rfl (tz_inM rfl rfl rfl)).trans ?_
  refine (tz_g_bipush (v := 8) rfl (tz_in0 rfl)).trans ?_
  refine (tz_g_ic_ge (t := 47) (by decide) (tz_in0 rfl)).trans ?_
  refine tz_cg ?_ ?_
  · skip
    refine (tz_g_iconst (v := 0) rfl (tz_in0 rfl)).trans ?_
    refine (tz_g_istore_n (L2 := [some (.ref 157), some (.ref 179), some (.int 0)]) rfl rfl (tz_in0 rfl)).trans ?_
    exact tz_Gm (L2 := [some (.ref 157), some (.ref 179), some (.int 0)]) rfl rfl rfl rfl
  · skip
    refine (tz_g_aload_n rfl (tz_in0 rfl)).trans ?_
    refine (tz_g_getr (j := 161) rfl rfl rfl rfl rfl (tz_in0 rfl)).trans ?_
    refine (tz_g_iload_n rfl (tz_in0 rfl)).trans ?_
    refine (tz_g_aload_n rfl (tz_in0 rfl)).trans ?_
    refine (tz_g_iload_n rfl (tz_in0 rfl)).trans ?_
    refine (tz_g_iald (n := 215) rfl rfl rfl (tz_in0 rfl)).trans ?_
    refine tz_cn1 ?_
    refine (tz_g_iast (n := 8) rfl rfl rfl (tz_in0 rfl)).trans ?_
    refine tz_cn1 ?_
    refine (tz_g_aload_n rfl (tz_in0 rfl)).trans ?_
    refine (tz_g_getr (j := 162) rfl rfl rfl rfl rfl (tz_in0 rfl)).trans ?_
    refine (tz_g_iload_n rfl (tz_in0 rfl)).trans ?_
    refine (tz_g_aload_n rfl (tz_in0 rfl)).trans ?_
    refine (tz_g_bipush (v := 8) rfl (tz_in0 rfl)).trans ?_
    refine (tz_g_iload_n rfl (tz_in0 rfl)).trans ?_
    refine (tz_g_iadd (tz_in0 rfl)).trans ?_
    refine (tz_g_iald (n := 215) rfl rfl rfl (tz_in0 rfl)).trans ?_
    refine tz_cn1 ?_
    refine (tz_g_iast (n := 8) rfl rfl rfl (tz_in0 rfl)).trans ?_
    refine tz_cn1 ?_
    refine (tz_g_aload_n rfl (tz_in0 rfl)).trans ?_
    refine (tz_g_getr (j := 163) rfl rfl rfl rfl rfl (tz_in0 rfl)).trans ?_
    refine (tz_g_iload_n rfl (tz_in0 rfl)).trans ?_
    refine (tz_g_aload_n rfl (tz_in0 rfl)).trans ?_
    refine (tz_g_bipush (v := 16) rfl (tz_in0 rfl)).trans ?_
    refine (tz_g_iload_n rfl (tz_in0 rfl)).trans ?_
    refine (tz_g_iadd (tz_in0 rfl)).trans ?_
    refine (tz_g_iald (n := 215) rfl rfl rfl (tz_in0 rfl)).trans ?_
    refine tz_cn1 ?_
    refine (tz_g_iast (n := 8) rfl rfl rfl (tz_in0 rfl)).trans ?_
    refine tz_cn1 ?_
    refine (tz_g_iinc (v := 1) (L2 := [some (.ref 157), some (.ref 179), some (.int (z2 + 1))]) rfl rfl rfl rfl (tz_in0 rfl)).trans ?_
    refine (tz_g_goto (t := 2) (by decide) (tz_in0 rfl)).trans ?_
    exact tz_Gm (L2 := [some (.ref 157), some (.ref 179), some (.int (z2 + 1))]) rfl rfl rfl rfl

theorem e_X12_again_s179_49 (z2 : Int32) (A : tz_Mem) : q_X12_again_s179_49 z2 A =
  if 64 ≤ z2 then
  q_X12_again_s179_75 0 A
else
  if (24 + z2) < 0 ∨ 215 ≤ (Int32.toNatClampNeg (24 + z2)) then none else
  if z2 < 0 ∨ 64 ≤ (Int32.toNatClampNeg z2) then none else
  q_X12_again_s179_49 (z2 + 1) (tz_s A 164 (Int32.toNatClampNeg z2) (tz_g A 179 (Int32.toNatClampNeg (24 + z2)))) := by
  show tz_Go 211 49 [some (.ref 157), some (.ref 179), some (.int z2)] [] A = _
  refine (tz_g_iload_n rfl (tz_inM rfl rfl rfl)).trans ?_
  refine (tz_g_bipush (v := 64) rfl (tz_in0 rfl)).trans ?_
  refine (tz_g_ic_ge (t := 73) (by decide) (tz_in0 rfl)).trans ?_
  refine tz_cg ?_ ?_
  · skip
    refine (tz_g_iconst (v := 0) rfl (tz_in0 rfl)).trans ?_
    refine (tz_g_istore_n (L2 := [some (.ref 157), some (.ref 179), some (.int 0)]) rfl rfl (tz_in0 rfl)).trans ?_
    exact tz_Gm (L2 := [some (.ref 157), some (.ref 179), some (.int 0)]) rfl rfl rfl rfl
  · skip
    refine (tz_g_aload_n rfl (tz_in0 rfl)).trans ?_
    refine (tz_g_getr (j := 164) rfl rfl rfl rfl rfl (tz_in0 rfl)).trans ?_
    refine (tz_g_iload_n rfl (tz_in0 rfl)).trans ?_
    refine (tz_g_aload_n rfl (tz_in0 rfl)).trans ?_
    refine (tz_g_bipush (v := 24) rfl (tz_in0 rfl)).trans ?_
    refine (tz_g_iload_n rfl (tz_in0 rfl)).trans ?_
    refine (tz_g_iadd (tz_in0 rfl)).trans ?_
    refine (tz_g_iald (n := 215) rfl rfl rfl (tz_in0 rfl)).trans ?_
    refine tz_cn1 ?_
    refine (tz_g_iast (n := 64) rfl rfl rfl (tz_in0 rfl)).trans ?_
    refine tz_cn1 ?_
    refine (tz_g_iinc (v := 1) (L2 := [some (.ref 157), some (.ref 179), some (.int (z2 + 1))]) rfl rfl rfl rfl (tz_in0 rfl)).trans ?_
    refine (tz_g_goto (t := 49) (by decide) (tz_in0 rfl)).trans ?_
    exact tz_Gm (L2 := [some (.ref 157), some (.ref 179), some (.int (z2 + 1))]) rfl rfl rfl rfl

theorem e_X12_again_s179_75 (z2 : Int32) (A : tz_Mem) : q_X12_again_s179_75 z2 A =
  if 4 ≤ z2 then
  q_X12_again_s179_148 0 A
else
  if (88 + z2) < 0 ∨ 215 ≤ (Int32.toNatClampNeg (88 + z2)) then none else
  if z2 < 0 ∨ 4 ≤ (Int32.toNatClampNeg z2) then none else
  if (92 + z2) < 0 ∨ 215 ≤ (Int32.toNatClampNeg (92 + z2)) then none else
  if z2 < 0 ∨ 4 ≤ (Int32.toNatClampNeg z2) then none else
  if (96 + z2) < 0 ∨ 215 ≤ (Int32.toNatClampNeg (96 + z2)) then none else
  if z2 < 0 ∨ 4 ≤ (Int32.toNatClampNeg z2) then none else
  if (100 + z2) < 0 ∨ 215 ≤ (Int32.toNatClampNeg (100 + z2)) then none else
  if z2 < 0 ∨ 4 ≤ (Int32.toNatClampNeg z2) then none else
  if (104 + z2) < 0 ∨ 215 ≤ (Int32.toNatClampNeg (104 + z2)) then none else
  if z2 < 0 ∨ 4 ≤ (Int32.toNatClampNeg z2) then none else
  q_X12_again_s179_75 (z2 + 1) (tz_s (tz_s (tz_s (tz_s (tz_s A 165 (Int32.toNatClampNeg z2) (tz_g A 179 (Int32.toNatClampNeg (88 + z2)))) 167 (Int32.toNatClampNeg z2) (tz_g (tz_s A 165 (Int32.toNatClampNeg z2) (tz_g A 179 (Int32.toNatClampNeg (88 + z2)))) 179 (Int32.toNatClampNeg (92 + z2)))) 168 (Int32.toNatClampNeg z2) (tz_g (tz_s (tz_s A 165 (Int32.toNatClampNeg z2) (tz_g A 179 (Int32.toNatClampNeg (88 + z2)))) 167 (Int32.toNatClampNeg z2) (tz_g (tz_s A 165 (Int32.toNatClampNeg z2) (tz_g A 179 (Int32.toNatClampNeg (88 + z2)))) 179 (Int32.toNatClampNeg (92 + z2)))) 179 (Int32.toNatClampNeg (96 + z2)))) 169 (Int32.toNatClampNeg z2) (tz_g (tz_s (tz_s (tz_s A 165 (Int32.toNatClampNeg z2) (tz_g A 179 (Int32.toNatClampNeg (88 + z2)))) 167 (Int32.toNatClampNeg z2) (tz_g (tz_s A 165 (Int32.toNatClampNeg z2) (tz_g A 179 (Int32.toNatClampNeg (88 + z2)))) 179 (Int32.toNatClampNeg (92 + z2)))) 168 (Int32.toNatClampNeg z2) (tz_g (tz_s (tz_s A 165 (Int32.toNatClampNeg z2) (tz_g A 179 (Int32.toNatClampNeg (88 + z2)))) 167 (Int32.toNatClampNeg z2) (tz_g (tz_s A 165 (Int32.toNatClampNeg z2) (tz_g A 179 (Int32.toNatClampNeg (88 + z2)))) 179 (Int32.toNatClampNeg (92 + z2)))) 179 (Int32.toNatClampNeg (96 + z2)))) 179 (Int32.toNatClampNeg (100 + z2)))) 170 (Int32.toNatClampNeg z2) (tz_g (tz_s (tz_s (tz_s (tz_s A 165 (Int32.toNatClampNeg z2) (tz_g A 179 (Int32.toNatClampNeg (88 + z2)))) 167 (Int32.toNatClampNeg z2) (tz_g (tz_s A 165 (Int32.toNatClampNeg z2) (tz_g A 179 (Int32.toNatClampNeg (88 + z2)))) 179 (Int32.toNatClampNeg (92 + z2)))) 168 (Int32.toNatClampNeg z2) (tz_g (tz_s (tz_s A 165 (Int32.toNatClampNeg z2) (tz_g A 179 (Int32.toNatClampNeg (88 + z2)))) 167 (Int32.toNatClampNeg z2) (tz_g (tz_s A 165 (Int32.toNatClampNeg z2) (tz_g A 179 (Int32.toNatClampNeg (88 + z2)))) 179 (Int32.toNatClampNeg (92 + z2)))) 179 (Int32.toNatClampNeg (96 + z2)))) 169 (Int32.toNatClampNeg z2) (tz_g (tz_s (tz_s (tz_s A 165 (Int32.toNatClampNeg z2) (tz_g A 179 (Int32.toNatClampNeg (88 + z2)))) 167 (Int32.toNatClampNeg z2) (tz_g (tz_s A 165 (Int32.toNatClampNeg z2) (tz_g A 179 (Int32.toNatClampNeg (88 + z2)))) 179 (Int32.toNatClampNeg (92 + z2)))) 168 (Int32.toNatClampNeg z2) (tz_g (tz_s (tz_s A 165 (Int32.toNatClampNeg z2) (tz_g A 179 (Int32.toNatClampNeg (88 + z2)))) 167 (Int32.toNatClampNeg z2) (tz_g (tz_s A 165 (Int32.toNatClampNeg z2) (tz_g A 179 (Int32.toNatClampNeg (88 + z2)))) 179 (Int32.toNatClampNeg (92 + z2)))) 179 (Int32.toNatClampNeg (96 + z2)))) 179 (Int32.toNatClampNeg (100 + z2)))) 179 (Int32.toNatClampNeg (104 + z2)))) := by
  show tz_Go 211 75 [some (.ref 157), some (.ref 179), some (.int z2)] [] A = _
  refine (tz_g_iload_n rfl (tz_inM rfl rfl rfl)).trans ?_
  refine (tz_g_iconst (v := 4) rfl (tz_in0 rfl)).trans ?_
  refine (tz_g_ic_ge (t := 146) (by decide) (tz_in0 rfl)).trans ?_
  refine tz_cg ?_ ?_
  · skip
    refine (tz_g_iconst (v := 0) rfl (tz_in0 rfl)).trans ?_
    refine (tz_g_istore_n (L2 := [some (.ref 157), some (.ref 179), some (.int 0)]) rfl rfl (tz_in0 rfl)).trans ?_
    exact tz_Gm (L2 := [some (.ref 157), some (.ref 179), some (.int 0)]) rfl rfl rfl rfl
  · skip
    refine (tz_g_aload_n rfl (tz_in0 rfl)).trans ?_
    refine (tz_g_getr (j := 165) rfl rfl rfl rfl rfl (tz_in0 rfl)).trans ?_
    refine (tz_g_iload_n rfl (tz_in0 rfl)).trans ?_
    refine (tz_g_aload_n rfl (tz_in0 rfl)).trans ?_
    refine (tz_g_bipush (v := 88) rfl (tz_in0 rfl)).trans ?_
    refine (tz_g_iload_n rfl (tz_in0 rfl)).trans ?_
    refine (tz_g_iadd (tz_in0 rfl)).trans ?_
    refine (tz_g_iald (n := 215) rfl rfl rfl (tz_in0 rfl)).trans ?_
    refine tz_cn1 ?_
    refine (tz_g_iast (n := 4) rfl rfl rfl (tz_in0 rfl)).trans ?_
    refine tz_cn1 ?_
    refine (tz_g_aload_n rfl (tz_in0 rfl)).trans ?_
    refine (tz_g_getr (j := 167) rfl rfl rfl rfl rfl (tz_in0 rfl)).trans ?_
    refine (tz_g_iload_n rfl (tz_in0 rfl)).trans ?_
    refine (tz_g_aload_n rfl (tz_in0 rfl)).trans ?_
    refine (tz_g_bipush (v := 92) rfl (tz_in0 rfl)).trans ?_
    refine (tz_g_iload_n rfl (tz_in0 rfl)).trans ?_
    refine (tz_g_iadd (tz_in0 rfl)).trans ?_
    refine (tz_g_iald (n := 215) rfl rfl rfl (tz_in0 rfl)).trans ?_
    refine tz_cn1 ?_
    refine (tz_g_iast (n := 4) rfl rfl rfl (tz_in0 rfl)).trans ?_
    refine tz_cn1 ?_
    refine (tz_g_aload_n rfl (tz_in0 rfl)).trans ?_
    refine (tz_g_getr (j := 168) rfl rfl rfl rfl rfl (tz_in0 rfl)).trans ?_
    refine (tz_g_iload_n rfl (tz_in0 rfl)).trans ?_
    refine (tz_g_aload_n rfl (tz_in0 rfl)).trans ?_
    refine (tz_g_bipush (v := 96) rfl (tz_in0 rfl)).trans ?_
    refine (tz_g_iload_n rfl (tz_in0 rfl)).trans ?_
    refine (tz_g_iadd (tz_in0 rfl)).trans ?_
    refine (tz_g_iald (n := 215) rfl rfl rfl (tz_in0 rfl)).trans ?_
    refine tz_cn1 ?_
    refine (tz_g_iast (n := 4) rfl rfl rfl (tz_in0 rfl)).trans ?_
    refine tz_cn1 ?_
    refine (tz_g_aload_n rfl (tz_in0 rfl)).trans ?_
    refine (tz_g_getr (j := 169) rfl rfl rfl rfl rfl (tz_in0 rfl)).trans ?_
    refine (tz_g_iload_n rfl (tz_in0 rfl)).trans ?_
    refine (tz_g_aload_n rfl (tz_in0 rfl)).trans ?_
    refine (tz_g_bipush (v := 100) rfl (tz_in0 rfl)).trans ?_
    refine (tz_g_iload_n rfl (tz_in0 rfl)).trans ?_
    refine (tz_g_iadd (tz_in0 rfl)).trans ?_
    refine (tz_g_iald (n := 215) rfl rfl rfl (tz_in0 rfl)).trans ?_
    refine tz_cn1 ?_
    refine (tz_g_iast (n := 4) rfl rfl rfl (tz_in0 rfl)).trans ?_
    refine tz_cn1 ?_
    refine (tz_g_aload_n rfl (tz_in0 rfl)).trans ?_
    refine (tz_g_getr (j := 170) rfl rfl rfl rfl rfl (tz_in0 rfl)).trans ?_
    refine (tz_g_iload_n rfl (tz_in0 rfl)).trans ?_
    refine (tz_g_aload_n rfl (tz_in0 rfl)).trans ?_
    refine (tz_g_bipush (v := 104) rfl (tz_in0 rfl)).trans ?_
    refine (tz_g_iload_n rfl (tz_in0 rfl)).trans ?_
    refine (tz_g_iadd (tz_in0 rfl)).trans ?_
    refine (tz_g_iald (n := 215) rfl rfl rfl (tz_in0 rfl)).trans ?_
    refine tz_cn1 ?_
    refine (tz_g_iast (n := 4) rfl rfl rfl (tz_in0 rfl)).trans ?_
    refine tz_cn1 ?_
    refine (tz_g_iinc (v := 1) (L2 := [some (.ref 157), some (.ref 179), some (.int (z2 + 1))]) rfl rfl rfl rfl (tz_in0 rfl)).trans ?_
    refine (tz_g_goto (t := 75) (by decide) (tz_in0 rfl)).trans ?_
    exact tz_Gm (L2 := [some (.ref 157), some (.ref 179), some (.int (z2 + 1))]) rfl rfl rfl rfl

theorem e_X12_again_s179_148 (z2 : Int32) (A : tz_Mem) : q_X12_again_s179_148 z2 A =
  if 24 ≤ z2 then
  q_X12_again_s179_174 0 A
else
  if (108 + z2) < 0 ∨ 215 ≤ (Int32.toNatClampNeg (108 + z2)) then none else
  if z2 < 0 ∨ 24 ≤ (Int32.toNatClampNeg z2) then none else
  q_X12_again_s179_148 (z2 + 1) (tz_s A 166 (Int32.toNatClampNeg z2) (tz_g A 179 (Int32.toNatClampNeg (108 + z2)))) := by
  show tz_Go 211 148 [some (.ref 157), some (.ref 179), some (.int z2)] [] A = _
  refine (tz_g_iload_n rfl (tz_inM rfl rfl rfl)).trans ?_
  refine (tz_g_bipush (v := 24) rfl (tz_in0 rfl)).trans ?_
  refine (tz_g_ic_ge (t := 172) (by decide) (tz_in0 rfl)).trans ?_
  refine tz_cg ?_ ?_
  · skip
    refine (tz_g_iconst (v := 0) rfl (tz_in0 rfl)).trans ?_
    refine (tz_g_istore_n (L2 := [some (.ref 157), some (.ref 179), some (.int 0)]) rfl rfl (tz_in0 rfl)).trans ?_
    exact tz_Gm (L2 := [some (.ref 157), some (.ref 179), some (.int 0)]) rfl rfl rfl rfl
  · skip
    refine (tz_g_aload_n rfl (tz_in0 rfl)).trans ?_
    refine (tz_g_getr (j := 166) rfl rfl rfl rfl rfl (tz_in0 rfl)).trans ?_
    refine (tz_g_iload_n rfl (tz_in0 rfl)).trans ?_
    refine (tz_g_aload_n rfl (tz_in0 rfl)).trans ?_
    refine (tz_g_bipush (v := 108) rfl (tz_in0 rfl)).trans ?_
    refine (tz_g_iload_n rfl (tz_in0 rfl)).trans ?_
    refine (tz_g_iadd (tz_in0 rfl)).trans ?_
    refine (tz_g_iald (n := 215) rfl rfl rfl (tz_in0 rfl)).trans ?_
    refine tz_cn1 ?_
    refine (tz_g_iast (n := 24) rfl rfl rfl (tz_in0 rfl)).trans ?_
    refine tz_cn1 ?_
    refine (tz_g_iinc (v := 1) (L2 := [some (.ref 157), some (.ref 179), some (.int (z2 + 1))]) rfl rfl rfl rfl (tz_in0 rfl)).trans ?_
    refine (tz_g_goto (t := 148) (by decide) (tz_in0 rfl)).trans ?_
    exact tz_Gm (L2 := [some (.ref 157), some (.ref 179), some (.int (z2 + 1))]) rfl rfl rfl rfl

theorem e_X12_again_s179_174 (z2 : Int32) (A : tz_Mem) : q_X12_again_s179_174 z2 A =
  if 12 ≤ z2 then
  if (204 : Int32) < 0 ∨ 215 ≤ 204 then none else
  if (205 : Int32) < 0 ∨ 215 ≤ 205 then none else
  if (206 : Int32) < 0 ∨ 215 ≤ 206 then none else
  if (207 : Int32) < 0 ∨ 215 ≤ 207 then none else
  if (208 : Int32) < 0 ∨ 215 ≤ 208 then none else
  if (209 : Int32) < 0 ∨ 215 ≤ 209 then none else
  if (210 : Int32) < 0 ∨ 215 ≤ 210 then none else
  some (none, (tz_s (tz_s (tz_s (tz_s (tz_s (tz_s (tz_s A 157 3 (tz_g A 179 204)) 157 8 (tz_g (tz_s A 157 3 (tz_g A 179 204)) 179 205)) 157 15 (tz_g (tz_s (tz_s A 157 3 (tz_g A 179 204)) 157 8 (tz_g (tz_s A 157 3 (tz_g A 179 204)) 179 205)) 179 206)) 157 22 (tz_g (tz_s (tz_s (tz_s A 157 3 (tz_g A 179 204)) 157 8 (tz_g (tz_s A 157 3 (tz_g A 179 204)) 179 205)) 157 15 (tz_g (tz_s (tz_s A 157 3 (tz_g A 179 204)) 157 8 (tz_g (tz_s A 157 3 (tz_g A 179 204)) 179 205)) 179 206)) 179 207)) 157 23 (tz_g (tz_s (tz_s (tz_s (tz_s A 157 3 (tz_g A 179 204)) 157 8 (tz_g (tz_s A 157 3 (tz_g A 179 204)) 179 205)) 157 15 (tz_g (tz_s (tz_s A 157 3 (tz_g A 179 204)) 157 8 (tz_g (tz_s A 157 3 (tz_g A 179 204)) 179 205)) 179 206)) 157 22 (tz_g (tz_s (tz_s (tz_s A 157 3 (tz_g A 179 204)) 157 8 (tz_g (tz_s A 157 3 (tz_g A 179 204)) 179 205)) 157 15 (tz_g (tz_s (tz_s A 157 3 (tz_g A 179 204)) 157 8 (tz_g (tz_s A 157 3 (tz_g A 179 204)) 179 205)) 179 206)) 179 207)) 179 208)) 157 24 (tz_g (tz_s (tz_s (tz_s (tz_s (tz_s A 157 3 (tz_g A 179 204)) 157 8 (tz_g (tz_s A 157 3 (tz_g A 179 204)) 179 205)) 157 15 (tz_g (tz_s (tz_s A 157 3 (tz_g A 179 204)) 157 8 (tz_g (tz_s A 157 3 (tz_g A 179 204)) 179 205)) 179 206)) 157 22 (tz_g (tz_s (tz_s (tz_s A 157 3 (tz_g A 179 204)) 157 8 (tz_g (tz_s A 157 3 (tz_g A 179 204)) 179 205)) 157 15 (tz_g (tz_s (tz_s A 157 3 (tz_g A 179 204)) 157 8 (tz_g (tz_s A 157 3 (tz_g A 179 204)) 179 205)) 179 206)) 179 207)) 157 23 (tz_g (tz_s (tz_s (tz_s (tz_s A 157 3 (tz_g A 179 204)) 157 8 (tz_g (tz_s A 157 3 (tz_g A 179 204)) 179 205)) 157 15 (tz_g (tz_s (tz_s A 157 3 (tz_g A 179 204)) 157 8 (tz_g (tz_s A 157 3 (tz_g A 179 204)) 179 205)) 179 206)) 157 22 (tz_g (tz_s (tz_s (tz_s A 157 3 (tz_g A 179 204)) 157 8 (tz_g (tz_s A 157 3 (tz_g A 179 204)) 179 205)) 157 15 (tz_g (tz_s (tz_s A 157 3 (tz_g A 179 204)) 157 8 (tz_g (tz_s A 157 3 (tz_g A 179 204)) 179 205)) 179 206)) 179 207)) 179 208)) 179 209)) 157 25 (tz_g (tz_s (tz_s (tz_s (tz_s (tz_s (tz_s A 157 3 (tz_g A 179 204)) 157 8 (tz_g (tz_s A 157 3 (tz_g A 179 204)) 179 205)) 157 15 (tz_g (tz_s (tz_s A 157 3 (tz_g A 179 204)) 157 8 (tz_g (tz_s A 157 3 (tz_g A 179 204)) 179 205)) 179 206)) 157 22 (tz_g (tz_s (tz_s (tz_s A 157 3 (tz_g A 179 204)) 157 8 (tz_g (tz_s A 157 3 (tz_g A 179 204)) 179 205)) 157 15 (tz_g (tz_s (tz_s A 157 3 (tz_g A 179 204)) 157 8 (tz_g (tz_s A 157 3 (tz_g A 179 204)) 179 205)) 179 206)) 179 207)) 157 23 (tz_g (tz_s (tz_s (tz_s (tz_s A 157 3 (tz_g A 179 204)) 157 8 (tz_g (tz_s A 157 3 (tz_g A 179 204)) 179 205)) 157 15 (tz_g (tz_s (tz_s A 157 3 (tz_g A 179 204)) 157 8 (tz_g (tz_s A 157 3 (tz_g A 179 204)) 179 205)) 179 206)) 157 22 (tz_g (tz_s (tz_s (tz_s A 157 3 (tz_g A 179 204)) 157 8 (tz_g (tz_s A 157 3 (tz_g A 179 204)) 179 205)) 157 15 (tz_g (tz_s (tz_s A 157 3 (tz_g A 179 204)) 157 8 (tz_g (tz_s A 157 3 (tz_g A 179 204)) 179 205)) 179 206)) 179 207)) 179 208)) 157 24 (tz_g (tz_s (tz_s (tz_s (tz_s (tz_s A 157 3 (tz_g A 179 204)) 157 8 (tz_g (tz_s A 157 3 (tz_g A 179 204)) 179 205)) 157 15 (tz_g (tz_s (tz_s A 157 3 (tz_g A 179 204)) 157 8 (tz_g (tz_s A 157 3 (tz_g A 179 204)) 179 205)) 179 206)) 157 22 (tz_g (tz_s (tz_s (tz_s A 157 3 (tz_g A 179 204)) 157 8 (tz_g (tz_s A 157 3 (tz_g A 179 204)) 179 205)) 157 15 (tz_g (tz_s (tz_s A 157 3 (tz_g A 179 204)) 157 8 (tz_g (tz_s A 157 3 (tz_g A 179 204)) 179 205)) 179 206)) 179 207)) 157 23 (tz_g (tz_s (tz_s (tz_s (tz_s A 157 3 (tz_g A 179 204)) 157 8 (tz_g (tz_s A 157 3 (tz_g A 179 204)) 179 205)) 157 15 (tz_g (tz_s (tz_s A 157 3 (tz_g A 179 204)) 157 8 (tz_g (tz_s A 157 3 (tz_g A 179 204)) 179 205)) 179 206)) 157 22 (tz_g (tz_s (tz_s (tz_s A 157 3 (tz_g A 179 204)) 157 8 (tz_g (tz_s A 157 3 (tz_g A 179 204)) 179 205)) 157 15 (tz_g (tz_s (tz_s A 157 3 (tz_g A 179 204)) 157 8 (tz_g (tz_s A 157 3 (tz_g A 179 204)) 179 205)) 179 206)) 179 207)) 179 208)) 179 209)) 179 210)))
else
  if (132 + z2) < 0 ∨ 215 ≤ (Int32.toNatClampNeg (132 + z2)) then none else
  if z2 < 0 ∨ 12 ≤ (Int32.toNatClampNeg z2) then none else
  if (144 + z2) < 0 ∨ 215 ≤ (Int32.toNatClampNeg (144 + z2)) then none else
  if z2 < 0 ∨ 12 ≤ (Int32.toNatClampNeg z2) then none else
  if (156 + z2) < 0 ∨ 215 ≤ (Int32.toNatClampNeg (156 + z2)) then none else
  if z2 < 0 ∨ 12 ≤ (Int32.toNatClampNeg z2) then none else
  if (168 + z2) < 0 ∨ 215 ≤ (Int32.toNatClampNeg (168 + z2)) then none else
  if z2 < 0 ∨ 12 ≤ (Int32.toNatClampNeg z2) then none else
  if (180 + z2) < 0 ∨ 215 ≤ (Int32.toNatClampNeg (180 + z2)) then none else
  if z2 < 0 ∨ 12 ≤ (Int32.toNatClampNeg z2) then none else
  if (192 + z2) < 0 ∨ 215 ≤ (Int32.toNatClampNeg (192 + z2)) then none else
  if z2 < 0 ∨ 12 ≤ (Int32.toNatClampNeg z2) then none else
  q_X12_again_s179_174 (z2 + 1) (tz_s (tz_s (tz_s (tz_s (tz_s (tz_s A 171 (Int32.toNatClampNeg z2) (tz_g A 179 (Int32.toNatClampNeg (132 + z2)))) 172 (Int32.toNatClampNeg z2) (tz_g (tz_s A 171 (Int32.toNatClampNeg z2) (tz_g A 179 (Int32.toNatClampNeg (132 + z2)))) 179 (Int32.toNatClampNeg (144 + z2)))) 173 (Int32.toNatClampNeg z2) (tz_g (tz_s (tz_s A 171 (Int32.toNatClampNeg z2) (tz_g A 179 (Int32.toNatClampNeg (132 + z2)))) 172 (Int32.toNatClampNeg z2) (tz_g (tz_s A 171 (Int32.toNatClampNeg z2) (tz_g A 179 (Int32.toNatClampNeg (132 + z2)))) 179 (Int32.toNatClampNeg (144 + z2)))) 179 (Int32.toNatClampNeg (156 + z2)))) 174 (Int32.toNatClampNeg z2) (tz_g (tz_s (tz_s (tz_s A 171 (Int32.toNatClampNeg z2) (tz_g A 179 (Int32.toNatClampNeg (132 + z2)))) 172 (Int32.toNatClampNeg z2) (tz_g (tz_s A 171 (Int32.toNatClampNeg z2) (tz_g A 179 (Int32.toNatClampNeg (132 + z2)))) 179 (Int32.toNatClampNeg (144 + z2)))) 173 (Int32.toNatClampNeg z2) (tz_g (tz_s (tz_s A 171 (Int32.toNatClampNeg z2) (tz_g A 179 (Int32.toNatClampNeg (132 + z2)))) 172 (Int32.toNatClampNeg z2) (tz_g (tz_s A 171 (Int32.toNatClampNeg z2) (tz_g A 179 (Int32.toNatClampNeg (132 + z2)))) 179 (Int32.toNatClampNeg (144 + z2)))) 179 (Int32.toNatClampNeg (156 + z2)))) 179 (Int32.toNatClampNeg (168 + z2)))) 175 (Int32.toNatClampNeg z2) (tz_g (tz_s (tz_s (tz_s (tz_s A 171 (Int32.toNatClampNeg z2) (tz_g A 179 (Int32.toNatClampNeg (132 + z2)))) 172 (Int32.toNatClampNeg z2) (tz_g (tz_s A 171 (Int32.toNatClampNeg z2) (tz_g A 179 (Int32.toNatClampNeg (132 + z2)))) 179 (Int32.toNatClampNeg (144 + z2)))) 173 (Int32.toNatClampNeg z2) (tz_g (tz_s (tz_s A 171 (Int32.toNatClampNeg z2) (tz_g A 179 (Int32.toNatClampNeg (132 + z2)))) 172 (Int32.toNatClampNeg z2) (tz_g (tz_s A 171 (Int32.toNatClampNeg z2) (tz_g A 179 (Int32.toNatClampNeg (132 + z2)))) 179 (Int32.toNatClampNeg (144 + z2)))) 179 (Int32.toNatClampNeg (156 + z2)))) 174 (Int32.toNatClampNeg z2) (tz_g (tz_s (tz_s (tz_s A 171 (Int32.toNatClampNeg z2) (tz_g A 179 (Int32.toNatClampNeg (132 + z2)))) 172 (Int32.toNatClampNeg z2) (tz_g (tz_s A 171 (Int32.toNatClampNeg z2) (tz_g A 179 (Int32.toNatClampNeg (132 + z2)))) 179 (Int32.toNatClampNeg (144 + z2)))) 173 (Int32.toNatClampNeg z2) (tz_g (tz_s (tz_s A 171 (Int32.toNatClampNeg z2) (tz_g A 179 (Int32.toNatClampNeg (132 + z2)))) 172 (Int32.toNatClampNeg z2) (tz_g (tz_s A 171 (Int32.toNatClampNeg z2) (tz_g A 179 (Int32.toNatClampNeg (132 + z2)))) 179 (Int32.toNatClampNeg (144 + z2)))) 179 (Int32.toNatClampNeg (156 + z2)))) 179 (Int32.toNatClampNeg (168 + z2)))) 179 (Int32.toNatClampNeg (180 + z2)))) 176 (Int32.toNatClampNeg z2) (tz_g (tz_s (tz_s (tz_s (tz_s (tz_s A 171 (Int32.toNatClampNeg z2) (tz_g A 179 (Int32.toNatClampNeg (132 + z2)))) 172 (Int32.toNatClampNeg z2) (tz_g (tz_s A 171 (Int32.toNatClampNeg z2) (tz_g A 179 (Int32.toNatClampNeg (132 + z2)))) 179 (Int32.toNatClampNeg (144 + z2)))) 173 (Int32.toNatClampNeg z2) (tz_g (tz_s (tz_s A 171 (Int32.toNatClampNeg z2) (tz_g A 179 (Int32.toNatClampNeg (132 + z2)))) 172 (Int32.toNatClampNeg z2) (tz_g (tz_s A 171 (Int32.toNatClampNeg z2) (tz_g A 179 (Int32.toNatClampNeg (132 + z2)))) 179 (Int32.toNatClampNeg (144 + z2)))) 179 (Int32.toNatClampNeg (156 + z2)))) 174 (Int32.toNatClampNeg z2) (tz_g (tz_s (tz_s (tz_s A 171 (Int32.toNatClampNeg z2) (tz_g A 179 (Int32.toNatClampNeg (132 + z2)))) 172 (Int32.toNatClampNeg z2) (tz_g (tz_s A 171 (Int32.toNatClampNeg z2) (tz_g A 179 (Int32.toNatClampNeg (132 + z2)))) 179 (Int32.toNatClampNeg (144 + z2)))) 173 (Int32.toNatClampNeg z2) (tz_g (tz_s (tz_s A 171 (Int32.toNatClampNeg z2) (tz_g A 179 (Int32.toNatClampNeg (132 + z2)))) 172 (Int32.toNatClampNeg z2) (tz_g (tz_s A 171 (Int32.toNatClampNeg z2) (tz_g A 179 (Int32.toNatClampNeg (132 + z2)))) 179 (Int32.toNatClampNeg (144 + z2)))) 179 (Int32.toNatClampNeg (156 + z2)))) 179 (Int32.toNatClampNeg (168 + z2)))) 175 (Int32.toNatClampNeg z2) (tz_g (tz_s (tz_s (tz_s (tz_s A 171 (Int32.toNatClampNeg z2) (tz_g A 179 (Int32.toNatClampNeg (132 + z2)))) 172 (Int32.toNatClampNeg z2) (tz_g (tz_s A 171 (Int32.toNatClampNeg z2) (tz_g A 179 (Int32.toNatClampNeg (132 + z2)))) 179 (Int32.toNatClampNeg (144 + z2)))) 173 (Int32.toNatClampNeg z2) (tz_g (tz_s (tz_s A 171 (Int32.toNatClampNeg z2) (tz_g A 179 (Int32.toNatClampNeg (132 + z2)))) 172 (Int32.toNatClampNeg z2) (tz_g (tz_s A 171 (Int32.toNatClampNeg z2) (tz_g A 179 (Int32.toNatClampNeg (132 + z2)))) 179 (Int32.toNatClampNeg (144 + z2)))) 179 (Int32.toNatClampNeg (156 + z2)))) 174 (Int32.toNatClampNeg z2) (tz_g (tz_s (tz_s (tz_s A 171 (Int32.toNatClampNeg z2) (tz_g A 179 (Int32.toNatClampNeg (132 + z2)))) 172 (Int32.toNatClampNeg z2) (tz_g (tz_s A 171 (Int32.toNatClampNeg z2) (tz_g A 179 (Int32.toNatClampNeg (132 + z2)))) 179 (Int32.toNatClampNeg (144 + z2)))) 173 (Int32.toNatClampNeg z2) (tz_g (tz_s (tz_s A 171 (Int32.toNatClampNeg z2) (tz_g A 179 (Int32.toNatClampNeg (132 + z2)))) 172 (Int32.toNatClampNeg z2) (tz_g (tz_s A 171 (Int32.toNatClampNeg z2) (tz_g A 179 (Int32.toNatClampNeg (132 + z2)))) 179 (Int32.toNatClampNeg (144 + z2)))) 179 (Int32.toNatClampNeg (156 + z2)))) 179 (Int32.toNatClampNeg (168 + z2)))) 179 (Int32.toNatClampNeg (180 + z2)))) 179 (Int32.toNatClampNeg (192 + z2)))) := by
  show tz_Go 211 174 [some (.ref 157), some (.ref 179), some (.int z2)] [] A = _
  refine (tz_g_iload_n rfl (tz_inM rfl rfl rfl)).trans ?_
  refine (tz_g_bipush (v := 12) rfl (tz_in0 rfl)).trans ?_
  refine (tz_g_ic_ge (t := 264) (by decide) (tz_in0 rfl)).trans ?_
  refine tz_cg ?_ ?_
  · skip
    refine (tz_g_aload_n rfl (tz_in0 rfl)).trans ?_
    refine (tz_g_aload_n rfl (tz_in0 rfl)).trans ?_
    refine (tz_g_sipush (v := 204) rfl (tz_in0 rfl)).trans ?_
    refine (tz_g_iald (n := 215) rfl rfl rfl (tz_in0 rfl)).trans ?_
    refine tz_cn1 ?_
    refine (tz_g_puti rfl rfl rfl (tz_in0 rfl)).trans ?_
    refine (tz_g_aload_n rfl (tz_in0 rfl)).trans ?_
    refine (tz_g_aload_n rfl (tz_in0 rfl)).trans ?_
    refine (tz_g_sipush (v := 205) rfl (tz_in0 rfl)).trans ?_
    refine (tz_g_iald (n := 215) rfl rfl rfl (tz_in0 rfl)).trans ?_
    refine tz_cn1 ?_
    refine (tz_g_puti rfl rfl rfl (tz_in0 rfl)).trans ?_
    refine (tz_g_aload_n rfl (tz_in0 rfl)).trans ?_
    refine (tz_g_aload_n rfl (tz_in0 rfl)).trans ?_
    refine (tz_g_sipush (v := 206) rfl (tz_in0 rfl)).trans ?_
    refine (tz_g_iald (n := 215) rfl rfl rfl (tz_in0 rfl)).trans ?_
    refine tz_cn1 ?_
    refine (tz_g_puti rfl rfl rfl (tz_in0 rfl)).trans ?_
    refine (tz_g_aload_n rfl (tz_in0 rfl)).trans ?_
    refine (tz_g_aload_n rfl (tz_in0 rfl)).trans ?_
    refine (tz_g_sipush (v := 207) rfl (tz_in0 rfl)).trans ?_
    refine (tz_g_iald (n := 215) rfl rfl rfl (tz_in0 rfl)).trans ?_
    refine tz_cn1 ?_
    refine (tz_g_puti rfl rfl rfl (tz_in0 rfl)).trans ?_
    refine (tz_g_aload_n rfl (tz_in0 rfl)).trans ?_
    refine (tz_g_aload_n rfl (tz_in0 rfl)).trans ?_
    refine (tz_g_sipush (v := 208) rfl (tz_in0 rfl)).trans ?_
    refine (tz_g_iald (n := 215) rfl rfl rfl (tz_in0 rfl)).trans ?_
    refine tz_cn1 ?_
    refine (tz_g_puti rfl rfl rfl (tz_in0 rfl)).trans ?_
    refine (tz_g_aload_n rfl (tz_in0 rfl)).trans ?_
    refine (tz_g_aload_n rfl (tz_in0 rfl)).trans ?_
    refine (tz_g_sipush (v := 209) rfl (tz_in0 rfl)).trans ?_
    refine (tz_g_iald (n := 215) rfl rfl rfl (tz_in0 rfl)).trans ?_
    refine tz_cn1 ?_
    refine (tz_g_puti rfl rfl rfl (tz_in0 rfl)).trans ?_
    refine (tz_g_aload_n rfl (tz_in0 rfl)).trans ?_
    refine (tz_g_aload_n rfl (tz_in0 rfl)).trans ?_
    refine (tz_g_sipush (v := 210) rfl (tz_in0 rfl)).trans ?_
    refine (tz_g_iald (n := 215) rfl rfl rfl (tz_in0 rfl)).trans ?_
    refine tz_cn1 ?_
    refine (tz_g_puti rfl rfl rfl (tz_in0 rfl)).trans ?_
    exact tz_g_ret0 (tz_in0 rfl) rfl
  · skip
    refine (tz_g_aload_n rfl (tz_in0 rfl)).trans ?_
    refine (tz_g_getr (j := 171) rfl rfl rfl rfl rfl (tz_in0 rfl)).trans ?_
    refine (tz_g_iload_n rfl (tz_in0 rfl)).trans ?_
    refine (tz_g_aload_n rfl (tz_in0 rfl)).trans ?_
    refine (tz_g_sipush (v := 132) rfl (tz_in0 rfl)).trans ?_
    refine (tz_g_iload_n rfl (tz_in0 rfl)).trans ?_
    refine (tz_g_iadd (tz_in0 rfl)).trans ?_
    refine (tz_g_iald (n := 215) rfl rfl rfl (tz_in0 rfl)).trans ?_
    refine tz_cn1 ?_
    refine (tz_g_iast (n := 12) rfl rfl rfl (tz_in0 rfl)).trans ?_
    refine tz_cn1 ?_
    refine (tz_g_aload_n rfl (tz_in0 rfl)).trans ?_
    refine (tz_g_getr (j := 172) rfl rfl rfl rfl rfl (tz_in0 rfl)).trans ?_
    refine (tz_g_iload_n rfl (tz_in0 rfl)).trans ?_
    refine (tz_g_aload_n rfl (tz_in0 rfl)).trans ?_
    refine (tz_g_sipush (v := 144) rfl (tz_in0 rfl)).trans ?_
    refine (tz_g_iload_n rfl (tz_in0 rfl)).trans ?_
    refine (tz_g_iadd (tz_in0 rfl)).trans ?_
    refine (tz_g_iald (n := 215) rfl rfl rfl (tz_in0 rfl)).trans ?_
    refine tz_cn1 ?_
    refine (tz_g_iast (n := 12) rfl rfl rfl (tz_in0 rfl)).trans ?_
    refine tz_cn1 ?_
    refine (tz_g_aload_n rfl (tz_in0 rfl)).trans ?_
    refine (tz_g_getr (j := 173) rfl rfl rfl rfl rfl (tz_in0 rfl)).trans ?_
    refine (tz_g_iload_n rfl (tz_in0 rfl)).trans ?_
    refine (tz_g_aload_n rfl (tz_in0 rfl)).trans ?_
    refine (tz_g_sipush (v := 156) rfl (tz_in0 rfl)).trans ?_
    refine (tz_g_iload_n rfl (tz_in0 rfl)).trans ?_
    refine (tz_g_iadd (tz_in0 rfl)).trans ?_
    refine (tz_g_iald (n := 215) rfl rfl rfl (tz_in0 rfl)).trans ?_
    refine tz_cn1 ?_
    refine (tz_g_iast (n := 12) rfl rfl rfl (tz_in0 rfl)).trans ?_
    refine tz_cn1 ?_
    refine (tz_g_aload_n rfl (tz_in0 rfl)).trans ?_
    refine (tz_g_getr (j := 174) rfl rfl rfl rfl rfl (tz_in0 rfl)).trans ?_
    refine (tz_g_iload_n rfl (tz_in0 rfl)).trans ?_
    refine (tz_g_aload_n rfl (tz_in0 rfl)).trans ?_
    refine (tz_g_sipush (v := 168) rfl (tz_in0 rfl)).trans ?_
    refine (tz_g_iload_n rfl (tz_in0 rfl)).trans ?_
    refine (tz_g_iadd (tz_in0 rfl)).trans ?_
    refine (tz_g_iald (n := 215) rfl rfl rfl (tz_in0 rfl)).trans ?_
    refine tz_cn1 ?_
    refine (tz_g_iast (n := 12) rfl rfl rfl (tz_in0 rfl)).trans ?_
    refine tz_cn1 ?_
    refine (tz_g_aload_n rfl (tz_in0 rfl)).trans ?_
    refine (tz_g_getr (j := 175) rfl rfl rfl rfl rfl (tz_in0 rfl)).trans ?_
    refine (tz_g_iload_n rfl (tz_in0 rfl)).trans ?_
    refine (tz_g_aload_n rfl (tz_in0 rfl)).trans ?_
    refine (tz_g_sipush (v := 180) rfl (tz_in0 rfl)).trans ?_
    refine (tz_g_iload_n rfl (tz_in0 rfl)).trans ?_
    refine (tz_g_iadd (tz_in0 rfl)).trans ?_
    refine (tz_g_iald (n := 215) rfl rfl rfl (tz_in0 rfl)).trans ?_
    refine tz_cn1 ?_
    refine (tz_g_iast (n := 12) rfl rfl rfl (tz_in0 rfl)).trans ?_
    refine tz_cn1 ?_
    refine (tz_g_aload_n rfl (tz_in0 rfl)).trans ?_
    refine (tz_g_getr (j := 176) rfl rfl rfl rfl rfl (tz_in0 rfl)).trans ?_
    refine (tz_g_iload_n rfl (tz_in0 rfl)).trans ?_
    refine (tz_g_aload_n rfl (tz_in0 rfl)).trans ?_
    refine (tz_g_sipush (v := 192) rfl (tz_in0 rfl)).trans ?_
    refine (tz_g_iload_n rfl (tz_in0 rfl)).trans ?_
    refine (tz_g_iadd (tz_in0 rfl)).trans ?_
    refine (tz_g_iald (n := 215) rfl rfl rfl (tz_in0 rfl)).trans ?_
    refine tz_cn1 ?_
    refine (tz_g_iast (n := 12) rfl rfl rfl (tz_in0 rfl)).trans ?_
    refine tz_cn1 ?_
    refine (tz_g_iinc (v := 1) (L2 := [some (.ref 157), some (.ref 179), some (.int (z2 + 1))]) rfl rfl rfl rfl (tz_in0 rfl)).trans ?_
    refine (tz_g_goto (t := 174) (by decide) (tz_in0 rfl)).trans ?_
    exact tz_Gm (L2 := [some (.ref 157), some (.ref 179), some (.int (z2 + 1))]) rfl rfl rfl rfl

theorem e_X12_again_s180 (A : tz_Mem) : f_X12_again_s180 A =
  q_X12_again_s180_2 0 A := by
  refine (tz_Fe (L := [some (.ref 157), some (.ref 180), none]) rfl).trans ?_
  refine (tz_g_iconst (v := 0) rfl (tz_in0 rfl)).trans ?_
  refine (tz_g_istore_n (L2 := [some (.ref 157), some (.ref 180), some (.int 0)]) rfl rfl (tz_in0 rfl)).trans ?_
  exact tz_Gm (L2 := [some (.ref 157), some (.ref 180), some (.int 0)]) rfl rfl rfl rfl

theorem e_X12_again_s180_2 (z2 : Int32) (A : tz_Mem) : q_X12_again_s180_2 z2 A =
  if 8 ≤ z2 then
  q_X12_again_s180_49 0 A
else
  if z2 < 0 ∨ 215 ≤ (Int32.toNatClampNeg z2) then none else
  if z2 < 0 ∨ 8 ≤ (Int32.toNatClampNeg z2) then none else
  if (8 + z2) < 0 ∨ 215 ≤ (Int32.toNatClampNeg (8 + z2)) then none else
  if z2 < 0 ∨ 8 ≤ (Int32.toNatClampNeg z2) then none else
  if (16 + z2) < 0 ∨ 215 ≤ (Int32.toNatClampNeg (16 + z2)) then none else
  if z2 < 0 ∨ 8 ≤ (Int32.toNatClampNeg z2) then none else
  q_X12_again_s180_2 (z2 + 1) (tz_s (tz_s (tz_s A 161 (Int32.toNatClampNeg z2) (tz_g A 180 (Int32.toNatClampNeg z2))) 162 (Int32.toNatClampNeg z2) (tz_g (tz_s A 161 (Int32.toNatClampNeg z2) (tz_g A 180 (Int32.toNatClampNeg z2))) 180 (Int32.toNatClampNeg (8 + z2)))) 163 (Int32.toNatClampNeg z2) (tz_g (tz_s (tz_s A 161 (Int32.toNatClampNeg z2) (tz_g A 180 (Int32.toNatClampNeg z2))) 162 (Int32.toNatClampNeg z2) (tz_g (tz_s A 161 (Int32.toNatClampNeg z2) (tz_g A 180 (Int32.toNatClampNeg z2))) 180 (Int32.toNatClampNeg (8 + z2)))) 180 (Int32.toNatClampNeg (16 + z2)))) := by
  show tz_Go 211 2 [some (.ref 157), some (.ref 180), some (.int z2)] [] A = _
  refine (tz_g_iload_n rfl (tz_inM rfl rfl rfl)).trans ?_
  refine (tz_g_bipush (v := 8) rfl (tz_in0 rfl)).trans ?_
  refine (tz_g_ic_ge (t := 47) (by decide) (tz_in0 rfl)).trans ?_
  refine tz_cg ?_ ?_
  · skip
    refine (tz_g_iconst (v := 0) rfl (tz_in0 rfl)).trans ?_
    refine (tz_g_istore_n (L2 := [some (.ref 157), some (.ref 180), some (.int 0)]) rfl rfl (tz_in0 rfl)).trans ?_
    exact tz_Gm (L2 := [some (.ref 157), some (.ref 180), some (.int 0)]) rfl rfl rfl rfl
  · skip
    refine (tz_g_aload_n rfl (tz_in0 rfl)).trans ?_
    refine (tz_g_getr (j := 161) rfl rfl rfl rfl rfl (tz_in0 rfl)).trans ?_
    refine (tz_g_iload_n rfl (tz_in0 rfl)).trans ?_
    refine (tz_g_aload_n rfl (tz_in0 rfl)).trans ?_
    refine (tz_g_iload_n rfl (tz_in0 rfl)).trans ?_
    refine (tz_g_iald (n := 215) rfl rfl rfl (tz_in0 rfl)).trans ?_
    refine tz_cn1 ?_
    refine (tz_g_iast (n := 8) rfl rfl rfl (tz_in0 rfl)).trans ?_
    refine tz_cn1 ?_
    refine (tz_g_aload_n rfl (tz_in0 rfl)).trans ?_
    refine (tz_g_getr (j := 162) rfl rfl rfl rfl rfl (tz_in0 rfl)).trans ?_
    refine (tz_g_iload_n rfl (tz_in0 rfl)).trans ?_
    refine (tz_g_aload_n rfl (tz_in0 rfl)).trans ?_
    refine (tz_g_bipush (v := 8) rfl (tz_in0 rfl)).trans ?_
    refine (tz_g_iload_n rfl (tz_in0 rfl)).trans ?_
    refine (tz_g_iadd (tz_in0 rfl)).trans ?_
    refine (tz_g_iald (n := 215) rfl rfl rfl (tz_in0 rfl)).trans ?_
    refine tz_cn1 ?_
    refine (tz_g_iast (n := 8) rfl rfl rfl (tz_in0 rfl)).trans ?_
    refine tz_cn1 ?_
    refine (tz_g_aload_n rfl (tz_in0 rfl)).trans ?_
    refine (tz_g_getr (j := 163) rfl rfl rfl rfl rfl (tz_in0 rfl)).trans ?_
    refine (tz_g_iload_n rfl (tz_in0 rfl)).trans ?_
    refine (tz_g_aload_n rfl (tz_in0 rfl)).trans ?_
    refine (tz_g_bipush (v := 16) rfl (tz_in0 rfl)).trans ?_
    refine (tz_g_iload_n rfl (tz_in0 rfl)).trans ?_
    refine (tz_g_iadd (tz_in0 rfl)).trans ?_
    refine (tz_g_iald (n := 215) rfl rfl rfl (tz_in0 rfl)).trans ?_
    refine tz_cn1 ?_
    refine (tz_g_iast (n := 8) rfl rfl rfl (tz_in0 rfl)).trans ?_
    refine tz_cn1 ?_
    refine (tz_g_iinc (v := 1) (L2 := [some (.ref 157), some (.ref 180), some (.int (z2 + 1))]) rfl rfl rfl rfl (tz_in0 rfl)).trans ?_
    refine (tz_g_goto (t := 2) (by decide) (tz_in0 rfl)).trans ?_
    exact tz_Gm (L2 := [some (.ref 157), some (.ref 180), some (.int (z2 + 1))]) rfl rfl rfl rfl

theorem e_X12_again_s180_49 (z2 : Int32) (A : tz_Mem) : q_X12_again_s180_49 z2 A =
  if 64 ≤ z2 then
  q_X12_again_s180_75 0 A
else
  if (24 + z2) < 0 ∨ 215 ≤ (Int32.toNatClampNeg (24 + z2)) then none else
  if z2 < 0 ∨ 64 ≤ (Int32.toNatClampNeg z2) then none else
  q_X12_again_s180_49 (z2 + 1) (tz_s A 164 (Int32.toNatClampNeg z2) (tz_g A 180 (Int32.toNatClampNeg (24 + z2)))) := by
  show tz_Go 211 49 [some (.ref 157), some (.ref 180), some (.int z2)] [] A = _
  refine (tz_g_iload_n rfl (tz_inM rfl rfl rfl)).trans ?_
  refine (tz_g_bipush (v := 64) rfl (tz_in0 rfl)).trans ?_
  refine (tz_g_ic_ge (t := 73) (by decide) (tz_in0 rfl)).trans ?_
  refine tz_cg ?_ ?_
  · skip
    refine (tz_g_iconst (v := 0) rfl (tz_in0 rfl)).trans ?_
    refine (tz_g_istore_n (L2 := [some (.ref 157), some (.ref 180), some (.int 0)]) rfl rfl (tz_in0 rfl)).trans ?_
    exact tz_Gm (L2 := [some (.ref 157), some (.ref 180), some (.int 0)]) rfl rfl rfl rfl
  · skip
    refine (tz_g_aload_n rfl (tz_in0 rfl)).trans ?_
    refine (tz_g_getr (j := 164) rfl rfl rfl rfl rfl (tz_in0 rfl)).trans ?_
    refine (tz_g_iload_n rfl (tz_in0 rfl)).trans ?_
    refine (tz_g_aload_n rfl (tz_in0 rfl)).trans ?_
    refine (tz_g_bipush (v := 24) rfl (tz_in0 rfl)).trans ?_
    refine (tz_g_iload_n rfl (tz_in0 rfl)).trans ?_
    refine (tz_g_iadd (tz_in0 rfl)).trans ?_
    refine (tz_g_iald (n := 215) rfl rfl rfl (tz_in0 rfl)).trans ?_
    refine tz_cn1 ?_
    refine (tz_g_iast (n := 64) rfl rfl rfl (tz_in0 rfl)).trans ?_
    refine tz_cn1 ?_
    refine (tz_g_iinc (v := 1) (L2 := [some (.ref 157), some (.ref 180), some (.int (z2 + 1))]) rfl rfl rfl rfl (tz_in0 rfl)).trans ?_
    refine (tz_g_goto (t := 49) (by decide) (tz_in0 rfl)).trans ?_
    exact tz_Gm (L2 := [some (.ref 157), some (.ref 180), some (.int (z2 + 1))]) rfl rfl rfl rfl

theorem e_X12_again_s180_75 (z2 : Int32) (A : tz_Mem) : q_X12_again_s180_75 z2 A =
  if 4 ≤ z2 then
  q_X12_again_s180_148 0 A
else
  if (88 + z2) < 0 ∨ 215 ≤ (Int32.toNatClampNeg (88 + z2)) then none else
  if z2 < 0 ∨ 4 ≤ (Int32.toNatClampNeg z2) then none else
  if (92 + z2) < 0 ∨ 215 ≤ (Int32.toNatClampNeg (92 + z2)) then none else
  if z2 < 0 ∨ 4 ≤ (Int32.toNatClampNeg z2) then none else
  if (96 + z2) < 0 ∨ 215 ≤ (Int32.toNatClampNeg (96 + z2)) then none else
  if z2 < 0 ∨ 4 ≤ (Int32.toNatClampNeg z2) then none else
  if (100 + z2) < 0 ∨ 215 ≤ (Int32.toNatClampNeg (100 + z2)) then none else
  if z2 < 0 ∨ 4 ≤ (Int32.toNatClampNeg z2) then none else
  if (104 + z2) < 0 ∨ 215 ≤ (Int32.toNatClampNeg (104 + z2)) then none else
  if z2 < 0 ∨ 4 ≤ (Int32.toNatClampNeg z2) then none else
  q_X12_again_s180_75 (z2 + 1) (tz_s (tz_s (tz_s (tz_s (tz_s A 165 (Int32.toNatClampNeg z2) (tz_g A 180 (Int32.toNatClampNeg (88 + z2)))) 167 (Int32.toNatClampNeg z2) (tz_g (tz_s A 165 (Int32.toNatClampNeg z2) (tz_g A 180 (Int32.toNatClampNeg (88 + z2)))) 180 (Int32.toNatClampNeg (92 + z2)))) 168 (Int32.toNatClampNeg z2) (tz_g (tz_s (tz_s A 165 (Int32.toNatClampNeg z2) (tz_g A 180 (Int32.toNatClampNeg (88 + z2)))) 167 (Int32.toNatClampNeg z2) (tz_g (tz_s A 165 (Int32.toNatClampNeg z2) (tz_g A 180 (Int32.toNatClampNeg (88 + z2)))) 180 (Int32.toNatClampNeg (92 + z2)))) 180 (Int32.toNatClampNeg (96 + z2)))) 169 (Int32.toNatClampNeg z2) (tz_g (tz_s (tz_s (tz_s A 165 (Int32.toNatClampNeg z2) (tz_g A 180 (Int32.toNatClampNeg (88 + z2)))) 167 (Int32.toNatClampNeg z2) (tz_g (tz_s A 165 (Int32.toNatClampNeg z2) (tz_g A 180 (Int32.toNatClampNeg (88 + z2)))) 180 (Int32.toNatClampNeg (92 + z2)))) 168 (Int32.toNatClampNeg z2) (tz_g (tz_s (tz_s A 165 (Int32.toNatClampNeg z2) (tz_g A 180 (Int32.toNatClampNeg (88 + z2)))) 167 (Int32.toNatClampNeg z2) (tz_g (tz_s A 165 (Int32.toNatClampNeg z2) (tz_g A 180 (Int32.toNatClampNeg (88 + z2)))) 180 (Int32.toNatClampNeg (92 + z2)))) 180 (Int32.toNatClampNeg (96 + z2)))) 180 (Int32.toNatClampNeg (100 + z2)))) 170 (Int32.toNatClampNeg z2) (tz_g (tz_s (tz_s (tz_s (tz_s A 165 (Int32.toNatClampNeg z2) (tz_g A 180 (Int32.toNatClampNeg (88 + z2)))) 167 (Int32.toNatClampNeg z2) (tz_g (tz_s A 165 (Int32.toNatClampNeg z2) (tz_g A 180 (Int32.toNatClampNeg (88 + z2)))) 180 (Int32.toNatClampNeg (92 + z2)))) 168 (Int32.toNatClampNeg z2) (tz_g (tz_s (tz_s A 165 (Int32.toNatClampNeg z2) (tz_g A 180 (Int32.toNatClampNeg (88 + z2)))) 167 (Int32.toNatClampNeg z2) (tz_g (tz_s A 165 (Int32.toNatClampNeg z2) (tz_g A 180 (Int32.toNatClampNeg (88 + z2)))) 180 (Int32.toNatClampNeg (92 + z2)))) 180 (Int32.toNatClampNeg (96 + z2)))) 169 (Int32.toNatClampNeg z2) (tz_g (tz_s (tz_s (tz_s A 165 (Int32.toNatClampNeg z2) (tz_g A 180 (Int32.toNatClampNeg (88 + z2)))) 167 (Int32.toNatClampNeg z2) (tz_g (tz_s A 165 (Int32.toNatClampNeg z2) (tz_g A 180 (Int32.toNatClampNeg (88 + z2)))) 180 (Int32.toNatClampNeg (92 + z2)))) 168 (Int32.toNatClampNeg z2) (tz_g (tz_s (tz_s A 165 (Int32.toNatClampNeg z2) (tz_g A 180 (Int32.toNatClampNeg (88 + z2)))) 167 (Int32.toNatClampNeg z2) (tz_g (tz_s A 165 (Int32.toNatClampNeg z2) (tz_g A 180 (Int32.toNatClampNeg (88 + z2)))) 180 (Int32.toNatClampNeg (92 + z2)))) 180 (Int32.toNatClampNeg (96 + z2)))) 180 (Int32.toNatClampNeg (100 + z2)))) 180 (Int32.toNatClampNeg (104 + z2)))) := by
  show tz_Go 211 75 [some (.ref 157), some (.ref 180), some (.int z2)] [] A = _
  refine (tz_g_iload_n rfl (tz_inM rfl rfl rfl)).trans ?_
  refine (tz_g_iconst (v := 4) rfl (tz_in0 rfl)).trans ?_
  refine (tz_g_ic_ge (t := 146) (by decide) (tz_in0 rfl)).trans ?_
  refine tz_cg ?_ ?_
  · skip
    refine (tz_g_iconst (v := 0) rfl (tz_in0 rfl)).trans ?_
    refine (tz_g_istore_n (L2 := [some (.ref 157), some (.ref 180), some (.int 0)]) rfl rfl (tz_in0 rfl)).trans ?_
    exact tz_Gm (L2 := [some (.ref 157), some (.ref 180), some (.int 0)]) rfl rfl rfl rfl
  · skip
    refine (tz_g_aload_n rfl (tz_in0 rfl)).trans ?_
    refine (tz_g_getr (j := 165) rfl rfl rfl rfl rfl (tz_in0 rfl)).trans ?_
    refine (tz_g_iload_n rfl (tz_in0 rfl)).trans ?_
    refine (tz_g_aload_n rfl (tz_in0 rfl)).trans ?_
    refine (tz_g_bipush (v := 88) rfl (tz_in0 rfl)).trans ?_
    refine (tz_g_iload_n rfl (tz_in0 rfl)).trans ?_
    refine (tz_g_iadd (tz_in0 rfl)).trans ?_
    refine (tz_g_iald (n := 215) rfl rfl rfl (tz_in0 rfl)).trans ?_
    refine tz_cn1 ?_
    refine (tz_g_iast (n := 4) rfl rfl rfl (tz_in0 rfl)).trans ?_
    refine tz_cn1 ?_
    refine (tz_g_aload_n rfl (tz_in0 rfl)).trans ?_
    refine (tz_g_getr (j := 167) rfl rfl rfl rfl rfl (tz_in0 rfl)).trans ?_
    refine (tz_g_iload_n rfl (tz_in0 rfl)).trans ?_
    refine (tz_g_aload_n rfl (tz_in0 rfl)).trans ?_
    refine (tz_g_bipush (v := 92) rfl (tz_in0 rfl)).trans ?_
    refine (tz_g_iload_n rfl (tz_in0 rfl)).trans ?_
    refine (tz_g_iadd (tz_in0 rfl)).trans ?_
    refine (tz_g_iald (n := 215) rfl rfl rfl (tz_in0 rfl)).trans ?_
    refine tz_cn1 ?_
    refine (tz_g_iast (n := 4) rfl rfl rfl (tz_in0 rfl)).trans ?_
    refine tz_cn1 ?_
    refine (tz_g_aload_n rfl (tz_in0 rfl)).trans ?_
    refine (tz_g_getr (j := 168) rfl rfl rfl rfl rfl (tz_in0 rfl)).trans ?_
    refine (tz_g_iload_n rfl (tz_in0 rfl)).trans ?_
    refine (tz_g_aload_n rfl (tz_in0 rfl)).trans ?_
    refine (tz_g_bipush (v := 96) rfl (tz_in0 rfl)).trans ?_
    refine (tz_g_iload_n rfl (tz_in0 rfl)).trans ?_
    refine (tz_g_iadd (tz_in0 rfl)).trans ?_
    refine (tz_g_iald (n := 215) rfl rfl rfl (tz_in0 rfl)).trans ?_
    refine tz_cn1 ?_
    refine (tz_g_iast (n := 4) rfl rfl rfl (tz_in0 rfl)).trans ?_
    refine tz_cn1 ?_
    refine (tz_g_aload_n rfl (tz_in0 rfl)).trans ?_
    refine (tz_g_getr (j := 169) rfl rfl rfl rfl rfl (tz_in0 rfl)).trans ?_
    refine (tz_g_iload_n rfl (tz_in0 rfl)).trans ?_
    refine (tz_g_aload_n rfl (tz_in0 rfl)).trans ?_
    refine (tz_g_bipush (v := 100) rfl (tz_in0 rfl)).trans ?_
    refine (tz_g_iload_n rfl (tz_in0 rfl)).trans ?_
    refine (tz_g_iadd (tz_in0 rfl)).trans ?_
    refine (tz_g_iald (n := 215) rfl rfl rfl (tz_in0 rfl)).trans ?_
    refine tz_cn1 ?_
    refine (tz_g_iast (n := 4) rfl rfl rfl (tz_in0 rfl)).trans ?_
    refine tz_cn1 ?_
    refine (tz_g_aload_n rfl (tz_in0 rfl)).trans ?_
    refine (tz_g_getr (j := 170) rfl rfl rfl rfl rfl (tz_in0 rfl)).trans ?_
    refine (tz_g_iload_n rfl (tz_in0 rfl)).trans ?_
    refine (tz_g_aload_n rfl (tz_in0 rfl)).trans ?_
    refine (tz_g_bipush (v := 104) rfl (tz_in0 rfl)).trans ?_
    refine (tz_g_iload_n rfl (tz_in0 rfl)).trans ?_
    refine (tz_g_iadd (tz_in0 rfl)).trans ?_
    refine (tz_g_iald (n := 215) rfl rfl rfl (tz_in0 rfl)).trans ?_
    refine tz_cn1 ?_
    refine (tz_g_iast (n := 4) rfl rfl rfl (tz_in0 rfl)).trans ?_
    refine tz_cn1 ?_
    refine (tz_g_iinc (v := 1) (L2 := [some (.ref 157), some (.ref 180), some (.int (z2 + 1))]) rfl rfl rfl rfl (tz_in0 rfl)).trans ?_
    refine (tz_g_goto (t := 75) (by decide) (tz_in0 rfl)).trans ?_
    exact tz_Gm (L2 := [some (.ref 157), some (.ref 180), some (.int (z2 + 1))]) rfl rfl rfl rfl

theorem e_X12_again_s180_148 (z2 : Int32) (A : tz_Mem) : q_X12_again_s180_148 z2 A =
  if 24 ≤ z2 then
  q_X12_again_s180_174 0 A
else
  if (108 + z2) < 0 ∨ 215 ≤ (Int32.toNatClampNeg (108 + z2)) then none else
  if z2 < 0 ∨ 24 ≤ (Int32.toNatClampNeg z2) then none else
  q_X12_again_s180_148 (z2 + 1) (tz_s A 166 (Int32.toNatClampNeg z2) (tz_g A 180 (Int32.toNatClampNeg (108 + z2)))) := by
  show tz_Go 211 148 [some (.ref 157), some (.ref 180), some (.int z2)] [] A = _
  refine (tz_g_iload_n rfl (tz_inM rfl rfl rfl)).trans ?_
  refine (tz_g_bipush (v := 24) rfl (tz_in0 rfl)).trans ?_
  refine (tz_g_ic_ge (t := 172) (by decide) (tz_in0 rfl)).trans ?_
  refine tz_cg ?_ ?_
  · skip
    refine (tz_g_iconst (v := 0) rfl (tz_in0 rfl)).trans ?_
    refine (tz_g_istore_n (L2 := [some (.ref 157), some (.ref 180), some (.int 0)]) rfl rfl (tz_in0 rfl)).trans ?_
    exact tz_Gm (L2 := [some (.ref 157), some (.ref 180), some (.int 0)]) rfl rfl rfl rfl
  · skip
    refine (tz_g_aload_n rfl (tz_in0 rfl)).trans ?_
    refine (tz_g_getr (j := 166) rfl rfl rfl rfl rfl (tz_in0 rfl)).trans ?_
    refine (tz_g_iload_n rfl (tz_in0 rfl)).trans ?_
    refine (tz_g_aload_n rfl (tz_in0 rfl)).trans ?_
    refine (tz_g_bipush (v := 108) rfl (tz_in0 rfl)).trans ?_
    refine (tz_g_iload_n rfl (tz_in0 rfl)).trans ?_
    refine (tz_g_iadd (tz_in0 rfl)).trans ?_
    refine (tz_g_iald (n := 215) rfl rfl rfl (tz_in0 rfl)).trans ?_
    refine tz_cn1 ?_
    refine (tz_g_iast (n := 24) rfl rfl rfl (tz_in0 rfl)).trans ?_
    refine tz_cn1 ?_
    refine (tz_g_iinc (v := 1) (L2 := [some (.ref 157), some (.ref 180), some (.int (z2 + 1))]) rfl rfl rfl rfl (tz_in0 rfl)).trans ?_
    refine (tz_g_goto (t := 148) (by decide) (tz_in0 rfl)).trans ?_
    exact tz_Gm (L2 := [some (.ref 157), some (.ref 180), some (.int (z2 + 1))]) rfl rfl rfl rfl

theorem e_X12_again_s180_174 (z2 : Int32) (A : tz_Mem) : q_X12_again_s180_174 z2 A =
  if 12 ≤ z2 then
  if (204 : Int32) < 0 ∨ 215 ≤ 204 then none else
  if (205 : Int32) < 0 ∨ 215 ≤ 205 then none else
  if (206 : Int32) < 0 ∨ 215 ≤ 206 then none else
  if (207 : Int32) < 0 ∨ 215 ≤ 207 then none else
  if (208 : Int32) < 0 ∨ 215 ≤ 208 then none else
  if (209 : Int32) < 0 ∨ 215 ≤ 209 then none else
  if (210 : Int32) < 0 ∨ 215 ≤ 210 then none else
  some (none, (tz_s (tz_s (tz_s (tz_s (tz_s (tz_s (tz_s A 157 3 (tz_g A 180 204)) 157 8 (tz_g (tz_s A 157 3 (tz_g A 180 204)) 180 205)) 157 15 (tz_g (tz_s (tz_s A 157 3 (tz_g A 180 204)) 157 8 (tz_g (tz_s A 157 3 (tz_g A 180 204)) 180 205)) 180 206)) 157 22 (tz_g (tz_s (tz_s (tz_s A 157 3 (tz_g A 180 204)) 157 8 (tz_g (tz_s A 157 3 (tz_g A 180 204)) 180 205)) 157 15 (tz_g (tz_s (tz_s A 157 3 (tz_g A 180 204)) 157 8 (tz_g (tz_s A 157 3 (tz_g A 180 204)) 180 205)) 180 206)) 180 207)) 157 23 (tz_g (tz_s (tz_s (tz_s (tz_s A 157 3 (tz_g A 180 204)) 157 8 (tz_g (tz_s A 157 3 (tz_g A 180 204)) 180 205)) 157 15 (tz_g (tz_s (tz_s A 157 3 (tz_g A 180 204)) 157 8 (tz_g (tz_s A 157 3 (tz_g A 180 204)) 180 205)) 180 206)) 157 22 (tz_g (tz_s (tz_s (tz_s A 157 3 (tz_g A 180 204)) 157 8 (tz_g (tz_s A 157 3 (tz_g A 180 204)) 180 205)) 157 15 (tz_g (tz_s (tz_s A 157 3 (tz_g A 180 204)) 157 8 (tz_g (tz_s A 157 3 (tz_g A 180 204)) 180 205)) 180 206)) 180 207)) 180 208)) 157 24 (tz_g (tz_s (tz_s (tz_s (tz_s (tz_s A 157 3 (tz_g A 180 204)) 157 8 (tz_g (tz_s A 157 3 (tz_g A 180 204)) 180 205)) 157 15 (tz_g (tz_s (tz_s A 157 3 (tz_g A 180 204)) 157 8 (tz_g (tz_s A 157 3 (tz_g A 180 204)) 180 205)) 180 206)) 157 22 (tz_g (tz_s (tz_s (tz_s A 157 3 (tz_g A 180 204)) 157 8 (tz_g (tz_s A 157 3 (tz_g A 180 204)) 180 205)) 157 15 (tz_g (tz_s (tz_s A 157 3 (tz_g A 180 204)) 157 8 (tz_g (tz_s A 157 3 (tz_g A 180 204)) 180 205)) 180 206)) 180 207)) 157 23 (tz_g (tz_s (tz_s (tz_s (tz_s A 157 3 (tz_g A 180 204)) 157 8 (tz_g (tz_s A 157 3 (tz_g A 180 204)) 180 205)) 157 15 (tz_g (tz_s (tz_s A 157 3 (tz_g A 180 204)) 157 8 (tz_g (tz_s A 157 3 (tz_g A 180 204)) 180 205)) 180 206)) 157 22 (tz_g (tz_s (tz_s (tz_s A 157 3 (tz_g A 180 204)) 157 8 (tz_g (tz_s A 157 3 (tz_g A 180 204)) 180 205)) 157 15 (tz_g (tz_s (tz_s A 157 3 (tz_g A 180 204)) 157 8 (tz_g (tz_s A 157 3 (tz_g A 180 204)) 180 205)) 180 206)) 180 207)) 180 208)) 180 209)) 157 25 (tz_g (tz_s (tz_s (tz_s (tz_s (tz_s (tz_s A 157 3 (tz_g A 180 204)) 157 8 (tz_g (tz_s A 157 3 (tz_g A 180 204)) 180 205)) 157 15 (tz_g (tz_s (tz_s A 157 3 (tz_g A 180 204)) 157 8 (tz_g (tz_s A 157 3 (tz_g A 180 204)) 180 205)) 180 206)) 157 22 (tz_g (tz_s (tz_s (tz_s A 157 3 (tz_g A 180 204)) 157 8 (tz_g (tz_s A 157 3 (tz_g A 180 204)) 180 205)) 157 15 (tz_g (tz_s (tz_s A 157 3 (tz_g A 180 204)) 157 8 (tz_g (tz_s A 157 3 (tz_g A 180 204)) 180 205)) 180 206)) 180 207)) 157 23 (tz_g (tz_s (tz_s (tz_s (tz_s A 157 3 (tz_g A 180 204)) 157 8 (tz_g (tz_s A 157 3 (tz_g A 180 204)) 180 205)) 157 15 (tz_g (tz_s (tz_s A 157 3 (tz_g A 180 204)) 157 8 (tz_g (tz_s A 157 3 (tz_g A 180 204)) 180 205)) 180 206)) 157 22 (tz_g (tz_s (tz_s (tz_s A 157 3 (tz_g A 180 204)) 157 8 (tz_g (tz_s A 157 3 (tz_g A 180 204)) 180 205)) 157 15 (tz_g (tz_s (tz_s A 157 3 (tz_g A 180 204)) 157 8 (tz_g (tz_s A 157 3 (tz_g A 180 204)) 180 205)) 180 206)) 180 207)) 180 208)) 157 24 (tz_g (tz_s (tz_s (tz_s (tz_s (tz_s A 157 3 (tz_g A 180 204)) 157 8 (tz_g (tz_s A 157 3 (tz_g A 180 204)) 180 205)) 157 15 (tz_g (tz_s (tz_s A 157 3 (tz_g A 180 204)) 157 8 (tz_g (tz_s A 157 3 (tz_g A 180 204)) 180 205)) 180 206)) 157 22 (tz_g (tz_s (tz_s (tz_s A 157 3 (tz_g A 180 204)) 157 8 (tz_g (tz_s A 157 3 (tz_g A 180 204)) 180 205)) 157 15 (tz_g (tz_s (tz_s A 157 3 (tz_g A 180 204)) 157 8 (tz_g (tz_s A 157 3 (tz_g A 180 204)) 180 205)) 180 206)) 180 207)) 157 23 (tz_g (tz_s (tz_s (tz_s (tz_s A 157 3 (tz_g A 180 204)) 157 8 (tz_g (tz_s A 157 3 (tz_g A 180 204)) 180 205)) 157 15 (tz_g (tz_s (tz_s A 157 3 (tz_g A 180 204)) 157 8 (tz_g (tz_s A 157 3 (tz_g A 180 204)) 180 205)) 180 206)) 157 22 (tz_g (tz_s (tz_s (tz_s A 157 3 (tz_g A 180 204)) 157 8 (tz_g (tz_s A 157 3 (tz_g A 180 204)) 180 205)) 157 15 (tz_g (tz_s (tz_s A 157 3 (tz_g A 180 204)) 157 8 (tz_g (tz_s A 157 3 (tz_g A 180 204)) 180 205)) 180 206)) 180 207)) 180 208)) 180 209)) 180 210)))
else
  if (132 + z2) < 0 ∨ 215 ≤ (Int32.toNatClampNeg (132 + z2)) then none else
  if z2 < 0 ∨ 12 ≤ (Int32.toNatClampNeg z2) then none else
  if (144 + z2) < 0 ∨ 215 ≤ (Int32.toNatClampNeg (144 + z2)) then none else
  if z2 < 0 ∨ 12 ≤ (Int32.toNatClampNeg z2) then none else
  if (156 + z2) < 0 ∨ 215 ≤ (Int32.toNatClampNeg (156 + z2)) then none else
  if z2 < 0 ∨ 12 ≤ (Int32.toNatClampNeg z2) then none else
  if (168 + z2) < 0 ∨ 215 ≤ (Int32.toNatClampNeg (168 + z2)) then none else
  if z2 < 0 ∨ 12 ≤ (Int32.toNatClampNeg z2) then none else
  if (180 + z2) < 0 ∨ 215 ≤ (Int32.toNatClampNeg (180 + z2)) then none else
  if z2 < 0 ∨ 12 ≤ (Int32.toNatClampNeg z2) then none else
  if (192 + z2) < 0 ∨ 215 ≤ (Int32.toNatClampNeg (192 + z2)) then none else
  if z2 < 0 ∨ 12 ≤ (Int32.toNatClampNeg z2) then none else
  q_X12_again_s180_174 (z2 + 1) (tz_s (tz_s (tz_s (tz_s (tz_s (tz_s A 171 (Int32.toNatClampNeg z2) (tz_g A 180 (Int32.toNatClampNeg (132 + z2)))) 172 (Int32.toNatClampNeg z2) (tz_g (tz_s A 171 (Int32.toNatClampNeg z2) (tz_g A 180 (Int32.toNatClampNeg (132 + z2)))) 180 (Int32.toNatClampNeg (144 + z2)))) 173 (Int32.toNatClampNeg z2) (tz_g (tz_s (tz_s A 171 (Int32.toNatClampNeg z2) (tz_g A 180 (Int32.toNatClampNeg (132 + z2)))) 172 (Int32.toNatClampNeg z2) (tz_g (tz_s A 171 (Int32.toNatClampNeg z2) (tz_g A 180 (Int32.toNatClampNeg (132 + z2)))) 180 (Int32.toNatClampNeg (144 + z2)))) 180 (Int32.toNatClampNeg (156 + z2)))) 174 (Int32.toNatClampNeg z2) (tz_g (tz_s (tz_s (tz_s A 171 (Int32.toNatClampNeg z2) (tz_g A 180 (Int32.toNatClampNeg (132 + z2)))) 172 (Int32.toNatClampNeg z2) (tz_g (tz_s A 171 (Int32.toNatClampNeg z2) (tz_g A 180 (Int32.toNatClampNeg (132 + z2)))) 180 (Int32.toNatClampNeg (144 + z2)))) 173 (Int32.toNatClampNeg z2) (tz_g (tz_s (tz_s A 171 (Int32.toNatClampNeg z2) (tz_g A 180 (Int32.toNatClampNeg (132 + z2)))) 172 (Int32.toNatClampNeg z2) (tz_g (tz_s A 171 (Int32.toNatClampNeg z2) (tz_g A 180 (Int32.toNatClampNeg (132 + z2)))) 180 (Int32.toNatClampNeg (144 + z2)))) 180 (Int32.toNatClampNeg (156 + z2)))) 180 (Int32.toNatClampNeg (168 + z2)))) 175 (Int32.toNatClampNeg z2) (tz_g (tz_s (tz_s (tz_s (tz_s A 171 (Int32.toNatClampNeg z2) (tz_g A 180 (Int32.toNatClampNeg (132 + z2)))) 172 (Int32.toNatClampNeg z2) (tz_g (tz_s A 171 (Int32.toNatClampNeg z2) (tz_g A 180 (Int32.toNatClampNeg (132 + z2)))) 180 (Int32.toNatClampNeg (144 + z2)))) 173 (Int32.toNatClampNeg z2) (tz_g (tz_s (tz_s A 171 (Int32.toNatClampNeg z2) (tz_g A 180 (Int32.toNatClampNeg (132 + z2)))) 172 (Int32.toNatClampNeg z2) (tz_g (tz_s A 171 (Int32.toNatClampNeg z2) (tz_g A 180 (Int32.toNatClampNeg (132 + z2)))) 180 (Int32.toNatClampNeg (144 + z2)))) 180 (Int32.toNatClampNeg (156 + z2)))) 174 (Int32.toNatClampNeg z2) (tz_g (tz_s (tz_s (tz_s A 171 (Int32.toNatClampNeg z2) (tz_g A 180 (Int32.toNatClampNeg (132 + z2)))) 172 (Int32.toNatClampNeg z2) (tz_g (tz_s A 171 (Int32.toNatClampNeg z2) (tz_g A 180 (Int32.toNatClampNeg (132 + z2)))) 180 (Int32.toNatClampNeg (144 + z2)))) 173 (Int32.toNatClampNeg z2) (tz_g (tz_s (tz_s A 171 (Int32.toNatClampNeg z2) (tz_g A 180 (Int32.toNatClampNeg (132 + z2)))) 172 (Int32.toNatClampNeg z2) (tz_g (tz_s A 171 (Int32.toNatClampNeg z2) (tz_g A 180 (Int32.toNatClampNeg (132 + z2)))) 180 (Int32.toNatClampNeg (144 + z2)))) 180 (Int32.toNatClampNeg (156 + z2)))) 180 (Int32.toNatClampNeg (168 + z2)))) 180 (Int32.toNatClampNeg (180 + z2)))) 176 (Int32.toNatClampNeg z2) (tz_g (tz_s (tz_s (tz_s (tz_s (tz_s A 171 (Int32.toNatClampNeg z2) (tz_g A 180 (Int32.toNatClampNeg (132 + z2)))) 172 (Int32.toNatClampNeg z2) (tz_g (tz_s A 171 (Int32.toNatClampNeg z2) (tz_g A 180 (Int32.toNatClampNeg (132 + z2)))) 180 (Int32.toNatClampNeg (144 + z2)))) 173 (Int32.toNatClampNeg z2) (tz_g (tz_s (tz_s A 171 (Int32.toNatClampNeg z2) (tz_g A 180 (Int32.toNatClampNeg (132 + z2)))) 172 (Int32.toNatClampNeg z2) (tz_g (tz_s A 171 (Int32.toNatClampNeg z2) (tz_g A 180 (Int32.toNatClampNeg (132 + z2)))) 180 (Int32.toNatClampNeg (144 + z2)))) 180 (Int32.toNatClampNeg (156 + z2)))) 174 (Int32.toNatClampNeg z2) (tz_g (tz_s (tz_s (tz_s A 171 (Int32.toNatClampNeg z2) (tz_g A 180 (Int32.toNatClampNeg (132 + z2)))) 172 (Int32.toNatClampNeg z2) (tz_g (tz_s A 171 (Int32.toNatClampNeg z2) (tz_g A 180 (Int32.toNatClampNeg (132 + z2)))) 180 (Int32.toNatClampNeg (144 + z2)))) 173 (Int32.toNatClampNeg z2) (tz_g (tz_s (tz_s A 171 (Int32.toNatClampNeg z2) (tz_g A 180 (Int32.toNatClampNeg (132 + z2)))) 172 (Int32.toNatClampNeg z2) (tz_g (tz_s A 171 (Int32.toNatClampNeg z2) (tz_g A 180 (Int32.toNatClampNeg (132 + z2)))) 180 (Int32.toNatClampNeg (144 + z2)))) 180 (Int32.toNatClampNeg (156 + z2)))) 180 (Int32.toNatClampNeg (168 + z2)))) 175 (Int32.toNatClampNeg z2) (tz_g (tz_s (tz_s (tz_s (tz_s A 171 (Int32.toNatClampNeg z2) (tz_g A 180 (Int32.toNatClampNeg (132 + z2)))) 172 (Int32.toNatClampNeg z2) (tz_g (tz_s A 171 (Int32.toNatClampNeg z2) (tz_g A 180 (Int32.toNatClampNeg (132 + z2)))) 180 (Int32.toNatClampNeg (144 + z2)))) 173 (Int32.toNatClampNeg z2) (tz_g (tz_s (tz_s A 171 (Int32.toNatClampNeg z2) (tz_g A 180 (Int32.toNatClampNeg (132 + z2)))) 172 (Int32.toNatClampNeg z2) (tz_g (tz_s A 171 (Int32.toNatClampNeg z2) (tz_g A 180 (Int32.toNatClampNeg (132 + z2)))) 180 (Int32.toNatClampNeg (144 + z2)))) 180 (Int32.toNatClampNeg (156 + z2)))) 174 (Int32.toNatClampNeg z2) (tz_g (tz_s (tz_s (tz_s A 171 (Int32.toNatClampNeg z2) (tz_g A 180 (Int32.toNatClampNeg (132 + z2)))) 172 (Int32.toNatClampNeg z2) (tz_g (tz_s A 171 (Int32.toNatClampNeg z2) (tz_g A 180 (Int32.toNatClampNeg (132 + z2)))) 180 (Int32.toNatClampNeg (144 + z2)))) 173 (Int32.toNatClampNeg z2) (tz_g (tz_s (tz_s A 171 (Int32.toNatClampNeg z2) (tz_g A 180 (Int32.toNatClampNeg (132 + z2)))) 172 (Int32.toNatClampNeg z2) (tz_g (tz_s A 171 (Int32.toNatClampNeg z2) (tz_g A 180 (Int32.toNatClampNeg (132 + z2)))) 180 (Int32.toNatClampNeg (144 + z2)))) 180 (Int32.toNatClampNeg (156 + z2)))) 180 (Int32.toNatClampNeg (168 + z2)))) 180 (Int32.toNatClampNeg (180 + z2)))) 180 (Int32.toNatClampNeg (192 + z2)))) := by
  show tz_Go 211 174 [some (.ref 157), some (.ref 180), some (.int z2)] [] A = _
  refine (tz_g_iload_n rfl (tz_inM rfl rfl rfl)).trans ?_
  refine (tz_g_bipush (v := 12) rfl (tz_in0 rfl)).trans ?_
  refine (tz_g_ic_ge (t := 264) (by decide) (tz_in0 rfl)).trans ?_
  refine tz_cg ?_ ?_
  · skip
    refine (tz_g_aload_n rfl (tz_in0 rfl)).trans ?_
    refine (tz_g_aload_n rfl (tz_in0 rfl)).trans ?_
    refine (tz_g_sipush (v := 204) rfl (tz_in0 rfl)).trans ?_
    refine (tz_g_iald (n := 215) rfl rfl rfl (tz_in0 rfl)).trans ?_
    refine tz_cn1 ?_
    refine (tz_g_puti rfl rfl rfl (tz_in0 rfl)).trans ?_
    refine (tz_g_aload_n rfl (tz_in0 rfl)).trans ?_
    refine (tz_g_aload_n rfl (tz_in0 rfl)).trans ?_
    refine (tz_g_sipush (v := 205) rfl (tz_in0 rfl)).trans ?_
    refine (tz_g_iald (n := 215) rfl rfl rfl (tz_in0 rfl)).trans ?_
    refine tz_cn1 ?_
    refine (tz_g_puti rfl rfl rfl (tz_in0 rfl)).trans ?_
    refine (tz_g_aload_n rfl (tz_in0 rfl)).trans ?_
    refine (tz_g_aload_n rfl (tz_in0 rfl)).trans ?_
    refine (tz_g_sipush (v := 206) rfl (tz_in0 rfl)).trans ?_
    refine (tz_g_iald (n := 215) rfl rfl rfl (tz_in0 rfl)).trans ?_
    refine tz_cn1 ?_
    refine (tz_g_puti rfl rfl rfl (tz_in0 rfl)).trans ?_
    refine (tz_g_aload_n rfl (tz_in0 rfl)).trans ?_
    refine (tz_g_aload_n rfl (tz_in0 rfl)).trans ?_
    refine (tz_g_sipush (v := 207) rfl (tz_in0 rfl)).trans ?_
    refine (tz_g_iald (n := 215) rfl rfl rfl (tz_in0 rfl)).trans ?_
    refine tz_cn1 ?_
    refine (tz_g_puti rfl rfl rfl (tz_in0 rfl)).trans ?_
    refine (tz_g_aload_n rfl (tz_in0 rfl)).trans ?_
    refine (tz_g_aload_n rfl (tz_in0 rfl)).trans ?_
    refine (tz_g_sipush (v := 208) rfl (tz_in0 rfl)).trans ?_
    refine (tz_g_iald (n := 215) rfl rfl rfl (tz_in0 rfl)).trans ?_
    refine tz_cn1 ?_
    refine (tz_g_puti rfl rfl rfl (tz_in0 rfl)).trans ?_
    refine (tz_g_aload_n rfl (tz_in0 rfl)).trans ?_
    refine (tz_g_aload_n rfl (tz_in0 rfl)).trans ?_
    refine (tz_g_sipush (v := 209) rfl (tz_in0 rfl)).trans ?_
    refine (tz_g_iald (n := 215) rfl rfl rfl (tz_in0 rfl)).trans ?_
    refine tz_cn1 ?_
    refine (tz_g_puti rfl rfl rfl (tz_in0 rfl)).trans ?_
    refine (tz_g_aload_n rfl (tz_in0 rfl)).trans ?_
    refine (tz_g_aload_n rfl (tz_in0 rfl)).trans ?_
    refine (tz_g_sipush (v := 210) rfl (tz_in0 rfl)).trans ?_
    refine (tz_g_iald (n := 215) rfl rfl rfl (tz_in0 rfl)).trans ?_
    refine tz_cn1 ?_
    refine (tz_g_puti rfl rfl rfl (tz_in0 rfl)).trans ?_
    exact tz_g_ret0 (tz_in0 rfl) rfl
  · skip
    refine (tz_g_aload_n rfl (tz_in0 rfl)).trans ?_
    refine (tz_g_getr (j := 171) rfl rfl rfl rfl rfl (tz_in0 rfl)).trans ?_
    refine (tz_g_iload_n rfl (tz_in0 rfl)).trans ?_
    refine (tz_g_aload_n rfl (tz_in0 rfl)).trans ?_
    refine (tz_g_sipush (v := 132) rfl (tz_in0 rfl)).trans ?_
    refine (tz_g_iload_n rfl (tz_in0 rfl)).trans ?_
    refine (tz_g_iadd (tz_in0 rfl)).trans ?_
    refine (tz_g_iald (n := 215) rfl rfl rfl (tz_in0 rfl)).trans ?_
    refine tz_cn1 ?_
    refine (tz_g_iast (n := 12) rfl rfl rfl (tz_in0 rfl)).trans ?_
    refine tz_cn1 ?_
    refine (tz_g_aload_n rfl (tz_in0 rfl)).trans ?_
    refine (tz_g_getr (j := 172) rfl rfl rfl rfl rfl (tz_in0 rfl)).trans ?_
    refine (tz_g_iload_n rfl (tz_in0 rfl)).trans ?_
    refine (tz_g_aload_n rfl (tz_in0 rfl)).trans ?_
    refine (tz_g_sipush (v := 144) rfl (tz_in0 rfl)).trans ?_
    refine (tz_g_iload_n rfl (tz_in0 rfl)).trans ?_
    refine (tz_g_iadd (tz_in0 rfl)).trans ?_
    refine (tz_g_iald (n := 215) rfl rfl rfl (tz_in0 rfl)).trans ?_
    refine tz_cn1 ?_
    refine (tz_g_iast (n := 12) rfl rfl rfl (tz_in0 rfl)).trans ?_
    refine tz_cn1 ?_
    refine (tz_g_aload_n rfl (tz_in0 rfl)).trans ?_
    refine (tz_g_getr (j := 173) rfl rfl rfl rfl rfl (tz_in0 rfl)).trans ?_
    refine (tz_g_iload_n rfl (tz_in0 rfl)).trans ?_
    refine (tz_g_aload_n rfl (tz_in0 rfl)).trans ?_
    refine (tz_g_sipush (v := 156) rfl (tz_in0 rfl)).trans ?_
    refine (tz_g_iload_n rfl (tz_in0 rfl)).trans ?_
    refine (tz_g_iadd (tz_in0 rfl)).trans ?_
    refine (tz_g_iald (n := 215) rfl rfl rfl (tz_in0 rfl)).trans ?_
    refine tz_cn1 ?_
    refine (tz_g_iast (n := 12) rfl rfl rfl (tz_in0 rfl)).trans ?_
    refine tz_cn1 ?_
    refine (tz_g_aload_n rfl (tz_in0 rfl)).trans ?_
    refine (tz_g_getr (j := 174) rfl rfl rfl rfl rfl (tz_in0 rfl)).trans ?_
    refine (tz_g_iload_n rfl (tz_in0 rfl)).trans ?_
    refine (tz_g_aload_n rfl (tz_in0 rfl)).trans ?_
    refine (tz_g_sipush (v := 168) rfl (tz_in0 rfl)).trans ?_
    refine (tz_g_iload_n rfl (tz_in0 rfl)).trans ?_
    refine (tz_g_iadd (tz_in0 rfl)).trans ?_
    refine (tz_g_iald (n := 215) rfl rfl rfl (tz_in0 rfl)).trans ?_
    refine tz_cn1 ?_
    refine (tz_g_iast (n := 12) rfl rfl rfl (tz_in0 rfl)).trans ?_
    refine tz_cn1 ?_
    refine (tz_g_aload_n rfl (tz_in0 rfl)).trans ?_
    refine (tz_g_getr (j := 175) rfl rfl rfl rfl rfl (tz_in0 rfl)).trans ?_
    refine (tz_g_iload_n rfl (tz_in0 rfl)).trans ?_
    refine (tz_g_aload_n rfl (tz_in0 rfl)).trans ?_
    refine (tz_g_sipush (v := 180) rfl (tz_in0 rfl)).trans ?_
    refine (tz_g_iload_n rfl (tz_in0 rfl)).trans ?_
    refine (tz_g_iadd (tz_in0 rfl)).trans ?_
    refine (tz_g_iald (n := 215) rfl rfl rfl (tz_in0 rfl)).trans ?_
    refine tz_cn1 ?_
    refine (tz_g_iast (n := 12) rfl rfl rfl (tz_in0 rfl)).trans ?_
    refine tz_cn1 ?_
    refine (tz_g_aload_n rfl (tz_in0 rfl)).trans ?_
    refine (tz_g_getr (j := 176) rfl rfl rfl rfl rfl (tz_in0 rfl)).trans ?_
    refine (tz_g_iload_n rfl (tz_in0 rfl)).trans ?_
    refine (tz_g_aload_n rfl (tz_in0 rfl)).trans ?_
    refine (tz_g_sipush (v := 192) rfl (tz_in0 rfl)).trans ?_
    refine (tz_g_iload_n rfl (tz_in0 rfl)).trans ?_
    refine (tz_g_iadd (tz_in0 rfl)).trans ?_
    refine (tz_g_iald (n := 215) rfl rfl rfl (tz_in0 rfl)).trans ?_
    refine tz_cn1 ?_
    refine (tz_g_iast (n := 12) rfl rfl rfl (tz_in0 rfl)).trans ?_
    refine tz_cn1 ?_
    refine (tz_g_iinc (v := 1) (L2 := [some (.ref 157), some (.ref 180), some (.int (z2 + 1))]) rfl rfl rfl rfl (tz_in0 rfl)).trans ?_
    refine (tz_g_goto (t := 174) (by decide) (tz_in0 rfl)).trans ?_
    exact tz_Gm (L2 := [some (.ref 157), some (.ref 180), some (.int (z2 + 1))]) rfl rfl rfl rfl

theorem e_X12_again_s181 (A : tz_Mem) : f_X12_again_s181 A =
  q_X12_again_s181_2 0 A := by
  refine (tz_Fe (L := [some (.ref 157), some (.ref 181), none]) rfl).trans ?_
  refine (tz_g_iconst (v := 0) rfl (tz_in0 rfl)).trans ?_
  refine (tz_g_istore_n (L2 := [some (.ref 157), some (.ref 181), some (.int 0)]) rfl rfl (tz_in0 rfl)).trans ?_
  exact tz_Gm (L2 := [some (.ref 157), some (.ref 181), some (.int 0)]) rfl rfl rfl rfl

theorem e_X12_again_s181_2 (z2 : Int32) (A : tz_Mem) : q_X12_again_s181_2 z2 A =
  if 8 ≤ z2 then
  q_X12_again_s181_49 0 A
else
  if z2 < 0 ∨ 215 ≤ (Int32.toNatClampNeg z2) then none else
  if z2 < 0 ∨ 8 ≤ (Int32.toNatClampNeg z2) then none else
  if (8 + z2) < 0 ∨ 215 ≤ (Int32.toNatClampNeg (8 + z2)) then none else
  if z2 < 0 ∨ 8 ≤ (Int32.toNatClampNeg z2) then none else
  if (16 + z2) < 0 ∨ 215 ≤ (Int32.toNatClampNeg (16 + z2)) then none else
  if z2 < 0 ∨ 8 ≤ (Int32.toNatClampNeg z2) then none else
  q_X12_again_s181_2 (z2 + 1) (tz_s (tz_s (tz_s A 161 (Int32.toNatClampNeg z2) (tz_g A 181 (Int32.toNatClampNeg z2))) 162 (Int32.toNatClampNeg z2) (tz_g (tz_s A 161 (Int32.toNatClampNeg z2) (tz_g A 181 (Int32.toNatClampNeg z2))) 181 (Int32.toNatClampNeg (8 + z2)))) 163 (Int32.toNatClampNeg z2) (tz_g (tz_s (tz_s A 161 (Int32.toNatClampNeg z2) (tz_g A 181 (Int32.toNatClampNeg z2))) 162 (Int32.toNatClampNeg z2) (tz_g (tz_s A 161 (Int32.toNatClampNeg z2) (tz_g A 181 (Int32.toNatClampNeg z2))) 181 (Int32.toNatClampNeg (8 + z2)))) 181 (Int32.toNatClampNeg (16 + z2)))) := by
  show tz_Go 211 2 [some (.ref 157), some (.ref 181), some (.int z2)] [] A = _
  refine (tz_g_iload_n rfl (tz_inM rfl rfl rfl)).trans ?_
  refine (tz_g_bipush (v := 8) rfl (tz_in0 rfl)).trans ?_
  refine (tz_g_ic_ge (t := 47) (by decide) (tz_in0 rfl)).trans ?_
  refine tz_cg ?_ ?_
  · skip
    refine (tz_g_iconst (v := 0) rfl (tz_in0 rfl)).trans ?_
    refine (tz_g_istore_n (L2 := [some (.ref 157), some (.ref 181), some (.int 0)]) rfl rfl (tz_in0 rfl)).trans ?_
    exact tz_Gm (L2 := [some (.ref 157), some (.ref 181), some (.int 0)]) rfl rfl rfl rfl
  · skip
    refine (tz_g_aload_n rfl (tz_in0 rfl)).trans ?_
    refine (tz_g_getr (j := 161) rfl rfl rfl rfl rfl (tz_in0 rfl)).trans ?_
    refine (tz_g_iload_n rfl (tz_in0 rfl)).trans ?_
    refine (tz_g_aload_n rfl (tz_in0 rfl)).trans ?_
    refine (tz_g_iload_n rfl (tz_in0 rfl)).trans ?_
    refine (tz_g_iald (n := 215) rfl rfl rfl (tz_in0 rfl)).trans ?_
    refine tz_cn1 ?_
    refine (tz_g_iast (n := 8) rfl rfl rfl (tz_in0 rfl)).trans ?_
    refine tz_cn1 ?_
    refine (tz_g_aload_n rfl (tz_in0 rfl)).trans ?_
    refine (tz_g_getr (j := 162) rfl rfl rfl rfl rfl (tz_in0 rfl)).trans ?_
    refine (tz_g_iload_n rfl (tz_in0 rfl)).trans ?_
    refine (tz_g_aload_n rfl (tz_in0 rfl)).trans ?_
    refine (tz_g_bipush (v := 8) rfl (tz_in0 rfl)).trans ?_
    refine (tz_g_iload_n rfl (tz_in0 rfl)).trans ?_
    refine (tz_g_iadd (tz_in0 rfl)).trans ?_
    refine (tz_g_iald (n := 215) rfl rfl rfl (tz_in0 rfl)).trans ?_
    refine tz_cn1 ?_
    refine (tz_g_iast (n := 8) rfl rfl rfl (tz_in0 rfl)).trans ?_
    refine tz_cn1 ?_
    refine (tz_g_aload_n rfl (tz_in0 rfl)).trans ?_
    refine (tz_g_getr (j := 163) rfl rfl rfl rfl rfl (tz_in0 rfl)).trans ?_
    refine (tz_g_iload_n rfl (tz_in0 rfl)).trans ?_
    refine (tz_g_aload_n rfl (tz_in0 rfl)).trans ?_
    refine (tz_g_bipush (v := 16) rfl (tz_in0 rfl)).trans ?_
    refine (tz_g_iload_n rfl (tz_in0 rfl)).trans ?_
    refine (tz_g_iadd (tz_in0 rfl)).trans ?_
    refine (tz_g_iald (n := 215) rfl rfl rfl (tz_in0 rfl)).trans ?_
    refine tz_cn1 ?_
    refine (tz_g_iast (n := 8) rfl rfl rfl (tz_in0 rfl)).trans ?_
    refine tz_cn1 ?_
    refine (tz_g_iinc (v := 1) (L2 := [some (.ref 157), some (.ref 181), some (.int (z2 + 1))]) rfl rfl rfl rfl (tz_in0 rfl)).trans ?_
    refine (tz_g_goto (t := 2) (by decide) (tz_in0 rfl)).trans ?_
    exact tz_Gm (L2 := [some (.ref 157), some (.ref 181), some (.int (z2 + 1))]) rfl rfl rfl rfl

theorem e_X12_again_s181_49 (z2 : Int32) (A : tz_Mem) : q_X12_again_s181_49 z2 A =
  if 64 ≤ z2 then
  q_X12_again_s181_75 0 A
else
  if (24 + z2) < 0 ∨ 215 ≤ (Int32.toNatClampNeg (24 + z2)) then none else
  if z2 < 0 ∨ 64 ≤ (Int32.toNatClampNeg z2) then none else
  q_X12_again_s181_49 (z2 + 1) (tz_s A 164 (Int32.toNatClampNeg z2) (tz_g A 181 (Int32.toNatClampNeg (24 + z2)))) := by
  show tz_Go 211 49 [some (.ref 157), some (.ref 181), some (.int z2)] [] A = _
  refine (tz_g_iload_n rfl (tz_inM rfl rfl rfl)).trans ?_
  refine (tz_g_bipush (v := 64) rfl (tz_in0 rfl)).trans ?_
  refine (tz_g_ic_ge (t := 73) (by decide) (tz_in0 rfl)).trans ?_
  refine tz_cg ?_ ?_
  · skip
    refine (tz_g_iconst (v := 0) rfl (tz_in0 rfl)).trans ?_
    refine (tz_g_istore_n (L2 := [some (.ref 157), some (.ref 181), some (.int 0)]) rfl rfl (tz_in0 rfl)).trans ?_
    exact tz_Gm (L2 := [some (.ref 157), some (.ref 181), some (.int 0)]) rfl rfl rfl rfl
  · skip
    refine (tz_g_aload_n rfl (tz_in0 rfl)).trans ?_
    refine (tz_g_getr (j := 164) rfl rfl rfl rfl rfl (tz_in0 rfl)).trans ?_
    refine (tz_g_iload_n rfl (tz_in0 rfl)).trans ?_
    refine (tz_g_aload_n rfl (tz_in0 rfl)).trans ?_
    refine (tz_g_bipush (v := 24) rfl (tz_in0 rfl)).trans ?_
    refine (tz_g_iload_n rfl (tz_in0 rfl)).trans ?_
    refine (tz_g_iadd (tz_in0 rfl)).trans ?_
    refine (tz_g_iald (n := 215) rfl rfl rfl (tz_in0 rfl)).trans ?_
    refine tz_cn1 ?_
    refine (tz_g_iast (n := 64) rfl rfl rfl (tz_in0 rfl)).trans ?_
    refine tz_cn1 ?_
    refine (tz_g_iinc (v := 1) (L2 := [some (.ref 157), some (.ref 181), some (.int (z2 + 1))]) rfl rfl rfl rfl (tz_in0 rfl)).trans ?_
    refine (tz_g_goto (t := 49) (by decide) (tz_in0 rfl)).trans ?_
    exact tz_Gm (L2 := [some (.ref 157), some (.ref 181), some (.int (z2 + 1))]) rfl rfl rfl rfl

theorem e_X12_again_s181_75 (z2 : Int32) (A : tz_Mem) : q_X12_again_s181_75 z2 A =
  if 4 ≤ z2 then
  q_X12_again_s181_148 0 A
else
  if (88 + z2) < 0 ∨ 215 ≤ (Int32.toNatClampNeg (88 + z2)) then none else
  if z2 < 0 ∨ 4 ≤ (Int32.toNatClampNeg z2) then none else
  if (92 + z2) < 0 ∨ 215 ≤ (Int32.toNatClampNeg (92 + z2)) then none else
  if z2 < 0 ∨ 4 ≤ (Int32.toNatClampNeg z2) then none else
  if (96 + z2) < 0 ∨ 215 ≤ (Int32.toNatClampNeg (96 + z2)) then none else
  if z2 < 0 ∨ 4 ≤ (Int32.toNatClampNeg z2) then none else
  if (100 + z2) < 0 ∨ 215 ≤ (Int32.toNatClampNeg (100 + z2)) then none else
  if z2 < 0 ∨ 4 ≤ (Int32.toNatClampNeg z2) then none else
  if (104 + z2) < 0 ∨ 215 ≤ (Int32.toNatClampNeg (104 + z2)) then none else
  if z2 < 0 ∨ 4 ≤ (Int32.toNatClampNeg z2) then none else
  q_X12_again_s181_75 (z2 + 1) (tz_s (tz_s (tz_s (tz_s (tz_s A 165 (Int32.toNatClampNeg z2) (tz_g A 181 (Int32.toNatClampNeg (88 + z2)))) 167 (Int32.toNatClampNeg z2) (tz_g (tz_s A 165 (Int32.toNatClampNeg z2) (tz_g A 181 (Int32.toNatClampNeg (88 + z2)))) 181 (Int32.toNatClampNeg (92 + z2)))) 168 (Int32.toNatClampNeg z2) (tz_g (tz_s (tz_s A 165 (Int32.toNatClampNeg z2) (tz_g A 181 (Int32.toNatClampNeg (88 + z2)))) 167 (Int32.toNatClampNeg z2) (tz_g (tz_s A 165 (Int32.toNatClampNeg z2) (tz_g A 181 (Int32.toNatClampNeg (88 + z2)))) 181 (Int32.toNatClampNeg (92 + z2)))) 181 (Int32.toNatClampNeg (96 + z2)))) 169 (Int32.toNatClampNeg z2) (tz_g (tz_s (tz_s (tz_s A 165 (Int32.toNatClampNeg z2) (tz_g A 181 (Int32.toNatClampNeg (88 + z2)))) 167 (Int32.toNatClampNeg z2) (tz_g (tz_s A 165 (Int32.toNatClampNeg z2) (tz_g A 181 (Int32.toNatClampNeg (88 + z2)))) 181 (Int32.toNatClampNeg (92 + z2)))) 168 (Int32.toNatClampNeg z2) (tz_g (tz_s (tz_s A 165 (Int32.toNatClampNeg z2) (tz_g A 181 (Int32.toNatClampNeg (88 + z2)))) 167 (Int32.toNatClampNeg z2) (tz_g (tz_s A 165 (Int32.toNatClampNeg z2) (tz_g A 181 (Int32.toNatClampNeg (88 + z2)))) 181 (Int32.toNatClampNeg (92 + z2)))) 181 (Int32.toNatClampNeg (96 + z2)))) 181 (Int32.toNatClampNeg (100 + z2)))) 170 (Int32.toNatClampNeg z2) (tz_g (tz_s (tz_s (tz_s (tz_s A 165 (Int32.toNatClampNeg z2) (tz_g A 181 (Int32.toNatClampNeg (88 + z2)))) 167 (Int32.toNatClampNeg z2) (tz_g (tz_s A 165 (Int32.toNatClampNeg z2) (tz_g A 181 (Int32.toNatClampNeg (88 + z2)))) 181 (Int32.toNatClampNeg (92 + z2)))) 168 (Int32.toNatClampNeg z2) (tz_g (tz_s (tz_s A 165 (Int32.toNatClampNeg z2) (tz_g A 181 (Int32.toNatClampNeg (88 + z2)))) 167 (Int32.toNatClampNeg z2) (tz_g (tz_s A 165 (Int32.toNatClampNeg z2) (tz_g A 181 (Int32.toNatClampNeg (88 + z2)))) 181 (Int32.toNatClampNeg (92 + z2)))) 181 (Int32.toNatClampNeg (96 + z2)))) 169 (Int32.toNatClampNeg z2) (tz_g (tz_s (tz_s (tz_s A 165 (Int32.toNatClampNeg z2) (tz_g A 181 (Int32.toNatClampNeg (88 + z2)))) 167 (Int32.toNatClampNeg z2) (tz_g (tz_s A 165 (Int32.toNatClampNeg z2) (tz_g A 181 (Int32.toNatClampNeg (88 + z2)))) 181 (Int32.toNatClampNeg (92 + z2)))) 168 (Int32.toNatClampNeg z2) (tz_g (tz_s (tz_s A 165 (Int32.toNatClampNeg z2) (tz_g A 181 (Int32.toNatClampNeg (88 + z2)))) 167 (Int32.toNatClampNeg z2) (tz_g (tz_s A 165 (Int32.toNatClampNeg z2) (tz_g A 181 (Int32.toNatClampNeg (88 + z2)))) 181 (Int32.toNatClampNeg (92 + z2)))) 181 (Int32.toNatClampNeg (96 + z2)))) 181 (Int32.toNatClampNeg (100 + z2)))) 181 (Int32.toNatClampNeg (104 + z2)))) := by
  show tz_Go 211 75 [some (.ref 157), some (.ref 181), some (.int z2)] [] A = _
  refine (tz_g_iload_n rfl (tz_inM rfl rfl rfl)).trans ?_
  refine (tz_g_iconst (v := 4) rfl (tz_in0 rfl)).trans ?_
  refine (tz_g_ic_ge (t := 146) (by decide) (tz_in0 rfl)).trans ?_
  refine tz_cg ?_ ?_
  · skip
    refine (tz_g_iconst (v := 0) rfl (tz_in0 rfl)).trans ?_
    refine (tz_g_istore_n (L2 := [some (.ref 157), some (.ref 181), some (.int 0)]) rfl rfl (tz_in0 rfl)).trans ?_
    exact tz_Gm (L2 := [some (.ref 157), some (.ref 181), some (.int 0)]) rfl rfl rfl rfl
  · skip
    refine (tz_g_aload_n rfl (tz_in0 rfl)).trans ?_
    refine (tz_g_getr (j := 165) rfl rfl rfl rfl rfl (tz_in0 rfl)).trans ?_
    refine (tz_g_iload_n rfl (tz_in0 rfl)).trans ?_
    refine (tz_g_aload_n rfl (tz_in0 rfl)).trans ?_
    refine (tz_g_bipush (v := 88) rfl (tz_in0 rfl)).trans ?_
    refine (tz_g_iload_n rfl (tz_in0 rfl)).trans ?_
    refine (tz_g_iadd (tz_in0 rfl)).trans ?_
    refine (tz_g_iald (n := 215) rfl rfl rfl (tz_in0 rfl)).trans ?_
    refine tz_cn1 ?_
    refine (tz_g_iast (n := 4) rfl rfl rfl (tz_in0 rfl)).trans ?_
    refine tz_cn1 ?_
    refine (tz_g_aload_n rfl (tz_in0 rfl)).trans ?_
    refine (tz_g_getr (j := 167) rfl rfl rfl rfl rfl (tz_in0 rfl)).trans ?_
    refine (tz_g_iload_n rfl (tz_in0 rfl)).trans ?_
    refine (tz_g_aload_n rfl (tz_in0 rfl)).trans ?_
    refine (tz_g_bipush (v := 92) rfl (tz_in0 rfl)).trans ?_
    refine (tz_g_iload_n rfl (tz_in0 rfl)).trans ?_
    refine (tz_g_iadd (tz_in0 rfl)).trans ?_
    refine (tz_g_iald (n := 215) rfl rfl rfl (tz_in0 rfl)).trans ?_
    refine tz_cn1 ?_
    refine (tz_g_iast (n := 4) rfl rfl rfl (tz_in0 rfl)).trans ?_
    refine tz_cn1 ?_
    refine (tz_g_aload_n rfl (tz_in0 rfl)).trans ?_
    refine (tz_g_getr (j := 168) rfl rfl rfl rfl rfl (tz_in0 rfl)).trans ?_
    refine (tz_g_iload_n rfl (tz_in0 rfl)).trans ?_
    refine (tz_g_aload_n rfl (tz_in0 rfl)).trans ?_
    refine (tz_g_bipush (v := 96) rfl (tz_in0 rfl)).trans ?_
    refine (tz_g_iload_n rfl (tz_in0 rfl)).trans ?_
    refine (tz_g_iadd (tz_in0 rfl)).trans ?_
    refine (tz_g_iald (n := 215) rfl rfl rfl (tz_in0 rfl)).trans ?_
    refine tz_cn1 ?_
    refine (tz_g_iast (n := 4) rfl rfl rfl (tz_in0 rfl)).trans ?_
    refine tz_cn1 ?_
    refine (tz_g_aload_n rfl (tz_in0 rfl)).trans ?_
    refine (tz_g_getr (j := 169) rfl rfl rfl rfl rfl (tz_in0 rfl)).trans ?_
    refine (tz_g_iload_n rfl (tz_in0 rfl)).trans ?_
    refine (tz_g_aload_n rfl (tz_in0 rfl)).trans ?_
    refine (tz_g_bipush (v := 100) rfl (tz_in0 rfl)).trans ?_
    refine (tz_g_iload_n rfl (tz_in0 rfl)).trans ?_
    refine (tz_g_iadd (tz_in0 rfl)).trans ?_
    refine (tz_g_iald (n := 215) rfl rfl rfl (tz_in0 rfl)).trans ?_
    refine tz_cn1 ?_
    refine (tz_g_iast (n := 4) rfl rfl rfl (tz_in0 rfl)).trans ?_
    refine tz_cn1 ?_
    refine (tz_g_aload_n rfl (tz_in0 rfl)).trans ?_
    refine (tz_g_getr (j := 170) rfl rfl rfl rfl rfl (tz_in0 rfl)).trans ?_
    refine (tz_g_iload_n rfl (tz_in0 rfl)).trans ?_
    refine (tz_g_aload_n rfl (tz_in0 rfl)).trans ?_
    refine (tz_g_bipush (v := 104) rfl (tz_in0 rfl)).trans ?_
    refine (tz_g_iload_n rfl (tz_in0 rfl)).trans ?_
    refine (tz_g_iadd (tz_in0 rfl)).trans ?_
    refine (tz_g_iald (n := 215) rfl rfl rfl (tz_in0 rfl)).trans ?_
    refine tz_cn1 ?_
    refine (tz_g_iast (n := 4) rfl rfl rfl (tz_in0 rfl)).trans ?_
    refine tz_cn1 ?_
    refine (tz_g_iinc (v := 1) (L2 := [some (.ref 157), some (.ref 181), some (.int (z2 + 1))]) rfl rfl rfl rfl (tz_in0 rfl)).trans ?_
    refine (tz_g_goto (t := 75) (by decide) (tz_in0 rfl)).trans ?_
    exact tz_Gm (L2 := [some (.ref 157), some (.ref 181), some (.int (z2 + 1))]) rfl rfl rfl rfl

theorem e_X12_again_s181_148 (z2 : Int32) (A : tz_Mem) : q_X12_again_s181_148 z2 A =
  if 24 ≤ z2 then
  q_X12_again_s181_174 0 A
else
  if (108 + z2) < 0 ∨ 215 ≤ (Int32.toNatClampNeg (108 + z2)) then none else
  if z2 < 0 ∨ 24 ≤ (Int32.toNatClampNeg z2) then none else
  q_X12_again_s181_148 (z2 + 1) (tz_s A 166 (Int32.toNatClampNeg z2) (tz_g A 181 (Int32.toNatClampNeg (108 + z2)))) := by
  show tz_Go 211 148 [some (.ref 157), some (.ref 181), some (.int z2)] [] A = _
  refine (tz_g_iload_n rfl (tz_inM rfl rfl rfl)).trans ?_
  refine (tz_g_bipush (v := 24) rfl (tz_in0 rfl)).trans ?_
  refine (tz_g_ic_ge (t := 172) (by decide) (tz_in0 rfl)).trans ?_
  refine tz_cg ?_ ?_
  · skip
    refine (tz_g_iconst (v := 0) rfl (tz_in0 rfl)).trans ?_
    refine (tz_g_istore_n (L2 := [some (.ref 157), some (.ref 181), some (.int 0)]) rfl rfl (tz_in0 rfl)).trans ?_
    exact tz_Gm (L2 := [some (.ref 157), some (.ref 181), some (.int 0)]) rfl rfl rfl rfl
  · skip
    refine (tz_g_aload_n rfl (tz_in0 rfl)).trans ?_
    refine (tz_g_getr (j := 166) rfl rfl rfl rfl rfl (tz_in0 rfl)).trans ?_
    refine (tz_g_iload_n rfl (tz_in0 rfl)).trans ?_
    refine (tz_g_aload_n rfl (tz_in0 rfl)).trans ?_
    refine (tz_g_bipush (v := 108) rfl (tz_in0 rfl)).trans ?_
    refine (tz_g_iload_n rfl (tz_in0 rfl)).trans ?_
    refine (tz_g_iadd (tz_in0 rfl)).trans ?_
    refine (tz_g_iald (n := 215) rfl rfl rfl (tz_in0 rfl)).trans ?_
    refine tz_cn1 ?_
    refine (tz_g_iast (n := 24) rfl rfl rfl (tz_in0 rfl)).trans ?_
    refine tz_cn1 ?_
    refine (tz_g_iinc (v := 1) (L2 := [some (.ref 157), some (.ref 181), some (.int (z2 + 1))]) rfl rfl rfl rfl (tz_in0 rfl)).trans ?_
    refine (tz_g_goto (t := 148) (by decide) (tz_in0 rfl)).trans ?_
    exact tz_Gm (L2 := [some (.ref 157), some (.ref 181), some (.int (z2 + 1))]) rfl rfl rfl rfl

theorem e_X12_again_s181_174 (z2 : Int32) (A : tz_Mem) : q_X12_again_s181_174 z2 A =
  if 12 ≤ z2 then
  if (204 : Int32) < 0 ∨ 215 ≤ 204 then none else
  if (205 : Int32) < 0 ∨ 215 ≤ 205 then none else
  if (206 : Int32) < 0 ∨ 215 ≤ 206 then none else
  if (207 : Int32) < 0 ∨ 215 ≤ 207 then none else
  if (208 : Int32) < 0 ∨ 215 ≤ 208 then none else
  if (209 : Int32) < 0 ∨ 215 ≤ 209 then none else
  if (210 : Int32) < 0 ∨ 215 ≤ 210 then none else
  some (none, (tz_s (tz_s (tz_s (tz_s (tz_s (tz_s (tz_s A 157 3 (tz_g A 181 204)) 157 8 (tz_g (tz_s A 157 3 (tz_g A 181 204)) 181 205)) 157 15 (tz_g (tz_s (tz_s A 157 3 (tz_g A 181 204)) 157 8 (tz_g (tz_s A 157 3 (tz_g A 181 204)) 181 205)) 181 206)) 157 22 (tz_g (tz_s (tz_s (tz_s A 157 3 (tz_g A 181 204)) 157 8 (tz_g (tz_s A 157 3 (tz_g A 181 204)) 181 205)) 157 15 (tz_g (tz_s (tz_s A 157 3 (tz_g A 181 204)) 157 8 (tz_g (tz_s A 157 3 (tz_g A 181 204)) 181 205)) 181 206)) 181 207)) 157 23 (tz_g (tz_s (tz_s (tz_s (tz_s A 157 3 (tz_g A 181 204)) 157 8 (tz_g (tz_s A 157 3 (tz_g A 181 204)) 181 205)) 157 15 (tz_g (tz_s (tz_s A 157 3 (tz_g A 181 204)) 157 8 (tz_g (tz_s A 157 3 (tz_g A 181 204)) 181 205)) 181 206)) 157 22 (tz_g (tz_s (tz_s (tz_s A 157 3 (tz_g A 181 204)) 157 8 (tz_g (tz_s A 157 3 (tz_g A 181 204)) 181 205)) 157 15 (tz_g (tz_s (tz_s A 157 3 (tz_g A 181 204)) 157 8 (tz_g (tz_s A 157 3 (tz_g A 181 204)) 181 205)) 181 206)) 181 207)) 181 208)) 157 24 (tz_g (tz_s (tz_s (tz_s (tz_s (tz_s A 157 3 (tz_g A 181 204)) 157 8 (tz_g (tz_s A 157 3 (tz_g A 181 204)) 181 205)) 157 15 (tz_g (tz_s (tz_s A 157 3 (tz_g A 181 204)) 157 8 (tz_g (tz_s A 157 3 (tz_g A 181 204)) 181 205)) 181 206)) 157 22 (tz_g (tz_s (tz_s (tz_s A 157 3 (tz_g A 181 204)) 157 8 (tz_g (tz_s A 157 3 (tz_g A 181 204)) 181 205)) 157 15 (tz_g (tz_s (tz_s A 157 3 (tz_g A 181 204)) 157 8 (tz_g (tz_s A 157 3 (tz_g A 181 204)) 181 205)) 181 206)) 181 207)) 157 23 (tz_g (tz_s (tz_s (tz_s (tz_s A 157 3 (tz_g A 181 204)) 157 8 (tz_g (tz_s A 157 3 (tz_g A 181 204)) 181 205)) 157 15 (tz_g (tz_s (tz_s A 157 3 (tz_g A 181 204)) 157 8 (tz_g (tz_s A 157 3 (tz_g A 181 204)) 181 205)) 181 206)) 157 22 (tz_g (tz_s (tz_s (tz_s A 157 3 (tz_g A 181 204)) 157 8 (tz_g (tz_s A 157 3 (tz_g A 181 204)) 181 205)) 157 15 (tz_g (tz_s (tz_s A 157 3 (tz_g A 181 204)) 157 8 (tz_g (tz_s A 157 3 (tz_g A 181 204)) 181 205)) 181 206)) 181 207)) 181 208)) 181 209)) 157 25 (tz_g (tz_s (tz_s (tz_s (tz_s (tz_s (tz_s A 157 3 (tz_g A 181 204)) 157 8 (tz_g (tz_s A 157 3 (tz_g A 181 204)) 181 205)) 157 15 (tz_g (tz_s (tz_s A 157 3 (tz_g A 181 204)) 157 8 (tz_g (tz_s A 157 3 (tz_g A 181 204)) 181 205)) 181 206)) 157 22 (tz_g (tz_s (tz_s (tz_s A 157 3 (tz_g A 181 204)) 157 8 (tz_g (tz_s A 157 3 (tz_g A 181 204)) 181 205)) 157 15 (tz_g (tz_s (tz_s A 157 3 (tz_g A 181 204)) 157 8 (tz_g (tz_s A 157 3 (tz_g A 181 204)) 181 205)) 181 206)) 181 207)) 157 23 (tz_g (tz_s (tz_s (tz_s (tz_s A 157 3 (tz_g A 181 204)) 157 8 (tz_g (tz_s A 157 3 (tz_g A 181 204)) 181 205)) 157 15 (tz_g (tz_s (tz_s A 157 3 (tz_g A 181 204)) 157 8 (tz_g (tz_s A 157 3 (tz_g A 181 204)) 181 205)) 181 206)) 157 22 (tz_g (tz_s (tz_s (tz_s A 157 3 (tz_g A 181 204)) 157 8 (tz_g (tz_s A 157 3 (tz_g A 181 204)) 181 205)) 157 15 (tz_g (tz_s (tz_s A 157 3 (tz_g A 181 204)) 157 8 (tz_g (tz_s A 157 3 (tz_g A 181 204)) 181 205)) 181 206)) 181 207)) 181 208)) 157 24 (tz_g (tz_s (tz_s (tz_s (tz_s (tz_s A 157 3 (tz_g A 181 204)) 157 8 (tz_g (tz_s A 157 3 (tz_g A 181 204)) 181 205)) 157 15 (tz_g (tz_s (tz_s A 157 3 (tz_g A 181 204)) 157 8 (tz_g (tz_s A 157 3 (tz_g A 181 204)) 181 205)) 181 206)) 157 22 (tz_g (tz_s (tz_s (tz_s A 157 3 (tz_g A 181 204)) 157 8 (tz_g (tz_s A 157 3 (tz_g A 181 204)) 181 205)) 157 15 (tz_g (tz_s (tz_s A 157 3 (tz_g A 181 204)) 157 8 (tz_g (tz_s A 157 3 (tz_g A 181 204)) 181 205)) 181 206)) 181 207)) 157 23 (tz_g (tz_s (tz_s (tz_s (tz_s A 157 3 (tz_g A 181 204)) 157 8 (tz_g (tz_s A 157 3 (tz_g A 181 204)) 181 205)) 157 15 (tz_g (tz_s (tz_s A 157 3 (tz_g A 181 204)) 157 8 (tz_g (tz_s A 157 3 (tz_g A 181 204)) 181 205)) 181 206)) 157 22 (tz_g (tz_s (tz_s (tz_s A 157 3 (tz_g A 181 204)) 157 8 (tz_g (tz_s A 157 3 (tz_g A 181 204)) 181 205)) 157 15 (tz_g (tz_s (tz_s A 157 3 (tz_g A 181 204)) 157 8 (tz_g (tz_s A 157 3 (tz_g A 181 204)) 181 205)) 181 206)) 181 207)) 181 208)) 181 209)) 181 210)))
else
  if (132 + z2) < 0 ∨ 215 ≤ (Int32.toNatClampNeg (132 + z2)) then none else
  if z2 < 0 ∨ 12 ≤ (Int32.toNatClampNeg z2) then none else
  if (144 + z2) < 0 ∨ 215 ≤ (Int32.toNatClampNeg (144 + z2)) then none else
  if z2 < 0 ∨ 12 ≤ (Int32.toNatClampNeg z2) then none else
  if (156 + z2) < 0 ∨ 215 ≤ (Int32.toNatClampNeg (156 + z2)) then none else
  if z2 < 0 ∨ 12 ≤ (Int32.toNatClampNeg z2) then none else
  if (168 + z2) < 0 ∨ 215 ≤ (Int32.toNatClampNeg (168 + z2)) then none else
  if z2 < 0 ∨ 12 ≤ (Int32.toNatClampNeg z2) then none else
  if (180 + z2) < 0 ∨ 215 ≤ (Int32.toNatClampNeg (180 + z2)) then none else
  if z2 < 0 ∨ 12 ≤ (Int32.toNatClampNeg z2) then none else
  if (192 + z2) < 0 ∨ 215 ≤ (Int32.toNatClampNeg (192 + z2)) then none else
  if z2 < 0 ∨ 12 ≤ (Int32.toNatClampNeg z2) then none else
  q_X12_again_s181_174 (z2 + 1) (tz_s (tz_s (tz_s (tz_s (tz_s (tz_s A 171 (Int32.toNatClampNeg z2) (tz_g A 181 (Int32.toNatClampNeg (132 + z2)))) 172 (Int32.toNatClampNeg z2) (tz_g (tz_s A 171 (Int32.toNatClampNeg z2) (tz_g A 181 (Int32.toNatClampNeg (132 + z2)))) 181 (Int32.toNatClampNeg (144 + z2)))) 173 (Int32.toNatClampNeg z2) (tz_g (tz_s (tz_s A 171 (Int32.toNatClampNeg z2) (tz_g A 181 (Int32.toNatClampNeg (132 + z2)))) 172 (Int32.toNatClampNeg z2) (tz_g (tz_s A 171 (Int32.toNatClampNeg z2) (tz_g A 181 (Int32.toNatClampNeg (132 + z2)))) 181 (Int32.toNatClampNeg (144 + z2)))) 181 (Int32.toNatClampNeg (156 + z2)))) 174 (Int32.toNatClampNeg z2) (tz_g (tz_s (tz_s (tz_s A 171 (Int32.toNatClampNeg z2) (tz_g A 181 (Int32.toNatClampNeg (132 + z2)))) 172 (Int32.toNatClampNeg z2) (tz_g (tz_s A 171 (Int32.toNatClampNeg z2) (tz_g A 181 (Int32.toNatClampNeg (132 + z2)))) 181 (Int32.toNatClampNeg (144 + z2)))) 173 (Int32.toNatClampNeg z2) (tz_g (tz_s (tz_s A 171 (Int32.toNatClampNeg z2) (tz_g A 181 (Int32.toNatClampNeg (132 + z2)))) 172 (Int32.toNatClampNeg z2) (tz_g (tz_s A 171 (Int32.toNatClampNeg z2) (tz_g A 181 (Int32.toNatClampNeg (132 + z2)))) 181 (Int32.toNatClampNeg (144 + z2)))) 181 (Int32.toNatClampNeg (156 + z2)))) 181 (Int32.toNatClampNeg (168 + z2)))) 175 (Int32.toNatClampNeg z2) (tz_g (tz_s (tz_s (tz_s (tz_s A 171 (Int32.toNatClampNeg z2) (tz_g A 181 (Int32.toNatClampNeg (132 + z2)))) 172 (Int32.toNatClampNeg z2) (tz_g (tz_s A 171 (Int32.toNatClampNeg z2) (tz_g A 181 (Int32.toNatClampNeg (132 + z2)))) 181 (Int32.toNatClampNeg (144 + z2)))) 173 (Int32.toNatClampNeg z2) (tz_g (tz_s (tz_s A 171 (Int32.toNatClampNeg z2) (tz_g A 181 (Int32.toNatClampNeg (132 + z2)))) 172 (Int32.toNatClampNeg z2) (tz_g (tz_s A 171 (Int32.toNatClampNeg z2) (tz_g A 181 (Int32.toNatClampNeg (132 + z2)))) 181 (Int32.toNatClampNeg (144 + z2)))) 181 (Int32.toNatClampNeg (156 + z2)))) 174 (Int32.toNatClampNeg z2) (tz_g (tz_s (tz_s (tz_s A 171 (Int32.toNatClampNeg z2) (tz_g A 181 (Int32.toNatClampNeg (132 + z2)))) 172 (Int32.toNatClampNeg z2) (tz_g (tz_s A 171 (Int32.toNatClampNeg z2) (tz_g A 181 (Int32.toNatClampNeg (132 + z2)))) 181 (Int32.toNatClampNeg (144 + z2)))) 173 (Int32.toNatClampNeg z2) (tz_g (tz_s (tz_s A 171 (Int32.toNatClampNeg z2) (tz_g A 181 (Int32.toNatClampNeg (132 + z2)))) 172 (Int32.toNatClampNeg z2) (tz_g (tz_s A 171 (Int32.toNatClampNeg z2) (tz_g A 181 (Int32.toNatClampNeg (132 + z2)))) 181 (Int32.toNatClampNeg (144 + z2)))) 181 (Int32.toNatClampNeg (156 + z2)))) 181 (Int32.toNatClampNeg (168 + z2)))) 181 (Int32.toNatClampNeg (180 + z2)))) 176 (Int32.toNatClampNeg z2) (tz_g (tz_s (tz_s (tz_s (tz_s (tz_s A 171 (Int32.toNatClampNeg z2) (tz_g A 181 (Int32.toNatClampNeg (132 + z2)))) 172 (Int32.toNatClampNeg z2) (tz_g (tz_s A 171 (Int32.toNatClampNeg z2) (tz_g A 181 (Int32.toNatClampNeg (132 + z2)))) 181 (Int32.toNatClampNeg (144 + z2)))) 173 (Int32.toNatClampNeg z2) (tz_g (tz_s (tz_s A 171 (Int32.toNatClampNeg z2) (tz_g A 181 (Int32.toNatClampNeg (132 + z2)))) 172 (Int32.toNatClampNeg z2) (tz_g (tz_s A 171 (Int32.toNatClampNeg z2) (tz_g A 181 (Int32.toNatClampNeg (132 + z2)))) 181 (Int32.toNatClampNeg (144 + z2)))) 181 (Int32.toNatClampNeg (156 + z2)))) 174 (Int32.toNatClampNeg z2) (tz_g (tz_s (tz_s (tz_s A 171 (Int32.toNatClampNeg z2) (tz_g A 181 (Int32.toNatClampNeg (132 + z2)))) 172 (Int32.toNatClampNeg z2) (tz_g (tz_s A 171 (Int32.toNatClampNeg z2) (tz_g A 181 (Int32.toNatClampNeg (132 + z2)))) 181 (Int32.toNatClampNeg (144 + z2)))) 173 (Int32.toNatClampNeg z2) (tz_g (tz_s (tz_s A 171 (Int32.toNatClampNeg z2) (tz_g A 181 (Int32.toNatClampNeg (132 + z2)))) 172 (Int32.toNatClampNeg z2) (tz_g (tz_s A 171 (Int32.toNatClampNeg z2) (tz_g A 181 (Int32.toNatClampNeg (132 + z2)))) 181 (Int32.toNatClampNeg (144 + z2)))) 181 (Int32.toNatClampNeg (156 + z2)))) 181 (Int32.toNatClampNeg (168 + z2)))) 175 (Int32.toNatClampNeg z2) (tz_g (tz_s (tz_s (tz_s (tz_s A 171 (Int32.toNatClampNeg z2) (tz_g A 181 (Int32.toNatClampNeg (132 + z2)))) 172 (Int32.toNatClampNeg z2) (tz_g (tz_s A 171 (Int32.toNatClampNeg z2) (tz_g A 181 (Int32.toNatClampNeg (132 + z2)))) 181 (Int32.toNatClampNeg (144 + z2)))) 173 (Int32.toNatClampNeg z2) (tz_g (tz_s (tz_s A 171 (Int32.toNatClampNeg z2) (tz_g A 181 (Int32.toNatClampNeg (132 + z2)))) 172 (Int32.toNatClampNeg z2) (tz_g (tz_s A 171 (Int32.toNatClampNeg z2) (tz_g A 181 (Int32.toNatClampNeg (132 + z2)))) 181 (Int32.toNatClampNeg (144 + z2)))) 181 (Int32.toNatClampNeg (156 + z2)))) 174 (Int32.toNatClampNeg z2) (tz_g (tz_s (tz_s (tz_s A 171 (Int32.toNatClampNeg z2) (tz_g A 181 (Int32.toNatClampNeg (132 + z2)))) 172 (Int32.toNatClampNeg z2) (tz_g (tz_s A 171 (Int32.toNatClampNeg z2) (tz_g A 181 (Int32.toNatClampNeg (132 + z2)))) 181 (Int32.toNatClampNeg (144 + z2)))) 173 (Int32.toNatClampNeg z2) (tz_g (tz_s (tz_s A 171 (Int32.toNatClampNeg z2) (tz_g A 181 (Int32.toNatClampNeg (132 + z2)))) 172 (Int32.toNatClampNeg z2) (tz_g (tz_s A 171 (Int32.toNatClampNeg z2) (tz_g A 181 (Int32.toNatClampNeg (132 + z2)))) 181 (Int32.toNatClampNeg (144 + z2)))) 181 (Int32.toNatClampNeg (156 + z2)))) 181 (Int32.toNatClampNeg (168 + z2)))) 181 (Int32.toNatClampNeg (180 + z2)))) 181 (Int32.toNatClampNeg (192 + z2)))) := by
  show tz_Go 211 174 [some (.ref 157), some (.ref 181), some (.int z2)] [] A = _
  refine (tz_g_iload_n rfl (tz_inM rfl rfl rfl)).trans ?_
  refine (tz_g_bipush (v := 12) rfl (tz_in0 rfl)).trans ?_
  refine (tz_g_ic_ge (t := 264) (by decide) (tz_in0 rfl)).trans ?_
  refine tz_cg ?_ ?_
  · skip
    refine (tz_g_aload_n rfl (tz_in0 rfl)).trans ?_
    refine (tz_g_aload_n rfl (tz_in0 rfl)).trans ?_
    refine (tz_g_sipush (v := 204) rfl (tz_in0 rfl)).trans ?_
    refine (tz_g_iald (n := 215) rfl rfl rfl (tz_in0 rfl)).trans ?_
    refine tz_cn1 ?_
    refine (tz_g_puti rfl rfl rfl (tz_in0 rfl)).trans ?_
    refine (tz_g_aload_n rfl (tz_in0 rfl)).trans ?_
    refine (tz_g_aload_n rfl (tz_in0 rfl)).trans ?_
    refine (tz_g_sipush (v := 205) rfl (tz_in0 rfl)).trans ?_
    refine (tz_g_iald (n := 215) rfl rfl rfl (tz_in0 rfl)).trans ?_
    refine tz_cn1 ?_
    refine (tz_g_puti rfl rfl rfl (tz_in0 rfl)).trans ?_
    refine (tz_g_aload_n rfl (tz_in0 rfl)).trans ?_
    refine (tz_g_aload_n rfl (tz_in0 rfl)).trans ?_
    refine (tz_g_sipush (v := 206) rfl (tz_in0 rfl)).trans ?_
    refine (tz_g_iald (n := 215) rfl rfl rfl (tz_in0 rfl)).trans ?_
    refine tz_cn1 ?_
    refine (tz_g_puti rfl rfl rfl (tz_in0 rfl)).trans ?_
    refine (tz_g_aload_n rfl (tz_in0 rfl)).trans ?_
    refine (tz_g_aload_n rfl (tz_in0 rfl)).trans ?_
    refine (tz_g_sipush (v := 207) rfl (tz_in0 rfl)).trans ?_
    refine (tz_g_iald (n := 215) rfl rfl rfl (tz_in0 rfl)).trans ?_
    refine tz_cn1 ?_
    refine (tz_g_puti rfl rfl rfl (tz_in0 rfl)).trans ?_
    refine (tz_g_aload_n rfl (tz_in0 rfl)).trans ?_
    refine (tz_g_aload_n rfl (tz_in0 rfl)).trans ?_
    refine (tz_g_sipush (v := 208) rfl (tz_in0 rfl)).trans ?_
    refine (tz_g_iald (n := 215) rfl rfl rfl (tz_in0 rfl)).trans ?_
    refine tz_cn1 ?_
    refine (tz_g_puti rfl rfl rfl (tz_in0 rfl)).trans ?_
    refine (tz_g_aload_n rfl (tz_in0 rfl)).trans ?_
    refine (tz_g_aload_n rfl (tz_in0 rfl)).trans ?_
    refine (tz_g_sipush (v := 209) rfl (tz_in0 rfl)).trans ?_
    refine (tz_g_iald (n := 215) rfl rfl rfl (tz_in0 rfl)).trans ?_
    refine tz_cn1 ?_
    refine (tz_g_puti rfl rfl rfl (tz_in0 rfl)).trans ?_
    refine (tz_g_aload_n rfl (tz_in0 rfl)).trans ?_
    refine (tz_g_aload_n rfl (tz_in0 rfl)).trans ?_
    refine (tz_g_sipush (v := 210) rfl (tz_in0 rfl)).trans ?_
    refine (tz_g_iald (n := 215) rfl rfl rfl (tz_in0 rfl)).trans ?_
    refine tz_cn1 ?_
    refine (tz_g_puti rfl rfl rfl (tz_in0 rfl)).trans ?_
    exact tz_g_ret0 (tz_in0 rfl) rfl
  · skip
    refine (tz_g_aload_n rfl (tz_in0 rfl)).trans ?_
    refine (tz_g_getr (j := 171) rfl rfl rfl rfl rfl (tz_in0 rfl)).trans ?_
    refine (tz_g_iload_n rfl (tz_in0 rfl)).trans ?_
    refine (tz_g_aload_n rfl (tz_in0 rfl)).trans ?_
    refine (tz_g_sipush (v := 132) rfl (tz_in0 rfl)).trans ?_
    refine (tz_g_iload_n rfl (tz_in0 rfl)).trans ?_
    refine (tz_g_iadd (tz_in0 rfl)).trans ?_
    refine (tz_g_iald (n := 215) rfl rfl rfl (tz_in0 rfl)).trans ?_
    refine tz_cn1 ?_
    refine (tz_g_iast (n := 12) rfl rfl rfl (tz_in0 rfl)).trans ?_
    refine tz_cn1 ?_
    refine (tz_g_aload_n rfl (tz_in0 rfl)).trans ?_
    refine (tz_g_getr (j := 172) rfl rfl rfl rfl rfl (tz_in0 rfl)).trans ?_
    refine (tz_g_iload_n rfl (tz_in0 rfl)).trans ?_
    refine (tz_g_aload_n rfl (tz_in0 rfl)).trans ?_
    refine (tz_g_sipush (v := 144) rfl (tz_in0 rfl)).trans ?_
    refine (tz_g_iload_n rfl (tz_in0 rfl)).trans ?_
    refine (tz_g_iadd (tz_in0 rfl)).trans ?_
    refine (tz_g_iald (n := 215) rfl rfl rfl (tz_in0 rfl)).trans ?_
    refine tz_cn1 ?_
    refine (tz_g_iast (n := 12) rfl rfl rfl (tz_in0 rfl)).trans ?_
    refine tz_cn1 ?_
    refine (tz_g_aload_n rfl (tz_in0 rfl)).trans ?_
    refine (tz_g_getr (j := 173) rfl rfl rfl rfl rfl (tz_in0 rfl)).trans ?_
    refine (tz_g_iload_n rfl (tz_in0 rfl)).trans ?_
    refine (tz_g_aload_n rfl (tz_in0 rfl)).trans ?_
    refine (tz_g_sipush (v := 156) rfl (tz_in0 rfl)).trans ?_
    refine (tz_g_iload_n rfl (tz_in0 rfl)).trans ?_
    refine (tz_g_iadd (tz_in0 rfl)).trans ?_
    refine (tz_g_iald (n := 215) rfl rfl rfl (tz_in0 rfl)).trans ?_
    refine tz_cn1 ?_
    refine (tz_g_iast (n := 12) rfl rfl rfl (tz_in0 rfl)).trans ?_
    refine tz_cn1 ?_
    refine (tz_g_aload_n rfl (tz_in0 rfl)).trans ?_
    refine (tz_g_getr (j := 174) rfl rfl rfl rfl rfl (tz_in0 rfl)).trans ?_
    refine (tz_g_iload_n rfl (tz_in0 rfl)).trans ?_
    refine (tz_g_aload_n rfl (tz_in0 rfl)).trans ?_
    refine (tz_g_sipush (v := 168) rfl (tz_in0 rfl)).trans ?_
    refine (tz_g_iload_n rfl (tz_in0 rfl)).trans ?_
    refine (tz_g_iadd (tz_in0 rfl)).trans ?_
    refine (tz_g_iald (n := 215) rfl rfl rfl (tz_in0 rfl)).trans ?_
    refine tz_cn1 ?_
    refine (tz_g_iast (n := 12) rfl rfl rfl (tz_in0 rfl)).trans ?_
    refine tz_cn1 ?_
    refine (tz_g_aload_n rfl (tz_in0 rfl)).trans ?_
    refine (tz_g_getr (j := 175) rfl rfl rfl rfl rfl (tz_in0 rfl)).trans ?_
    refine (tz_g_iload_n rfl (tz_in0 rfl)).trans ?_
    refine (tz_g_aload_n rfl (tz_in0 rfl)).trans ?_
    refine (tz_g_sipush (v := 180) rfl (tz_in0 rfl)).trans ?_
    refine (tz_g_iload_n rfl (tz_in0 rfl)).trans ?_
    refine (tz_g_iadd (tz_in0 rfl)).trans ?_
    refine (tz_g_iald (n := 215) rfl rfl rfl (tz_in0 rfl)).trans ?_
    refine tz_cn1 ?_
    refine (tz_g_iast (n := 12) rfl rfl rfl (tz_in0 rfl)).trans ?_
    refine tz_cn1 ?_
    refine (tz_g_aload_n rfl (tz_in0 rfl)).trans ?_
    refine (tz_g_getr (j := 176) rfl rfl rfl rfl rfl (tz_in0 rfl)).trans ?_
    refine (tz_g_iload_n rfl (tz_in0 rfl)).trans ?_
    refine (tz_g_aload_n rfl (tz_in0 rfl)).trans ?_
    refine (tz_g_sipush (v := 192) rfl (tz_in0 rfl)).trans ?_
    refine (tz_g_iload_n rfl (tz_in0 rfl)).trans ?_
    refine (tz_g_iadd (tz_in0 rfl)).trans ?_
    refine (tz_g_iald (n := 215) rfl rfl rfl (tz_in0 rfl)).trans ?_
    refine tz_cn1 ?_
    refine (tz_g_iast (n := 12) rfl rfl rfl (tz_in0 rfl)).trans ?_
    refine tz_cn1 ?_
    refine (tz_g_iinc (v := 1) (L2 := [some (.ref 157), some (.ref 181), some (.int (z2 + 1))]) rfl rfl rfl rfl (tz_in0 rfl)).trans ?_
    refine (tz_g_goto (t := 174) (by decide) (tz_in0 rfl)).trans ?_
    exact tz_Gm (L2 := [some (.ref 157), some (.ref 181), some (.int (z2 + 1))]) rfl rfl rfl rfl

theorem e_X12_fault (A : tz_Mem) : f_X12_fault A =
  some (some (.int (tz_g A 157 26)), A) := by
  refine (tz_Fe (L := [some (.ref 157)]) rfl).trans ?_
  refine (tz_g_aload_n rfl (tz_in0 rfl)).trans ?_
  refine (tz_g_geti rfl rfl rfl (tz_in0 rfl)).trans ?_
  exact tz_g_ret1 (tz_in0 rfl) rfl

theorem e_X12_there (A : tz_Mem) : f_X12_there A =
  q_X12_there_4 0 0 A := by
  refine (tz_Fe (L := [some (.ref 157), none, none]) rfl).trans ?_
  refine (tz_g_iconst (v := 0) rfl (tz_in0 rfl)).trans ?_
  refine (tz_g_istore_n (L2 := [some (.ref 157), some (.int 0), none]) rfl rfl (tz_in0 rfl)).trans ?_
  refine (tz_g_iconst (v := 0) rfl (tz_in0 rfl)).trans ?_
  refine (tz_g_istore_n (L2 := [some (.ref 157), some (.int 0), some (.int 0)]) rfl rfl (tz_in0 rfl)).trans ?_
  exact tz_Gm (L2 := [some (.ref 157), some (.int 0), some (.int 0)]) rfl rfl rfl rfl

theorem e_X12_there_4 (z1 : Int32) (z2 : Int32) (A : tz_Mem) : q_X12_there_4 z1 z2 A =
  if (tz_g A 157 15) ≤ z2 then
  some (some (.int z1), A)
else
  if z2 < 0 ∨ 12 ≤ (Int32.toNatClampNeg z2) then none else
  if ¬ (tz_g A 175 (Int32.toNatClampNeg z2)) = 200 then
    q_X12_there_4 z1 (z2 + 1) A
  else
    q_X12_there_4 (z1 + 1) (z2 + 1) A := by
  show tz_Go 234 4 [some (.ref 157), some (.int z1), some (.int z2)] [] A = _
  refine (tz_g_iload_n rfl (tz_inM rfl rfl rfl)).trans ?_
  refine (tz_g_aload_n rfl (tz_in0 rfl)).trans ?_
  refine (tz_g_geti rfl rfl rfl (tz_in0 rfl)).trans ?_
  refine (tz_g_ic_ge (t := 33) (by decide) (tz_in0 rfl)).trans ?_
  refine tz_cg ?_ ?_
  · skip
    refine (tz_g_iload_n rfl (tz_in0 rfl)).trans ?_
    exact tz_g_ret1 (tz_in0 rfl) rfl
  · skip
    refine (tz_g_aload_n rfl (tz_in0 rfl)).trans ?_
    refine (tz_g_getr (j := 175) rfl rfl rfl rfl rfl (tz_in0 rfl)).trans ?_
    refine (tz_g_iload_n rfl (tz_in0 rfl)).trans ?_
    refine (tz_g_iald (n := 12) rfl rfl rfl (tz_in0 rfl)).trans ?_
    refine tz_cn1 ?_
    refine (tz_g_sipush (v := 200) rfl (tz_in0 rfl)).trans ?_
    refine (tz_g_ic_ne (t := 27) (by decide) (tz_in0 rfl)).trans ?_
    refine tz_cg ?_ ?_
    · skip
      refine (tz_g_iinc (v := 1) (L2 := [some (.ref 157), some (.int z1), some (.int (z2 + 1))]) rfl rfl rfl rfl (tz_in0 rfl)).trans ?_
      refine (tz_g_goto (t := 4) (by decide) (tz_in0 rfl)).trans ?_
      exact tz_Gm (L2 := [some (.ref 157), some (.int z1), some (.int (z2 + 1))]) rfl rfl rfl rfl
    · skip
      refine (tz_g_iinc (v := 1) (L2 := [some (.ref 157), some (.int (z1 + 1)), some (.int z2)]) rfl rfl rfl rfl (tz_in0 rfl)).trans ?_
      refine (tz_g_iinc (v := 1) (L2 := [some (.ref 157), some (.int (z1 + 1)), some (.int (z2 + 1))]) rfl rfl rfl rfl (tz_in0 rfl)).trans ?_
      refine (tz_g_goto (t := 4) (by decide) (tz_in0 rfl)).trans ?_
      exact tz_Gm (L2 := [some (.ref 157), some (.int (z1 + 1)), some (.int (z2 + 1))]) rfl rfl rfl rfl

theorem e_X12_draw (x1 : Int32) (A : tz_Mem) : f_X12_draw x1 A =
  if x1 = 0 then none else
some (some (.int ((Int32.toUInt32 (tz_g (tz_s A 157 24 (((tz_g A 157 24) * 1103515245) + 12345)) 157 24) >>> (Int32.toUInt32 16 &&& Int32.toUInt32 31)).toInt32 - (Int32.toUInt32 (tz_g (tz_s A 157 24 (((tz_g A 157 24) * 1103515245) + 12345)) 157 24) >>> (Int32.toUInt32 16 &&& Int32.toUInt32 31)).toInt32 / x1 * x1)), (tz_s A 157 24 (((tz_g A 157 24) * 1103515245) + 12345))) := by
  refine (tz_Fe (L := [some (.ref 157), some (.int x1)]) rfl).trans ?_
  refine (tz_g_aload_n rfl (tz_in0 rfl)).trans ?_
  refine (tz_g_aload_n rfl (tz_in0 rfl)).trans ?_
  refine (tz_g_geti rfl rfl rfl (tz_in0 rfl)).trans ?_
  refine (tz_g_ldc_w (v := 1103515245) rfl rfl (tz_in0 rfl)).trans ?_
  refine (tz_g_imul (tz_in0 rfl)).trans ?_
  refine (tz_g_sipush (v := 12345) rfl (tz_in0 rfl)).trans ?_
  refine (tz_g_iadd (tz_in0 rfl)).trans ?_
  refine (tz_g_puti rfl rfl rfl (tz_in0 rfl)).trans ?_
  refine (tz_g_aload_n rfl (tz_in0 rfl)).trans ?_
  refine (tz_g_geti rfl rfl rfl (tz_in0 rfl)).trans ?_
  refine (tz_g_bipush (v := 16) rfl (tz_in0 rfl)).trans ?_
  refine (tz_g_iushr (tz_in0 rfl)).trans ?_
  refine (tz_g_iload_n rfl (tz_in0 rfl)).trans ?_
  refine (tz_g_irem (tz_in0 rfl)).trans ?_
  refine tz_cn1 ?_
  exact tz_g_ret1 (tz_in0 rfl) rfl

theorem e_X12_seed (x1 : Int32) (A : tz_Mem) : f_X12_seed x1 A =
  some (some (.int (tz_g A 157 24)), (tz_s A 157 24 x1)) := by
  refine (tz_Fe (L := [some (.ref 157), some (.int x1), none]) rfl).trans ?_
  refine (tz_g_aload_n rfl (tz_in0 rfl)).trans ?_
  refine (tz_g_geti rfl rfl rfl (tz_in0 rfl)).trans ?_
  refine (tz_g_istore_n (L2 := [some (.ref 157), some (.int x1), some (.int (tz_g A 157 24))]) rfl rfl (tz_in0 rfl)).trans ?_
  refine (tz_g_aload_n rfl (tz_in0 rfl)).trans ?_
  refine (tz_g_iload_n rfl (tz_in0 rfl)).trans ?_
  refine (tz_g_puti rfl rfl rfl (tz_in0 rfl)).trans ?_
  refine (tz_g_iload_n rfl (tz_in0 rfl)).trans ?_
  exact tz_g_ret1 (tz_in0 rfl) rfl

theorem e_X12_ran (x1 : Int32) (A : tz_Mem) : f_X12_ran x1 A =
  if 20 ≤ (tz_g A 157 28) then
  some (none, (tz_s A 157 28 ((tz_g A 157 28) + 1)))
else
  if (tz_g A 157 28) < 0 ∨ 20 ≤ (Int32.toNatClampNeg (tz_g A 157 28)) then none else
  some (none, (tz_s (tz_s A 178 (Int32.toNatClampNeg (tz_g A 157 28)) x1) 157 28 ((tz_g (tz_s A 178 (Int32.toNatClampNeg (tz_g A 157 28)) x1) 157 28) + 1))) := by
  refine (tz_Fe (L := [some (.ref 157), some (.int x1)]) rfl).trans ?_
  refine (tz_g_aload_n rfl (tz_in0 rfl)).trans ?_
  refine (tz_g_geti rfl rfl rfl (tz_in0 rfl)).trans ?_
  refine (tz_g_bipush (v := 20) rfl (tz_in0 rfl)).trans ?_
  refine (tz_g_ic_ge (t := 19) (by decide) (tz_in0 rfl)).trans ?_
  refine tz_cg ?_ ?_
  · skip
    refine (tz_g_aload_n rfl (tz_in0 rfl)).trans ?_
    refine (tz_g_dup rfl (tz_in0 rfl)).trans ?_
    refine (tz_g_geti rfl rfl rfl (tz_in0 rfl)).trans ?_
    refine (tz_g_iconst (v := 1) rfl (tz_in0 rfl)).trans ?_
    refine (tz_g_iadd (tz_in0 rfl)).trans ?_
    refine (tz_g_puti rfl rfl rfl (tz_in0 rfl)).trans ?_
    exact tz_g_ret0 (tz_in0 rfl) rfl
  · skip
    refine (tz_g_aload_n rfl (tz_in0 rfl)).trans ?_
    refine (tz_g_getr (j := 178) rfl rfl rfl rfl rfl (tz_in0 rfl)).trans ?_
    refine (tz_g_aload_n rfl (tz_in0 rfl)).trans ?_
    refine (tz_g_geti rfl rfl rfl (tz_in0 rfl)).trans ?_
    refine (tz_g_iload_n rfl (tz_in0 rfl)).trans ?_
    refine (tz_g_iast (n := 20) rfl rfl rfl (tz_in0 rfl)).trans ?_
    refine tz_cn1 ?_
    refine (tz_g_aload_n rfl (tz_in0 rfl)).trans ?_
    refine (tz_g_dup rfl (tz_in0 rfl)).trans ?_
    refine (tz_g_geti rfl rfl rfl (tz_in0 rfl)).trans ?_
    refine (tz_g_iconst (v := 1) rfl (tz_in0 rfl)).trans ?_
    refine (tz_g_iadd (tz_in0 rfl)).trans ?_
    refine (tz_g_puti rfl rfl rfl (tz_in0 rfl)).trans ?_
    exact tz_g_ret0 (tz_in0 rfl) rfl

theorem e_X12_trace (x1 : Int32) (A : tz_Mem) : f_X12_trace x1 A =
  if x1 < 0 then
  some (some (.int (-1)), A)
else
  if (tz_g A 157 28) ≤ x1 then
    some (some (.int (-1)), A)
  else
    if 20 ≤ x1 then
      some (some (.int (-1)), A)
    else
      if x1 < 0 ∨ 20 ≤ (Int32.toNatClampNeg x1) then none else
      some (some (.int (tz_g A 178 (Int32.toNatClampNeg x1))), A) := by
  refine (tz_Fe (L := [some (.ref 157), some (.int x1)]) rfl).trans ?_
  refine (tz_g_iload_n rfl (tz_in0 rfl)).trans ?_
  refine (tz_g_if_lt (t := 27) (by decide) (tz_in0 rfl)).trans ?_
  refine tz_cg ?_ ?_
  · skip
    refine (tz_g_iconst (v := (-1)) rfl (tz_in0 rfl)).trans ?_
    exact tz_g_ret1 (tz_in0 rfl) rfl
  · skip
    refine (tz_g_iload_n rfl (tz_in0 rfl)).trans ?_
    refine (tz_g_aload_n rfl (tz_in0 rfl)).trans ?_
    refine (tz_g_geti rfl rfl rfl (tz_in0 rfl)).trans ?_
    refine (tz_g_ic_ge (t := 27) (by decide) (tz_in0 rfl)).trans ?_
    refine tz_cg ?_ ?_
    · skip
      refine (tz_g_iconst (v := (-1)) rfl (tz_in0 rfl)).trans ?_
      exact tz_g_ret1 (tz_in0 rfl) rfl
    · skip
      refine (tz_g_iload_n rfl (tz_in0 rfl)).trans ?_
      refine (tz_g_bipush (v := 20) rfl (tz_in0 rfl)).trans ?_
      refine (tz_g_ic_ge (t := 27) (by decide) (tz_in0 rfl)).trans ?_
      refine tz_cg ?_ ?_
      · skip
        refine (tz_g_iconst (v := (-1)) rfl (tz_in0 rfl)).trans ?_
        exact tz_g_ret1 (tz_in0 rfl) rfl
      · skip
        refine (tz_g_aload_n rfl (tz_in0 rfl)).trans ?_
        refine (tz_g_getr (j := 178) rfl rfl rfl rfl rfl (tz_in0 rfl)).trans ?_
        refine (tz_g_iload_n rfl (tz_in0 rfl)).trans ?_
        refine (tz_g_iald (n := 20) rfl rfl rfl (tz_in0 rfl)).trans ?_
        refine tz_cn1 ?_
        refine (tz_g_goto (t := 28) (by decide) (tz_in0 rfl)).trans ?_
        exact tz_g_ret1 (tz_in0 rfl) rfl

theorem e_X8_putRow (x1 : Int32) (x2 : Int32) (x3 : Int32) (A : tz_Mem) : f_X8_putRow x1 x2 x3 A =
  if x1 < 0 ∨ 8 ≤ (Int32.toNatClampNeg x1) then none else
if x1 < 0 ∨ 8 ≤ (Int32.toNatClampNeg x1) then none else
if x1 < 0 ∨ 8 ≤ (Int32.toNatClampNeg x1) then none else
tz_bV (f_J7_fill_d0a16 (22 + (Int32.toNatClampNeg x1)) 0 (tz_s (tz_s A 19 (Int32.toNatClampNeg x1) (100 + x2)) 20 (Int32.toNatClampNeg x1) x3)) (fun A1 =>
some (none, A1)) := by
  refine (tz_Fe (L := [some (.ref 18), some (.int x1), some (.int x2), some (.int x3)]) rfl).trans ?_
  refine (tz_g_aload_n rfl (tz_in0 rfl)).trans ?_
  refine (tz_g_getr (j := 19) rfl rfl rfl rfl rfl (tz_in0 rfl)).trans ?_
  refine (tz_g_iload_n rfl (tz_in0 rfl)).trans ?_
  refine (tz_g_bipush (v := 100) rfl (tz_in0 rfl)).trans ?_
  refine (tz_g_iload_n rfl (tz_in0 rfl)).trans ?_
  refine (tz_g_iadd (tz_in0 rfl)).trans ?_
  refine (tz_g_iast (n := 8) rfl rfl rfl (tz_in0 rfl)).trans ?_
  refine tz_cn1 ?_
  refine (tz_g_aload_n rfl (tz_in0 rfl)).trans ?_
  refine (tz_g_getr (j := 20) rfl rfl rfl rfl rfl (tz_in0 rfl)).trans ?_
  refine (tz_g_iload_n rfl (tz_in0 rfl)).trans ?_
  refine (tz_g_iload_n rfl (tz_in0 rfl)).trans ?_
  refine (tz_g_iast (n := 8) rfl rfl rfl (tz_in0 rfl)).trans ?_
  refine tz_cn1 ?_
  refine (tz_g_aload_n rfl (tz_in0 rfl)).trans ?_
  refine (tz_g_getr (j := 21) rfl rfl rfl rfl rfl (tz_in0 rfl)).trans ?_
  refine (tz_g_iload_n rfl (tz_in0 rfl)).trans ?_
  refine (tz_g_aald (n := 8) rfl rfl (tz_in0 rfl)).trans ?_
  refine tz_cnh (fun h_0 => ?_)
  refine (tz_g_lconst (v := 0) rfl (tz_in0 rfl)).trans ?_
  refine (tz_g_cs2V (m2 := 17) (rc := 0) rfl rfl rfl rfl rfl rfl (by decide) (tz_in0 rfl)).trans ?_
  refine tz_jV (fun A1 => ?_)
  exact tz_g_ret0 (tz_in0 rfl) rfl

theorem e_X8_refusalOfRow (x1 : Int32) (A : tz_Mem) : f_X8_refusalOfRow x1 A =
  tz_bI (f_X8_has x1 A) (fun y1 A1 =>
if ¬ y1 = 0 then
  tz_bI (f_X8_holdsRow x1 A1) (fun y2 A2 =>
  if y2 = 0 then
    if x1 < 0 ∨ 8 ≤ (Int32.toNatClampNeg x1) then none else
    if ¬ (tz_g A2 19 (Int32.toNatClampNeg x1)) = (-1) then
      some (some (.int (-2)), A2)
    else
      some (some (.int (-3)), A2)
  else
    some (some (.int 0), A2))
else
  some (some (.int (-1)), A1)) := by
  refine (tz_Fe (L := [some (.ref 18), some (.int x1)]) rfl).trans ?_
  refine (tz_g_aload_n rfl (tz_in0 rfl)).trans ?_
  refine (tz_g_iload_n rfl (tz_in0 rfl)).trans ?_
  refine (tz_g_cv1I (m2 := 14) (rc := 4) rfl rfl rfl rfl rfl rfl (by decide) (tz_in0 rfl)).trans ?_
  refine tz_jI (fun y1 A1 => ?_)
  refine (tz_g_if_ne (t := 10) (by decide) (tz_in0 rfl)).trans ?_
  refine tz_cg ?_ ?_
  · skip
    refine (tz_g_aload_n rfl (tz_in0 rfl)).trans ?_
    refine (tz_g_iload_n rfl (tz_in0 rfl)).trans ?_
    refine (tz_g_cv1I (m2 := 20) (rc := 4) rfl rfl rfl rfl rfl rfl (by decide) (tz_in0 rfl)).trans ?_
    refine tz_jI (fun y2 A2 => ?_)
    refine (tz_g_if_eq (t := 20) (by decide) (tz_in0 rfl)).trans ?_
    refine tz_cg ?_ ?_
    · skip
      refine (tz_g_aload_n rfl (tz_in0 rfl)).trans ?_
      refine (tz_g_getr (j := 19) rfl rfl rfl rfl rfl (tz_in0 rfl)).trans ?_
      refine (tz_g_iload_n rfl (tz_in0 rfl)).trans ?_
      refine (tz_g_iald (n := 8) rfl rfl rfl (tz_in0 rfl)).trans ?_
      refine tz_cn1 ?_
      refine (tz_g_iconst (v := (-1)) rfl (tz_in0 rfl)).trans ?_
      refine (tz_g_ic_ne (t := 35) (by decide) (tz_in0 rfl)).trans ?_
      refine tz_cg ?_ ?_
      · skip
        refine (tz_g_bipush (v := (-2)) rfl (tz_in0 rfl)).trans ?_
        exact tz_g_ret1 (tz_in0 rfl) rfl
      · skip
        refine (tz_g_bipush (v := (-3)) rfl (tz_in0 rfl)).trans ?_
        refine (tz_g_goto (t := 37) (by decide) (tz_in0 rfl)).trans ?_
        exact tz_g_ret1 (tz_in0 rfl) rfl
    · skip
      refine (tz_g_iconst (v := 0) rfl (tz_in0 rfl)).trans ?_
      exact tz_g_ret1 (tz_in0 rfl) rfl
  · skip
    refine (tz_g_iconst (v := (-1)) rfl (tz_in0 rfl)).trans ?_
    exact tz_g_ret1 (tz_in0 rfl) rfl

theorem e_X8_hasElement (x1 : Int32) (x2 : Int32) (A : tz_Mem) : f_X8_hasElement x1 x2 A =
  tz_bI (f_X8_has x1 A) (fun y1 A1 =>
if y1 = 0 then
  some (some (.int 0), A1)
else
  tz_bI (f_X8_holdsRow x1 A1) (fun y2 A2 =>
  if y2 = 0 then
    some (some (.int 0), A2)
  else
    if x2 < 0 then
      some (some (.int 0), A2)
    else
      if x1 < 0 ∨ 8 ≤ (Int32.toNatClampNeg x1) then none else
      if (tz_g A2 20 (Int32.toNatClampNeg x1)) ≤ x2 then
        some (some (.int 0), A2)
      else
        some (some (.int 1), A2))) := by
  refine (tz_Fe (L := [some (.ref 18), some (.int x1), some (.int x2)]) rfl).trans ?_
  refine (tz_g_aload_n rfl (tz_in0 rfl)).trans ?_
  refine (tz_g_iload_n rfl (tz_in0 rfl)).trans ?_
  refine (tz_g_cv1I (m2 := 14) (rc := 4) rfl rfl rfl rfl rfl rfl (by decide) (tz_in0 rfl)).trans ?_
  refine tz_jI (fun y1 A1 => ?_)
  refine (tz_g_if_eq (t := 34) (by decide) (tz_in0 rfl)).trans ?_
  refine tz_cg ?_ ?_
  · skip
    refine (tz_g_iconst (v := 0) rfl (tz_in0 rfl)).trans ?_
    exact tz_g_ret4K (by decide) (tz_in0 rfl) rfl
  · skip
    refine (tz_g_aload_n rfl (tz_in0 rfl)).trans ?_
    refine (tz_g_iload_n rfl (tz_in0 rfl)).trans ?_
    refine (tz_g_cv1I (m2 := 20) (rc := 4) rfl rfl rfl rfl rfl rfl (by decide) (tz_in0 rfl)).trans ?_
    refine tz_jI (fun y2 A2 => ?_)
    refine (tz_g_if_eq (t := 34) (by decide) (tz_in0 rfl)).trans ?_
    refine tz_cg ?_ ?_
    · skip
      refine (tz_g_iconst (v := 0) rfl (tz_in0 rfl)).trans ?_
      exact tz_g_ret4K (by decide) (tz_in0 rfl) rfl
    · skip
      refine (tz_g_iload_n rfl (tz_in0 rfl)).trans ?_
      refine (tz_g_if_lt (t := 34) (by decide) (tz_in0 rfl)).trans ?_
      refine tz_cg ?_ ?_
      · skip
        refine (tz_g_iconst (v := 0) rfl (tz_in0 rfl)).trans ?_
        exact tz_g_ret4K (by decide) (tz_in0 rfl) rfl
      · skip
        refine (tz_g_iload_n rfl (tz_in0 rfl)).trans ?_
        refine (tz_g_aload_n rfl (tz_in0 rfl)).trans ?_
        refine (tz_g_getr (j := 20) rfl rfl rfl rfl rfl (tz_in0 rfl)).trans ?_
        refine (tz_g_iload_n rfl (tz_in0 rfl)).trans ?_
        refine (tz_g_iald (n := 8) rfl rfl rfl (tz_in0 rfl)).trans ?_
        refine tz_cn1 ?_
        refine (tz_g_ic_ge (t := 34) (by decide) (tz_in0 rfl)).trans ?_
        refine tz_cg ?_ ?_
        · skip
          refine (tz_g_iconst (v := 0) rfl (tz_in0 rfl)).trans ?_
          exact tz_g_ret4K (by decide) (tz_in0 rfl) rfl
        · skip
          refine (tz_g_iconst (v := 1) rfl (tz_in0 rfl)).trans ?_
          refine (tz_g_goto (t := 35) (by decide) (tz_in0 rfl)).trans ?_
          exact tz_g_ret4K (by decide) (tz_in0 rfl) rfl

theorem e_X11_show (x1 : Int32) (x2 : Int32) (A : tz_Mem) : f_X11_show x1 x2 A =
  tz_bI (f_X8_has x1 A) (fun y1 A1 =>
if y1 = 0 then
  tz_bI (f_X11_refuse (-1) A1) (fun y2 A2 =>
  some (some (.int y2), A2))
else
  if x2 = (-1) then
    if x1 < 0 ∨ 8 ≤ (Int32.toNatClampNeg x1) then none else
    if ¬ x2 = (-1) then
      some (some (.int 1), (tz_s A1 19 (Int32.toNatClampNeg x1) x2))
    else
      some (some (.int 0), (tz_s A1 19 (Int32.toNatClampNeg x1) x2))
  else
    tz_bI (f_X3_has 30 x2 A1) (fun y2 A2 =>
    if ¬ y2 = 0 then
      if x1 < 0 ∨ 8 ≤ (Int32.toNatClampNeg x1) then none else
      if ¬ x2 = (-1) then
        some (some (.int 1), (tz_s A2 19 (Int32.toNatClampNeg x1) x2))
      else
        some (some (.int 0), (tz_s A2 19 (Int32.toNatClampNeg x1) x2))
    else
      tz_bI (f_X11_refuse (-1) A2) (fun y3 A3 =>
      some (some (.int y3), A3)))) := by
  refine (tz_Fe (L := [some (.ref 17), some (.int x1), some (.int x2)]) rfl).trans ?_
  refine (tz_g_aload_n rfl (tz_in0 rfl)).trans ?_
  refine (tz_g_getr (j := 18) rfl rfl rfl rfl rfl (tz_in0 rfl)).trans ?_
  refine (tz_g_iload_n rfl (tz_in0 rfl)).trans ?_
  refine (tz_g_cv1I (m2 := 14) (rc := 4) rfl rfl rfl rfl rfl rfl (by decide) (tz_in0 rfl)).trans ?_
  refine tz_jI (fun y1 A1 => ?_)
  refine (tz_g_if_eq (t := 30) (by decide) (tz_in0 rfl)).trans ?_
  refine tz_cg ?_ ?_
  · skip
    refine (tz_g_aload_n rfl (tz_in0 rfl)).trans ?_
    refine (tz_g_iconst (v := (-1)) rfl (tz_in0 rfl)).trans ?_
    refine (tz_g_cv1I (m2 := 15) (rc := 1) rfl rfl rfl rfl rfl rfl (by decide) (tz_in0 rfl)).trans ?_
    refine tz_jI (fun y2 A2 => ?_)
    exact tz_g_ret1 (tz_in0 rfl) rfl
  · skip
    refine (tz_g_iload_n rfl (tz_in0 rfl)).trans ?_
    refine (tz_g_iconst (v := (-1)) rfl (tz_in0 rfl)).trans ?_
    refine (tz_g_ic_eq (t := 36) (by decide) (tz_in0 rfl)).trans ?_
    refine tz_cg ?_ ?_
    · skip
      refine (tz_g_aload_n rfl (tz_in0 rfl)).trans ?_
      refine (tz_g_getr (j := 18) rfl rfl rfl rfl rfl (tz_in0 rfl)).trans ?_
      refine (tz_g_getr (j := 19) rfl rfl rfl rfl rfl (tz_in0 rfl)).trans ?_
      refine (tz_g_iload_n rfl (tz_in0 rfl)).trans ?_
      refine (tz_g_iload_n rfl (tz_in0 rfl)).trans ?_
      refine (tz_g_iast (n := 8) rfl rfl rfl (tz_in0 rfl)).trans ?_
      refine tz_cn1 ?_
      refine (tz_g_iload_n rfl (tz_in0 rfl)).trans ?_
      refine (tz_g_iconst (v := (-1)) rfl (tz_in0 rfl)).trans ?_
      refine (tz_g_ic_ne (t := 55) (by decide) (tz_in0 rfl)).trans ?_
      refine tz_cg ?_ ?_
      · skip
        refine (tz_g_iconst (v := 1) rfl (tz_in0 rfl)).trans ?_
        exact tz_g_ret1 (tz_in0 rfl) rfl
      · skip
        refine (tz_g_iconst (v := 0) rfl (tz_in0 rfl)).trans ?_
        refine (tz_g_goto (t := 56) (by decide) (tz_in0 rfl)).trans ?_
        exact tz_g_ret1 (tz_in0 rfl) rfl
    · skip
      refine (tz_g_aload_n rfl (tz_in0 rfl)).trans ?_
      refine (tz_g_getr (j := 30) rfl rfl rfl rfl rfl (tz_in0 rfl)).trans ?_
      refine (tz_g_getr (j := 31) rfl rfl rfl rfl rfl (tz_in0 rfl)).trans ?_
      refine (tz_g_iload_n rfl (tz_in0 rfl)).trans ?_
      refine (tz_g_cv1I (m2 := 28) (rc := 4) rfl rfl rfl rfl rfl rfl (by decide) (tz_in0 rfl)).trans ?_
      refine tz_jI (fun y2 A2 => ?_)
      refine (tz_g_if_ne (t := 36) (by decide) (tz_in0 rfl)).trans ?_
      refine tz_cg ?_ ?_
      · skip
        refine (tz_g_aload_n rfl (tz_in0 rfl)).trans ?_
        refine (tz_g_getr (j := 18) rfl rfl rfl rfl rfl (tz_in0 rfl)).trans ?_
        refine (tz_g_getr (j := 19) rfl rfl rfl rfl rfl (tz_in0 rfl)).trans ?_
        refine (tz_g_iload_n rfl (tz_in0 rfl)).trans ?_
        refine (tz_g_iload_n rfl (tz_in0 rfl)).trans ?_
        refine (tz_g_iast (n := 8) rfl rfl rfl (tz_in0 rfl)).trans ?_
        refine tz_cn1 ?_
        refine (tz_g_iload_n rfl (tz_in0 rfl)).trans ?_
        refine (tz_g_iconst (v := (-1)) rfl (tz_in0 rfl)).trans ?_
        refine (tz_g_ic_ne (t := 55) (by decide) (tz_in0 rfl)).trans ?_
        refine tz_cg ?_ ?_
        · skip
          refine (tz_g_iconst (v := 1) rfl (tz_in0 rfl)).trans ?_
          exact tz_g_ret1 (tz_in0 rfl) rfl
        · skip
          refine (tz_g_iconst (v := 0) rfl (tz_in0 rfl)).trans ?_
          refine (tz_g_goto (t := 56) (by decide) (tz_in0 rfl)).trans ?_
          exact tz_g_ret1 (tz_in0 rfl) rfl
      · skip
        refine (tz_g_aload_n rfl (tz_in0 rfl)).trans ?_
        refine (tz_g_iconst (v := (-1)) rfl (tz_in0 rfl)).trans ?_
        refine (tz_g_cv1I (m2 := 15) (rc := 1) rfl rfl rfl rfl rfl rfl (by decide) (tz_in0 rfl)).trans ?_
        refine tz_jI (fun y3 A3 => ?_)
        exact tz_g_ret1 (tz_in0 rfl) rfl

theorem e_X11_holds (x1 : Int32) (A : tz_Mem) : f_X11_holds x1 A =
  tz_bI (f_X8_has x1 A) (fun y1 A1 =>
if y1 = 0 then
  some (some (.int (-1)), A1)
else
  if x1 < 0 ∨ 8 ≤ (Int32.toNatClampNeg x1) then none else
  some (some (.int (tz_g A1 19 (Int32.toNatClampNeg x1))), A1)) := by
  refine (tz_Fe (L := [some (.ref 17), some (.int x1)]) rfl).trans ?_
  refine (tz_g_aload_n rfl (tz_in0 rfl)).trans ?_
  refine (tz_g_getr (j := 18) rfl rfl rfl rfl rfl (tz_in0 rfl)).trans ?_
  refine (tz_g_iload_n rfl (tz_in0 rfl)).trans ?_
  refine (tz_g_cv1I (m2 := 14) (rc := 4) rfl rfl rfl rfl rfl rfl (by decide) (tz_in0 rfl)).trans ?_
  refine tz_jI (fun y1 A1 => ?_)
  refine (tz_g_if_eq (t := 23) (by decide) (tz_in0 rfl)).trans ?_
  refine tz_cg ?_ ?_
  · skip
    refine (tz_g_iconst (v := (-1)) rfl (tz_in0 rfl)).trans ?_
    exact tz_g_ret1 (tz_in0 rfl) rfl
  · skip
    refine (tz_g_aload_n rfl (tz_in0 rfl)).trans ?_
    refine (tz_g_getr (j := 18) rfl rfl rfl rfl rfl (tz_in0 rfl)).trans ?_
    refine (tz_g_getr (j := 19) rfl rfl rfl rfl rfl (tz_in0 rfl)).trans ?_
    refine (tz_g_iload_n rfl (tz_in0 rfl)).trans ?_
    refine (tz_g_iald (n := 8) rfl rfl rfl (tz_in0 rfl)).trans ?_
    refine tz_cn1 ?_
    refine (tz_g_goto (t := 24) (by decide) (tz_in0 rfl)).trans ?_
    exact tz_g_ret1 (tz_in0 rfl) rfl

theorem e_X3_answer (b : Nat) (x1 : Int32) (x2 : Int32) (hb : tz_sky b) (A : tz_Mem) : f_X3_answer b x1 x2 A =
  if x2 = 0 then
  if x1 < 0 ∨ 8 ≤ (Int32.toNatClampNeg x1) then none else
  tz_bI (f_J6_bitCount (tz_g A (b + 4) (Int32.toNatClampNeg x1)) A) (fun y1 A1 =>
  some (some (.int y1), A1))
else if x2 = 2 then
  tz_bI (f_X3_becomes b x1 1234 A) (fun y1 A1 =>
  some (some (.int y1), A1))
else if x2 = 5 then
  tz_bI (f_X3_becomes b x1 1234 A) (fun y1 A1 =>
  some (some (.int y1), A1))
else tz_bI (f_X3_timesHeard b x1 50 A) (fun y1 A1 =>
some (some (.int y1), A1)) := by
  obtain rfl | rfl | rfl | rfl | rfl := hb
  all_goals
    refine (tz_Fe (L := [some (.ref _), some (.int x1), some (.int x2)]) rfl).trans ?_
    refine (tz_g_iload_n rfl (tz_in0 rfl)).trans ?_
    refine (tz_g_lsw (by decide) (tz_in0 rfl)).trans ?_
    refine tz_slc (v := 0) (by decide) ?_ ?_
    · refine (tz_tg (t := 36) (by decide)).trans ?_
      refine (tz_g_aload_n rfl (tz_in0 rfl)).trans ?_
      refine (tz_g_getr (j := _) rfl rfl rfl rfl rfl (tz_in0 rfl)).trans ?_
      refine (tz_g_iload_n rfl (tz_in0 rfl)).trans ?_
      refine (tz_g_iald (n := 8) rfl rfl rfl (tz_in0 rfl)).trans ?_
      refine tz_cn1 ?_
      refine (tz_g_cs1I (m2 := 34) (rc := 1) rfl rfl rfl rfl rfl rfl (by decide) (tz_in0 rfl)).trans ?_
      refine tz_jI (fun y1 A1 => ?_)
      exact tz_g_ret1 (tz_in0 rfl) rfl
    refine tz_slc (v := 2) (by decide) ?_ ?_
    · refine (tz_tg (t := 46) (by decide)).trans ?_
      refine (tz_g_aload_n rfl (tz_in0 rfl)).trans ?_
      refine (tz_g_iload_n rfl (tz_in0 rfl)).trans ?_
      refine (tz_g_sipush (v := 1234) rfl (tz_in0 rfl)).trans ?_
      refine (tz_g_cv2I (m2 := 35) (rc := 1) rfl rfl rfl rfl rfl rfl (by decide) (tz_in0 rfl)).trans ?_
      refine tz_jI (fun y1 A1 => ?_)
      exact tz_g_ret1 (tz_in0 rfl) rfl
    refine tz_slc (v := 5) (by decide) ?_ ?_
    · refine (tz_tg (t := 46) (by decide)).trans ?_
      refine (tz_g_aload_n rfl (tz_in0 rfl)).trans ?_
      refine (tz_g_iload_n rfl (tz_in0 rfl)).trans ?_
      refine (tz_g_sipush (v := 1234) rfl (tz_in0 rfl)).trans ?_
      refine (tz_g_cv2I (m2 := 35) (rc := 1) rfl rfl rfl rfl rfl rfl (by decide) (tz_in0 rfl)).trans ?_
      refine tz_jI (fun y1 A1 => ?_)
      exact tz_g_ret1 (tz_in0 rfl) rfl
    refine tz_sld ?_
    refine (tz_tg (t := 55) (by decide)).trans ?_
    refine (tz_g_aload_n rfl (tz_in0 rfl)).trans ?_
    refine (tz_g_iload_n rfl (tz_in0 rfl)).trans ?_
    refine (tz_g_bipush (v := 50) rfl (tz_in0 rfl)).trans ?_
    refine (tz_g_cv2I (m2 := 36) (rc := 1) rfl rfl rfl rfl rfl rfl (by decide) (tz_in0 rfl)).trans ?_
    refine tz_jI (fun y1 A1 => ?_)
    exact tz_g_ret1 (tz_in0 rfl) rfl

theorem e_X11_hill (x1 : Int32) (x2 : Int32) (A : tz_Mem) : f_X11_hill x1 x2 A =
  tz_bI (f_X11_isKind x1 A) (fun y1 A1 =>
if ¬ y1 = 0 then
  if x2 < 0 then
    tz_bI (f_X11_refuse (-6) A1) (fun y2 A2 =>
    some (some (.int y2), A2))
  else
    if x2 ≤ 9 then
      tz_bI (f_X3_isFull 30 A1) (fun y2 A2 =>
      if y2 = 0 then
        tz_bI (f_X3_add 30 x1 x2 A2) (fun y3 A3 =>
        some (some (.int y3), A3))
      else
        tz_bI (f_X11_refuse (-7) A2) (fun y3 A3 =>
        some (some (.int y3), A3)))
    else
      tz_bI (f_X11_refuse (-6) A1) (fun y2 A2 =>
      some (some (.int y2), A2))
else
  tz_bI (f_X11_refuse (-1) A1) (fun y2 A2 =>
  some (some (.int y2), A2))) := by
  refine (tz_Fe (L := [some (.ref 17), some (.int x1), some (.int x2)]) rfl).trans ?_
  refine (tz_g_iload_n rfl (tz_in0 rfl)).trans ?_
  refine (tz_g_cs1I (m2 := 31) (rc := 4) rfl rfl rfl rfl rfl rfl (by decide) (tz_in0 rfl)).trans ?_
  refine tz_jI (fun y1 A1 => ?_)
  refine (tz_g_if_ne (t := 13) (by decide) (tz_in0 rfl)).trans ?_
  refine tz_cg ?_ ?_
  · skip
    refine (tz_g_iload_n rfl (tz_in0 rfl)).trans ?_
    refine (tz_g_if_lt (t := 23) (by decide) (tz_in0 rfl)).trans ?_
    refine tz_cg ?_ ?_
    · skip
      refine (tz_g_aload_n rfl (tz_in0 rfl)).trans ?_
      refine (tz_g_bipush (v := (-6)) rfl (tz_in0 rfl)).trans ?_
      refine (tz_g_cv1I (m2 := 15) (rc := 1) rfl rfl rfl rfl rfl rfl (by decide) (tz_in0 rfl)).trans ?_
      refine tz_jI (fun y2 A2 => ?_)
      exact tz_g_ret1 (tz_in0 rfl) rfl
    · skip
      refine (tz_g_iload_n rfl (tz_in0 rfl)).trans ?_
      refine (tz_g_bipush (v := 9) rfl (tz_in0 rfl)).trans ?_
      refine (tz_g_ic_le (t := 30) (by decide) (tz_in0 rfl)).trans ?_
      refine tz_cg ?_ ?_
      · skip
        refine (tz_g_aload_n rfl (tz_in0 rfl)).trans ?_
        refine (tz_g_getr (j := 30) rfl rfl rfl rfl rfl (tz_in0 rfl)).trans ?_
        refine (tz_g_getr (j := 31) rfl rfl rfl rfl rfl (tz_in0 rfl)).trans ?_
        refine (tz_g_cv0I (m2 := 38) (rc := 4) rfl rfl rfl rfl rfl rfl (by decide) (tz_in0 rfl)).trans ?_
        refine tz_jI (fun y2 A2 => ?_)
        refine (tz_g_if_eq (t := 50) (by decide) (tz_in0 rfl)).trans ?_
        refine tz_cg ?_ ?_
        · skip
          refine (tz_g_aload_n rfl (tz_in0 rfl)).trans ?_
          refine (tz_g_getr (j := 30) rfl rfl rfl rfl rfl (tz_in0 rfl)).trans ?_
          refine (tz_g_getr (j := 31) rfl rfl rfl rfl rfl (tz_in0 rfl)).trans ?_
          refine (tz_g_iload_n rfl (tz_in0 rfl)).trans ?_
          refine (tz_g_iload_n rfl (tz_in0 rfl)).trans ?_
          refine (tz_g_cv2I (m2 := 39) (rc := 1) rfl rfl rfl rfl rfl rfl (by decide) (tz_in0 rfl)).trans ?_
          refine tz_jI (fun y3 A3 => ?_)
          exact tz_g_ret1 (tz_in0 rfl) rfl
        · skip
          refine (tz_g_aload_n rfl (tz_in0 rfl)).trans ?_
          refine (tz_g_bipush (v := (-7)) rfl (tz_in0 rfl)).trans ?_
          refine (tz_g_cv1I (m2 := 15) (rc := 1) rfl rfl rfl rfl rfl rfl (by decide) (tz_in0 rfl)).trans ?_
          refine tz_jI (fun y3 A3 => ?_)
          exact tz_g_ret1 (tz_in0 rfl) rfl
      · skip
        refine (tz_g_aload_n rfl (tz_in0 rfl)).trans ?_
        refine (tz_g_bipush (v := (-6)) rfl (tz_in0 rfl)).trans ?_
        refine (tz_g_cv1I (m2 := 15) (rc := 1) rfl rfl rfl rfl rfl rfl (by decide) (tz_in0 rfl)).trans ?_
        refine tz_jI (fun y2 A2 => ?_)
        exact tz_g_ret1 (tz_in0 rfl) rfl
  · skip
    refine (tz_g_aload_n rfl (tz_in0 rfl)).trans ?_
    refine (tz_g_iconst (v := (-1)) rfl (tz_in0 rfl)).trans ?_
    refine (tz_g_cv1I (m2 := 15) (rc := 1) rfl rfl rfl rfl rfl rfl (by decide) (tz_in0 rfl)).trans ?_
    refine tz_jI (fun y2 A2 => ?_)
    exact tz_g_ret1 (tz_in0 rfl) rfl

theorem e_X11_isWay (x1 : Int32) (x2 : Int32) (A : tz_Mem) : f_X11_isWay x1 x2 A =
  if x2 < 2 then
  some (some (.int 0), A)
else
  if x2 ≤ 6 then
    tz_bI (f_X8_number x1 (x2 - 1) A) (fun y1 A1 =>
    q_X11_isWay_28 x1 x2 y1 0 A1)
  else
    some (some (.int 0), A) := by
  refine (tz_Fe (L := [some (.ref 17), some (.int x1), some (.int x2), none, none, none]) rfl).trans ?_
  refine (tz_g_iload_n rfl (tz_in0 rfl)).trans ?_
  refine (tz_g_iconst (v := 2) rfl (tz_in0 rfl)).trans ?_
  refine (tz_g_ic_lt (t := 11) (by decide) (tz_in0 rfl)).trans ?_
  refine tz_cg ?_ ?_
  · skip
    refine (tz_g_iconst (v := 0) rfl (tz_in0 rfl)).trans ?_
    exact tz_g_ret4K (by decide) (tz_in0 rfl) rfl
  · skip
    refine (tz_g_iload_n rfl (tz_in0 rfl)).trans ?_
    refine (tz_g_bipush (v := 6) rfl (tz_in0 rfl)).trans ?_
    refine (tz_g_ic_le (t := 13) (by decide) (tz_in0 rfl)).trans ?_
    refine tz_cg ?_ ?_
    · skip
      refine (tz_g_aload_n rfl (tz_in0 rfl)).trans ?_
      refine (tz_g_getr (j := 18) rfl rfl rfl rfl rfl (tz_in0 rfl)).trans ?_
      refine (tz_g_iload_n rfl (tz_in0 rfl)).trans ?_
      refine (tz_g_iload_n rfl (tz_in0 rfl)).trans ?_
      refine (tz_g_iconst (v := 1) rfl (tz_in0 rfl)).trans ?_
      refine (tz_g_isub (tz_in0 rfl)).trans ?_
      refine (tz_g_cv2I (m2 := 44) (rc := 1) rfl rfl rfl rfl rfl rfl (by decide) (tz_in0 rfl)).trans ?_
      refine tz_jI (fun y1 A1 => ?_)
      refine (tz_g_istore_n (L2 := [some (.ref 17), some (.int x1), some (.int x2), some (.int y1), none, none]) rfl rfl (tz_in0 rfl)).trans ?_
      refine (tz_g_iconst (v := 0) rfl (tz_in0 rfl)).trans ?_
      refine (tz_g_istore (L2 := [some (.ref 17), some (.int x1), some (.int x2), some (.int y1), some (.int 0), none]) rfl rfl (tz_in0 rfl)).trans ?_
      exact tz_Gm (L2 := [some (.ref 17), some (.int x1), some (.int x2), some (.int y1), some (.int 0), none]) rfl rfl rfl rfl
    · skip
      refine (tz_g_iconst (v := 0) rfl (tz_in0 rfl)).trans ?_
      exact tz_g_ret4K (by decide) (tz_in0 rfl) rfl

theorem e_X11_isWay_28 (z1 : Int32) (z2 : Int32) (z3 : Int32) (z4 : Int32) (A : tz_Mem) : q_X11_isWay_28 z1 z2 z3 z4 A =
  if z2 ≤ z4 then
  some (some (.int 1), A)
else
  tz_bI (f_X8_number z1 z4 A) (fun y1 A1 =>
  tz_bI (f_X3_has 30 y1 A1) (fun y2 A2 =>
  if y2 = 0 then
    some (some (.int 0), A2)
  else
    if ¬ y1 = z3 then
      q_X11_isWay_28 z1 z2 y1 (z4 + 1) A2
    else
      some (some (.int 0), A2))) := by
  show tz_Go 43 28 [some (.ref 17), some (.int z1), some (.int z2), some (.int z3), some (.int z4), none] [] A = _
  refine (tz_g_iload rfl (tz_inM rfl rfl rfl)).trans ?_
  refine (tz_g_iload_n rfl (tz_in0 rfl)).trans ?_
  refine (tz_g_ic_ge (t := 78) (by decide) (tz_in0 rfl)).trans ?_
  refine tz_cg ?_ ?_
  · skip
    refine (tz_g_iconst (v := 1) rfl (tz_in0 rfl)).trans ?_
    exact tz_g_ret4K (by decide) (tz_in0 rfl) rfl
  · skip
    refine (tz_g_aload_n rfl (tz_in0 rfl)).trans ?_
    refine (tz_g_getr (j := 18) rfl rfl rfl rfl rfl (tz_in0 rfl)).trans ?_
    refine (tz_g_iload_n rfl (tz_in0 rfl)).trans ?_
    refine (tz_g_iload rfl (tz_in0 rfl)).trans ?_
    refine (tz_g_cv2I (m2 := 44) (rc := 1) rfl rfl rfl rfl rfl rfl (by decide) (tz_in0 rfl)).trans ?_
    refine tz_jI (fun y1 A1 => ?_)
    refine (tz_g_istore (L2 := [some (.ref 17), some (.int z1), some (.int z2), some (.int z3), some (.int z4), some (.int y1)]) rfl rfl (tz_in0 rfl)).trans ?_
    refine (tz_g_aload_n rfl (tz_in0 rfl)).trans ?_
    refine (tz_g_getr (j := 30) rfl rfl rfl rfl rfl (tz_in0 rfl)).trans ?_
    refine (tz_g_getr (j := 31) rfl rfl rfl rfl rfl (tz_in0 rfl)).trans ?_
    refine (tz_g_iload rfl (tz_in0 rfl)).trans ?_
    refine (tz_g_cv1I (m2 := 28) (rc := 4) rfl rfl rfl rfl rfl rfl (by decide) (tz_in0 rfl)).trans ?_
    refine tz_jI (fun y2 A2 => ?_)
    refine (tz_g_if_eq (t := 67) (by decide) (tz_in0 rfl)).trans ?_
    refine tz_cg ?_ ?_
    · skip
      refine (tz_g_iconst (v := 0) rfl (tz_in0 rfl)).trans ?_
      exact tz_g_ret4K (by decide) (tz_in0 rfl) rfl
    · skip
      refine (tz_g_iload rfl (tz_in0 rfl)).trans ?_
      refine (tz_g_iload_n rfl (tz_in0 rfl)).trans ?_
      refine (tz_g_ic_ne (t := 69) (by decide) (tz_in0 rfl)).trans ?_
      refine tz_cg ?_ ?_
      · skip
        refine (tz_g_iload rfl (tz_in0 rfl)).trans ?_
        refine (tz_g_istore_n (L2 := [some (.ref 17), some (.int z1), some (.int z2), some (.int y1), some (.int z4), some (.int y1)]) rfl rfl (tz_in0 rfl)).trans ?_
        refine (tz_g_iinc (v := 1) (L2 := [some (.ref 17), some (.int z1), some (.int z2), some (.int y1), some (.int (z4 + 1)), some (.int y1)]) rfl rfl rfl rfl (tz_in0 rfl)).trans ?_
        refine (tz_g_goto (t := 28) (by decide) (tz_in0 rfl)).trans ?_
        exact tz_Gm (L2 := [some (.ref 17), some (.int z1), some (.int z2), some (.int y1), some (.int (z4 + 1)), none]) rfl rfl rfl rfl
      · skip
        refine (tz_g_iconst (v := 0) rfl (tz_in0 rfl)).trans ?_
        exact tz_g_ret4K (by decide) (tz_in0 rfl) rfl

theorem e_X8_copyNumbers_s123 (x1 : Int32) (x2 : Int32) (A : tz_Mem) : f_X8_copyNumbers_s123 x1 x2 A =
  q_X8_copyNumbers_s123_3 x1 x2 0 A := by
  refine (tz_Fe (L := [some (.ref 18), some (.int x1), some (.int x2), some (.ref 123), none]) rfl).trans ?_
  refine (tz_g_iconst (v := 0) rfl (tz_in0 rfl)).trans ?_
  refine (tz_g_istore (L2 := [some (.ref 18), some (.int x1), some (.int x2), some (.ref 123), some (.int 0)]) rfl rfl (tz_in0 rfl)).trans ?_
  exact tz_Gm (L2 := [some (.ref 18), some (.int x1), some (.int x2), some (.ref 123), some (.int 0)]) rfl rfl rfl rfl

theorem e_X8_copyNumbers_s123_3 (z1 : Int32) (z2 : Int32) (z4 : Int32) (A : tz_Mem) : q_X8_copyNumbers_s123_3 z1 z2 z4 A =
  if z2 ≤ z4 then
  some (none, A)
else
  if 160 ≤ z4 then
    some (none, A)
  else
    tz_bI (f_X8_number z1 z4 A) (fun y1 A1 =>
    if z4 < 0 ∨ 160 ≤ (Int32.toNatClampNeg z4) then none else
    q_X8_copyNumbers_s123_3 z1 z2 (z4 + 1) (tz_s A1 123 (Int32.toNatClampNeg z4) y1)) := by
  show tz_Go 46 3 [some (.ref 18), some (.int z1), some (.int z2), some (.ref 123), some (.int z4)] [] A = _
  refine (tz_g_iload rfl (tz_inM rfl rfl rfl)).trans ?_
  refine (tz_g_iload_n rfl (tz_in0 rfl)).trans ?_
  refine (tz_g_ic_ge (t := 33) (by decide) (tz_in0 rfl)).trans ?_
  refine tz_cg ?_ ?_
  · skip
    exact tz_g_ret0 (tz_in0 rfl) rfl
  · skip
    refine (tz_g_iload rfl (tz_in0 rfl)).trans ?_
    refine (tz_g_aload_n rfl (tz_in0 rfl)).trans ?_
    refine (tz_g_alen (v := 160) rfl rfl (tz_in0 rfl)).trans ?_
    refine (tz_g_ic_ge (t := 33) (by decide) (tz_in0 rfl)).trans ?_
    refine tz_cg ?_ ?_
    · skip
      exact tz_g_ret0 (tz_in0 rfl) rfl
    · skip
      refine (tz_g_aload_n rfl (tz_in0 rfl)).trans ?_
      refine (tz_g_iload rfl (tz_in0 rfl)).trans ?_
      refine (tz_g_aload_n rfl (tz_in0 rfl)).trans ?_
      refine (tz_g_iload_n rfl (tz_in0 rfl)).trans ?_
      refine (tz_g_iload rfl (tz_in0 rfl)).trans ?_
      refine (tz_g_cv2I (m2 := 44) (rc := 1) rfl rfl rfl rfl rfl rfl (by decide) (tz_in0 rfl)).trans ?_
      refine tz_jI (fun y1 A1 => ?_)
      refine (tz_g_iast (n := 160) rfl rfl rfl (tz_in0 rfl)).trans ?_
      refine tz_cn1 ?_
      refine (tz_g_iinc (v := 1) (L2 := [some (.ref 18), some (.int z1), some (.int z2), some (.ref 123), some (.int (z4 + 1))]) rfl rfl rfl rfl (tz_in0 rfl)).trans ?_
      refine (tz_g_goto (t := 3) (by decide) (tz_in0 rfl)).trans ?_
      exact tz_Gm (L2 := [some (.ref 18), some (.int z1), some (.int z2), some (.ref 123), some (.int (z4 + 1))]) rfl rfl rfl rfl

theorem e_X8_copyNumbers_s152 (x1 : Int32) (x2 : Int32) (A : tz_Mem) : f_X8_copyNumbers_s152 x1 x2 A =
  q_X8_copyNumbers_s152_3 x1 x2 0 A := by
  refine (tz_Fe (L := [some (.ref 18), some (.int x1), some (.int x2), some (.ref 152), none]) rfl).trans ?_
  refine (tz_g_iconst (v := 0) rfl (tz_in0 rfl)).trans ?_
  refine (tz_g_istore (L2 := [some (.ref 18), some (.int x1), some (.int x2), some (.ref 152), some (.int 0)]) rfl rfl (tz_in0 rfl)).trans ?_
  exact tz_Gm (L2 := [some (.ref 18), some (.int x1), some (.int x2), some (.ref 152), some (.int 0)]) rfl rfl rfl rfl

theorem e_X8_copyNumbers_s152_3 (z1 : Int32) (z2 : Int32) (z4 : Int32) (A : tz_Mem) : q_X8_copyNumbers_s152_3 z1 z2 z4 A =
  if z2 ≤ z4 then
  some (none, A)
else
  if 40 ≤ z4 then
    some (none, A)
  else
    tz_bI (f_X8_number z1 z4 A) (fun y1 A1 =>
    if z4 < 0 ∨ 40 ≤ (Int32.toNatClampNeg z4) then none else
    q_X8_copyNumbers_s152_3 z1 z2 (z4 + 1) (tz_s A1 152 (Int32.toNatClampNeg z4) y1)) := by
  show tz_Go 46 3 [some (.ref 18), some (.int z1), some (.int z2), some (.ref 152), some (.int z4)] [] A = _
  refine (tz_g_iload rfl (tz_inM rfl rfl rfl)).trans ?_
  refine (tz_g_iload_n rfl (tz_in0 rfl)).trans ?_
  refine (tz_g_ic_ge (t := 33) (by decide) (tz_in0 rfl)).trans ?_
  refine tz_cg ?_ ?_
  · skip
    exact tz_g_ret0 (tz_in0 rfl) rfl
  · skip
    refine (tz_g_iload rfl (tz_in0 rfl)).trans ?_
    refine (tz_g_aload_n rfl (tz_in0 rfl)).trans ?_
    refine (tz_g_alen (v := 40) rfl rfl (tz_in0 rfl)).trans ?_
    refine (tz_g_ic_ge (t := 33) (by decide) (tz_in0 rfl)).trans ?_
    refine tz_cg ?_ ?_
    · skip
      exact tz_g_ret0 (tz_in0 rfl) rfl
    · skip
      refine (tz_g_aload_n rfl (tz_in0 rfl)).trans ?_
      refine (tz_g_iload rfl (tz_in0 rfl)).trans ?_
      refine (tz_g_aload_n rfl (tz_in0 rfl)).trans ?_
      refine (tz_g_iload_n rfl (tz_in0 rfl)).trans ?_
      refine (tz_g_iload rfl (tz_in0 rfl)).trans ?_
      refine (tz_g_cv2I (m2 := 44) (rc := 1) rfl rfl rfl rfl rfl rfl (by decide) (tz_in0 rfl)).trans ?_
      refine tz_jI (fun y1 A1 => ?_)
      refine (tz_g_iast (n := 40) rfl rfl rfl (tz_in0 rfl)).trans ?_
      refine tz_cn1 ?_
      refine (tz_g_iinc (v := 1) (L2 := [some (.ref 18), some (.int z1), some (.int z2), some (.ref 152), some (.int (z4 + 1))]) rfl rfl rfl rfl (tz_in0 rfl)).trans ?_
      refine (tz_g_goto (t := 3) (by decide) (tz_in0 rfl)).trans ?_
      exact tz_Gm (L2 := [some (.ref 18), some (.int z1), some (.int z2), some (.ref 152), some (.int (z4 + 1))]) rfl rfl rfl rfl

theorem e_X8_copyNumbers_s155 (x1 : Int32) (x2 : Int32) (A : tz_Mem) : f_X8_copyNumbers_s155 x1 x2 A =
  q_X8_copyNumbers_s155_3 x1 x2 0 A := by
  refine (tz_Fe (L := [some (.ref 18), some (.int x1), some (.int x2), some (.ref 155), none]) rfl).trans ?_
  refine (tz_g_iconst (v := 0) rfl (tz_in0 rfl)).trans ?_
  refine (tz_g_istore (L2 := [some (.ref 18), some (.int x1), some (.int x2), some (.ref 155), some (.int 0)]) rfl rfl (tz_in0 rfl)).trans ?_
  exact tz_Gm (L2 := [some (.ref 18), some (.int x1), some (.int x2), some (.ref 155), some (.int 0)]) rfl rfl rfl rfl

theorem e_X8_copyNumbers_s155_3 (z1 : Int32) (z2 : Int32) (z4 : Int32) (A : tz_Mem) : q_X8_copyNumbers_s155_3 z1 z2 z4 A =
  if z2 ≤ z4 then
  some (none, A)
else
  if 6 ≤ z4 then
    some (none, A)
  else
    tz_bI (f_X8_number z1 z4 A) (fun y1 A1 =>
    if z4 < 0 ∨ 6 ≤ (Int32.toNatClampNeg z4) then none else
    q_X8_copyNumbers_s155_3 z1 z2 (z4 + 1) (tz_s A1 155 (Int32.toNatClampNeg z4) y1)) := by
  show tz_Go 46 3 [some (.ref 18), some (.int z1), some (.int z2), some (.ref 155), some (.int z4)] [] A = _
  refine (tz_g_iload rfl (tz_inM rfl rfl rfl)).trans ?_
  refine (tz_g_iload_n rfl (tz_in0 rfl)).trans ?_
  refine (tz_g_ic_ge (t := 33) (by decide) (tz_in0 rfl)).trans ?_
  refine tz_cg ?_ ?_
  · skip
    exact tz_g_ret0 (tz_in0 rfl) rfl
  · skip
    refine (tz_g_iload rfl (tz_in0 rfl)).trans ?_
    refine (tz_g_aload_n rfl (tz_in0 rfl)).trans ?_
    refine (tz_g_alen (v := 6) rfl rfl (tz_in0 rfl)).trans ?_
    refine (tz_g_ic_ge (t := 33) (by decide) (tz_in0 rfl)).trans ?_
    refine tz_cg ?_ ?_
    · skip
      exact tz_g_ret0 (tz_in0 rfl) rfl
    · skip
      refine (tz_g_aload_n rfl (tz_in0 rfl)).trans ?_
      refine (tz_g_iload rfl (tz_in0 rfl)).trans ?_
      refine (tz_g_aload_n rfl (tz_in0 rfl)).trans ?_
      refine (tz_g_iload_n rfl (tz_in0 rfl)).trans ?_
      refine (tz_g_iload rfl (tz_in0 rfl)).trans ?_
      refine (tz_g_cv2I (m2 := 44) (rc := 1) rfl rfl rfl rfl rfl rfl (by decide) (tz_in0 rfl)).trans ?_
      refine tz_jI (fun y1 A1 => ?_)
      refine (tz_g_iast (n := 6) rfl rfl rfl (tz_in0 rfl)).trans ?_
      refine tz_cn1 ?_
      refine (tz_g_iinc (v := 1) (L2 := [some (.ref 18), some (.int z1), some (.int z2), some (.ref 155), some (.int (z4 + 1))]) rfl rfl rfl rfl (tz_in0 rfl)).trans ?_
      refine (tz_g_goto (t := 3) (by decide) (tz_in0 rfl)).trans ?_
      exact tz_Gm (L2 := [some (.ref 18), some (.int z1), some (.int z2), some (.ref 155), some (.int (z4 + 1))]) rfl rfl rfl rfl

