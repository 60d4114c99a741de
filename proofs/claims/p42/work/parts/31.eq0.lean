theorem e_X8_has (x1 : Int32) (A : tz_Mem) : f_X8_has x1 A =
  if x1 < 0 then
  some (some (.int 0), A)
else
  if 8 ≤ x1 then
    some (some (.int 0), A)
  else
    some (some (.int 1), A) := by
  refine (tz_Fe (L := [some (.ref 18), some (.int x1)]) rfl).trans ?_
  refine (tz_g_iload_n rfl (tz_in0 rfl)).trans ?_
  refine (tz_g_if_lt (t := 14) (by decide) (tz_in0 rfl)).trans ?_
  refine tz_cg ?_ ?_
  · skip
    refine (tz_g_iconst (v := 0) rfl (tz_in0 rfl)).trans ?_
    exact tz_g_ret4K (by decide) (tz_in0 rfl) rfl
  · skip
    refine (tz_g_iload_n rfl (tz_in0 rfl)).trans ?_
    refine (tz_g_bipush (v := 8) rfl (tz_in0 rfl)).trans ?_
    refine (tz_g_ic_ge (t := 14) (by decide) (tz_in0 rfl)).trans ?_
    refine tz_cg ?_ ?_
    · skip
      refine (tz_g_iconst (v := 0) rfl (tz_in0 rfl)).trans ?_
      exact tz_g_ret4K (by decide) (tz_in0 rfl) rfl
    · skip
      refine (tz_g_iconst (v := 1) rfl (tz_in0 rfl)).trans ?_
      refine (tz_g_goto (t := 15) (by decide) (tz_in0 rfl)).trans ?_
      exact tz_g_ret4K (by decide) (tz_in0 rfl) rfl

theorem e_X11_refuse (x1 : Int32) (A : tz_Mem) : f_X11_refuse x1 A =
  if (-x1) ≤ 0 then
  some (some (.int x1), A)
else
  if 8 ≤ (-x1) then
    some (some (.int x1), A)
  else
    if (-x1) < 0 ∨ 8 ≤ (Int32.toNatClampNeg (-x1)) then none else
    if (-x1) < 0 ∨ 8 ≤ (Int32.toNatClampNeg (-x1)) then none else
    some (some (.int x1), (tz_s A 156 (Int32.toNatClampNeg (-x1)) ((tz_g A 156 (Int32.toNatClampNeg (-x1))) + 1))) := by
  refine (tz_Fe (L := [some (.ref 17), some (.int x1), none]) rfl).trans ?_
  refine (tz_g_iload_n rfl (tz_in0 rfl)).trans ?_
  refine (tz_g_ineg (tz_in0 rfl)).trans ?_
  refine (tz_g_istore_n (L2 := [some (.ref 17), some (.int x1), some (.int (-x1))]) rfl rfl (tz_in0 rfl)).trans ?_
  refine (tz_g_iload_n rfl (tz_in0 rfl)).trans ?_
  refine (tz_g_if_le (t := 26) (by decide) (tz_in0 rfl)).trans ?_
  refine tz_cg ?_ ?_
  · skip
    refine (tz_g_iload_n rfl (tz_in0 rfl)).trans ?_
    exact tz_g_ret1 (tz_in0 rfl) rfl
  · skip
    refine (tz_g_iload_n rfl (tz_in0 rfl)).trans ?_
    refine (tz_g_aload_n rfl (tz_in0 rfl)).trans ?_
    refine (tz_g_getr (j := 156) rfl rfl rfl rfl rfl (tz_in0 rfl)).trans ?_
    refine (tz_g_alen (v := 8) rfl rfl (tz_in0 rfl)).trans ?_
    refine (tz_g_ic_ge (t := 26) (by decide) (tz_in0 rfl)).trans ?_
    refine tz_cg ?_ ?_
    · skip
      refine (tz_g_iload_n rfl (tz_in0 rfl)).trans ?_
      exact tz_g_ret1 (tz_in0 rfl) rfl
    · skip
      refine (tz_g_aload_n rfl (tz_in0 rfl)).trans ?_
      refine (tz_g_getr (j := 156) rfl rfl rfl rfl rfl (tz_in0 rfl)).trans ?_
      refine (tz_g_iload_n rfl (tz_in0 rfl)).trans ?_
      refine (tz_g_dup2a rfl rfl (tz_in0 rfl)).trans ?_
      refine (tz_g_iald (n := 8) rfl rfl rfl (tz_in0 rfl)).trans ?_
      refine tz_cn1 ?_
      refine (tz_g_iconst (v := 1) rfl (tz_in0 rfl)).trans ?_
      refine (tz_g_iadd (tz_in0 rfl)).trans ?_
      refine (tz_g_iast (n := 8) rfl rfl rfl (tz_in0 rfl)).trans ?_
      refine tz_cn1 ?_
      refine (tz_g_iload_n rfl (tz_in0 rfl)).trans ?_
      exact tz_g_ret1 (tz_in0 rfl) rfl

theorem e_J7_fill_d0a16 (k : Nat) (x2 : Int64) (hk : tz_rw k) (A : tz_Mem) : f_J7_fill_d0a16 k x2 A =
  q_J7_fill_d0a16_6 k x2 0 160 A := by
  refine (tz_Fe (L := [some (.ref k), some (.long x2), none, none, none]) rfl).trans ?_
  refine (tz_g_iconst (v := 0) rfl (tz_in0 rfl)).trans ?_
  refine (tz_g_istore_n (L2 := [some (.ref k), some (.long x2), none, some (.int 0), none]) rfl rfl (tz_in0 rfl)).trans ?_
  refine (tz_g_aload_n rfl (tz_in0 rfl)).trans ?_
  refine (tz_g_alen (v := 160) (tz_alx hk rfl) (by rw [tz_lnx hk]; rfl) (tz_in0 rfl)).trans ?_
  refine (tz_g_istore (L2 := [some (.ref k), some (.long x2), none, some (.int 0), some (.int 160)]) rfl rfl (tz_in0 rfl)).trans ?_
  exact tz_Gm (L2 := [some (.ref k), some (.long x2), none, some (.int 0), some (.int 160)]) rfl rfl rfl rfl

theorem e_J7_fill_d0a16_6 (k : Nat) (z1 : Int64) (z3 : Int32) (z4 : Int32) (hk : tz_rw k) (A : tz_Mem) : q_J7_fill_d0a16_6 k z1 z3 z4 A =
  if z4 ≤ z3 then
  some (none, A)
else
  if z3 < 0 ∨ 160 ≤ (Int32.toNatClampNeg z3) then none else
  q_J7_fill_d0a16_6 k z1 (z3 + 1) z4 (tz_sl A k (Int32.toNatClampNeg z3) z1) := by
  show tz_Go 17 6 [some (.ref k), some (.long z1), none, some (.int z3), some (.int z4)] [] A = _
  refine (tz_g_iload_n rfl (tz_inM rfl rfl rfl)).trans ?_
  refine (tz_g_iload rfl (tz_in0 rfl)).trans ?_
  refine (tz_g_ic_ge (t := 22) (by decide) (tz_in0 rfl)).trans ?_
  refine tz_cg ?_ ?_
  · skip
    exact tz_g_ret0 (tz_in0 rfl) rfl
  · skip
    refine (tz_g_aload_n rfl (tz_in0 rfl)).trans ?_
    refine (tz_g_iload_n rfl (tz_in0 rfl)).trans ?_
    refine (tz_g_lload_n rfl (tz_in0 rfl)).trans ?_
    refine (tz_g_last (n := 160) (tz_okx hk rfl) (tz_lnx hk) (tz_in0 rfl)).trans ?_
    refine tz_cn1 ?_
    refine (tz_g_iinc (v := 1) (L2 := [some (.ref k), some (.long z1), none, some (.int (z3 + 1)), some (.int z4)]) rfl rfl rfl rfl (tz_in0 rfl)).trans ?_
    refine (tz_g_goto (t := 6) (by decide) (tz_in0 rfl)).trans ?_
    exact tz_Gm (L2 := [some (.ref k), some (.long z1), none, some (.int (z3 + 1)), some (.int z4)]) rfl rfl rfl rfl

theorem e_X8_holdsRow (x1 : Int32) (A : tz_Mem) : f_X8_holdsRow x1 A =
  if x1 < 0 ∨ 8 ≤ (Int32.toNatClampNeg x1) then none else
if (tz_g A 19 (Int32.toNatClampNeg x1)) < 100 then
  some (some (.int 0), A)
else
  some (some (.int 1), A) := by
  refine (tz_Fe (L := [some (.ref 18), some (.int x1)]) rfl).trans ?_
  refine (tz_g_aload_n rfl (tz_in0 rfl)).trans ?_
  refine (tz_g_getr (j := 19) rfl rfl rfl rfl rfl (tz_in0 rfl)).trans ?_
  refine (tz_g_iload_n rfl (tz_in0 rfl)).trans ?_
  refine (tz_g_iald (n := 8) rfl rfl rfl (tz_in0 rfl)).trans ?_
  refine tz_cn1 ?_
  refine (tz_g_bipush (v := 100) rfl (tz_in0 rfl)).trans ?_
  refine (tz_g_ic_lt (t := 15) (by decide) (tz_in0 rfl)).trans ?_
  refine tz_cg ?_ ?_
  · skip
    refine (tz_g_iconst (v := 0) rfl (tz_in0 rfl)).trans ?_
    exact tz_g_ret4K (by decide) (tz_in0 rfl) rfl
  · skip
    refine (tz_g_iconst (v := 1) rfl (tz_in0 rfl)).trans ?_
    refine (tz_g_goto (t := 16) (by decide) (tz_in0 rfl)).trans ?_
    exact tz_g_ret4K (by decide) (tz_in0 rfl) rfl

theorem e_X8_put (x1 : Int32) (x2 : Int32) (x3 : Int64) (A : tz_Mem) : f_X8_put x1 x2 x3 A =
  if x1 < 0 ∨ 8 ≤ (Int32.toNatClampNeg x1) then none else
if ((tz_g A 19 (Int32.toNatClampNeg x1)) - 100) = 0 then
  if x1 < 0 ∨ 8 ≤ (Int32.toNatClampNeg x1) then none else
  if x2 < 0 ∨ 160 ≤ (Int32.toNatClampNeg x2) then none else
  some (none, (tz_sl A (22 + (Int32.toNatClampNeg x1)) (Int32.toNatClampNeg x2) (Int32.toInt64 ((Int32.toInt8 (Int64.toInt32 x3)).toInt32))))
else if ((tz_g A 19 (Int32.toNatClampNeg x1)) - 100) = 1 then
  if x1 < 0 ∨ 8 ≤ (Int32.toNatClampNeg x1) then none else
  if x2 < 0 ∨ 160 ≤ (Int32.toNatClampNeg x2) then none else
  some (none, (tz_sl A (22 + (Int32.toNatClampNeg x1)) (Int32.toNatClampNeg x2) (Int32.toInt64 ((Int32.toInt16 (Int64.toInt32 x3)).toInt32))))
else if ((tz_g A 19 (Int32.toNatClampNeg x1)) - 100) = 2 then
  if x1 < 0 ∨ 8 ≤ (Int32.toNatClampNeg x1) then none else
  if x2 < 0 ∨ 160 ≤ (Int32.toNatClampNeg x2) then none else
  some (none, (tz_sl A (22 + (Int32.toNatClampNeg x1)) (Int32.toNatClampNeg x2) (Int32.toInt64 (Int64.toInt32 x3))))
else if x1 < 0 ∨ 8 ≤ (Int32.toNatClampNeg x1) then none else
if x2 < 0 ∨ 160 ≤ (Int32.toNatClampNeg x2) then none else
some (none, (tz_sl A (22 + (Int32.toNatClampNeg x1)) (Int32.toNatClampNeg x2) x3)) := by
  refine (tz_Fe (L := [some (.ref 18), some (.int x1), some (.int x2), some (.long x3), none]) rfl).trans ?_
  refine (tz_g_aload_n rfl (tz_in0 rfl)).trans ?_
  refine (tz_g_getr (j := 19) rfl rfl rfl rfl rfl (tz_in0 rfl)).trans ?_
  refine (tz_g_iload_n rfl (tz_in0 rfl)).trans ?_
  refine (tz_g_iald (n := 8) rfl rfl rfl (tz_in0 rfl)).trans ?_
  refine tz_cn1 ?_
  refine (tz_g_bipush (v := 100) rfl (tz_in0 rfl)).trans ?_
  refine (tz_g_isub (tz_in0 rfl)).trans ?_
  refine (tz_g_tsw (by decide) (tz_in0 rfl)).trans ?_
  refine tz_swc (v := 0) (by decide) ?_ ?_
  · refine (tz_tg (t := 36) (by decide)).trans ?_
    refine (tz_g_aload_n rfl (tz_in0 rfl)).trans ?_
    refine (tz_g_getr (j := 21) rfl rfl rfl rfl rfl (tz_in0 rfl)).trans ?_
    refine (tz_g_iload_n rfl (tz_in0 rfl)).trans ?_
    refine (tz_g_aald (n := 8) rfl rfl (tz_in0 rfl)).trans ?_
    refine tz_cnh (fun h_0 => ?_)
    refine (tz_g_iload_n rfl (tz_in0 rfl)).trans ?_
    refine (tz_g_lload_n rfl (tz_in0 rfl)).trans ?_
    refine (tz_g_l2i (tz_in0 rfl)).trans ?_
    refine (tz_g_i2b (tz_in0 rfl)).trans ?_
    refine (tz_g_i2l (tz_in0 rfl)).trans ?_
    refine (tz_g_last (n := 160) (tz_okx (tz_rwi h_0) rfl) (tz_lnx (tz_rwi h_0)) (tz_in0 rfl)).trans ?_
    refine tz_cn1 ?_
    refine (tz_g_goto (t := 89) (by decide) (tz_in0 rfl)).trans ?_
    exact tz_g_ret0 (tz_in0 rfl) rfl
  refine tz_swc (v := 1) (by decide) ?_ ?_
  · refine (tz_tg (t := 51) (by decide)).trans ?_
    refine (tz_g_aload_n rfl (tz_in0 rfl)).trans ?_
    refine (tz_g_getr (j := 21) rfl rfl rfl rfl rfl (tz_in0 rfl)).trans ?_
    refine (tz_g_iload_n rfl (tz_in0 rfl)).trans ?_
    refine (tz_g_aald (n := 8) rfl rfl (tz_in0 rfl)).trans ?_
    refine tz_cnh (fun h_1 => ?_)
    refine (tz_g_iload_n rfl (tz_in0 rfl)).trans ?_
    refine (tz_g_lload_n rfl (tz_in0 rfl)).trans ?_
    refine (tz_g_l2i (tz_in0 rfl)).trans ?_
    refine (tz_g_i2s (tz_in0 rfl)).trans ?_
    refine (tz_g_i2l (tz_in0 rfl)).trans ?_
    refine (tz_g_last (n := 160) (tz_okx (tz_rwi h_1) rfl) (tz_lnx (tz_rwi h_1)) (tz_in0 rfl)).trans ?_
    refine tz_cn1 ?_
    refine (tz_g_goto (t := 89) (by decide) (tz_in0 rfl)).trans ?_
    exact tz_g_ret0 (tz_in0 rfl) rfl
  refine tz_swc (v := 2) (by decide) ?_ ?_
  · refine (tz_tg (t := 66) (by decide)).trans ?_
    refine (tz_g_aload_n rfl (tz_in0 rfl)).trans ?_
    refine (tz_g_getr (j := 21) rfl rfl rfl rfl rfl (tz_in0 rfl)).trans ?_
    refine (tz_g_iload_n rfl (tz_in0 rfl)).trans ?_
    refine (tz_g_aald (n := 8) rfl rfl (tz_in0 rfl)).trans ?_
    refine tz_cnh (fun h_2 => ?_)
    refine (tz_g_iload_n rfl (tz_in0 rfl)).trans ?_
    refine (tz_g_lload_n rfl (tz_in0 rfl)).trans ?_
    refine (tz_g_l2i (tz_in0 rfl)).trans ?_
    refine (tz_g_i2l (tz_in0 rfl)).trans ?_
    refine (tz_g_last (n := 160) (tz_okx (tz_rwi h_2) rfl) (tz_lnx (tz_rwi h_2)) (tz_in0 rfl)).trans ?_
    refine tz_cn1 ?_
    refine (tz_g_goto (t := 89) (by decide) (tz_in0 rfl)).trans ?_
    exact tz_g_ret0 (tz_in0 rfl) rfl
  refine tz_swd ?_
  refine (tz_tg (t := 80) (by decide)).trans ?_
  refine (tz_g_aload_n rfl (tz_in0 rfl)).trans ?_
  refine (tz_g_getr (j := 21) rfl rfl rfl rfl rfl (tz_in0 rfl)).trans ?_
  refine (tz_g_iload_n rfl (tz_in0 rfl)).trans ?_
  refine (tz_g_aald (n := 8) rfl rfl (tz_in0 rfl)).trans ?_
  refine tz_cnh (fun h_3 => ?_)
  refine (tz_g_iload_n rfl (tz_in0 rfl)).trans ?_
  refine (tz_g_lload_n rfl (tz_in0 rfl)).trans ?_
  refine (tz_g_last (n := 160) (tz_okx (tz_rwi h_3) rfl) (tz_lnx (tz_rwi h_3)) (tz_in0 rfl)).trans ?_
  refine tz_cn1 ?_
  exact tz_g_ret0 (tz_in0 rfl) rfl

theorem e_X3_has (b : Nat) (x1 : Int32) (hb : tz_sky b) (A : tz_Mem) : f_X3_has b x1 A =
  if x1 < 0 then
  some (some (.int 0), A)
else
  if (tz_g A (b + 1) 0) ≤ x1 then
    some (some (.int 0), A)
  else
    some (some (.int 1), A) := by
  obtain rfl | rfl | rfl | rfl | rfl := hb
  all_goals
    refine (tz_Fe (L := [some (.ref _), some (.int x1)]) rfl).trans ?_
    refine (tz_g_iload_n rfl (tz_in0 rfl)).trans ?_
    refine (tz_g_if_lt (t := 16) (by decide) (tz_in0 rfl)).trans ?_
    refine tz_cg ?_ ?_
    · skip
      refine (tz_g_iconst (v := 0) rfl (tz_in0 rfl)).trans ?_
      exact tz_g_ret4K (by decide) (tz_in0 rfl) rfl
    · skip
      refine (tz_g_iload_n rfl (tz_in0 rfl)).trans ?_
      refine (tz_g_aload_n rfl (tz_in0 rfl)).trans ?_
      refine (tz_g_geti rfl rfl rfl (tz_in0 rfl)).trans ?_
      refine (tz_g_ic_ge (t := 16) (by decide) (tz_in0 rfl)).trans ?_
      refine tz_cg ?_ ?_
      · skip
        refine (tz_g_iconst (v := 0) rfl (tz_in0 rfl)).trans ?_
        exact tz_g_ret4K (by decide) (tz_in0 rfl) rfl
      · skip
        refine (tz_g_iconst (v := 1) rfl (tz_in0 rfl)).trans ?_
        refine (tz_g_goto (t := 17) (by decide) (tz_in0 rfl)).trans ?_
        exact tz_g_ret4K (by decide) (tz_in0 rfl) rfl

theorem e_X11_isKind (x1 : Int32) (A : tz_Mem) : f_X11_isKind x1 A =
  if x1 < 0 then
  some (some (.int 0), A)
else
  if 6 < x1 then
    some (some (.int 0), A)
  else
    some (some (.int 1), A) := by
  refine (tz_Fe (L := [some (.int x1)]) rfl).trans ?_
  refine (tz_g_iload_n rfl (tz_in0 rfl)).trans ?_
  refine (tz_g_if_lt (t := 14) (by decide) (tz_in0 rfl)).trans ?_
  refine tz_cg ?_ ?_
  · skip
    refine (tz_g_iconst (v := 0) rfl (tz_in0 rfl)).trans ?_
    exact tz_g_ret4K (by decide) (tz_in0 rfl) rfl
  · skip
    refine (tz_g_iload_n rfl (tz_in0 rfl)).trans ?_
    refine (tz_g_bipush (v := 6) rfl (tz_in0 rfl)).trans ?_
    refine (tz_g_ic_gt (t := 14) (by decide) (tz_in0 rfl)).trans ?_
    refine tz_cg ?_ ?_
    · skip
      refine (tz_g_iconst (v := 0) rfl (tz_in0 rfl)).trans ?_
      exact tz_g_ret4K (by decide) (tz_in0 rfl) rfl
    · skip
      refine (tz_g_iconst (v := 1) rfl (tz_in0 rfl)).trans ?_
      refine (tz_g_goto (t := 15) (by decide) (tz_in0 rfl)).trans ?_
      exact tz_g_ret4K (by decide) (tz_in0 rfl) rfl

theorem e_X3_isFull (b : Nat) (hb : tz_sky b) (A : tz_Mem) : f_X3_isFull b A =
  if (tz_g A (b + 1) 0) < 8 then
  some (some (.int 0), A)
else
  some (some (.int 1), A) := by
  obtain rfl | rfl | rfl | rfl | rfl := hb
  all_goals
    refine (tz_Fe (L := [some (.ref _)]) rfl).trans ?_
    refine (tz_g_aload_n rfl (tz_in0 rfl)).trans ?_
    refine (tz_g_geti rfl rfl rfl (tz_in0 rfl)).trans ?_
    refine (tz_g_bipush (v := 8) rfl (tz_in0 rfl)).trans ?_
    refine (tz_g_ic_lt (t := 13) (by decide) (tz_in0 rfl)).trans ?_
    refine tz_cg ?_ ?_
    · skip
      refine (tz_g_iconst (v := 0) rfl (tz_in0 rfl)).trans ?_
      exact tz_g_ret4K (by decide) (tz_in0 rfl) rfl
    · skip
      refine (tz_g_iconst (v := 1) rfl (tz_in0 rfl)).trans ?_
      refine (tz_g_goto (t := 14) (by decide) (tz_in0 rfl)).trans ?_
      exact tz_g_ret4K (by decide) (tz_in0 rfl) rfl

theorem e_X3_add (b : Nat) (x1 : Int32) (x2 : Int32) (hb : tz_sky b) (A : tz_Mem) : f_X3_add b x1 x2 A =
  if (tz_g A (b + 1) 0) < 0 ∨ 8 ≤ (Int32.toNatClampNeg (tz_g A (b + 1) 0)) then none else
if (tz_g A (b + 1) 0) < 0 ∨ 8 ≤ (Int32.toNatClampNeg (tz_g A (b + 1) 0)) then none else
if (tz_g A (b + 1) 0) < 0 ∨ 8 ≤ (Int32.toNatClampNeg (tz_g A (b + 1) 0)) then none else
if (tz_g A (b + 1) 0) < 0 ∨ 8 ≤ (Int32.toNatClampNeg (tz_g A (b + 1) 0)) then none else
some (some (.int (tz_g A (b + 1) 0)), (tz_s (tz_s (tz_s (tz_s (tz_s A (b + 2) (Int32.toNatClampNeg (tz_g A (b + 1) 0)) x1) (b + 3) (Int32.toNatClampNeg (tz_g A (b + 1) 0)) x2) (b + 4) (Int32.toNatClampNeg (tz_g A (b + 1) 0)) 0) (b + 5) (Int32.toNatClampNeg (tz_g A (b + 1) 0)) 0) (b + 1) 0 ((tz_g (tz_s (tz_s (tz_s (tz_s A (b + 2) (Int32.toNatClampNeg (tz_g A (b + 1) 0)) x1) (b + 3) (Int32.toNatClampNeg (tz_g A (b + 1) 0)) x2) (b + 4) (Int32.toNatClampNeg (tz_g A (b + 1) 0)) 0) (b + 5) (Int32.toNatClampNeg (tz_g A (b + 1) 0)) 0) (b + 1) 0) + 1))) := by
  obtain rfl | rfl | rfl | rfl | rfl := hb
  all_goals
    refine (tz_Fe (L := [some (.ref _), some (.int x1), some (.int x2), none]) rfl).trans ?_
    refine (tz_g_aload_n rfl (tz_in0 rfl)).trans ?_
    refine (tz_g_geti rfl rfl rfl (tz_in0 rfl)).trans ?_
    refine (tz_g_istore_n (L2 := [some (.ref _), some (.int x1), some (.int x2), some (.int _)]) rfl rfl (tz_in0 rfl)).trans ?_
    refine (tz_g_aload_n rfl (tz_in0 rfl)).trans ?_
    refine (tz_g_getr (j := _) rfl rfl rfl rfl rfl (tz_in0 rfl)).trans ?_
    refine (tz_g_iload_n rfl (tz_in0 rfl)).trans ?_
    refine (tz_g_iload_n rfl (tz_in0 rfl)).trans ?_
    refine (tz_g_iast (n := 8) rfl rfl rfl (tz_in0 rfl)).trans ?_
    refine tz_cn1 ?_
    refine (tz_g_aload_n rfl (tz_in0 rfl)).trans ?_
    refine (tz_g_getr (j := _) rfl rfl rfl rfl rfl (tz_in0 rfl)).trans ?_
    refine (tz_g_iload_n rfl (tz_in0 rfl)).trans ?_
    refine (tz_g_iload_n rfl (tz_in0 rfl)).trans ?_
    refine (tz_g_iast (n := 8) rfl rfl rfl (tz_in0 rfl)).trans ?_
    refine tz_cn1 ?_
    refine (tz_g_aload_n rfl (tz_in0 rfl)).trans ?_
    refine (tz_g_getr (j := _) rfl rfl rfl rfl rfl (tz_in0 rfl)).trans ?_
    refine (tz_g_iload_n rfl (tz_in0 rfl)).trans ?_
    refine (tz_g_iconst (v := 0) rfl (tz_in0 rfl)).trans ?_
    refine (tz_g_iast (n := 8) rfl rfl rfl (tz_in0 rfl)).trans ?_
    refine tz_cn1 ?_
    refine (tz_g_aload_n rfl (tz_in0 rfl)).trans ?_
    refine (tz_g_getr (j := _) rfl rfl rfl rfl rfl (tz_in0 rfl)).trans ?_
    refine (tz_g_iload_n rfl (tz_in0 rfl)).trans ?_
    refine (tz_g_iconst (v := 0) rfl (tz_in0 rfl)).trans ?_
    refine (tz_g_iast (n := 8) rfl rfl rfl (tz_in0 rfl)).trans ?_
    refine tz_cn1 ?_
    refine (tz_g_aload_n rfl (tz_in0 rfl)).trans ?_
    refine (tz_g_dup rfl (tz_in0 rfl)).trans ?_
    refine (tz_g_geti rfl rfl rfl (tz_in0 rfl)).trans ?_
    refine (tz_g_iconst (v := 1) rfl (tz_in0 rfl)).trans ?_
    refine (tz_g_iadd (tz_in0 rfl)).trans ?_
    refine (tz_g_puti rfl rfl rfl (tz_in0 rfl)).trans ?_
    refine (tz_g_iload_n rfl (tz_in0 rfl)).trans ?_
    exact tz_g_ret1 (tz_in0 rfl) rfl

theorem e_X11_areStormNumbers (x1 : Int32) (x2 : Int32) (x3 : Int32) (A : tz_Mem) : f_X11_areStormNumbers x1 x2 x3 A =
  if x1 < 1 then
  some (some (.int 0), A)
else
  if 9 < x1 then
    some (some (.int 0), A)
  else
    if x2 < 1 then
      some (some (.int 0), A)
    else
      if 99 < x2 then
        some (some (.int 0), A)
      else
        if x3 < 1 then
          some (some (.int 0), A)
        else
          if 9 < x3 then
            some (some (.int 0), A)
          else
            some (some (.int 1), A) := by
  refine (tz_Fe (L := [some (.int x1), some (.int x2), some (.int x3)]) rfl).trans ?_
  refine (tz_g_iload_n rfl (tz_in0 rfl)).trans ?_
  refine (tz_g_iconst (v := 1) rfl (tz_in0 rfl)).trans ?_
  refine (tz_g_ic_lt (t := 37) (by decide) (tz_in0 rfl)).trans ?_
  refine tz_cg ?_ ?_
  · skip
    refine (tz_g_iconst (v := 0) rfl (tz_in0 rfl)).trans ?_
    exact tz_g_ret4K (by decide) (tz_in0 rfl) rfl
  · skip
    refine (tz_g_iload_n rfl (tz_in0 rfl)).trans ?_
    refine (tz_g_bipush (v := 9) rfl (tz_in0 rfl)).trans ?_
    refine (tz_g_ic_gt (t := 37) (by decide) (tz_in0 rfl)).trans ?_
    refine tz_cg ?_ ?_
    · skip
      refine (tz_g_iconst (v := 0) rfl (tz_in0 rfl)).trans ?_
      exact tz_g_ret4K (by decide) (tz_in0 rfl) rfl
    · skip
      refine (tz_g_iload_n rfl (tz_in0 rfl)).trans ?_
      refine (tz_g_iconst (v := 1) rfl (tz_in0 rfl)).trans ?_
      refine (tz_g_ic_lt (t := 37) (by decide) (tz_in0 rfl)).trans ?_
      refine tz_cg ?_ ?_
      · skip
        refine (tz_g_iconst (v := 0) rfl (tz_in0 rfl)).trans ?_
        exact tz_g_ret4K (by decide) (tz_in0 rfl) rfl
      · skip
        refine (tz_g_iload_n rfl (tz_in0 rfl)).trans ?_
        refine (tz_g_bipush (v := 99) rfl (tz_in0 rfl)).trans ?_
        refine (tz_g_ic_gt (t := 37) (by decide) (tz_in0 rfl)).trans ?_
        refine tz_cg ?_ ?_
        · skip
          refine (tz_g_iconst (v := 0) rfl (tz_in0 rfl)).trans ?_
          exact tz_g_ret4K (by decide) (tz_in0 rfl) rfl
        · skip
          refine (tz_g_iload_n rfl (tz_in0 rfl)).trans ?_
          refine (tz_g_iconst (v := 1) rfl (tz_in0 rfl)).trans ?_
          refine (tz_g_ic_lt (t := 37) (by decide) (tz_in0 rfl)).trans ?_
          refine tz_cg ?_ ?_
          · skip
            refine (tz_g_iconst (v := 0) rfl (tz_in0 rfl)).trans ?_
            exact tz_g_ret4K (by decide) (tz_in0 rfl) rfl
          · skip
            refine (tz_g_iload_n rfl (tz_in0 rfl)).trans ?_
            refine (tz_g_bipush (v := 9) rfl (tz_in0 rfl)).trans ?_
            refine (tz_g_ic_gt (t := 37) (by decide) (tz_in0 rfl)).trans ?_
            refine tz_cg ?_ ?_
            · skip
              refine (tz_g_iconst (v := 0) rfl (tz_in0 rfl)).trans ?_
              exact tz_g_ret4K (by decide) (tz_in0 rfl) rfl
            · skip
              refine (tz_g_iconst (v := 1) rfl (tz_in0 rfl)).trans ?_
              refine (tz_g_goto (t := 38) (by decide) (tz_in0 rfl)).trans ?_
              exact tz_g_ret4K (by decide) (tz_in0 rfl) rfl

theorem e_X8_number (x1 : Int32) (x2 : Int32) (A : tz_Mem) : f_X8_number x1 x2 A =
  if x1 < 0 ∨ 8 ≤ (Int32.toNatClampNeg x1) then none else
if x2 < 0 ∨ 160 ≤ (Int32.toNatClampNeg x2) then none else
some (some (.int (Int64.toInt32 (tz_gl A (22 + (Int32.toNatClampNeg x1)) (Int32.toNatClampNeg x2)))), A) := by
  refine (tz_Fe (L := [some (.ref 18), some (.int x1), some (.int x2)]) rfl).trans ?_
  refine (tz_g_aload_n rfl (tz_in0 rfl)).trans ?_
  refine (tz_g_getr (j := 21) rfl rfl rfl rfl rfl (tz_in0 rfl)).trans ?_
  refine (tz_g_iload_n rfl (tz_in0 rfl)).trans ?_
  refine (tz_g_aald (n := 8) rfl rfl (tz_in0 rfl)).trans ?_
  refine tz_cnh (fun h_0 => ?_)
  refine (tz_g_iload_n rfl (tz_in0 rfl)).trans ?_
  refine (tz_g_lald (n := 160) (tz_okx (tz_rwi h_0) rfl) (tz_lnx (tz_rwi h_0)) (tz_in0 rfl)).trans ?_
  refine tz_cn1 ?_
  refine (tz_g_l2i (tz_in0 rfl)).trans ?_
  exact tz_g_ret1 (tz_in0 rfl) rfl

theorem e_X10_isFull (b : Nat) (hb : tz_sky b) (A : tz_Mem) : f_X10_isFull b A =
  if (tz_g A (b + 7) 0) < 4 then
  some (some (.int 0), A)
else
  some (some (.int 1), A) := by
  obtain rfl | rfl | rfl | rfl | rfl := hb
  all_goals
    refine (tz_Fe (L := [some (.ref _)]) rfl).trans ?_
    refine (tz_g_aload_n rfl (tz_in0 rfl)).trans ?_
    refine (tz_g_geti rfl rfl rfl (tz_in0 rfl)).trans ?_
    refine (tz_g_iconst (v := 4) rfl (tz_in0 rfl)).trans ?_
    refine (tz_g_ic_lt (t := 12) (by decide) (tz_in0 rfl)).trans ?_
    refine tz_cg ?_ ?_
    · skip
      refine (tz_g_iconst (v := 0) rfl (tz_in0 rfl)).trans ?_
      exact tz_g_ret4K (by decide) (tz_in0 rfl) rfl
    · skip
      refine (tz_g_iconst (v := 1) rfl (tz_in0 rfl)).trans ?_
      refine (tz_g_goto (t := 13) (by decide) (tz_in0 rfl)).trans ?_
      exact tz_g_ret4K (by decide) (tz_in0 rfl) rfl

theorem e_X10_add_s147 (b : Nat) (x2 : Int32) (x3 : Int32) (x4 : Int32) (x5 : Int32) (hb : tz_sky b) (A : tz_Mem) : f_X10_add_s147 b x2 x3 x4 x5 A =
  if ((0 : Int32) < 0 ∨ ((tz_g A (b + 7) 0) * 6) < 0 ∨ x2 < 0) ∨ (6 < 0 + (Int32.toNatClampNeg x2) ∨ 24 < (Int32.toNatClampNeg ((tz_g A (b + 7) 0) * 6)) + (Int32.toNatClampNeg x2)) then none else
if (tz_g A (b + 7) 0) < 0 ∨ 4 ≤ (Int32.toNatClampNeg (tz_g A (b + 7) 0)) then none else
if (tz_g A (b + 7) 0) < 0 ∨ 4 ≤ (Int32.toNatClampNeg (tz_g A (b + 7) 0)) then none else
if (tz_g A (b + 7) 0) < 0 ∨ 4 ≤ (Int32.toNatClampNeg (tz_g A (b + 7) 0)) then none else
if (tz_g A (b + 7) 0) < 0 ∨ 4 ≤ (Int32.toNatClampNeg (tz_g A (b + 7) 0)) then none else
if (tz_g A (b + 7) 0) < 0 ∨ 4 ≤ (Int32.toNatClampNeg (tz_g A (b + 7) 0)) then none else
if (tz_g A (b + 7) 0) < 0 ∨ 4 ≤ (Int32.toNatClampNeg (tz_g A (b + 7) 0)) then none else
some (some (.int (tz_g A (b + 7) 0)), (tz_s (tz_s (tz_s (tz_s (tz_s (tz_s (tz_s (tz_cp A 147 0 (b + 12) (Int32.toNatClampNeg ((tz_g A (b + 7) 0) * 6)) (Int32.toNatClampNeg x2)) (b + 11) (Int32.toNatClampNeg (tz_g A (b + 7) 0)) x2) (b + 8) (Int32.toNatClampNeg (tz_g A (b + 7) 0)) x3) (b + 9) (Int32.toNatClampNeg (tz_g A (b + 7) 0)) x4) (b + 10) (Int32.toNatClampNeg (tz_g A (b + 7) 0)) x5) (b + 13) (Int32.toNatClampNeg (tz_g A (b + 7) 0)) 0) (b + 14) (Int32.toNatClampNeg (tz_g A (b + 7) 0)) 0) (b + 7) 0 ((tz_g (tz_s (tz_s (tz_s (tz_s (tz_s (tz_s (tz_cp A 147 0 (b + 12) (Int32.toNatClampNeg ((tz_g A (b + 7) 0) * 6)) (Int32.toNatClampNeg x2)) (b + 11) (Int32.toNatClampNeg (tz_g A (b + 7) 0)) x2) (b + 8) (Int32.toNatClampNeg (tz_g A (b + 7) 0)) x3) (b + 9) (Int32.toNatClampNeg (tz_g A (b + 7) 0)) x4) (b + 10) (Int32.toNatClampNeg (tz_g A (b + 7) 0)) x5) (b + 13) (Int32.toNatClampNeg (tz_g A (b + 7) 0)) 0) (b + 14) (Int32.toNatClampNeg (tz_g A (b + 7) 0)) 0) (b + 7) 0) + 1))) := by
  obtain rfl | rfl | rfl | rfl | rfl := hb
  all_goals
    refine (tz_Fe (L := [some (.ref _), some (.ref 147), some (.int x2), some (.int x3), some (.int x4), some (.int x5), none]) rfl).trans ?_
    refine (tz_g_aload_n rfl (tz_in0 rfl)).trans ?_
    refine (tz_g_geti rfl rfl rfl (tz_in0 rfl)).trans ?_
    refine (tz_g_istore (L2 := [some (.ref _), some (.ref 147), some (.int x2), some (.int x3), some (.int x4), some (.int x5), some (.int _)]) rfl rfl (tz_in0 rfl)).trans ?_
    refine (tz_g_aload_n rfl (tz_in0 rfl)).trans ?_
    refine (tz_g_iconst (v := 0) rfl (tz_in0 rfl)).trans ?_
    refine (tz_g_aload_n rfl (tz_in0 rfl)).trans ?_
    refine (tz_g_getr (j := _) rfl rfl rfl rfl rfl (tz_in0 rfl)).trans ?_
    refine (tz_g_iload rfl (tz_in0 rfl)).trans ?_
    refine (tz_g_bipush (v := 6) rfl (tz_in0 rfl)).trans ?_
    refine (tz_g_imul (tz_in0 rfl)).trans ?_
    refine (tz_g_iload_n rfl (tz_in0 rfl)).trans ?_
    refine (tz_g_cpi (n1 := 6) (n2 := 24) rfl rfl rfl rfl rfl rfl rfl (tz_in0 rfl)).trans ?_
    refine tz_cn1 ?_
    refine (tz_g_aload_n rfl (tz_in0 rfl)).trans ?_
    refine (tz_g_getr (j := _) rfl rfl rfl rfl rfl (tz_in0 rfl)).trans ?_
    refine (tz_g_iload rfl (tz_in0 rfl)).trans ?_
    refine (tz_g_iload_n rfl (tz_in0 rfl)).trans ?_
    refine (tz_g_iast (n := 4) rfl rfl rfl (tz_in0 rfl)).trans ?_
    refine tz_cn1 ?_
    refine (tz_g_aload_n rfl (tz_in0 rfl)).trans ?_
    refine (tz_g_getr (j := _) rfl rfl rfl rfl rfl (tz_in0 rfl)).trans ?_
    refine (tz_g_iload rfl (tz_in0 rfl)).trans ?_
    refine (tz_g_iload_n rfl (tz_in0 rfl)).trans ?_
    refine (tz_g_iast (n := 4) rfl rfl rfl (tz_in0 rfl)).trans ?_
    refine tz_cn1 ?_
    refine (tz_g_aload_n rfl (tz_in0 rfl)).trans ?_
    refine (tz_g_getr (j := _) rfl rfl rfl rfl rfl (tz_in0 rfl)).trans ?_
    refine (tz_g_iload rfl (tz_in0 rfl)).trans ?_
    refine (tz_g_iload rfl (tz_in0 rfl)).trans ?_
    refine (tz_g_iast (n := 4) rfl rfl rfl (tz_in0 rfl)).trans ?_
    refine tz_cn1 ?_
    refine (tz_g_aload_n rfl (tz_in0 rfl)).trans ?_
    refine (tz_g_getr (j := _) rfl rfl rfl rfl rfl (tz_in0 rfl)).trans ?_
    refine (tz_g_iload rfl (tz_in0 rfl)).trans ?_
    refine (tz_g_iload rfl (tz_in0 rfl)).trans ?_
    refine (tz_g_iast (n := 4) rfl rfl rfl (tz_in0 rfl)).trans ?_
    refine tz_cn1 ?_
    refine (tz_g_aload_n rfl (tz_in0 rfl)).trans ?_
    refine (tz_g_getr (j := _) rfl rfl rfl rfl rfl (tz_in0 rfl)).trans ?_
    refine (tz_g_iload rfl (tz_in0 rfl)).trans ?_
    refine (tz_g_iconst (v := 0) rfl (tz_in0 rfl)).trans ?_
    refine (tz_g_iast (n := 4) rfl rfl rfl (tz_in0 rfl)).trans ?_
    refine tz_cn1 ?_
    refine (tz_g_aload_n rfl (tz_in0 rfl)).trans ?_
    refine (tz_g_getr (j := _) rfl rfl rfl rfl rfl (tz_in0 rfl)).trans ?_
    refine (tz_g_iload rfl (tz_in0 rfl)).trans ?_
    refine (tz_g_iconst (v := 0) rfl (tz_in0 rfl)).trans ?_
    refine (tz_g_iast (n := 4) rfl rfl rfl (tz_in0 rfl)).trans ?_
    refine tz_cn1 ?_
    refine (tz_g_aload_n rfl (tz_in0 rfl)).trans ?_
    refine (tz_g_dup rfl (tz_in0 rfl)).trans ?_
    refine (tz_g_geti rfl rfl rfl (tz_in0 rfl)).trans ?_
    refine (tz_g_iconst (v := 1) rfl (tz_in0 rfl)).trans ?_
    refine (tz_g_iadd (tz_in0 rfl)).trans ?_
    refine (tz_g_puti rfl rfl rfl (tz_in0 rfl)).trans ?_
    refine (tz_g_iload rfl (tz_in0 rfl)).trans ?_
    exact tz_g_ret1 (tz_in0 rfl) rfl

theorem e_X10_add_s155 (b : Nat) (x2 : Int32) (x3 : Int32) (x4 : Int32) (x5 : Int32) (hb : tz_sky b) (A : tz_Mem) : f_X10_add_s155 b x2 x3 x4 x5 A =
  if ((0 : Int32) < 0 ∨ ((tz_g A (b + 7) 0) * 6) < 0 ∨ x2 < 0) ∨ (6 < 0 + (Int32.toNatClampNeg x2) ∨ 24 < (Int32.toNatClampNeg ((tz_g A (b + 7) 0) * 6)) + (Int32.toNatClampNeg x2)) then none else
if (tz_g A (b + 7) 0) < 0 ∨ 4 ≤ (Int32.toNatClampNeg (tz_g A (b + 7) 0)) then none else
if (tz_g A (b + 7) 0) < 0 ∨ 4 ≤ (Int32.toNatClampNeg (tz_g A (b + 7) 0)) then none else
if (tz_g A (b + 7) 0) < 0 ∨ 4 ≤ (Int32.toNatClampNeg (tz_g A (b + 7) 0)) then none else
if (tz_g A (b + 7) 0) < 0 ∨ 4 ≤ (Int32.toNatClampNeg (tz_g A (b + 7) 0)) then none else
if (tz_g A (b + 7) 0) < 0 ∨ 4 ≤ (Int32.toNatClampNeg (tz_g A (b + 7) 0)) then none else
if (tz_g A (b + 7) 0) < 0 ∨ 4 ≤ (Int32.toNatClampNeg (tz_g A (b + 7) 0)) then none else
some (some (.int (tz_g A (b + 7) 0)), (tz_s (tz_s (tz_s (tz_s (tz_s (tz_s (tz_s (tz_cp A 155 0 (b + 12) (Int32.toNatClampNeg ((tz_g A (b + 7) 0) * 6)) (Int32.toNatClampNeg x2)) (b + 11) (Int32.toNatClampNeg (tz_g A (b + 7) 0)) x2) (b + 8) (Int32.toNatClampNeg (tz_g A (b + 7) 0)) x3) (b + 9) (Int32.toNatClampNeg (tz_g A (b + 7) 0)) x4) (b + 10) (Int32.toNatClampNeg (tz_g A (b + 7) 0)) x5) (b + 13) (Int32.toNatClampNeg (tz_g A (b + 7) 0)) 0) (b + 14) (Int32.toNatClampNeg (tz_g A (b + 7) 0)) 0) (b + 7) 0 ((tz_g (tz_s (tz_s (tz_s (tz_s (tz_s (tz_s (tz_cp A 155 0 (b + 12) (Int32.toNatClampNeg ((tz_g A (b + 7) 0) * 6)) (Int32.toNatClampNeg x2)) (b + 11) (Int32.toNatClampNeg (tz_g A (b + 7) 0)) x2) (b + 8) (Int32.toNatClampNeg (tz_g A (b + 7) 0)) x3) (b + 9) (Int32.toNatClampNeg (tz_g A (b + 7) 0)) x4) (b + 10) (Int32.toNatClampNeg (tz_g A (b + 7) 0)) x5) (b + 13) (Int32.toNatClampNeg (tz_g A (b + 7) 0)) 0) (b + 14) (Int32.toNatClampNeg (tz_g A (b + 7) 0)) 0) (b + 7) 0) + 1))) := by
  obtain rfl | rfl | rfl | rfl | rfl := hb
  all_goals
    refine (tz_Fe (L := [some (.ref _), some (.ref 155), some (.int x2), some (.int x3), some (.int x4), some (.int x5), none]) rfl).trans ?_
    refine (tz_g_aload_n rfl (tz_in0 rfl)).trans ?_
    refine (tz_g_geti rfl rfl rfl (tz_in0 rfl)).trans ?_
    refine (tz_g_istore (L2 := [some (.ref _), some (.ref 155), some (.int x2), some (.int x3), some (.int x4), some (.int x5), some (.int _)]) rfl rfl (tz_in0 rfl)).trans ?_
    refine (tz_g_aload_n rfl (tz_in0 rfl)).trans ?_
    refine (tz_g_iconst (v := 0) rfl (tz_in0 rfl)).trans ?_
    refine (tz_g_aload_n rfl (tz_in0 rfl)).trans ?_
    refine (tz_g_getr (j := _) rfl rfl rfl rfl rfl (tz_in0 rfl)).trans ?_
    refine (tz_g_iload rfl (tz_in0 rfl)).trans ?_
    refine (tz_g_bipush (v := 6) rfl (tz_in0 rfl)).trans ?_
    refine (tz_g_imul (tz_in0 rfl)).trans ?_
    refine (tz_g_iload_n rfl (tz_in0 rfl)).trans ?_
    refine (tz_g_cpi (n1 := 6) (n2 := 24) rfl rfl rfl rfl rfl rfl rfl (tz_in0 rfl)).trans ?_
    refine tz_cn1 ?_
    refine (tz_g_aload_n rfl (tz_in0 rfl)).trans ?_
    refine (tz_g_getr (j := _) rfl rfl rfl rfl rfl (tz_in0 rfl)).trans ?_
    refine (tz_g_iload rfl (tz_in0 rfl)).trans ?_
    refine (tz_g_iload_n rfl (tz_in0 rfl)).trans ?_
    refine (tz_g_iast (n := 4) rfl rfl rfl (tz_in0 rfl)).trans ?_
    refine tz_cn1 ?_
    refine (tz_g_aload_n rfl (tz_in0 rfl)).trans ?_
    refine (tz_g_getr (j := _) rfl rfl rfl rfl rfl (tz_in0 rfl)).trans ?_
    refine (tz_g_iload rfl (tz_in0 rfl)).trans ?_
    refine (tz_g_iload_n rfl (tz_in0 rfl)).trans ?_
    refine (tz_g_iast (n := 4) rfl rfl rfl (tz_in0 rfl)).trans ?_
    refine tz_cn1 ?_
    refine (tz_g_aload_n rfl (tz_in0 rfl)).trans ?_
    refine (tz_g_getr (j := _) rfl rfl rfl rfl rfl (tz_in0 rfl)).trans ?_
    refine (tz_g_iload rfl (tz_in0 rfl)).trans ?_
    refine (tz_g_iload rfl (tz_in0 rfl)).trans ?_
    refine (tz_g_iast (n := 4) rfl rfl rfl (tz_in0 rfl)).trans ?_
    refine tz_cn1 ?_
    refine (tz_g_aload_n rfl (tz_in0 rfl)).trans ?_
    refine (tz_g_getr (j := _) rfl rfl rfl rfl rfl (tz_in0 rfl)).trans ?_
    refine (tz_g_iload rfl (tz_in0 rfl)).trans ?_
    refine (tz_g_iload rfl (tz_in0 rfl)).trans ?_
    refine (tz_g_iast (n := 4) rfl rfl rfl (tz_in0 rfl)).trans ?_
    refine tz_cn1 ?_
    refine (tz_g_aload_n rfl (tz_in0 rfl)).trans ?_
    refine (tz_g_getr (j := _) rfl rfl rfl rfl rfl (tz_in0 rfl)).trans ?_
    refine (tz_g_iload rfl (tz_in0 rfl)).trans ?_
    refine (tz_g_iconst (v := 0) rfl (tz_in0 rfl)).trans ?_
    refine (tz_g_iast (n := 4) rfl rfl rfl (tz_in0 rfl)).trans ?_
    refine tz_cn1 ?_
    refine (tz_g_aload_n rfl (tz_in0 rfl)).trans ?_
    refine (tz_g_getr (j := _) rfl rfl rfl rfl rfl (tz_in0 rfl)).trans ?_
    refine (tz_g_iload rfl (tz_in0 rfl)).trans ?_
    refine (tz_g_iconst (v := 0) rfl (tz_in0 rfl)).trans ?_
    refine (tz_g_iast (n := 4) rfl rfl rfl (tz_in0 rfl)).trans ?_
    refine tz_cn1 ?_
    refine (tz_g_aload_n rfl (tz_in0 rfl)).trans ?_
    refine (tz_g_dup rfl (tz_in0 rfl)).trans ?_
    refine (tz_g_geti rfl rfl rfl (tz_in0 rfl)).trans ?_
    refine (tz_g_iconst (v := 1) rfl (tz_in0 rfl)).trans ?_
    refine (tz_g_iadd (tz_in0 rfl)).trans ?_
    refine (tz_g_puti rfl rfl rfl (tz_in0 rfl)).trans ?_
    refine (tz_g_iload rfl (tz_in0 rfl)).trans ?_
    exact tz_g_ret1 (tz_in0 rfl) rfl

theorem e_X11_isWord (x1 : Int32) (A : tz_Mem) : f_X11_isWord x1 A =
  if x1 < 0 then
  some (some (.int 0), A)
else
  if 9999 < x1 then
    some (some (.int 0), A)
  else
    some (some (.int 1), A) := by
  refine (tz_Fe (L := [some (.int x1)]) rfl).trans ?_
  refine (tz_g_iload_n rfl (tz_in0 rfl)).trans ?_
  refine (tz_g_if_lt (t := 15) (by decide) (tz_in0 rfl)).trans ?_
  refine tz_cg ?_ ?_
  · skip
    refine (tz_g_iconst (v := 0) rfl (tz_in0 rfl)).trans ?_
    exact tz_g_ret4K (by decide) (tz_in0 rfl) rfl
  · skip
    refine (tz_g_iload_n rfl (tz_in0 rfl)).trans ?_
    refine (tz_g_sipush (v := 9999) rfl (tz_in0 rfl)).trans ?_
    refine (tz_g_ic_gt (t := 15) (by decide) (tz_in0 rfl)).trans ?_
    refine tz_cg ?_ ?_
    · skip
      refine (tz_g_iconst (v := 0) rfl (tz_in0 rfl)).trans ?_
      exact tz_g_ret4K (by decide) (tz_in0 rfl) rfl
    · skip
      refine (tz_g_iconst (v := 1) rfl (tz_in0 rfl)).trans ?_
      refine (tz_g_goto (t := 16) (by decide) (tz_in0 rfl)).trans ?_
      exact tz_g_ret4K (by decide) (tz_in0 rfl) rfl

theorem e_X4_isFull (b : Nat) (hb : tz_sky b) (A : tz_Mem) : f_X4_isFull b A =
  if (tz_g A (b + 15) 0) < 12 then
  some (some (.int 0), A)
else
  some (some (.int 1), A) := by
  obtain rfl | rfl | rfl | rfl | rfl := hb
  all_goals
    refine (tz_Fe (L := [some (.ref _)]) rfl).trans ?_
    refine (tz_g_aload_n rfl (tz_in0 rfl)).trans ?_
    refine (tz_g_geti rfl rfl rfl (tz_in0 rfl)).trans ?_
    refine (tz_g_bipush (v := 12) rfl (tz_in0 rfl)).trans ?_
    refine (tz_g_ic_lt (t := 13) (by decide) (tz_in0 rfl)).trans ?_
    refine tz_cg ?_ ?_
    · skip
      refine (tz_g_iconst (v := 0) rfl (tz_in0 rfl)).trans ?_
      exact tz_g_ret4K (by decide) (tz_in0 rfl) rfl
    · skip
      refine (tz_g_iconst (v := 1) rfl (tz_in0 rfl)).trans ?_
      refine (tz_g_goto (t := 14) (by decide) (tz_in0 rfl)).trans ?_
      exact tz_g_ret4K (by decide) (tz_in0 rfl) rfl

theorem e_X4_add (b : Nat) (x1 : Int32) (x2 : Int32) (x3 : Int32) (x4 : Int32) (hb : tz_sky b) (A : tz_Mem) : f_X4_add b x1 x2 x3 x4 A =
  if (tz_g A (b + 15) 0) < 0 ∨ 12 ≤ (Int32.toNatClampNeg (tz_g A (b + 15) 0)) then none else
if (tz_g A (b + 15) 0) < 0 ∨ 12 ≤ (Int32.toNatClampNeg (tz_g A (b + 15) 0)) then none else
if (tz_g A (b + 15) 0) < 0 ∨ 12 ≤ (Int32.toNatClampNeg (tz_g A (b + 15) 0)) then none else
if (tz_g A (b + 15) 0) < 0 ∨ 12 ≤ (Int32.toNatClampNeg (tz_g A (b + 15) 0)) then none else
if (tz_g A (b + 15) 0) < 0 ∨ 12 ≤ (Int32.toNatClampNeg (tz_g A (b + 15) 0)) then none else
if (tz_g A (b + 15) 0) < 0 ∨ 12 ≤ (Int32.toNatClampNeg (tz_g A (b + 15) 0)) then none else
q_X4_add_59 b x4 (tz_g A (b + 15) 0) (tz_g A (b + 15) 0) (tz_s (tz_s (tz_s (tz_s (tz_s (tz_s A (b + 16) (Int32.toNatClampNeg (tz_g A (b + 15) 0)) x1) (b + 17) (Int32.toNatClampNeg (tz_g A (b + 15) 0)) x2) (b + 18) (Int32.toNatClampNeg (tz_g A (b + 15) 0)) x3) (b + 19) (Int32.toNatClampNeg (tz_g A (b + 15) 0)) x4) (b + 20) (Int32.toNatClampNeg (tz_g A (b + 15) 0)) x2) (b + 21) (Int32.toNatClampNeg (tz_g A (b + 15) 0)) (-1)) := by
  obtain rfl | rfl | rfl | rfl | rfl := hb
  all_goals
    refine (tz_Fe (L := [some (.ref _), some (.int x1), some (.int x2), some (.int x3), some (.int x4), none, none]) rfl).trans ?_
    refine (tz_g_aload_n rfl (tz_in0 rfl)).trans ?_
    refine (tz_g_geti rfl rfl rfl (tz_in0 rfl)).trans ?_
    refine (tz_g_istore (L2 := [some (.ref _), some (.int x1), some (.int x2), some (.int x3), some (.int x4), some (.int _), none]) rfl rfl (tz_in0 rfl)).trans ?_
    refine (tz_g_aload_n rfl (tz_in0 rfl)).trans ?_
    refine (tz_g_getr (j := _) rfl rfl rfl rfl rfl (tz_in0 rfl)).trans ?_
    refine (tz_g_iload rfl (tz_in0 rfl)).trans ?_
    refine (tz_g_iload_n rfl (tz_in0 rfl)).trans ?_
    refine (tz_g_iast (n := 12) rfl rfl rfl (tz_in0 rfl)).trans ?_
    refine tz_cn1 ?_
    refine (tz_g_aload_n rfl (tz_in0 rfl)).trans ?_
    refine (tz_g_getr (j := _) rfl rfl rfl rfl rfl (tz_in0 rfl)).trans ?_
    refine (tz_g_iload rfl (tz_in0 rfl)).trans ?_
    refine (tz_g_iload_n rfl (tz_in0 rfl)).trans ?_
    refine (tz_g_iast (n := 12) rfl rfl rfl (tz_in0 rfl)).trans ?_
    refine tz_cn1 ?_
    refine (tz_g_aload_n rfl (tz_in0 rfl)).trans ?_
    refine (tz_g_getr (j := _) rfl rfl rfl rfl rfl (tz_in0 rfl)).trans ?_
    refine (tz_g_iload rfl (tz_in0 rfl)).trans ?_
    refine (tz_g_iload_n rfl (tz_in0 rfl)).trans ?_
    refine (tz_g_iast (n := 12) rfl rfl rfl (tz_in0 rfl)).trans ?_
    refine tz_cn1 ?_
    refine (tz_g_aload_n rfl (tz_in0 rfl)).trans ?_
    refine (tz_g_getr (j := _) rfl rfl rfl rfl rfl (tz_in0 rfl)).trans ?_
    refine (tz_g_iload rfl (tz_in0 rfl)).trans ?_
    refine (tz_g_iload rfl (tz_in0 rfl)).trans ?_
    refine (tz_g_iast (n := 12) rfl rfl rfl (tz_in0 rfl)).trans ?_
    refine tz_cn1 ?_
    refine (tz_g_aload_n rfl (tz_in0 rfl)).trans ?_
    refine (tz_g_getr (j := _) rfl rfl rfl rfl rfl (tz_in0 rfl)).trans ?_
    refine (tz_g_iload rfl (tz_in0 rfl)).trans ?_
    refine (tz_g_iload_n rfl (tz_in0 rfl)).trans ?_
    refine (tz_g_iast (n := 12) rfl rfl rfl (tz_in0 rfl)).trans ?_
    refine tz_cn1 ?_
    refine (tz_g_aload_n rfl (tz_in0 rfl)).trans ?_
    refine (tz_g_getr (j := _) rfl rfl rfl rfl rfl (tz_in0 rfl)).trans ?_
    refine (tz_g_iload rfl (tz_in0 rfl)).trans ?_
    refine (tz_g_iconst (v := (-1)) rfl (tz_in0 rfl)).trans ?_
    refine (tz_g_iast (n := 12) rfl rfl rfl (tz_in0 rfl)).trans ?_
    refine tz_cn1 ?_
    refine (tz_g_iload rfl (tz_in0 rfl)).trans ?_
    refine (tz_g_istore (L2 := [some (.ref _), some (.int x1), some (.int x2), some (.int x3), some (.int x4), some (.int _), some (.int _)]) rfl rfl (tz_in0 rfl)).trans ?_
    exact tz_Gm (L2 := [some (.ref _), none, none, none, some (.int x4), some (.int _), some (.int _)]) rfl rfl rfl rfl

theorem e_X4_add_59 (b : Nat) (z4 : Int32) (z5 : Int32) (z6 : Int32) (hb : tz_sky b) (A : tz_Mem) : q_X4_add_59 b z4 z5 z6 A =
  if z6 ≤ 0 then
  if z6 < 0 ∨ 12 ≤ (Int32.toNatClampNeg z6) then none else
  some (some (.int z5), (tz_s (tz_s A (b + 22) (Int32.toNatClampNeg z6) z5) (b + 15) 0 ((tz_g (tz_s A (b + 22) (Int32.toNatClampNeg z6) z5) (b + 15) 0) + 1)))
else
  if (z6 - 1) < 0 ∨ 12 ≤ (Int32.toNatClampNeg (z6 - 1)) then none else
  if (tz_g A (b + 22) (Int32.toNatClampNeg (z6 - 1))) < 0 ∨ 12 ≤ (Int32.toNatClampNeg (tz_g A (b + 22) (Int32.toNatClampNeg (z6 - 1)))) then none else
  if z4 ≤ (tz_g A (b + 19) (Int32.toNatClampNeg (tz_g A (b + 22) (Int32.toNatClampNeg (z6 - 1))))) then
    if z6 < 0 ∨ 12 ≤ (Int32.toNatClampNeg z6) then none else
    some (some (.int z5), (tz_s (tz_s A (b + 22) (Int32.toNatClampNeg z6) z5) (b + 15) 0 ((tz_g (tz_s A (b + 22) (Int32.toNatClampNeg z6) z5) (b + 15) 0) + 1)))
  else
    if (z6 - 1) < 0 ∨ 12 ≤ (Int32.toNatClampNeg (z6 - 1)) then none else
    if z6 < 0 ∨ 12 ≤ (Int32.toNatClampNeg z6) then none else
    q_X4_add_59 b z4 z5 (z6 + (-1)) (tz_s A (b + 22) (Int32.toNatClampNeg z6) (tz_g A (b + 22) (Int32.toNatClampNeg (z6 - 1)))) := by
  obtain rfl | rfl | rfl | rfl | rfl := hb
  all_goals
    show tz_Go 43 59 _ [] A = _
    refine (tz_g_iload rfl (tz_inM rfl rfl rfl)).trans ?_
    refine (tz_g_if_le (t := 105) (by decide) (tz_in0 rfl)).trans ?_
    refine tz_cg ?_ ?_
    · skip
      refine (tz_g_aload_n rfl (tz_in0 rfl)).trans ?_
      refine (tz_g_getr (j := _) rfl rfl rfl rfl rfl (tz_in0 rfl)).trans ?_
      refine (tz_g_iload rfl (tz_in0 rfl)).trans ?_
      refine (tz_g_iload rfl (tz_in0 rfl)).trans ?_
      refine (tz_g_iast (n := 12) rfl rfl rfl (tz_in0 rfl)).trans ?_
      refine tz_cn1 ?_
      refine (tz_g_aload_n rfl (tz_in0 rfl)).trans ?_
      refine (tz_g_dup rfl (tz_in0 rfl)).trans ?_
      refine (tz_g_geti rfl rfl rfl (tz_in0 rfl)).trans ?_
      refine (tz_g_iconst (v := 1) rfl (tz_in0 rfl)).trans ?_
      refine (tz_g_iadd (tz_in0 rfl)).trans ?_
      refine (tz_g_puti rfl rfl rfl (tz_in0 rfl)).trans ?_
      refine (tz_g_iload rfl (tz_in0 rfl)).trans ?_
      exact tz_g_ret1 (tz_in0 rfl) rfl
    · skip
      refine (tz_g_aload_n rfl (tz_in0 rfl)).trans ?_
      refine (tz_g_getr (j := _) rfl rfl rfl rfl rfl (tz_in0 rfl)).trans ?_
      refine (tz_g_aload_n rfl (tz_in0 rfl)).trans ?_
      refine (tz_g_getr (j := _) rfl rfl rfl rfl rfl (tz_in0 rfl)).trans ?_
      refine (tz_g_iload rfl (tz_in0 rfl)).trans ?_
      refine (tz_g_iconst (v := 1) rfl (tz_in0 rfl)).trans ?_
      refine (tz_g_isub (tz_in0 rfl)).trans ?_
      refine (tz_g_iald (n := 12) rfl rfl rfl (tz_in0 rfl)).trans ?_
      refine tz_cn1 ?_
      refine (tz_g_iald (n := 12) rfl rfl rfl (tz_in0 rfl)).trans ?_
      refine tz_cn1 ?_
      refine (tz_g_iload rfl (tz_in0 rfl)).trans ?_
      refine (tz_g_ic_ge (t := 105) (by decide) (tz_in0 rfl)).trans ?_
      refine tz_cg ?_ ?_
      · skip
        refine (tz_g_aload_n rfl (tz_in0 rfl)).trans ?_
        refine (tz_g_getr (j := _) rfl rfl rfl rfl rfl (tz_in0 rfl)).trans ?_
        refine (tz_g_iload rfl (tz_in0 rfl)).trans ?_
        refine (tz_g_iload rfl (tz_in0 rfl)).trans ?_
        refine (tz_g_iast (n := 12) rfl rfl rfl (tz_in0 rfl)).trans ?_
        refine tz_cn1 ?_
        refine (tz_g_aload_n rfl (tz_in0 rfl)).trans ?_
        refine (tz_g_dup rfl (tz_in0 rfl)).trans ?_
        refine (tz_g_geti rfl rfl rfl (tz_in0 rfl)).trans ?_
        refine (tz_g_iconst (v := 1) rfl (tz_in0 rfl)).trans ?_
        refine (tz_g_iadd (tz_in0 rfl)).trans ?_
        refine (tz_g_puti rfl rfl rfl (tz_in0 rfl)).trans ?_
        refine (tz_g_iload rfl (tz_in0 rfl)).trans ?_
        exact tz_g_ret1 (tz_in0 rfl) rfl
      · skip
        refine (tz_g_aload_n rfl (tz_in0 rfl)).trans ?_
        refine (tz_g_getr (j := _) rfl rfl rfl rfl rfl (tz_in0 rfl)).trans ?_
        refine (tz_g_iload rfl (tz_in0 rfl)).trans ?_
        refine (tz_g_aload_n rfl (tz_in0 rfl)).trans ?_
        refine (tz_g_getr (j := _) rfl rfl rfl rfl rfl (tz_in0 rfl)).trans ?_
        refine (tz_g_iload rfl (tz_in0 rfl)).trans ?_
        refine (tz_g_iconst (v := 1) rfl (tz_in0 rfl)).trans ?_
        refine (tz_g_isub (tz_in0 rfl)).trans ?_
        refine (tz_g_iald (n := 12) rfl rfl rfl (tz_in0 rfl)).trans ?_
        refine tz_cn1 ?_
        refine (tz_g_iast (n := 12) rfl rfl rfl (tz_in0 rfl)).trans ?_
        refine tz_cn1 ?_
        refine (tz_g_iinc (v := (-1)) (L2 := [some (.ref _), none, none, none, some (.int z4), some (.int z5), some (.int (z6 + (-1)))]) rfl rfl rfl rfl (tz_in0 rfl)).trans ?_
        refine (tz_g_goto (t := 59) (by decide) (tz_in0 rfl)).trans ?_
        exact tz_Gm (L2 := [some (.ref _), none, none, none, some (.int z4), some (.int z5), some (.int (z6 + (-1)))]) rfl rfl rfl rfl

theorem e_X10_wayHill (b : Nat) (x1 : Int32) (x2 : Int32) (hb : tz_sky b) (A : tz_Mem) : f_X10_wayHill b x1 x2 A =
  if ((x1 * 6) + x2) < 0 ∨ 24 ≤ (Int32.toNatClampNeg ((x1 * 6) + x2)) then none else
some (some (.int (tz_g A (b + 12) (Int32.toNatClampNeg ((x1 * 6) + x2)))), A) := by
  obtain rfl | rfl | rfl | rfl | rfl := hb
  all_goals
    refine (tz_Fe (L := [some (.ref _), some (.int x1), some (.int x2)]) rfl).trans ?_
    refine (tz_g_aload_n rfl (tz_in0 rfl)).trans ?_
    refine (tz_g_getr (j := _) rfl rfl rfl rfl rfl (tz_in0 rfl)).trans ?_
    refine (tz_g_iload_n rfl (tz_in0 rfl)).trans ?_
    refine (tz_g_bipush (v := 6) rfl (tz_in0 rfl)).trans ?_
    refine (tz_g_imul (tz_in0 rfl)).trans ?_
    refine (tz_g_iload_n rfl (tz_in0 rfl)).trans ?_
    refine (tz_g_iadd (tz_in0 rfl)).trans ?_
    refine (tz_g_iald (n := 24) rfl rfl rfl (tz_in0 rfl)).trans ?_
    refine tz_cn1 ?_
    exact tz_g_ret1 (tz_in0 rfl) rfl

theorem e_X10_has (b : Nat) (x1 : Int32) (hb : tz_sky b) (A : tz_Mem) : f_X10_has b x1 A =
  if x1 < 0 then
  some (some (.int 0), A)
else
  if (tz_g A (b + 7) 0) ≤ x1 then
    some (some (.int 0), A)
  else
    some (some (.int 1), A) := by
  obtain rfl | rfl | rfl | rfl | rfl := hb
  all_goals
    refine (tz_Fe (L := [some (.ref _), some (.int x1)]) rfl).trans ?_
    refine (tz_g_iload_n rfl (tz_in0 rfl)).trans ?_
    refine (tz_g_if_lt (t := 16) (by decide) (tz_in0 rfl)).trans ?_
    refine tz_cg ?_ ?_
    · skip
      refine (tz_g_iconst (v := 0) rfl (tz_in0 rfl)).trans ?_
      exact tz_g_ret4K (by decide) (tz_in0 rfl) rfl
    · skip
      refine (tz_g_iload_n rfl (tz_in0 rfl)).trans ?_
      refine (tz_g_aload_n rfl (tz_in0 rfl)).trans ?_
      refine (tz_g_geti rfl rfl rfl (tz_in0 rfl)).trans ?_
      refine (tz_g_ic_ge (t := 16) (by decide) (tz_in0 rfl)).trans ?_
      refine tz_cg ?_ ?_
      · skip
        refine (tz_g_iconst (v := 0) rfl (tz_in0 rfl)).trans ?_
        exact tz_g_ret4K (by decide) (tz_in0 rfl) rfl
      · skip
        refine (tz_g_iconst (v := 1) rfl (tz_in0 rfl)).trans ?_
        refine (tz_g_goto (t := 17) (by decide) (tz_in0 rfl)).trans ?_
        exact tz_g_ret4K (by decide) (tz_in0 rfl) rfl

theorem e_X4_has (b : Nat) (x1 : Int32) (hb : tz_sky b) (A : tz_Mem) : f_X4_has b x1 A =
  if x1 < 0 then
  some (some (.int 0), A)
else
  if (tz_g A (b + 15) 0) ≤ x1 then
    some (some (.int 0), A)
  else
    some (some (.int 1), A) := by
  obtain rfl | rfl | rfl | rfl | rfl := hb
  all_goals
    refine (tz_Fe (L := [some (.ref _), some (.int x1)]) rfl).trans ?_
    refine (tz_g_iload_n rfl (tz_in0 rfl)).trans ?_
    refine (tz_g_if_lt (t := 16) (by decide) (tz_in0 rfl)).trans ?_
    refine tz_cg ?_ ?_
    · skip
      refine (tz_g_iconst (v := 0) rfl (tz_in0 rfl)).trans ?_
      exact tz_g_ret4K (by decide) (tz_in0 rfl) rfl
    · skip
      refine (tz_g_iload_n rfl (tz_in0 rfl)).trans ?_
      refine (tz_g_aload_n rfl (tz_in0 rfl)).trans ?_
      refine (tz_g_geti rfl rfl rfl (tz_in0 rfl)).trans ?_
      refine (tz_g_ic_ge (t := 16) (by decide) (tz_in0 rfl)).trans ?_
      refine tz_cg ?_ ?_
      · skip
        refine (tz_g_iconst (v := 0) rfl (tz_in0 rfl)).trans ?_
        exact tz_g_ret4K (by decide) (tz_in0 rfl) rfl
      · skip
        refine (tz_g_iconst (v := 1) rfl (tz_in0 rfl)).trans ?_
        refine (tz_g_goto (t := 17) (by decide) (tz_in0 rfl)).trans ?_
        exact tz_g_ret4K (by decide) (tz_in0 rfl) rfl

theorem e_X3_become (b : Nat) (b2 : Nat) (hb : tz_sky b) (hb2 : tz_sky b2) (A : tz_Mem) : f_X3_become b b2 A =
  some (none, (tz_cp (tz_cp (tz_cp (tz_cp (tz_cp (tz_s A (b + 1) 0 (tz_g A (b2 + 1) 0)) (b2 + 2) 0 (b + 2) 0 8) (b2 + 3) 0 (b + 3) 0 8) (b2 + 4) 0 (b + 4) 0 8) (b2 + 5) 0 (b + 5) 0 8) (b2 + 6) 0 (b + 6) 0 64)) := by
  obtain rfl | rfl | rfl | rfl | rfl := hb
  all_goals obtain rfl | rfl | rfl | rfl | rfl := hb2
  all_goals
    refine (tz_Fe (L := [some (.ref _), some (.ref _)]) rfl).trans ?_
    refine (tz_g_aload_n rfl (tz_in0 rfl)).trans ?_
    refine (tz_g_aload_n rfl (tz_in0 rfl)).trans ?_
    refine (tz_g_geti rfl rfl rfl (tz_in0 rfl)).trans ?_
    refine (tz_g_puti rfl rfl rfl (tz_in0 rfl)).trans ?_
    refine (tz_g_aload_n rfl (tz_in0 rfl)).trans ?_
    refine (tz_g_getr (j := _) rfl rfl rfl rfl rfl (tz_in0 rfl)).trans ?_
    refine (tz_g_iconst (v := 0) rfl (tz_in0 rfl)).trans ?_
    refine (tz_g_aload_n rfl (tz_in0 rfl)).trans ?_
    refine (tz_g_getr (j := _) rfl rfl rfl rfl rfl (tz_in0 rfl)).trans ?_
    refine (tz_g_iconst (v := 0) rfl (tz_in0 rfl)).trans ?_
    refine (tz_g_bipush (v := 8) rfl (tz_in0 rfl)).trans ?_
    refine (tz_g_cpi (n1 := 8) (n2 := 8) rfl rfl rfl rfl rfl rfl rfl (tz_in0 rfl)).trans ?_
    refine (if_neg (by decide)).trans ?_
    refine (tz_g_aload_n rfl (tz_in0 rfl)).trans ?_
    refine (tz_g_getr (j := _) rfl rfl rfl rfl rfl (tz_in0 rfl)).trans ?_
    refine (tz_g_iconst (v := 0) rfl (tz_in0 rfl)).trans ?_
    refine (tz_g_aload_n rfl (tz_in0 rfl)).trans ?_
    refine (tz_g_getr (j := _) rfl rfl rfl rfl rfl (tz_in0 rfl)).trans ?_
    refine (tz_g_iconst (v := 0) rfl (tz_in0 rfl)).trans ?_
    refine (tz_g_bipush (v := 8) rfl (tz_in0 rfl)).trans ?_
    refine (tz_g_cpi (n1 := 8) (n2 := 8) rfl rfl rfl rfl rfl rfl rfl (tz_in0 rfl)).trans ?_
    refine (if_neg (by decide)).trans ?_
    refine (tz_g_aload_n rfl (tz_in0 rfl)).trans ?_
    refine (tz_g_getr (j := _) rfl rfl rfl rfl rfl (tz_in0 rfl)).trans ?_
    refine (tz_g_iconst (v := 0) rfl (tz_in0 rfl)).trans ?_
    refine (tz_g_aload_n rfl (tz_in0 rfl)).trans ?_
    refine (tz_g_getr (j := _) rfl rfl rfl rfl rfl (tz_in0 rfl)).trans ?_
    refine (tz_g_iconst (v := 0) rfl (tz_in0 rfl)).trans ?_
    refine (tz_g_bipush (v := 8) rfl (tz_in0 rfl)).trans ?_
    refine (tz_g_cpi (n1 := 8) (n2 := 8) rfl rfl rfl rfl rfl rfl rfl (tz_in0 rfl)).trans ?_
    refine (if_neg (by decide)).trans ?_
    refine (tz_g_aload_n rfl (tz_in0 rfl)).trans ?_
    refine (tz_g_getr (j := _) rfl rfl rfl rfl rfl (tz_in0 rfl)).trans ?_
    refine (tz_g_iconst (v := 0) rfl (tz_in0 rfl)).trans ?_
    refine (tz_g_aload_n rfl (tz_in0 rfl)).trans ?_
    refine (tz_g_getr (j := _) rfl rfl rfl rfl rfl (tz_in0 rfl)).trans ?_
    refine (tz_g_iconst (v := 0) rfl (tz_in0 rfl)).trans ?_
    refine (tz_g_bipush (v := 8) rfl (tz_in0 rfl)).trans ?_
    refine (tz_g_cpi (n1 := 8) (n2 := 8) rfl rfl rfl rfl rfl rfl rfl (tz_in0 rfl)).trans ?_
    refine (if_neg (by decide)).trans ?_
    refine (tz_g_aload_n rfl (tz_in0 rfl)).trans ?_
    refine (tz_g_getr (j := _) rfl rfl rfl rfl rfl (tz_in0 rfl)).trans ?_
    refine (tz_g_iconst (v := 0) rfl (tz_in0 rfl)).trans ?_
    refine (tz_g_aload_n rfl (tz_in0 rfl)).trans ?_
    refine (tz_g_getr (j := _) rfl rfl rfl rfl rfl (tz_in0 rfl)).trans ?_
    refine (tz_g_iconst (v := 0) rfl (tz_in0 rfl)).trans ?_
    refine (tz_g_bipush (v := 64) rfl (tz_in0 rfl)).trans ?_
    refine (tz_g_cpi (n1 := 64) (n2 := 64) rfl rfl rfl rfl rfl rfl rfl (tz_in0 rfl)).trans ?_
    refine (if_neg (by decide)).trans ?_
    exact tz_g_ret0 (tz_in0 rfl) rfl

theorem e_X10_become (b : Nat) (b2 : Nat) (hb : tz_sky b) (hb2 : tz_sky b2) (A : tz_Mem) : f_X10_become b b2 A =
  some (none, (tz_cp (tz_cp (tz_cp (tz_cp (tz_cp (tz_cp (tz_cp (tz_s A (b + 7) 0 (tz_g A (b2 + 7) 0)) (b2 + 8) 0 (b + 8) 0 4) (b2 + 9) 0 (b + 9) 0 4) (b2 + 10) 0 (b + 10) 0 4) (b2 + 11) 0 (b + 11) 0 4) (b2 + 12) 0 (b + 12) 0 24) (b2 + 13) 0 (b + 13) 0 4) (b2 + 14) 0 (b + 14) 0 4)) := by
  obtain rfl | rfl | rfl | rfl | rfl := hb
  all_goals obtain rfl | rfl | rfl | rfl | rfl := hb2
  all_goals
    refine (tz_Fe (L := [some (.ref _), some (.ref _)]) rfl).trans ?_
    refine (tz_g_aload_n rfl (tz_in0 rfl)).trans ?_
    refine (tz_g_aload_n rfl (tz_in0 rfl)).trans ?_
    refine (tz_g_geti rfl rfl rfl (tz_in0 rfl)).trans ?_
    refine (tz_g_puti rfl rfl rfl (tz_in0 rfl)).trans ?_
    refine (tz_g_aload_n rfl (tz_in0 rfl)).trans ?_
    refine (tz_g_getr (j := _) rfl rfl rfl rfl rfl (tz_in0 rfl)).trans ?_
    refine (tz_g_iconst (v := 0) rfl (tz_in0 rfl)).trans ?_
    refine (tz_g_aload_n rfl (tz_in0 rfl)).trans ?_
    refine (tz_g_getr (j := _) rfl rfl rfl rfl rfl (tz_in0 rfl)).trans ?_
    refine (tz_g_iconst (v := 0) rfl (tz_in0 rfl)).trans ?_
    refine (tz_g_iconst (v := 4) rfl (tz_in0 rfl)).trans ?_
    refine (tz_g_cpi (n1 := 4) (n2 := 4) rfl rfl rfl rfl rfl rfl rfl (tz_in0 rfl)).trans ?_
    refine (if_neg (by decide)).trans ?_
    refine (tz_g_aload_n rfl (tz_in0 rfl)).trans ?_
    refine (tz_g_getr (j := _) rfl rfl rfl rfl rfl (tz_in0 rfl)).trans ?_
    refine (tz_g_iconst (v := 0) rfl (tz_in0 rfl)).trans ?_
    refine (tz_g_aload_n rfl (tz_in0 rfl)).trans ?_
    refine (tz_g_getr (j := _) rfl rfl rfl rfl rfl (tz_in0 rfl)).trans ?_
    refine (tz_g_iconst (v := 0) rfl (tz_in0 rfl)).trans ?_
    refine (tz_g_iconst (v := 4) rfl (tz_in0 rfl)).trans ?_
    refine (tz_g_cpi (n1 := 4) (n2 := 4) rfl rfl rfl rfl rfl rfl rfl (tz_in0 rfl)).trans ?_
    refine (if_neg (by decide)).trans ?_
    refine (tz_g_aload_n rfl (tz_in0 rfl)).trans ?_
    refine (tz_g_getr (j := _) rfl rfl rfl rfl rfl (tz_in0 rfl)).trans ?_
    refine (tz_g_iconst (v := 0) rfl (tz_in0 rfl)).trans ?_
    refine (tz_g_aload_n rfl (tz_in0 rfl)).trans ?_
    refine (tz_g_getr (j := _) rfl rfl rfl rfl rfl (tz_in0 rfl)).trans ?_
    refine (tz_g_iconst (v := 0) rfl (tz_in0 rfl)).trans ?_
    refine (tz_g_iconst (v := 4) rfl (tz_in0 rfl)).trans ?_
    refine (tz_g_cpi (n1 := 4) (n2 := 4) rfl rfl rfl rfl rfl rfl rfl (tz_in0 rfl)).trans ?_
    refine (if_neg (by decide)).trans ?_
    refine (tz_g_aload_n rfl (tz_in0 rfl)).trans ?_
    refine (tz_g_getr (j := _) rfl rfl rfl rfl rfl (tz_in0 rfl)).trans ?_
    refine (tz_g_iconst (v := 0) rfl (tz_in0 rfl)).trans ?_
    refine (tz_g_aload_n rfl (tz_in0 rfl)).trans ?_
    refine (tz_g_getr (j := _) rfl rfl rfl rfl rfl (tz_in0 rfl)).trans ?_
    refine (tz_g_iconst (v := 0) rfl (tz_in0 rfl)).trans ?_
    refine (tz_g_iconst (v := 4) rfl (tz_in0 rfl)).trans ?_
    refine (tz_g_cpi (n1 := 4) (n2 := 4) rfl rfl rfl rfl rfl rfl rfl (tz_in0 rfl)).trans ?_
    refine (if_neg (by decide)).trans ?_
    refine (tz_g_aload_n rfl (tz_in0 rfl)).trans ?_
    refine (tz_g_getr (j := _) rfl rfl rfl rfl rfl (tz_in0 rfl)).trans ?_
    refine (tz_g_iconst (v := 0) rfl (tz_in0 rfl)).trans ?_
    refine (tz_g_aload_n rfl (tz_in0 rfl)).trans ?_
    refine (tz_g_getr (j := _) rfl rfl rfl rfl rfl (tz_in0 rfl)).trans ?_
    refine (tz_g_iconst (v := 0) rfl (tz_in0 rfl)).trans ?_
    refine (tz_g_bipush (v := 24) rfl (tz_in0 rfl)).trans ?_
    refine (tz_g_cpi (n1 := 24) (n2 := 24) rfl rfl rfl rfl rfl rfl rfl (tz_in0 rfl)).trans ?_
    refine (if_neg (by decide)).trans ?_
    refine (tz_g_aload_n rfl (tz_in0 rfl)).trans ?_
    refine (tz_g_getr (j := _) rfl rfl rfl rfl rfl (tz_in0 rfl)).trans ?_
    refine (tz_g_iconst (v := 0) rfl (tz_in0 rfl)).trans ?_
    refine (tz_g_aload_n rfl (tz_in0 rfl)).trans ?_
    refine (tz_g_getr (j := _) rfl rfl rfl rfl rfl (tz_in0 rfl)).trans ?_
    refine (tz_g_iconst (v := 0) rfl (tz_in0 rfl)).trans ?_
    refine (tz_g_iconst (v := 4) rfl (tz_in0 rfl)).trans ?_
    refine (tz_g_cpi (n1 := 4) (n2 := 4) rfl rfl rfl rfl rfl rfl rfl (tz_in0 rfl)).trans ?_
    refine (if_neg (by decide)).trans ?_
    refine (tz_g_aload_n rfl (tz_in0 rfl)).trans ?_
    refine (tz_g_getr (j := _) rfl rfl rfl rfl rfl (tz_in0 rfl)).trans ?_
    refine (tz_g_iconst (v := 0) rfl (tz_in0 rfl)).trans ?_
    refine (tz_g_aload_n rfl (tz_in0 rfl)).trans ?_
    refine (tz_g_getr (j := _) rfl rfl rfl rfl rfl (tz_in0 rfl)).trans ?_
    refine (tz_g_iconst (v := 0) rfl (tz_in0 rfl)).trans ?_
    refine (tz_g_iconst (v := 4) rfl (tz_in0 rfl)).trans ?_
    refine (tz_g_cpi (n1 := 4) (n2 := 4) rfl rfl rfl rfl rfl rfl rfl (tz_in0 rfl)).trans ?_
    refine (if_neg (by decide)).trans ?_
    exact tz_g_ret0 (tz_in0 rfl) rfl

theorem e_X4_become (b : Nat) (b2 : Nat) (hb : tz_sky b) (hb2 : tz_sky b2) (A : tz_Mem) : f_X4_become b b2 A =
  some (none, (tz_cp (tz_cp (tz_cp (tz_cp (tz_cp (tz_cp (tz_cp (tz_s A (b + 15) 0 (tz_g A (b2 + 15) 0)) (b2 + 16) 0 (b + 16) 0 12) (b2 + 17) 0 (b + 17) 0 12) (b2 + 18) 0 (b + 18) 0 12) (b2 + 19) 0 (b + 19) 0 12) (b2 + 20) 0 (b + 20) 0 12) (b2 + 21) 0 (b + 21) 0 12) (b2 + 22) 0 (b + 22) 0 12)) := by
  obtain rfl | rfl | rfl | rfl | rfl := hb
  all_goals obtain rfl | rfl | rfl | rfl | rfl := hb2
  all_goals
    refine (tz_Fe (L := [some (.ref _), some (.ref _)]) rfl).trans ?_
    refine (tz_g_aload_n rfl (tz_in0 rfl)).trans ?_
    refine (tz_g_aload_n rfl (tz_in0 rfl)).trans ?_
    refine (tz_g_geti rfl rfl rfl (tz_in0 rfl)).trans ?_
    refine (tz_g_puti rfl rfl rfl (tz_in0 rfl)).trans ?_
    refine (tz_g_aload_n rfl (tz_in0 rfl)).trans ?_
    refine (tz_g_getr (j := _) rfl rfl rfl rfl rfl (tz_in0 rfl)).trans ?_
    refine (tz_g_iconst (v := 0) rfl (tz_in0 rfl)).trans ?_
    refine (tz_g_aload_n rfl (tz_in0 rfl)).trans ?_
    refine (tz_g_getr (j := _) rfl rfl rfl rfl rfl (tz_in0 rfl)).trans ?_
    refine (tz_g_iconst (v := 0) rfl (tz_in0 rfl)).trans ?_
    refine (tz_g_bipush (v := 12) rfl (tz_in0 rfl)).trans ?_
    refine (tz_g_cpi (n1 := 12) (n2 := 12) rfl rfl rfl rfl rfl rfl rfl (tz_in0 rfl)).trans ?_
    refine (if_neg (by decide)).trans ?_
    refine (tz_g_aload_n rfl (tz_in0 rfl)).trans ?_
    refine (tz_g_getr (j := _) rfl rfl rfl rfl rfl (tz_in0 rfl)).trans ?_
    refine (tz_g_iconst (v := 0) rfl (tz_in0 rfl)).trans ?_
    refine (tz_g_aload_n rfl (tz_in0 rfl)).trans ?_
    refine (tz_g_getr (j := _) rfl rfl rfl rfl rfl (tz_in0 rfl)).trans ?_
    refine (tz_g_iconst (v := 0) rfl (tz_in0 rfl)).trans ?_
    refine (tz_g_bipush (v := 12) rfl (tz_in0 rfl)).trans ?_
    refine (tz_g_cpi (n1 := 12) (n2 := 12) rfl rfl rfl rfl rfl rfl rfl (tz_in0 rfl)).trans ?_
    refine (if_neg (by decide)).trans ?_
    refine (tz_g_aload_n rfl (tz_in0 rfl)).trans ?_
    refine (tz_g_getr (j := _) rfl rfl rfl rfl rfl (tz_in0 rfl)).trans ?_
    refine (tz_g_iconst (v := 0) rfl (tz_in0 rfl)).trans ?_
    refine (tz_g_aload_n rfl (tz_in0 rfl)).trans ?_
    refine (tz_g_getr (j := _) rfl rfl rfl rfl rfl (tz_in0 rfl)).trans ?_
    refine (tz_g_iconst (v := 0) rfl (tz_in0 rfl)).trans ?_
    refine (tz_g_bipush (v := 12) rfl (tz_in0 rfl)).trans ?_
    refine (tz_g_cpi (n1 := 12) (n2 := 12) rfl rfl rfl rfl rfl rfl rfl (tz_in0 rfl)).trans ?_
    refine (if_neg (by decide)).trans ?_
    refine (tz_g_aload_n rfl (tz_in0 rfl)).trans ?_
    refine (tz_g_getr (j := _) rfl rfl rfl rfl rfl (tz_in0 rfl)).trans ?_
    refine (tz_g_iconst (v := 0) rfl (tz_in0 rfl)).trans ?_
    refine (tz_g_aload_n rfl (tz_in0 rfl)).trans ?_
    refine (tz_g_getr (j := _) rfl rfl rfl rfl rfl (tz_in0 rfl)).trans ?_
    refine (tz_g_iconst (v := 0) rfl (tz_in0 rfl)).trans ?_
    refine (tz_g_bipush (v := 12) rfl (tz_in0 rfl)).trans ?_
    refine (tz_g_cpi (n1 := 12) (n2 := 12) rfl rfl rfl rfl rfl rfl rfl (tz_in0 rfl)).trans ?_
    refine (if_neg (by decide)).trans ?_
    refine (tz_g_aload_n rfl (tz_in0 rfl)).trans ?_
    refine (tz_g_getr (j := _) rfl rfl rfl rfl rfl (tz_in0 rfl)).trans ?_
    refine (tz_g_iconst (v := 0) rfl (tz_in0 rfl)).trans ?_
    refine (tz_g_aload_n rfl (tz_in0 rfl)).trans ?_
    refine (tz_g_getr (j := _) rfl rfl rfl rfl rfl (tz_in0 rfl)).trans ?_
    refine (tz_g_iconst (v := 0) rfl (tz_in0 rfl)).trans ?_
    refine (tz_g_bipush (v := 12) rfl (tz_in0 rfl)).trans ?_
    refine (tz_g_cpi (n1 := 12) (n2 := 12) rfl rfl rfl rfl rfl rfl rfl (tz_in0 rfl)).trans ?_
    refine (if_neg (by decide)).trans ?_
    refine (tz_g_aload_n rfl (tz_in0 rfl)).trans ?_
    refine (tz_g_getr (j := _) rfl rfl rfl rfl rfl (tz_in0 rfl)).trans ?_
    refine (tz_g_iconst (v := 0) rfl (tz_in0 rfl)).trans ?_
    refine (tz_g_aload_n rfl (tz_in0 rfl)).trans ?_
    refine (tz_g_getr (j := _) rfl rfl rfl rfl rfl (tz_in0 rfl)).trans ?_
    refine (tz_g_iconst (v := 0) rfl (tz_in0 rfl)).trans ?_
    refine (tz_g_bipush (v := 12) rfl (tz_in0 rfl)).trans ?_
    refine (tz_g_cpi (n1 := 12) (n2 := 12) rfl rfl rfl rfl rfl rfl rfl (tz_in0 rfl)).trans ?_
    refine (if_neg (by decide)).trans ?_
    refine (tz_g_aload_n rfl (tz_in0 rfl)).trans ?_
    refine (tz_g_getr (j := _) rfl rfl rfl rfl rfl (tz_in0 rfl)).trans ?_
    refine (tz_g_iconst (v := 0) rfl (tz_in0 rfl)).trans ?_
    refine (tz_g_aload_n rfl (tz_in0 rfl)).trans ?_
    refine (tz_g_getr (j := _) rfl rfl rfl rfl rfl (tz_in0 rfl)).trans ?_
    refine (tz_g_iconst (v := 0) rfl (tz_in0 rfl)).trans ?_
    refine (tz_g_bipush (v := 12) rfl (tz_in0 rfl)).trans ?_
    refine (tz_g_cpi (n1 := 12) (n2 := 12) rfl rfl rfl rfl rfl rfl rfl (tz_in0 rfl)).trans ?_
    refine (if_neg (by decide)).trans ?_
    exact tz_g_ret0 (tz_in0 rfl) rfl

theorem e_X7_wordOf (x1 : Int32) (A : tz_Mem) : f_X7_wordOf x1 A =
  if x1 = 0 then
  some (some (.ref 5), A)
else if x1 = 1 then
  some (some (.ref 6), A)
else if x1 = 2 then
  some (some (.ref 7), A)
else if x1 = 3 then
  some (some (.ref 8), A)
else some (some (.ref 9), A) := by
  refine (tz_Fe (L := [some (.int x1)]) rfl).trans ?_
  refine (tz_g_iload_n rfl (tz_in0 rfl)).trans ?_
  refine (tz_g_tsw (by decide) (tz_in0 rfl)).trans ?_
  refine tz_swc (v := 0) (by decide) ?_ ?_
  · refine (tz_tg (t := 32) (by decide)).trans ?_
    refine (tz_g_ldcS (j := 5) rfl (tz_in0 rfl)).trans ?_
    exact tz_g_ret3 (tz_in0 rfl) rfl
  refine tz_swc (v := 1) (by decide) ?_ ?_
  · refine (tz_tg (t := 35) (by decide)).trans ?_
    refine (tz_g_ldcS (j := 6) rfl (tz_in0 rfl)).trans ?_
    exact tz_g_ret3 (tz_in0 rfl) rfl
  refine tz_swc (v := 2) (by decide) ?_ ?_
  · refine (tz_tg (t := 38) (by decide)).trans ?_
    refine (tz_g_ldcS (j := 7) rfl (tz_in0 rfl)).trans ?_
    exact tz_g_ret3 (tz_in0 rfl) rfl
  refine tz_swc (v := 3) (by decide) ?_ ?_
  · refine (tz_tg (t := 41) (by decide)).trans ?_
    refine (tz_g_ldcS (j := 8) rfl (tz_in0 rfl)).trans ?_
    exact tz_g_ret3 (tz_in0 rfl) rfl
  refine tz_swd ?_
  refine (tz_tg (t := 44) (by decide)).trans ?_
  refine (tz_g_ldcS (j := 9) rfl (tz_in0 rfl)).trans ?_
  exact tz_g_ret3 (tz_in0 rfl) rfl

theorem e_J0_coder_s5 (A : tz_Mem) : f_J0_coder_s5 A =
  some (some (.int 0), A) := by
  refine (tz_Fe (L := [some (.ref 5)]) rfl).trans ?_
  refine (tz_g_gets1 (v := 1) rfl rfl (tz_in0 rfl)).trans ?_
  refine (tz_g_if_eq (t := 13) (by decide) (tz_in0 rfl)).trans ?_
  refine (if_neg (by decide)).trans ?_
  refine (tz_g_aload_n rfl (tz_in0 rfl)).trans ?_
  refine (tz_g_getc rfl rfl rfl (tz_in0 rfl)).trans ?_
  refine (tz_g_goto (t := 14) (by decide) (tz_in0 rfl)).trans ?_
  exact (tz_g_ret6 (tz_in0 rfl) rfl).trans (if_pos (by decide))

theorem e_J0_coder_s6 (A : tz_Mem) : f_J0_coder_s6 A =
  some (some (.int 0), A) := by
  refine (tz_Fe (L := [some (.ref 6)]) rfl).trans ?_
  refine (tz_g_gets1 (v := 1) rfl rfl (tz_in0 rfl)).trans ?_
  refine (tz_g_if_eq (t := 13) (by decide) (tz_in0 rfl)).trans ?_
  refine (if_neg (by decide)).trans ?_
  refine (tz_g_aload_n rfl (tz_in0 rfl)).trans ?_
  refine (tz_g_getc rfl rfl rfl (tz_in0 rfl)).trans ?_
  refine (tz_g_goto (t := 14) (by decide) (tz_in0 rfl)).trans ?_
  exact (tz_g_ret6 (tz_in0 rfl) rfl).trans (if_pos (by decide))

theorem e_J0_coder_s7 (A : tz_Mem) : f_J0_coder_s7 A =
  some (some (.int 0), A) := by
  refine (tz_Fe (L := [some (.ref 7)]) rfl).trans ?_
  refine (tz_g_gets1 (v := 1) rfl rfl (tz_in0 rfl)).trans ?_
  refine (tz_g_if_eq (t := 13) (by decide) (tz_in0 rfl)).trans ?_
  refine (if_neg (by decide)).trans ?_
  refine (tz_g_aload_n rfl (tz_in0 rfl)).trans ?_
  refine (tz_g_getc rfl rfl rfl (tz_in0 rfl)).trans ?_
  refine (tz_g_goto (t := 14) (by decide) (tz_in0 rfl)).trans ?_
  exact (tz_g_ret6 (tz_in0 rfl) rfl).trans (if_pos (by decide))

theorem e_J0_coder_s8 (A : tz_Mem) : f_J0_coder_s8 A =
  some (some (.int 0), A) := by
  refine (tz_Fe (L := [some (.ref 8)]) rfl).trans ?_
  refine (tz_g_gets1 (v := 1) rfl rfl (tz_in0 rfl)).trans ?_
  refine (tz_g_if_eq (t := 13) (by decide) (tz_in0 rfl)).trans ?_
  refine (if_neg (by decide)).trans ?_
  refine (tz_g_aload_n rfl (tz_in0 rfl)).trans ?_
  refine (tz_g_getc rfl rfl rfl (tz_in0 rfl)).trans ?_
  refine (tz_g_goto (t := 14) (by decide) (tz_in0 rfl)).trans ?_
  exact (tz_g_ret6 (tz_in0 rfl) rfl).trans (if_pos (by decide))

theorem e_J0_coder_s9 (A : tz_Mem) : f_J0_coder_s9 A =
  some (some (.int 0), A) := by
  refine (tz_Fe (L := [some (.ref 9)]) rfl).trans ?_
  refine (tz_g_gets1 (v := 1) rfl rfl (tz_in0 rfl)).trans ?_
  refine (tz_g_if_eq (t := 13) (by decide) (tz_in0 rfl)).trans ?_
  refine (if_neg (by decide)).trans ?_
  refine (tz_g_aload_n rfl (tz_in0 rfl)).trans ?_
  refine (tz_g_getc rfl rfl rfl (tz_in0 rfl)).trans ?_
  refine (tz_g_goto (t := 14) (by decide) (tz_in0 rfl)).trans ?_
  exact (tz_g_ret6 (tz_in0 rfl) rfl).trans (if_pos (by decide))

theorem e_J0_isLatin1_s5 (A : tz_Mem) : f_J0_isLatin1_s5 A =
  some (some (.int 1), A) := by
  refine (tz_Fe (L := [some (.ref 5)]) rfl).trans ?_
  refine (tz_g_gets1 (v := 1) rfl rfl (tz_in0 rfl)).trans ?_
  refine (tz_g_if_eq (t := 17) (by decide) (tz_in0 rfl)).trans ?_
  refine (if_neg (by decide)).trans ?_
  refine (tz_g_aload_n rfl (tz_in0 rfl)).trans ?_
  refine (tz_g_getc rfl rfl rfl (tz_in0 rfl)).trans ?_
  refine (tz_g_if_ne (t := 17) (by decide) (tz_in0 rfl)).trans ?_
  refine (if_neg (by decide)).trans ?_
  refine (tz_g_iconst (v := 1) rfl (tz_in0 rfl)).trans ?_
  refine (tz_g_goto (t := 18) (by decide) (tz_in0 rfl)).trans ?_
  exact tz_g_ret4K (by decide) (tz_in0 rfl) rfl

theorem e_J0_isLatin1_s6 (A : tz_Mem) : f_J0_isLatin1_s6 A =
  some (some (.int 1), A) := by
  refine (tz_Fe (L := [some (.ref 6)]) rfl).trans ?_
  refine (tz_g_gets1 (v := 1) rfl rfl (tz_in0 rfl)).trans ?_
  refine (tz_g_if_eq (t := 17) (by decide) (tz_in0 rfl)).trans ?_
  refine (if_neg (by decide)).trans ?_
  refine (tz_g_aload_n rfl (tz_in0 rfl)).trans ?_
  refine (tz_g_getc rfl rfl rfl (tz_in0 rfl)).trans ?_
  refine (tz_g_if_ne (t := 17) (by decide) (tz_in0 rfl)).trans ?_
  refine (if_neg (by decide)).trans ?_
  refine (tz_g_iconst (v := 1) rfl (tz_in0 rfl)).trans ?_
  refine (tz_g_goto (t := 18) (by decide) (tz_in0 rfl)).trans ?_
  exact tz_g_ret4K (by decide) (tz_in0 rfl) rfl

theorem e_J0_isLatin1_s7 (A : tz_Mem) : f_J0_isLatin1_s7 A =
  some (some (.int 1), A) := by
  refine (tz_Fe (L := [some (.ref 7)]) rfl).trans ?_
  refine (tz_g_gets1 (v := 1) rfl rfl (tz_in0 rfl)).trans ?_
  refine (tz_g_if_eq (t := 17) (by decide) (tz_in0 rfl)).trans ?_
  refine (if_neg (by decide)).trans ?_
  refine (tz_g_aload_n rfl (tz_in0 rfl)).trans ?_
  refine (tz_g_getc rfl rfl rfl (tz_in0 rfl)).trans ?_
  refine (tz_g_if_ne (t := 17) (by decide) (tz_in0 rfl)).trans ?_
  refine (if_neg (by decide)).trans ?_
  refine (tz_g_iconst (v := 1) rfl (tz_in0 rfl)).trans ?_
  refine (tz_g_goto (t := 18) (by decide) (tz_in0 rfl)).trans ?_
  exact tz_g_ret4K (by decide) (tz_in0 rfl) rfl

theorem e_J0_isLatin1_s8 (A : tz_Mem) : f_J0_isLatin1_s8 A =
  some (some (.int 1), A) := by
  refine (tz_Fe (L := [some (.ref 8)]) rfl).trans ?_
  refine (tz_g_gets1 (v := 1) rfl rfl (tz_in0 rfl)).trans ?_
  refine (tz_g_if_eq (t := 17) (by decide) (tz_in0 rfl)).trans ?_
  refine (if_neg (by decide)).trans ?_
  refine (tz_g_aload_n rfl (tz_in0 rfl)).trans ?_
  refine (tz_g_getc rfl rfl rfl (tz_in0 rfl)).trans ?_
  refine (tz_g_if_ne (t := 17) (by decide) (tz_in0 rfl)).trans ?_
  refine (if_neg (by decide)).trans ?_
  refine (tz_g_iconst (v := 1) rfl (tz_in0 rfl)).trans ?_
  refine (tz_g_goto (t := 18) (by decide) (tz_in0 rfl)).trans ?_
  exact tz_g_ret4K (by decide) (tz_in0 rfl) rfl

theorem e_J0_isLatin1_s9 (A : tz_Mem) : f_J0_isLatin1_s9 A =
  some (some (.int 1), A) := by
  refine (tz_Fe (L := [some (.ref 9)]) rfl).trans ?_
  refine (tz_g_gets1 (v := 1) rfl rfl (tz_in0 rfl)).trans ?_
  refine (tz_g_if_eq (t := 17) (by decide) (tz_in0 rfl)).trans ?_
  refine (if_neg (by decide)).trans ?_
  refine (tz_g_aload_n rfl (tz_in0 rfl)).trans ?_
  refine (tz_g_getc rfl rfl rfl (tz_in0 rfl)).trans ?_
  refine (tz_g_if_ne (t := 17) (by decide) (tz_in0 rfl)).trans ?_
  refine (if_neg (by decide)).trans ?_
  refine (tz_g_iconst (v := 1) rfl (tz_in0 rfl)).trans ?_
  refine (tz_g_goto (t := 18) (by decide) (tz_in0 rfl)).trans ?_
  exact tz_g_ret4K (by decide) (tz_in0 rfl) rfl

theorem e_J3_checkIndex (x1 : Int32) (x2 : Int32) (A : tz_Mem) : f_J3_checkIndex x1 x2 A =
  if x1 < 0 then
  none
else
  if x1 < x2 then
    some (some (.int x1), A)
  else
    none := by
  refine (tz_Fe (L := [some (.int x1), some (.int x2), some (.retAddr 0)]) rfl).trans ?_
  refine (tz_g_iload_n rfl (tz_in0 rfl)).trans ?_
  refine (tz_g_if_lt (t := 9) (by decide) (tz_in0 rfl)).trans ?_
  refine tz_cg ?_ ?_
  · skip
    exact ((tz_in0 rfl) _ _).trans rfl
  · skip
    refine (tz_g_iload_n rfl (tz_in0 rfl)).trans ?_
    refine (tz_g_iload_n rfl (tz_in0 rfl)).trans ?_
    refine (tz_g_ic_lt (t := 16) (by decide) (tz_in0 rfl)).trans ?_
    refine tz_cg ?_ ?_
    · skip
      refine (tz_g_iload_n rfl (tz_in0 rfl)).trans ?_
      exact tz_g_ret1 (tz_in0 rfl) rfl
    · skip
      exact ((tz_in0 rfl) _ _).trans rfl

theorem e_X7_stands (x1 : Int32) (A : tz_Mem) : f_X7_stands x1 A =
  if (tz_g A 122 4) ≤ (tz_g A 122 5) then
  some (some (.int 0), A)
else
  if (tz_g A 122 5) < 0 ∨ 160 ≤ (Int32.toNatClampNeg (tz_g A 122 5)) then none else
  if ¬ (tz_g A 123 (Int32.toNatClampNeg (tz_g A 122 5))) = x1 then
    some (some (.int 0), A)
  else
    some (some (.int 1), A) := by
  refine (tz_Fe (L := [some (.ref 122), some (.int x1)]) rfl).trans ?_
  refine (tz_g_aload_n rfl (tz_in0 rfl)).trans ?_
  refine (tz_g_geti rfl rfl rfl (tz_in0 rfl)).trans ?_
  refine (tz_g_aload_n rfl (tz_in0 rfl)).trans ?_
  refine (tz_g_geti rfl rfl rfl (tz_in0 rfl)).trans ?_
  refine (tz_g_ic_ge (t := 28) (by decide) (tz_in0 rfl)).trans ?_
  refine tz_cg ?_ ?_
  · skip
    refine (tz_g_iconst (v := 0) rfl (tz_in0 rfl)).trans ?_
    exact tz_g_ret4K (by decide) (tz_in0 rfl) rfl
  · skip
    refine (tz_g_aload_n rfl (tz_in0 rfl)).trans ?_
    refine (tz_g_getr (j := 123) rfl rfl rfl rfl rfl (tz_in0 rfl)).trans ?_
    refine (tz_g_aload_n rfl (tz_in0 rfl)).trans ?_
    refine (tz_g_geti rfl rfl rfl (tz_in0 rfl)).trans ?_
    refine (tz_g_iald (n := 160) rfl rfl rfl (tz_in0 rfl)).trans ?_
    refine tz_cn1 ?_
    refine (tz_g_iload_n rfl (tz_in0 rfl)).trans ?_
    refine (tz_g_ic_ne (t := 28) (by decide) (tz_in0 rfl)).trans ?_
    refine tz_cg ?_ ?_
    · skip
      refine (tz_g_iconst (v := 0) rfl (tz_in0 rfl)).trans ?_
      exact tz_g_ret4K (by decide) (tz_in0 rfl) rfl
    · skip
      refine (tz_g_iconst (v := 1) rfl (tz_in0 rfl)).trans ?_
      refine (tz_g_goto (t := 29) (by decide) (tz_in0 rfl)).trans ?_
      exact tz_g_ret4K (by decide) (tz_in0 rfl) rfl

theorem e_X7_digitStands (A : tz_Mem) : f_X7_digitStands A =
  if (tz_g A 122 4) ≤ (tz_g A 122 5) then
  some (some (.int 0), A)
else
  if (tz_g A 122 5) < 0 ∨ 160 ≤ (Int32.toNatClampNeg (tz_g A 122 5)) then none else
  if (tz_g A 123 (Int32.toNatClampNeg (tz_g A 122 5))) < 48 then
    some (some (.int 0), A)
  else
    if (tz_g A 122 5) < 0 ∨ 160 ≤ (Int32.toNatClampNeg (tz_g A 122 5)) then none else
    if 57 < (tz_g A 123 (Int32.toNatClampNeg (tz_g A 122 5))) then
      some (some (.int 0), A)
    else
      some (some (.int 1), A) := by
  refine (tz_Fe (L := [some (.ref 122)]) rfl).trans ?_
  refine (tz_g_aload_n rfl (tz_in0 rfl)).trans ?_
  refine (tz_g_geti rfl rfl rfl (tz_in0 rfl)).trans ?_
  refine (tz_g_aload_n rfl (tz_in0 rfl)).trans ?_
  refine (tz_g_geti rfl rfl rfl (tz_in0 rfl)).trans ?_
  refine (tz_g_ic_ge (t := 43) (by decide) (tz_in0 rfl)).trans ?_
  refine tz_cg ?_ ?_
  · skip
    refine (tz_g_iconst (v := 0) rfl (tz_in0 rfl)).trans ?_
    exact tz_g_ret4K (by decide) (tz_in0 rfl) rfl
  · skip
    refine (tz_g_aload_n rfl (tz_in0 rfl)).trans ?_
    refine (tz_g_getr (j := 123) rfl rfl rfl rfl rfl (tz_in0 rfl)).trans ?_
    refine (tz_g_aload_n rfl (tz_in0 rfl)).trans ?_
    refine (tz_g_geti rfl rfl rfl (tz_in0 rfl)).trans ?_
    refine (tz_g_iald (n := 160) rfl rfl rfl (tz_in0 rfl)).trans ?_
    refine tz_cn1 ?_
    refine (tz_g_bipush (v := 48) rfl (tz_in0 rfl)).trans ?_
    refine (tz_g_ic_lt (t := 43) (by decide) (tz_in0 rfl)).trans ?_
    refine tz_cg ?_ ?_
    · skip
      refine (tz_g_iconst (v := 0) rfl (tz_in0 rfl)).trans ?_
      exact tz_g_ret4K (by decide) (tz_in0 rfl) rfl
    · skip
      refine (tz_g_aload_n rfl (tz_in0 rfl)).trans ?_
      refine (tz_g_getr (j := 123) rfl rfl rfl rfl rfl (tz_in0 rfl)).trans ?_
      refine (tz_g_aload_n rfl (tz_in0 rfl)).trans ?_
      refine (tz_g_geti rfl rfl rfl (tz_in0 rfl)).trans ?_
      refine (tz_g_iald (n := 160) rfl rfl rfl (tz_in0 rfl)).trans ?_
      refine tz_cn1 ?_
      refine (tz_g_bipush (v := 57) rfl (tz_in0 rfl)).trans ?_
      refine (tz_g_ic_gt (t := 43) (by decide) (tz_in0 rfl)).trans ?_
      refine tz_cg ?_ ?_
      · skip
        refine (tz_g_iconst (v := 0) rfl (tz_in0 rfl)).trans ?_
        exact tz_g_ret4K (by decide) (tz_in0 rfl) rfl
      · skip
        refine (tz_g_iconst (v := 1) rfl (tz_in0 rfl)).trans ?_
        refine (tz_g_goto (t := 44) (by decide) (tz_in0 rfl)).trans ?_
        exact tz_g_ret4K (by decide) (tz_in0 rfl) rfl

theorem e_X10_hasTurn (b : Nat) (x1 : Int32) (x2 : Int32) (hb : tz_sky b) (A : tz_Mem) : f_X10_hasTurn b x1 x2 A =
  if x1 < 0 ∨ 4 ≤ (Int32.toNatClampNeg x1) then none else
if (tz_g A (b + 8) (Int32.toNatClampNeg x1)) ≤ 0 then
  some (some (.int 0), A)
else
  if (tz_g A (b + 8) (Int32.toNatClampNeg x1)) = 0 then none else
  if ¬ (x2 - x2 / (tz_g A (b + 8) (Int32.toNatClampNeg x1)) * (tz_g A (b + 8) (Int32.toNatClampNeg x1))) = 0 then
    some (some (.int 0), A)
  else
    some (some (.int 1), A) := by
  obtain rfl | rfl | rfl | rfl | rfl := hb
  all_goals
    refine (tz_Fe (L := [some (.ref _), some (.int x1), some (.int x2), none]) rfl).trans ?_
    refine (tz_g_aload_n rfl (tz_in0 rfl)).trans ?_
    refine (tz_g_getr (j := _) rfl rfl rfl rfl rfl (tz_in0 rfl)).trans ?_
    refine (tz_g_iload_n rfl (tz_in0 rfl)).trans ?_
    refine (tz_g_iald (n := 4) rfl rfl rfl (tz_in0 rfl)).trans ?_
    refine tz_cn1 ?_
    refine (tz_g_istore_n (L2 := [some (.ref _), some (.int x1), some (.int x2), some (.int _)]) rfl rfl (tz_in0 rfl)).trans ?_
    refine (tz_g_iload_n rfl (tz_in0 rfl)).trans ?_
    refine (tz_g_if_le (t := 21) (by decide) (tz_in0 rfl)).trans ?_
    refine tz_cg ?_ ?_
    · skip
      refine (tz_g_iconst (v := 0) rfl (tz_in0 rfl)).trans ?_
      exact tz_g_ret4K (by decide) (tz_in0 rfl) rfl
    · skip
      refine (tz_g_iload_n rfl (tz_in0 rfl)).trans ?_
      refine (tz_g_iload_n rfl (tz_in0 rfl)).trans ?_
      refine (tz_g_irem (tz_in0 rfl)).trans ?_
      refine tz_cn1 ?_
      refine (tz_g_if_ne (t := 21) (by decide) (tz_in0 rfl)).trans ?_
      refine tz_cg ?_ ?_
      · skip
        refine (tz_g_iconst (v := 0) rfl (tz_in0 rfl)).trans ?_
        exact tz_g_ret4K (by decide) (tz_in0 rfl) rfl
      · skip
        refine (tz_g_iconst (v := 1) rfl (tz_in0 rfl)).trans ?_
        refine (tz_g_goto (t := 22) (by decide) (tz_in0 rfl)).trans ?_
        exact tz_g_ret4K (by decide) (tz_in0 rfl) rfl

theorem e_X10_goOn (b : Nat) (x1 : Int32) (hb : tz_sky b) (A : tz_Mem) : f_X10_goOn b x1 A =
  if x1 < 0 ∨ 4 ≤ (Int32.toNatClampNeg x1) then none else
if x1 < 0 ∨ 4 ≤ (Int32.toNatClampNeg x1) then none else
if (tz_g A (b + 11) (Int32.toNatClampNeg x1)) ≤ ((tz_g A (b + 13) (Int32.toNatClampNeg x1)) + 1) then
  if x1 < 0 ∨ 4 ≤ (Int32.toNatClampNeg x1) then none else
  some (none, (tz_s A (b + 13) (Int32.toNatClampNeg x1) 0))
else
  if x1 < 0 ∨ 4 ≤ (Int32.toNatClampNeg x1) then none else
  some (none, (tz_s A (b + 13) (Int32.toNatClampNeg x1) ((tz_g A (b + 13) (Int32.toNatClampNeg x1)) + 1))) := by
  obtain rfl | rfl | rfl | rfl | rfl := hb
  all_goals
    refine (tz_Fe (L := [some (.ref _), some (.int x1), none]) rfl).trans ?_
    refine (tz_g_aload_n rfl (tz_in0 rfl)).trans ?_
    refine (tz_g_getr (j := _) rfl rfl rfl rfl rfl (tz_in0 rfl)).trans ?_
    refine (tz_g_iload_n rfl (tz_in0 rfl)).trans ?_
    refine (tz_g_iald (n := 4) rfl rfl rfl (tz_in0 rfl)).trans ?_
    refine tz_cn1 ?_
    refine (tz_g_iconst (v := 1) rfl (tz_in0 rfl)).trans ?_
    refine (tz_g_iadd (tz_in0 rfl)).trans ?_
    refine (tz_g_istore_n (L2 := [some (.ref _), some (.int x1), some (.int _)]) rfl rfl (tz_in0 rfl)).trans ?_
    refine (tz_g_aload_n rfl (tz_in0 rfl)).trans ?_
    refine (tz_g_getr (j := _) rfl rfl rfl rfl rfl (tz_in0 rfl)).trans ?_
    refine (tz_g_iload_n rfl (tz_in0 rfl)).trans ?_
    refine (tz_g_iload_n rfl (tz_in0 rfl)).trans ?_
    refine (tz_g_aload_n rfl (tz_in0 rfl)).trans ?_
    refine (tz_g_getr (j := _) rfl rfl rfl rfl rfl (tz_in0 rfl)).trans ?_
    refine (tz_g_iload_n rfl (tz_in0 rfl)).trans ?_
    refine (tz_g_iald (n := 4) rfl rfl rfl (tz_in0 rfl)).trans ?_
    refine tz_cn1 ?_
    refine (tz_g_ic_ge (t := 28) (by decide) (tz_in0 rfl)).trans ?_
    refine tz_cg ?_ ?_
    · skip
      refine (tz_g_iconst (v := 0) rfl (tz_in0 rfl)).trans ?_
      refine (tz_g_iast (n := 4) rfl rfl rfl (tz_in0 rfl)).trans ?_
      refine tz_cn1 ?_
      exact tz_g_ret0 (tz_in0 rfl) rfl
    · skip
      refine (tz_g_iload_n rfl (tz_in0 rfl)).trans ?_
      refine (tz_g_goto (t := 29) (by decide) (tz_in0 rfl)).trans ?_
      refine (tz_g_iast (n := 4) rfl rfl rfl (tz_in0 rfl)).trans ?_
      refine tz_cn1 ?_
      exact tz_g_ret0 (tz_in0 rfl) rfl

theorem e_X3_becomes (b : Nat) (x1 : Int32) (x2 : Int32) (hb : tz_sky b) (A : tz_Mem) : f_X3_becomes b x1 x2 A =
  if x1 < 0 ∨ 8 ≤ (Int32.toNatClampNeg x1) then none else
if (tz_g A (b + 2) (Int32.toNatClampNeg x1)) = 2 then
  some (some (.int (x2 / 10)), A)
else if (tz_g A (b + 2) (Int32.toNatClampNeg x1)) = 5 then
  if x1 < 0 ∨ 8 ≤ (Int32.toNatClampNeg x1) then none else
  some (some (.int (if 9999 < ((x2 / 10) + (tz_g A (b + 3) (Int32.toNatClampNeg x1))) then 9999 else ((x2 / 10) + (tz_g A (b + 3) (Int32.toNatClampNeg x1))))), A)
else some (some (.int x2), A) := by
  obtain rfl | rfl | rfl | rfl | rfl := hb
  all_goals
    refine (tz_Fe (L := [some (.ref _), some (.int x1), some (.int x2)]) rfl).trans ?_
    refine (tz_g_aload_n rfl (tz_in0 rfl)).trans ?_
    refine (tz_g_getr (j := _) rfl rfl rfl rfl rfl (tz_in0 rfl)).trans ?_
    refine (tz_g_iload_n rfl (tz_in0 rfl)).trans ?_
    refine (tz_g_iald (n := 8) rfl rfl rfl (tz_in0 rfl)).trans ?_
    refine tz_cn1 ?_
    refine (tz_g_lsw (by decide) (tz_in0 rfl)).trans ?_
    refine tz_slc (v := 2) (by decide) ?_ ?_
    · refine (tz_tg (t := 32) (by decide)).trans ?_
      refine (tz_g_iload_n rfl (tz_in0 rfl)).trans ?_
      refine (tz_g_bipush (v := 10) rfl (tz_in0 rfl)).trans ?_
      refine (tz_g_idivK (by decide) (tz_in0 rfl)).trans ?_
      exact tz_g_ret1 (tz_in0 rfl) rfl
    refine tz_slc (v := 5) (by decide) ?_ ?_
    · refine (tz_tg (t := 37) (by decide)).trans ?_
      refine (tz_g_iload_n rfl (tz_in0 rfl)).trans ?_
      refine (tz_g_bipush (v := 10) rfl (tz_in0 rfl)).trans ?_
      refine (tz_g_idivK (by decide) (tz_in0 rfl)).trans ?_
      refine (tz_g_aload_n rfl (tz_in0 rfl)).trans ?_
      refine (tz_g_getr (j := _) rfl rfl rfl rfl rfl (tz_in0 rfl)).trans ?_
      refine (tz_g_iload_n rfl (tz_in0 rfl)).trans ?_
      refine (tz_g_iald (n := 8) rfl rfl rfl (tz_in0 rfl)).trans ?_
      refine tz_cn1 ?_
      refine (tz_g_iadd (tz_in0 rfl)).trans ?_
      refine (tz_g_sipush (v := 9999) rfl (tz_in0 rfl)).trans ?_
      refine (tz_g_min rfl rfl rfl (tz_in0 rfl)).trans ?_
      exact tz_g_ret1 (tz_in0 rfl) rfl
    refine tz_sld ?_
    refine (tz_tg (t := 55) (by decide)).trans ?_
    refine (tz_g_iload_n rfl (tz_in0 rfl)).trans ?_
    exact tz_g_ret1 (tz_in0 rfl) rfl

theorem e_X3_timesHeard (b : Nat) (x1 : Int32) (x2 : Int32) (hb : tz_sky b) (A : tz_Mem) : f_X3_timesHeard b x1 x2 A =
  if x1 < 0 ∨ 8 ≤ (Int32.toNatClampNeg x1) then none else
if (tz_g A (b + 2) (Int32.toNatClampNeg x1)) = 1 then
  some (some (.int 2), A)
else if (tz_g A (b + 2) (Int32.toNatClampNeg x1)) = 2 then
  some (some (.int 1), A)
else if (tz_g A (b + 2) (Int32.toNatClampNeg x1)) = 3 then
  if x1 < 0 ∨ 8 ≤ (Int32.toNatClampNeg x1) then none else
  some (some (.int (2 + (tz_g A (b + 3) (Int32.toNatClampNeg x1)))), A)
else if (tz_g A (b + 2) (Int32.toNatClampNeg x1)) = 4 then
  if x1 < 0 ∨ 8 ≤ (Int32.toNatClampNeg x1) then none else
  if x2 ≤ (10 * (tz_g A (b + 3) (Int32.toNatClampNeg x1))) then
    some (some (.int 0), A)
  else
    some (some (.int 1), A)
else if (tz_g A (b + 2) (Int32.toNatClampNeg x1)) = 5 then
  some (some (.int 1), A)
else if (tz_g A (b + 2) (Int32.toNatClampNeg x1)) = 6 then
  some (some (.int 0), A)
else some (some (.int 1), A) := by
  obtain rfl | rfl | rfl | rfl | rfl := hb
  all_goals
    refine (tz_Fe (L := [some (.ref _), some (.int x1), some (.int x2)]) rfl).trans ?_
    refine (tz_g_aload_n rfl (tz_in0 rfl)).trans ?_
    refine (tz_g_getr (j := _) rfl rfl rfl rfl rfl (tz_in0 rfl)).trans ?_
    refine (tz_g_iload_n rfl (tz_in0 rfl)).trans ?_
    refine (tz_g_iald (n := 8) rfl rfl rfl (tz_in0 rfl)).trans ?_
    refine tz_cn1 ?_
    refine (tz_g_tsw (by decide) (tz_in0 rfl)).trans ?_
    refine tz_swc (v := 1) (by decide) ?_ ?_
    · refine (tz_tg (t := 44) (by decide)).trans ?_
      refine (tz_g_iconst (v := 2) rfl (tz_in0 rfl)).trans ?_
      exact tz_g_ret1 (tz_in0 rfl) rfl
    refine tz_swc (v := 2) (by decide) ?_ ?_
    · refine (tz_tg (t := 76) (by decide)).trans ?_
      refine (tz_g_iconst (v := 1) rfl (tz_in0 rfl)).trans ?_
      exact tz_g_ret1 (tz_in0 rfl) rfl
    refine tz_swc (v := 3) (by decide) ?_ ?_
    · refine (tz_tg (t := 46) (by decide)).trans ?_
      refine (tz_g_iconst (v := 2) rfl (tz_in0 rfl)).trans ?_
      refine (tz_g_aload_n rfl (tz_in0 rfl)).trans ?_
      refine (tz_g_getr (j := _) rfl rfl rfl rfl rfl (tz_in0 rfl)).trans ?_
      refine (tz_g_iload_n rfl (tz_in0 rfl)).trans ?_
      refine (tz_g_iald (n := 8) rfl rfl rfl (tz_in0 rfl)).trans ?_
      refine tz_cn1 ?_
      refine (tz_g_iadd (tz_in0 rfl)).trans ?_
      exact tz_g_ret1 (tz_in0 rfl) rfl
    refine tz_swc (v := 4) (by decide) ?_ ?_
    · refine (tz_tg (t := 55) (by decide)).trans ?_
      refine (tz_g_iload_n rfl (tz_in0 rfl)).trans ?_
      refine (tz_g_bipush (v := 10) rfl (tz_in0 rfl)).trans ?_
      refine (tz_g_aload_n rfl (tz_in0 rfl)).trans ?_
      refine (tz_g_getr (j := _) rfl rfl rfl rfl rfl (tz_in0 rfl)).trans ?_
      refine (tz_g_iload_n rfl (tz_in0 rfl)).trans ?_
      refine (tz_g_iald (n := 8) rfl rfl rfl (tz_in0 rfl)).trans ?_
      refine tz_cn1 ?_
      refine (tz_g_imul (tz_in0 rfl)).trans ?_
      refine (tz_g_ic_le (t := 72) (by decide) (tz_in0 rfl)).trans ?_
      refine tz_cg ?_ ?_
      · skip
        refine (tz_g_iconst (v := 0) rfl (tz_in0 rfl)).trans ?_
        exact tz_g_ret1 (tz_in0 rfl) rfl
      · skip
        refine (tz_g_iconst (v := 1) rfl (tz_in0 rfl)).trans ?_
        refine (tz_g_goto (t := 73) (by decide) (tz_in0 rfl)).trans ?_
        exact tz_g_ret1 (tz_in0 rfl) rfl
    refine tz_swc (v := 5) (by decide) ?_ ?_
    · refine (tz_tg (t := 76) (by decide)).trans ?_
      refine (tz_g_iconst (v := 1) rfl (tz_in0 rfl)).trans ?_
      exact tz_g_ret1 (tz_in0 rfl) rfl
    refine tz_swc (v := 6) (by decide) ?_ ?_
    · refine (tz_tg (t := 74) (by decide)).trans ?_
      refine (tz_g_iconst (v := 0) rfl (tz_in0 rfl)).trans ?_
      exact tz_g_ret1 (tz_in0 rfl) rfl
    refine tz_swd ?_
    refine (tz_tg (t := 76) (by decide)).trans ?_
    refine (tz_g_iconst (v := 1) rfl (tz_in0 rfl)).trans ?_
    exact tz_g_ret1 (tz_in0 rfl) rfl

theorem e_X3_hear (b : Nat) (x1 : Int32) (x2 : Int32) (x3 : Int32) (hb : tz_sky b) (A : tz_Mem) : f_X3_hear b x1 x2 x3 A =
  q_X3_hear_3 b x1 x2 x3 0 A := by
  obtain rfl | rfl | rfl | rfl | rfl := hb
  all_goals
    refine (tz_Fe (L := [some (.ref _), some (.int x1), some (.int x2), some (.int x3), none]) rfl).trans ?_
    refine (tz_g_iconst (v := 0) rfl (tz_in0 rfl)).trans ?_
    refine (tz_g_istore (L2 := [some (.ref _), some (.int x1), some (.int x2), some (.int x3), some (.int 0)]) rfl rfl (tz_in0 rfl)).trans ?_
    exact tz_Gm (L2 := [some (.ref _), some (.int x1), some (.int x2), some (.int x3), some (.int 0)]) rfl rfl rfl rfl

theorem e_X3_hear_3 (b : Nat) (z1 : Int32) (z2 : Int32) (z3 : Int32) (z4 : Int32) (hb : tz_sky b) (A : tz_Mem) : q_X3_hear_3 b z1 z2 z3 z4 A =
  if z3 ≤ z4 then
  some (none, A)
else
  if z1 < 0 ∨ 8 ≤ (Int32.toNatClampNeg z1) then none else
  if ((z1 * 8) + ((tz_g A (b + 5) (Int32.toNatClampNeg z1)) &&& 7)) < 0 ∨ 64 ≤ (Int32.toNatClampNeg ((z1 * 8) + ((tz_g A (b + 5) (Int32.toNatClampNeg z1)) &&& 7))) then none else
  if z1 < 0 ∨ 8 ≤ (Int32.toNatClampNeg z1) then none else
  if z1 < 0 ∨ 8 ≤ (Int32.toNatClampNeg z1) then none else
  q_X3_hear_3 b z1 z2 z3 (z4 + 1) (tz_s (tz_s A (b + 6) (Int32.toNatClampNeg ((z1 * 8) + ((tz_g A (b + 5) (Int32.toNatClampNeg z1)) &&& 7))) z2) (b + 5) (Int32.toNatClampNeg z1) ((tz_g (tz_s A (b + 6) (Int32.toNatClampNeg ((z1 * 8) + ((tz_g A (b + 5) (Int32.toNatClampNeg z1)) &&& 7))) z2) (b + 5) (Int32.toNatClampNeg z1)) + 1)) := by
  obtain rfl | rfl | rfl | rfl | rfl := hb
  all_goals
    show tz_Go 87 3 _ [] A = _
    refine (tz_g_iload rfl (tz_inM rfl rfl rfl)).trans ?_
    refine (tz_g_iload_n rfl (tz_in0 rfl)).trans ?_
    refine (tz_g_ic_ge (t := 45) (by decide) (tz_in0 rfl)).trans ?_
    refine tz_cg ?_ ?_
    · skip
      exact tz_g_ret0 (tz_in0 rfl) rfl
    · skip
      refine (tz_g_aload_n rfl (tz_in0 rfl)).trans ?_
      refine (tz_g_getr (j := _) rfl rfl rfl rfl rfl (tz_in0 rfl)).trans ?_
      refine (tz_g_iload_n rfl (tz_in0 rfl)).trans ?_
      refine (tz_g_bipush (v := 8) rfl (tz_in0 rfl)).trans ?_
      refine (tz_g_imul (tz_in0 rfl)).trans ?_
      refine (tz_g_aload_n rfl (tz_in0 rfl)).trans ?_
      refine (tz_g_getr (j := _) rfl rfl rfl rfl rfl (tz_in0 rfl)).trans ?_
      refine (tz_g_iload_n rfl (tz_in0 rfl)).trans ?_
      refine (tz_g_iald (n := 8) rfl rfl rfl (tz_in0 rfl)).trans ?_
      refine tz_cn1 ?_
      refine (tz_g_bipush (v := 7) rfl (tz_in0 rfl)).trans ?_
      refine (tz_g_iand (tz_in0 rfl)).trans ?_
      refine (tz_g_iadd (tz_in0 rfl)).trans ?_
      refine (tz_g_iload_n rfl (tz_in0 rfl)).trans ?_
      refine (tz_g_iast (n := 64) rfl rfl rfl (tz_in0 rfl)).trans ?_
      refine tz_cn1 ?_
      refine (tz_g_aload_n rfl (tz_in0 rfl)).trans ?_
      refine (tz_g_getr (j := _) rfl rfl rfl rfl rfl (tz_in0 rfl)).trans ?_
      refine (tz_g_iload_n rfl (tz_in0 rfl)).trans ?_
      refine (tz_g_dup2a rfl rfl (tz_in0 rfl)).trans ?_
      refine (tz_g_iald (n := 8) rfl rfl rfl (tz_in0 rfl)).trans ?_
      refine tz_cn1 ?_
      refine (tz_g_iconst (v := 1) rfl (tz_in0 rfl)).trans ?_
      refine (tz_g_iadd (tz_in0 rfl)).trans ?_
      refine (tz_g_iast (n := 8) rfl rfl rfl (tz_in0 rfl)).trans ?_
      refine tz_cn1 ?_
      refine (tz_g_iinc (v := 1) (L2 := [some (.ref _), some (.int z1), some (.int z2), some (.int z3), some (.int (z4 + 1))]) rfl rfl rfl rfl (tz_in0 rfl)).trans ?_
      refine (tz_g_goto (t := 3) (by decide) (tz_in0 rfl)).trans ?_
      exact tz_Gm (L2 := [some (.ref _), some (.int z1), some (.int z2), some (.int z3), some (.int (z4 + 1))]) rfl rfl rfl rfl

theorem e_X2_listen (x1 : Int32) (x2 : Int32) (x3 : Int32) (x4 : Int32) (A : tz_Mem) : f_X2_listen x1 x2 x3 x4 A =
  if ¬ x3 = (tz_g A 150 1) then
  some (none, A)
else
  if x4 ≤ 0 then
    some (none, A)
  else
    if (tz_g A 150 0) = (-1) then
      some (none, (tz_s A 150 0 x2))
    else
      if (tz_g A 150 0) ≤ x2 then
        some (none, A)
      else
        some (none, (tz_s A 150 0 x2)) := by
  refine (tz_Fe (L := [some (.ref 150), some (.int x1), some (.int x2), some (.int x3), some (.int x4)]) rfl).trans ?_
  refine (tz_g_iload_n rfl (tz_in0 rfl)).trans ?_
  refine (tz_g_aload_n rfl (tz_in0 rfl)).trans ?_
  refine (tz_g_geti rfl rfl rfl (tz_in0 rfl)).trans ?_
  refine (tz_g_ic_ne (t := 34) (by decide) (tz_in0 rfl)).trans ?_
  refine tz_cg ?_ ?_
  · skip
    exact tz_g_ret0 (tz_in0 rfl) rfl
  · skip
    refine (tz_g_iload rfl (tz_in0 rfl)).trans ?_
    refine (tz_g_if_le (t := 34) (by decide) (tz_in0 rfl)).trans ?_
    refine tz_cg ?_ ?_
    · skip
      exact tz_g_ret0 (tz_in0 rfl) rfl
    · skip
      refine (tz_g_aload_n rfl (tz_in0 rfl)).trans ?_
      refine (tz_g_geti rfl rfl rfl (tz_in0 rfl)).trans ?_
      refine (tz_g_iconst (v := (-1)) rfl (tz_in0 rfl)).trans ?_
      refine (tz_g_ic_eq (t := 29) (by decide) (tz_in0 rfl)).trans ?_
      refine tz_cg ?_ ?_
      · skip
        refine (tz_g_aload_n rfl (tz_in0 rfl)).trans ?_
        refine (tz_g_iload_n rfl (tz_in0 rfl)).trans ?_
        refine (tz_g_puti rfl rfl rfl (tz_in0 rfl)).trans ?_
        exact tz_g_ret0 (tz_in0 rfl) rfl
      · skip
        refine (tz_g_iload_n rfl (tz_in0 rfl)).trans ?_
        refine (tz_g_aload_n rfl (tz_in0 rfl)).trans ?_
        refine (tz_g_geti rfl rfl rfl (tz_in0 rfl)).trans ?_
        refine (tz_g_ic_ge (t := 34) (by decide) (tz_in0 rfl)).trans ?_
        refine tz_cg ?_ ?_
        · skip
          exact tz_g_ret0 (tz_in0 rfl) rfl
        · skip
          refine (tz_g_aload_n rfl (tz_in0 rfl)).trans ?_
          refine (tz_g_iload_n rfl (tz_in0 rfl)).trans ?_
          refine (tz_g_puti rfl rfl rfl (tz_in0 rfl)).trans ?_
          exact tz_g_ret0 (tz_in0 rfl) rfl

theorem e_X5_listens (A : tz_Mem) : f_X5_listens A =
  if ¬ (tz_g A 151 4) = 0 then
  some (some (.int 0), A)
else
  if (tz_g A 151 2) ≤ (tz_g A 151 0) then
    some (some (.int 0), A)
  else
    some (some (.int 1), A) := by
  refine (tz_Fe (L := [some (.ref 151)]) rfl).trans ?_
  refine (tz_g_aload_n rfl (tz_in0 rfl)).trans ?_
  refine (tz_g_getz rfl rfl rfl (tz_in0 rfl)).trans ?_
  refine (tz_g_if_ne (t := 22) (by decide) (tz_in0 rfl)).trans ?_
  refine tz_cg ?_ ?_
  · skip
    refine (tz_g_iconst (v := 0) rfl (tz_in0 rfl)).trans ?_
    exact tz_g_ret4K (by decide) (tz_in0 rfl) rfl
  · skip
    refine (tz_g_aload_n rfl (tz_in0 rfl)).trans ?_
    refine (tz_g_geti rfl rfl rfl (tz_in0 rfl)).trans ?_
    refine (tz_g_aload_n rfl (tz_in0 rfl)).trans ?_
    refine (tz_g_geti rfl rfl rfl (tz_in0 rfl)).trans ?_
    refine (tz_g_ic_ge (t := 22) (by decide) (tz_in0 rfl)).trans ?_
    refine tz_cg ?_ ?_
    · skip
      refine (tz_g_iconst (v := 0) rfl (tz_in0 rfl)).trans ?_
      exact tz_g_ret4K (by decide) (tz_in0 rfl) rfl
    · skip
      refine (tz_g_iconst (v := 1) rfl (tz_in0 rfl)).trans ?_
      refine (tz_g_goto (t := 23) (by decide) (tz_in0 rfl)).trans ?_
      exact tz_g_ret4K (by decide) (tz_in0 rfl) rfl

theorem e_X6_listen (x1 : Int32) (x2 : Int32) (x3 : Int32) (x4 : Int32) (A : tz_Mem) : f_X6_listen x1 x2 x3 x4 A =
  if ¬ x1 = (tz_g A 153 2) then
  some (none, A)
else
  if 500 ≤ (tz_g A 153 1) then
    some (none, A)
  else
    if (tz_g A 153 1) < 0 ∨ 500 ≤ (Int32.toNatClampNeg (tz_g A 153 1)) then none else
    some (none, (tz_s (tz_s A 154 (Int32.toNatClampNeg (tz_g A 153 1)) x2) 153 1 ((tz_g (tz_s A 154 (Int32.toNatClampNeg (tz_g A 153 1)) x2) 153 1) + 1))) := by
  refine (tz_Fe (L := [some (.ref 153), some (.int x1), some (.int x2), some (.int x3), some (.int x4)]) rfl).trans ?_
  refine (tz_g_iload_n rfl (tz_in0 rfl)).trans ?_
  refine (tz_g_aload_n rfl (tz_in0 rfl)).trans ?_
  refine (tz_g_geti rfl rfl rfl (tz_in0 rfl)).trans ?_
  refine (tz_g_ic_ne (t := 40) (by decide) (tz_in0 rfl)).trans ?_
  refine tz_cg ?_ ?_
  · skip
    exact tz_g_ret0 (tz_in0 rfl) rfl
  · skip
    refine (tz_g_aload_n rfl (tz_in0 rfl)).trans ?_
    refine (tz_g_geti rfl rfl rfl (tz_in0 rfl)).trans ?_
    refine (tz_g_aload_n rfl (tz_in0 rfl)).trans ?_
    refine (tz_g_getr (j := 154) rfl rfl rfl rfl rfl (tz_in0 rfl)).trans ?_
    refine (tz_g_alen (v := 500) rfl rfl (tz_in0 rfl)).trans ?_
    refine (tz_g_ic_ge (t := 40) (by decide) (tz_in0 rfl)).trans ?_
    refine tz_cg ?_ ?_
    · skip
      exact tz_g_ret0 (tz_in0 rfl) rfl
    · skip
      refine (tz_g_aload_n rfl (tz_in0 rfl)).trans ?_
      refine (tz_g_getr (j := 154) rfl rfl rfl rfl rfl (tz_in0 rfl)).trans ?_
      refine (tz_g_aload_n rfl (tz_in0 rfl)).trans ?_
      refine (tz_g_geti rfl rfl rfl (tz_in0 rfl)).trans ?_
      refine (tz_g_iload_n rfl (tz_in0 rfl)).trans ?_
      refine (tz_g_iast (n := 500) rfl rfl rfl (tz_in0 rfl)).trans ?_
      refine tz_cn1 ?_
      refine (tz_g_aload_n rfl (tz_in0 rfl)).trans ?_
      refine (tz_g_dup rfl (tz_in0 rfl)).trans ?_
      refine (tz_g_geti rfl rfl rfl (tz_in0 rfl)).trans ?_
      refine (tz_g_iconst (v := 1) rfl (tz_in0 rfl)).trans ?_
      refine (tz_g_iadd (tz_in0 rfl)).trans ?_
      refine (tz_g_puti rfl rfl rfl (tz_in0 rfl)).trans ?_
      exact tz_g_ret0 (tz_in0 rfl) rfl

theorem e_X9_takeUp (b : Nat) (x1 : Int32) (x2 : Int32) (hb : tz_sky b) (A : tz_Mem) : f_X9_takeUp b x1 x2 A =
  q_X9_takeUp_5 b x1 x2 0 0 A := by
  obtain rfl | rfl | rfl | rfl | rfl := hb
  all_goals
    refine (tz_Fe (L := [some (.ref _), some (.int x1), some (.int x2), none, none, none, none]) rfl).trans ?_
    refine (tz_g_iconst (v := 0) rfl (tz_in0 rfl)).trans ?_
    refine (tz_g_istore_n (L2 := [some (.ref _), some (.int x1), some (.int x2), some (.int 0), none, none, none]) rfl rfl (tz_in0 rfl)).trans ?_
    refine (tz_g_iconst (v := 0) rfl (tz_in0 rfl)).trans ?_
    refine (tz_g_istore (L2 := [some (.ref _), some (.int x1), some (.int x2), some (.int 0), some (.int 0), none, none]) rfl rfl (tz_in0 rfl)).trans ?_
    exact tz_Gm (L2 := [some (.ref _), some (.int x1), some (.int x2), some (.int 0), some (.int 0), none, none]) rfl rfl rfl rfl

theorem e_X9_takeUp_5 (b : Nat) (z1 : Int32) (z2 : Int32) (z3 : Int32) (z4 : Int32) (hb : tz_sky b) (A : tz_Mem) : q_X9_takeUp_5 b z1 z2 z3 z4 A =
  if (tz_g A (b + 15) 0) ≤ z4 then
  some (none, A)
else
  if z1 < 0 ∨ 4 ≤ (Int32.toNatClampNeg z1) then none else
  if (tz_g A (b + 10) (Int32.toNatClampNeg z1)) ≤ z3 then
    some (none, A)
  else
    if z4 < 0 ∨ 12 ≤ (Int32.toNatClampNeg z4) then none else
    if z2 < 0 ∨ 8 ≤ (Int32.toNatClampNeg z2) then none else
    if ((tz_g A (b + 4) (Int32.toNatClampNeg z2)) &&& (1 <<< ((tz_g A (b + 22) (Int32.toNatClampNeg z4)) &&& 31))) = 0 then
      q_X9_takeUp_5 b z1 z2 z3 (z4 + 1) A
    else
      if (tz_g A (b + 22) (Int32.toNatClampNeg z4)) < 0 ∨ 12 ≤ (Int32.toNatClampNeg (tz_g A (b + 22) (Int32.toNatClampNeg z4))) then none else
      if z1 < 0 ∨ 4 ≤ (Int32.toNatClampNeg z1) then none else
      if (tz_g A (b + 9) (Int32.toNatClampNeg z1)) < (tz_g A (b + 19) (Int32.toNatClampNeg (tz_g A (b + 22) (Int32.toNatClampNeg z4)))) then
        q_X9_takeUp_5 b z1 z2 z3 (z4 + 1) A
      else
        if z2 < 0 ∨ 8 ≤ (Int32.toNatClampNeg z2) then none else
        if z2 < 0 ∨ 8 ≤ (Int32.toNatClampNeg z2) then none else
        if z1 < 0 ∨ 4 ≤ (Int32.toNatClampNeg z1) then none else
        if z1 < 0 ∨ 4 ≤ (Int32.toNatClampNeg z1) then none else
        if (tz_g A (b + 22) (Int32.toNatClampNeg z4)) < 0 ∨ 12 ≤ (Int32.toNatClampNeg (tz_g A (b + 22) (Int32.toNatClampNeg z4))) then none else
        q_X9_takeUp_5 b z1 z2 (z3 + 1) (z4 + 1) (tz_s (tz_s (tz_s A (b + 4) (Int32.toNatClampNeg z2) ((tz_g A (b + 4) (Int32.toNatClampNeg z2)) &&& ((1 <<< ((tz_g A (b + 22) (Int32.toNatClampNeg z4)) &&& 31)) ^^^ (-1)))) (b + 14) (Int32.toNatClampNeg z1) ((tz_g (tz_s A (b + 4) (Int32.toNatClampNeg z2) ((tz_g A (b + 4) (Int32.toNatClampNeg z2)) &&& ((1 <<< ((tz_g A (b + 22) (Int32.toNatClampNeg z4)) &&& 31)) ^^^ (-1)))) (b + 14) (Int32.toNatClampNeg z1)) ||| (1 <<< ((tz_g A (b + 22) (Int32.toNatClampNeg z4)) &&& 31)))) (b + 20) (Int32.toNatClampNeg (tz_g A (b + 22) (Int32.toNatClampNeg z4))) (100 + z1)) := by
  obtain rfl | rfl | rfl | rfl | rfl := hb
  all_goals
    show tz_Go 92 5 _ [] A = _
    refine (tz_g_iload rfl (tz_inM rfl rfl rfl)).trans ?_
    refine (tz_g_aload_n rfl (tz_in0 rfl)).trans ?_
    refine (tz_g_getr (j := _) rfl rfl rfl rfl rfl (tz_in0 rfl)).trans ?_
    refine (tz_g_geti rfl rfl rfl (tz_in0 rfl)).trans ?_
    refine (tz_g_ic_ge (t := 138) (by decide) (tz_in0 rfl)).trans ?_
    refine tz_cg ?_ ?_
    · skip
      exact tz_g_ret0 (tz_in0 rfl) rfl
    · skip
      refine (tz_g_iload_n rfl (tz_in0 rfl)).trans ?_
      refine (tz_g_aload_n rfl (tz_in0 rfl)).trans ?_
      refine (tz_g_getr (j := _) rfl rfl rfl rfl rfl (tz_in0 rfl)).trans ?_
      refine (tz_g_getr (j := _) rfl rfl rfl rfl rfl (tz_in0 rfl)).trans ?_
      refine (tz_g_iload_n rfl (tz_in0 rfl)).trans ?_
      refine (tz_g_iald (n := 4) rfl rfl rfl (tz_in0 rfl)).trans ?_
      refine tz_cn1 ?_
      refine (tz_g_ic_ge (t := 138) (by decide) (tz_in0 rfl)).trans ?_
      refine tz_cg ?_ ?_
      · skip
        exact tz_g_ret0 (tz_in0 rfl) rfl
      · skip
        refine (tz_g_aload_n rfl (tz_in0 rfl)).trans ?_
        refine (tz_g_getr (j := _) rfl rfl rfl rfl rfl (tz_in0 rfl)).trans ?_
        refine (tz_g_getr (j := _) rfl rfl rfl rfl rfl (tz_in0 rfl)).trans ?_
        refine (tz_g_iload rfl (tz_in0 rfl)).trans ?_
        refine (tz_g_iald (n := 12) rfl rfl rfl (tz_in0 rfl)).trans ?_
        refine tz_cn1 ?_
        refine (tz_g_istore (L2 := [some (.ref _), some (.int z1), some (.int z2), some (.int z3), some (.int z4), some (.int _), none]) rfl rfl (tz_in0 rfl)).trans ?_
        refine (tz_g_iconst (v := 1) rfl (tz_in0 rfl)).trans ?_
        refine (tz_g_iload rfl (tz_in0 rfl)).trans ?_
        refine (tz_g_ishl (tz_in0 rfl)).trans ?_
        refine (tz_g_istore (L2 := [some (.ref _), some (.int z1), some (.int z2), some (.int z3), some (.int z4), some (.int _), some (.int _)]) rfl rfl (tz_in0 rfl)).trans ?_
        refine (tz_g_aload_n rfl (tz_in0 rfl)).trans ?_
        refine (tz_g_getr (j := _) rfl rfl rfl rfl rfl (tz_in0 rfl)).trans ?_
        refine (tz_g_getr (j := _) rfl rfl rfl rfl rfl (tz_in0 rfl)).trans ?_
        refine (tz_g_iload_n rfl (tz_in0 rfl)).trans ?_
        refine (tz_g_iald (n := 8) rfl rfl rfl (tz_in0 rfl)).trans ?_
        refine tz_cn1 ?_
        refine (tz_g_iload rfl (tz_in0 rfl)).trans ?_
        refine (tz_g_iand (tz_in0 rfl)).trans ?_
        refine (tz_g_if_eq (t := 132) (by decide) (tz_in0 rfl)).trans ?_
        refine tz_cg ?_ ?_
        · skip
          refine (tz_g_iinc (v := 1) (L2 := [some (.ref _), some (.int z1), some (.int z2), some (.int z3), some (.int (z4 + 1)), some (.int _), some (.int _)]) rfl rfl rfl rfl (tz_in0 rfl)).trans ?_
          refine (tz_g_goto (t := 5) (by decide) (tz_in0 rfl)).trans ?_
          exact tz_Gm (L2 := [some (.ref _), some (.int z1), some (.int z2), some (.int z3), some (.int (z4 + 1)), none, none]) rfl rfl rfl rfl
        · skip
          refine (tz_g_aload_n rfl (tz_in0 rfl)).trans ?_
          refine (tz_g_getr (j := _) rfl rfl rfl rfl rfl (tz_in0 rfl)).trans ?_
          refine (tz_g_getr (j := _) rfl rfl rfl rfl rfl (tz_in0 rfl)).trans ?_
          refine (tz_g_iload rfl (tz_in0 rfl)).trans ?_
          refine (tz_g_iald (n := 12) rfl rfl rfl (tz_in0 rfl)).trans ?_
          refine tz_cn1 ?_
          refine (tz_g_aload_n rfl (tz_in0 rfl)).trans ?_
          refine (tz_g_getr (j := _) rfl rfl rfl rfl rfl (tz_in0 rfl)).trans ?_
          refine (tz_g_getr (j := _) rfl rfl rfl rfl rfl (tz_in0 rfl)).trans ?_
          refine (tz_g_iload_n rfl (tz_in0 rfl)).trans ?_
          refine (tz_g_iald (n := 4) rfl rfl rfl (tz_in0 rfl)).trans ?_
          refine tz_cn1 ?_
          refine (tz_g_ic_gt (t := 132) (by decide) (tz_in0 rfl)).trans ?_
          refine tz_cg ?_ ?_
          · skip
            refine (tz_g_iinc (v := 1) (L2 := [some (.ref _), some (.int z1), some (.int z2), some (.int z3), some (.int (z4 + 1)), some (.int _), some (.int _)]) rfl rfl rfl rfl (tz_in0 rfl)).trans ?_
            refine (tz_g_goto (t := 5) (by decide) (tz_in0 rfl)).trans ?_
            exact tz_Gm (L2 := [some (.ref _), some (.int z1), some (.int z2), some (.int z3), some (.int (z4 + 1)), none, none]) rfl rfl rfl rfl
          · skip
            refine (tz_g_aload_n rfl (tz_in0 rfl)).trans ?_
            refine (tz_g_getr (j := _) rfl rfl rfl rfl rfl (tz_in0 rfl)).trans ?_
            refine (tz_g_getr (j := _) rfl rfl rfl rfl rfl (tz_in0 rfl)).trans ?_
            refine (tz_g_iload_n rfl (tz_in0 rfl)).trans ?_
            refine (tz_g_dup2a rfl rfl (tz_in0 rfl)).trans ?_
            refine (tz_g_iald (n := 8) rfl rfl rfl (tz_in0 rfl)).trans ?_
            refine tz_cn1 ?_
            refine (tz_g_iload rfl (tz_in0 rfl)).trans ?_
            refine (tz_g_iconst (v := (-1)) rfl (tz_in0 rfl)).trans ?_
            refine (tz_g_ixor (tz_in0 rfl)).trans ?_
            refine (tz_g_iand (tz_in0 rfl)).trans ?_
            refine (tz_g_iast (n := 8) rfl rfl rfl (tz_in0 rfl)).trans ?_
            refine tz_cn1 ?_
            refine (tz_g_aload_n rfl (tz_in0 rfl)).trans ?_
            refine (tz_g_getr (j := _) rfl rfl rfl rfl rfl (tz_in0 rfl)).trans ?_
            refine (tz_g_getr (j := _) rfl rfl rfl rfl rfl (tz_in0 rfl)).trans ?_
            refine (tz_g_iload_n rfl (tz_in0 rfl)).trans ?_
            refine (tz_g_dup2a rfl rfl (tz_in0 rfl)).trans ?_
            refine (tz_g_iald (n := 4) rfl rfl rfl (tz_in0 rfl)).trans ?_
            refine tz_cn1 ?_
            refine (tz_g_iload rfl (tz_in0 rfl)).trans ?_
            refine (tz_g_ior (tz_in0 rfl)).trans ?_
            refine (tz_g_iast (n := 4) rfl rfl rfl (tz_in0 rfl)).trans ?_
            refine tz_cn1 ?_
            refine (tz_g_aload_n rfl (tz_in0 rfl)).trans ?_
            refine (tz_g_getr (j := _) rfl rfl rfl rfl rfl (tz_in0 rfl)).trans ?_
            refine (tz_g_getr (j := _) rfl rfl rfl rfl rfl (tz_in0 rfl)).trans ?_
            refine (tz_g_iload rfl (tz_in0 rfl)).trans ?_
            refine (tz_g_bipush (v := 100) rfl (tz_in0 rfl)).trans ?_
            refine (tz_g_iload_n rfl (tz_in0 rfl)).trans ?_
            refine (tz_g_iadd (tz_in0 rfl)).trans ?_
            refine (tz_g_iast (n := 12) rfl rfl rfl (tz_in0 rfl)).trans ?_
            refine tz_cn1 ?_
            refine (tz_g_iinc (v := 1) (L2 := [some (.ref _), some (.int z1), some (.int z2), some (.int (z3 + 1)), some (.int z4), some (.int _), some (.int _)]) rfl rfl rfl rfl (tz_in0 rfl)).trans ?_
            refine (tz_g_iinc (v := 1) (L2 := [some (.ref _), some (.int z1), some (.int z2), some (.int (z3 + 1)), some (.int (z4 + 1)), some (.int _), some (.int _)]) rfl rfl rfl rfl (tz_in0 rfl)).trans ?_
            refine (tz_g_goto (t := 5) (by decide) (tz_in0 rfl)).trans ?_
            exact tz_Gm (L2 := [some (.ref _), some (.int z1), some (.int z2), some (.int (z3 + 1)), some (.int (z4 + 1)), none, none]) rfl rfl rfl rfl

theorem e_X9_burnLetter (b : Nat) (x1 : Int32) (hb : tz_sky b) (A : tz_Mem) : f_X9_burnLetter b x1 A =
  if x1 < 0 ∨ 12 ≤ (Int32.toNatClampNeg x1) then none else
if (tz_g A (b + 20) (Int32.toNatClampNeg x1)) < 200 then
  if (tz_g A (b + 20) (Int32.toNatClampNeg x1)) < 100 then
    if (tz_g A (b + 20) (Int32.toNatClampNeg x1)) < 0 ∨ 8 ≤ (Int32.toNatClampNeg (tz_g A (b + 20) (Int32.toNatClampNeg x1))) then none else
    if (tz_g A (b + 20) (Int32.toNatClampNeg x1)) < 0 ∨ 8 ≤ (Int32.toNatClampNeg (tz_g A (b + 20) (Int32.toNatClampNeg x1))) then none else
    if x1 < 0 ∨ 12 ≤ (Int32.toNatClampNeg x1) then none else
    some (some (.int 1), (tz_s (tz_s A (b + 4) (Int32.toNatClampNeg (tz_g A (b + 20) (Int32.toNatClampNeg x1))) ((tz_g A (b + 4) (Int32.toNatClampNeg (tz_g A (b + 20) (Int32.toNatClampNeg x1)))) &&& ((1 <<< (x1 &&& 31)) ^^^ (-1)))) (b + 20) (Int32.toNatClampNeg x1) 300))
  else
    if ((tz_g A (b + 20) (Int32.toNatClampNeg x1)) - 100) < 0 ∨ 4 ≤ (Int32.toNatClampNeg ((tz_g A (b + 20) (Int32.toNatClampNeg x1)) - 100)) then none else
    if ((tz_g A (b + 20) (Int32.toNatClampNeg x1)) - 100) < 0 ∨ 4 ≤ (Int32.toNatClampNeg ((tz_g A (b + 20) (Int32.toNatClampNeg x1)) - 100)) then none else
    if x1 < 0 ∨ 12 ≤ (Int32.toNatClampNeg x1) then none else
    some (some (.int 1), (tz_s (tz_s A (b + 14) (Int32.toNatClampNeg ((tz_g A (b + 20) (Int32.toNatClampNeg x1)) - 100)) ((tz_g A (b + 14) (Int32.toNatClampNeg ((tz_g A (b + 20) (Int32.toNatClampNeg x1)) - 100))) &&& ((1 <<< (x1 &&& 31)) ^^^ (-1)))) (b + 20) (Int32.toNatClampNeg x1) 300))
else
  some (some (.int 0), A) := by
  obtain rfl | rfl | rfl | rfl | rfl := hb
  all_goals
    refine (tz_Fe (L := [some (.ref _), some (.int x1), none]) rfl).trans ?_
    refine (tz_g_aload_n rfl (tz_in0 rfl)).trans ?_
    refine (tz_g_getr (j := _) rfl rfl rfl rfl rfl (tz_in0 rfl)).trans ?_
    refine (tz_g_getr (j := _) rfl rfl rfl rfl rfl (tz_in0 rfl)).trans ?_
    refine (tz_g_iload_n rfl (tz_in0 rfl)).trans ?_
    refine (tz_g_iald (n := 12) rfl rfl rfl (tz_in0 rfl)).trans ?_
    refine tz_cn1 ?_
    refine (tz_g_istore_n (L2 := [some (.ref _), some (.int x1), some (.int _)]) rfl rfl (tz_in0 rfl)).trans ?_
    refine (tz_g_iload_n rfl (tz_in0 rfl)).trans ?_
    refine (tz_g_sipush (v := 200) rfl (tz_in0 rfl)).trans ?_
    refine (tz_g_ic_lt (t := 19) (by decide) (tz_in0 rfl)).trans ?_
    refine tz_cg ?_ ?_
    · skip
      refine (tz_g_iload_n rfl (tz_in0 rfl)).trans ?_
      refine (tz_g_bipush (v := 100) rfl (tz_in0 rfl)).trans ?_
      refine (tz_g_ic_lt (t := 48) (by decide) (tz_in0 rfl)).trans ?_
      refine tz_cg ?_ ?_
      · skip
        refine (tz_g_aload_n rfl (tz_in0 rfl)).trans ?_
        refine (tz_g_getr (j := _) rfl rfl rfl rfl rfl (tz_in0 rfl)).trans ?_
        refine (tz_g_getr (j := _) rfl rfl rfl rfl rfl (tz_in0 rfl)).trans ?_
        refine (tz_g_iload_n rfl (tz_in0 rfl)).trans ?_
        refine (tz_g_dup2a rfl rfl (tz_in0 rfl)).trans ?_
        refine (tz_g_iald (n := 8) rfl rfl rfl (tz_in0 rfl)).trans ?_
        refine tz_cn1 ?_
        refine (tz_g_iconst (v := 1) rfl (tz_in0 rfl)).trans ?_
        refine (tz_g_iload_n rfl (tz_in0 rfl)).trans ?_
        refine (tz_g_ishl (tz_in0 rfl)).trans ?_
        refine (tz_g_iconst (v := (-1)) rfl (tz_in0 rfl)).trans ?_
        refine (tz_g_ixor (tz_in0 rfl)).trans ?_
        refine (tz_g_iand (tz_in0 rfl)).trans ?_
        refine (tz_g_iast (n := 8) rfl rfl rfl (tz_in0 rfl)).trans ?_
        refine tz_cn1 ?_
        refine (tz_g_aload_n rfl (tz_in0 rfl)).trans ?_
        refine (tz_g_getr (j := _) rfl rfl rfl rfl rfl (tz_in0 rfl)).trans ?_
        refine (tz_g_getr (j := _) rfl rfl rfl rfl rfl (tz_in0 rfl)).trans ?_
        refine (tz_g_iload_n rfl (tz_in0 rfl)).trans ?_
        refine (tz_g_sipush (v := 300) rfl (tz_in0 rfl)).trans ?_
        refine (tz_g_iast (n := 12) rfl rfl rfl (tz_in0 rfl)).trans ?_
        refine tz_cn1 ?_
        refine (tz_g_iconst (v := 1) rfl (tz_in0 rfl)).trans ?_
        exact tz_g_ret4K (by decide) (tz_in0 rfl) rfl
      · skip
        refine (tz_g_aload_n rfl (tz_in0 rfl)).trans ?_
        refine (tz_g_getr (j := _) rfl rfl rfl rfl rfl (tz_in0 rfl)).trans ?_
        refine (tz_g_getr (j := _) rfl rfl rfl rfl rfl (tz_in0 rfl)).trans ?_
        refine (tz_g_iload_n rfl (tz_in0 rfl)).trans ?_
        refine (tz_g_bipush (v := 100) rfl (tz_in0 rfl)).trans ?_
        refine (tz_g_isub (tz_in0 rfl)).trans ?_
        refine (tz_g_dup2a rfl rfl (tz_in0 rfl)).trans ?_
        refine (tz_g_iald (n := 4) rfl rfl rfl (tz_in0 rfl)).trans ?_
        refine tz_cn1 ?_
        refine (tz_g_iconst (v := 1) rfl (tz_in0 rfl)).trans ?_
        refine (tz_g_iload_n rfl (tz_in0 rfl)).trans ?_
        refine (tz_g_ishl (tz_in0 rfl)).trans ?_
        refine (tz_g_iconst (v := (-1)) rfl (tz_in0 rfl)).trans ?_
        refine (tz_g_ixor (tz_in0 rfl)).trans ?_
        refine (tz_g_iand (tz_in0 rfl)).trans ?_
        refine (tz_g_iast (n := 4) rfl rfl rfl (tz_in0 rfl)).trans ?_
        refine tz_cn1 ?_
        refine (tz_g_goto (t := 65) (by decide) (tz_in0 rfl)).trans ?_
        refine (tz_g_aload_n rfl (tz_in0 rfl)).trans ?_
        refine (tz_g_getr (j := _) rfl rfl rfl rfl rfl (tz_in0 rfl)).trans ?_
        refine (tz_g_getr (j := _) rfl rfl rfl rfl rfl (tz_in0 rfl)).trans ?_
        refine (tz_g_iload_n rfl (tz_in0 rfl)).trans ?_
        refine (tz_g_sipush (v := 300) rfl (tz_in0 rfl)).trans ?_
        refine (tz_g_iast (n := 12) rfl rfl rfl (tz_in0 rfl)).trans ?_
        refine tz_cn1 ?_
        refine (tz_g_iconst (v := 1) rfl (tz_in0 rfl)).trans ?_
        exact tz_g_ret4K (by decide) (tz_in0 rfl) rfl
    · skip
      refine (tz_g_iconst (v := 0) rfl (tz_in0 rfl)).trans ?_
      exact tz_g_ret4K (by decide) (tz_in0 rfl) rfl

theorem e_X11_fault (A : tz_Mem) : f_X11_fault A =
  some (some (.int (tz_g A 17 13)), A) := by
  refine (tz_Fe (L := [some (.ref 17)]) rfl).trans ?_
  refine (tz_g_aload_n rfl (tz_in0 rfl)).trans ?_
  refine (tz_g_geti rfl rfl rfl (tz_in0 rfl)).trans ?_
  exact tz_g_ret1 (tz_in0 rfl) rfl

theorem e_X11_isOneOfTwo (x1 : Int32) (A : tz_Mem) : f_X11_isOneOfTwo x1 A =
  if x1 = 0 then
  some (some (.int 1), A)
else
  if ¬ x1 = 1 then
    some (some (.int 0), A)
  else
    some (some (.int 1), A) := by
  refine (tz_Fe (L := [some (.int x1)]) rfl).trans ?_
  refine (tz_g_iload_n rfl (tz_in0 rfl)).trans ?_
  refine (tz_g_if_eq (t := 9) (by decide) (tz_in0 rfl)).trans ?_
  refine tz_cg ?_ ?_
  · skip
    refine (tz_g_iconst (v := 1) rfl (tz_in0 rfl)).trans ?_
    refine (tz_g_goto (t := 14) (by decide) (tz_in0 rfl)).trans ?_
    exact tz_g_ret4K (by decide) (tz_in0 rfl) rfl
  · skip
    refine (tz_g_iload_n rfl (tz_in0 rfl)).trans ?_
    refine (tz_g_iconst (v := 1) rfl (tz_in0 rfl)).trans ?_
    refine (tz_g_ic_ne (t := 13) (by decide) (tz_in0 rfl)).trans ?_
    refine tz_cg ?_ ?_
    · skip
      refine (tz_g_iconst (v := 0) rfl (tz_in0 rfl)).trans ?_
      exact tz_g_ret4K (by decide) (tz_in0 rfl) rfl
    · skip
      refine (tz_g_iconst (v := 1) rfl (tz_in0 rfl)).trans ?_
      refine (tz_g_goto (t := 14) (by decide) (tz_in0 rfl)).trans ?_
      exact tz_g_ret4K (by decide) (tz_in0 rfl) rfl

theorem e_X4_isUnderWay (b : Nat) (x1 : Int32) (hb : tz_sky b) (A : tz_Mem) : f_X4_isUnderWay b x1 A =
  if x1 < 0 ∨ 12 ≤ (Int32.toNatClampNeg x1) then none else
if 200 ≤ (tz_g A (b + 20) (Int32.toNatClampNeg x1)) then
  some (some (.int 0), A)
else
  some (some (.int 1), A) := by
  obtain rfl | rfl | rfl | rfl | rfl := hb
  all_goals
    refine (tz_Fe (L := [some (.ref _), some (.int x1)]) rfl).trans ?_
    refine (tz_g_aload_n rfl (tz_in0 rfl)).trans ?_
    refine (tz_g_getr (j := _) rfl rfl rfl rfl rfl (tz_in0 rfl)).trans ?_
    refine (tz_g_iload_n rfl (tz_in0 rfl)).trans ?_
    refine (tz_g_iald (n := 12) rfl rfl rfl (tz_in0 rfl)).trans ?_
    refine tz_cn1 ?_
    refine (tz_g_sipush (v := 200) rfl (tz_in0 rfl)).trans ?_
    refine (tz_g_ic_ge (t := 16) (by decide) (tz_in0 rfl)).trans ?_
    refine tz_cg ?_ ?_
    · skip
      refine (tz_g_iconst (v := 0) rfl (tz_in0 rfl)).trans ?_
      exact tz_g_ret4K (by decide) (tz_in0 rfl) rfl
    · skip
      refine (tz_g_iconst (v := 1) rfl (tz_in0 rfl)).trans ?_
      refine (tz_g_goto (t := 17) (by decide) (tz_in0 rfl)).trans ?_
      exact tz_g_ret4K (by decide) (tz_in0 rfl) rfl

theorem e_X4_countWhere (b : Nat) (x1 : Int32) (hb : tz_sky b) (A : tz_Mem) : f_X4_countWhere b x1 A =
  q_X4_countWhere_4 b x1 0 0 A := by
  obtain rfl | rfl | rfl | rfl | rfl := hb
  all_goals
    refine (tz_Fe (L := [some (.ref _), some (.int x1), none, none]) rfl).trans ?_
    refine (tz_g_iconst (v := 0) rfl (tz_in0 rfl)).trans ?_
    refine (tz_g_istore_n (L2 := [some (.ref _), some (.int x1), some (.int 0), none]) rfl rfl (tz_in0 rfl)).trans ?_
    refine (tz_g_iconst (v := 0) rfl (tz_in0 rfl)).trans ?_
    refine (tz_g_istore_n (L2 := [some (.ref _), some (.int x1), some (.int 0), some (.int 0)]) rfl rfl (tz_in0 rfl)).trans ?_
    exact tz_Gm (L2 := [some (.ref _), some (.int x1), some (.int 0), some (.int 0)]) rfl rfl rfl rfl

theorem e_X4_countWhere_4 (b : Nat) (z1 : Int32) (z2 : Int32) (z3 : Int32) (hb : tz_sky b) (A : tz_Mem) : q_X4_countWhere_4 b z1 z2 z3 A =
  if (tz_g A (b + 15) 0) ≤ z3 then
  some (some (.int z2), A)
else
  if z3 < 0 ∨ 12 ≤ (Int32.toNatClampNeg z3) then none else
  if ¬ (tz_g A (b + 20) (Int32.toNatClampNeg z3)) = z1 then
    q_X4_countWhere_4 b z1 z2 (z3 + 1) A
  else
    q_X4_countWhere_4 b z1 (z2 + 1) (z3 + 1) A := by
  obtain rfl | rfl | rfl | rfl | rfl := hb
  all_goals
    show tz_Go 107 4 _ [] A = _
    refine (tz_g_iload_n rfl (tz_inM rfl rfl rfl)).trans ?_
    refine (tz_g_aload_n rfl (tz_in0 rfl)).trans ?_
    refine (tz_g_geti rfl rfl rfl (tz_in0 rfl)).trans ?_
    refine (tz_g_ic_ge (t := 31) (by decide) (tz_in0 rfl)).trans ?_
    refine tz_cg ?_ ?_
    · skip
      refine (tz_g_iload_n rfl (tz_in0 rfl)).trans ?_
      exact tz_g_ret1 (tz_in0 rfl) rfl
    · skip
      refine (tz_g_aload_n rfl (tz_in0 rfl)).trans ?_
      refine (tz_g_getr (j := _) rfl rfl rfl rfl rfl (tz_in0 rfl)).trans ?_
      refine (tz_g_iload_n rfl (tz_in0 rfl)).trans ?_
      refine (tz_g_iald (n := 12) rfl rfl rfl (tz_in0 rfl)).trans ?_
      refine tz_cn1 ?_
      refine (tz_g_iload_n rfl (tz_in0 rfl)).trans ?_
      refine (tz_g_ic_ne (t := 25) (by decide) (tz_in0 rfl)).trans ?_
      refine tz_cg ?_ ?_
      · skip
        refine (tz_g_iinc (v := 1) (L2 := [some (.ref _), some (.int z1), some (.int z2), some (.int (z3 + 1))]) rfl rfl rfl rfl (tz_in0 rfl)).trans ?_
        refine (tz_g_goto (t := 4) (by decide) (tz_in0 rfl)).trans ?_
        exact tz_Gm (L2 := [some (.ref _), some (.int z1), some (.int z2), some (.int (z3 + 1))]) rfl rfl rfl rfl
      · skip
        refine (tz_g_iinc (v := 1) (L2 := [some (.ref _), some (.int z1), some (.int (z2 + 1)), some (.int z3)]) rfl rfl rfl rfl (tz_in0 rfl)).trans ?_
        refine (tz_g_iinc (v := 1) (L2 := [some (.ref _), some (.int z1), some (.int (z2 + 1)), some (.int (z3 + 1))]) rfl rfl rfl rfl (tz_in0 rfl)).trans ?_
        refine (tz_g_goto (t := 4) (by decide) (tz_in0 rfl)).trans ?_
        exact tz_Gm (L2 := [some (.ref _), some (.int z1), some (.int (z2 + 1)), some (.int (z3 + 1))]) rfl rfl rfl rfl

theorem e_X9_drawBelow100 (b : Nat) (hb : tz_sky b) (A : tz_Mem) : f_X9_drawBelow100 b A =
  some (some (.int ((Int32.toUInt32 (tz_g (tz_s A b 5 (((tz_g A b 5) * 1103515245) + 12345)) b 5) >>> (Int32.toUInt32 16 &&& Int32.toUInt32 31)).toInt32 - (Int32.toUInt32 (tz_g (tz_s A b 5 (((tz_g A b 5) * 1103515245) + 12345)) b 5) >>> (Int32.toUInt32 16 &&& Int32.toUInt32 31)).toInt32 / 100 * 100)), (tz_s A b 5 (((tz_g A b 5) * 1103515245) + 12345))) := by
  obtain rfl | rfl | rfl | rfl | rfl := hb
  all_goals
    refine (tz_Fe (L := [some (.ref _)]) rfl).trans ?_
    refine (tz_g_aload_n rfl (tz_in0 rfl)).trans ?_
    refine (tz_g_aload_n rfl (tz_in0 rfl)).trans ?_
    refine (tz_g_geti rfl rfl rfl (tz_in0 rfl)).trans ?_
    refine (tz_g_ldc (v := 1103515245) rfl rfl (tz_in0 rfl)).trans ?_
    refine (tz_g_imul (tz_in0 rfl)).trans ?_
    refine (tz_g_sipush (v := 12345) rfl (tz_in0 rfl)).trans ?_
    refine (tz_g_iadd (tz_in0 rfl)).trans ?_
    refine (tz_g_puti rfl rfl rfl (tz_in0 rfl)).trans ?_
    refine (tz_g_aload_n rfl (tz_in0 rfl)).trans ?_
    refine (tz_g_geti rfl rfl rfl (tz_in0 rfl)).trans ?_
    refine (tz_g_bipush (v := 16) rfl (tz_in0 rfl)).trans ?_
    refine (tz_g_iushr (tz_in0 rfl)).trans ?_
    refine (tz_g_bipush (v := 100) rfl (tz_in0 rfl)).trans ?_
    refine (tz_g_iremK (by decide) (tz_in0 rfl)).trans ?_
    exact tz_g_ret1 (tz_in0 rfl) rfl

theorem e_X11_seed (x1 : Int32) (A : tz_Mem) : f_X11_seed x1 A =
  some (some (.int (tz_g A 30 5)), (tz_s A 30 5 x1)) := by
  refine (tz_Fe (L := [some (.ref 17), some (.int x1), none]) rfl).trans ?_
  refine (tz_g_aload_n rfl (tz_in0 rfl)).trans ?_
  refine (tz_g_getr (j := 30) rfl rfl rfl rfl rfl (tz_in0 rfl)).trans ?_
  refine (tz_g_geti rfl rfl rfl (tz_in0 rfl)).trans ?_
  refine (tz_g_istore_n (L2 := [some (.ref 17), some (.int x1), some (.int (tz_g A 30 5))]) rfl rfl (tz_in0 rfl)).trans ?_
  refine (tz_g_aload_n rfl (tz_in0 rfl)).trans ?_
  refine (tz_g_getr (j := 30) rfl rfl rfl rfl rfl (tz_in0 rfl)).trans ?_
  refine (tz_g_iload_n rfl (tz_in0 rfl)).trans ?_
  refine (tz_g_puti rfl rfl rfl (tz_in0 rfl)).trans ?_
  refine (tz_g_iload_n rfl (tz_in0 rfl)).trans ?_
  exact tz_g_ret1 (tz_in0 rfl) rfl

theorem e_X3_countEver (b : Nat) (hb : tz_sky b) (A : tz_Mem) : f_X3_countEver b A =
  q_X3_countEver_4 b 0 0 A := by
  obtain rfl | rfl | rfl | rfl | rfl := hb
  all_goals
    refine (tz_Fe (L := [some (.ref _), none, none]) rfl).trans ?_
    refine (tz_g_iconst (v := 0) rfl (tz_in0 rfl)).trans ?_
    refine (tz_g_istore_n (L2 := [some (.ref _), some (.int 0), none]) rfl rfl (tz_in0 rfl)).trans ?_
    refine (tz_g_iconst (v := 0) rfl (tz_in0 rfl)).trans ?_
    refine (tz_g_istore_n (L2 := [some (.ref _), some (.int 0), some (.int 0)]) rfl rfl (tz_in0 rfl)).trans ?_
    exact tz_Gm (L2 := [some (.ref _), some (.int 0), some (.int 0)]) rfl rfl rfl rfl

theorem e_X3_countEver_4 (b : Nat) (z1 : Int32) (z2 : Int32) (hb : tz_sky b) (A : tz_Mem) : q_X3_countEver_4 b z1 z2 A =
  if (tz_g A (b + 1) 0) ≤ z2 then
  some (some (.int z1), A)
else
  if z2 < 0 ∨ 8 ≤ (Int32.toNatClampNeg z2) then none else
  q_X3_countEver_4 b (z1 + (tz_g A (b + 5) (Int32.toNatClampNeg z2))) (z2 + 1) A := by
  obtain rfl | rfl | rfl | rfl | rfl := hb
  all_goals
    show tz_Go 118 4 _ [] A = _
    refine (tz_g_iload_n rfl (tz_inM rfl rfl rfl)).trans ?_
    refine (tz_g_aload_n rfl (tz_in0 rfl)).trans ?_
    refine (tz_g_geti rfl rfl rfl (tz_in0 rfl)).trans ?_
    refine (tz_g_ic_ge (t := 27) (by decide) (tz_in0 rfl)).trans ?_
    refine tz_cg ?_ ?_
    · skip
      refine (tz_g_iload_n rfl (tz_in0 rfl)).trans ?_
      exact tz_g_ret1 (tz_in0 rfl) rfl
    · skip
      refine (tz_g_iload_n rfl (tz_in0 rfl)).trans ?_
      refine (tz_g_aload_n rfl (tz_in0 rfl)).trans ?_
      refine (tz_g_getr (j := _) rfl rfl rfl rfl rfl (tz_in0 rfl)).trans ?_
      refine (tz_g_iload_n rfl (tz_in0 rfl)).trans ?_
      refine (tz_g_iald (n := 8) rfl rfl rfl (tz_in0 rfl)).trans ?_
      refine tz_cn1 ?_
      refine (tz_g_iadd (tz_in0 rfl)).trans ?_
      refine (tz_g_istore_n (L2 := [some (.ref _), some (.int _), some (.int z2)]) rfl rfl (tz_in0 rfl)).trans ?_
      refine (tz_g_iinc (v := 1) (L2 := [some (.ref _), some (.int _), some (.int (z2 + 1))]) rfl rfl rfl rfl (tz_in0 rfl)).trans ?_
      refine (tz_g_goto (t := 4) (by decide) (tz_in0 rfl)).trans ?_
      exact tz_Gm (L2 := [some (.ref _), some (.int _), some (.int (z2 + 1))]) rfl rfl rfl rfl

theorem e_L_at (x2 : Int32) (A : tz_Mem) : f_L_at x2 A =
  if (Int32.ofNat (tz_gr A 0 0)) ≤ x2 then
  some (some (.int 0), A)
else
  if x2 < 0 ∨ (tz_gr A 0 0) ≤ (Int32.toNatClampNeg x2) then none else
  some (some (.int (tz_g A 0 (Int32.toNatClampNeg x2))), A) := by
  refine (tz_Fe (L := [some (.ref 0), some (.int x2)]) rfl).trans ?_
  refine (tz_g_iload_n rfl (tz_in0 rfl)).trans ?_
  refine (tz_g_aload_n rfl (tz_in0 rfl)).trans ?_
  refine (tz_g_alen (v := Int32.ofNat (tz_gr A 0 0)) rfl rfl (tz_in0 rfl)).trans ?_
  refine (tz_g_ic_ge (t := 12) (by decide) (tz_in0 rfl)).trans ?_
  refine tz_cg ?_ ?_
  · skip
    refine (tz_g_iconst (v := 0) rfl (tz_in0 rfl)).trans ?_
    exact tz_g_ret1 (tz_in0 rfl) rfl
  · skip
    refine (tz_g_aload_n rfl (tz_in0 rfl)).trans ?_
    refine (tz_g_iload_n rfl (tz_in0 rfl)).trans ?_
    refine (tz_g_iald (n := (tz_gr A 0 0)) rfl rfl rfl (tz_in0 rfl)).trans ?_
    refine tz_cn1 ?_
    refine (tz_g_goto (t := 13) (by decide) (tz_in0 rfl)).trans ?_
    exact tz_g_ret1 (tz_in0 rfl) rfl

theorem e_L_some (x1 : Int32) (x2 : Int32) (A : tz_Mem) : f_L_some x1 x2 A =
  if x2 = 0 then none else
if 0 ≤ (x1 - x1 / x2 * x2) then
  some (some (.int (x1 - x1 / x2 * x2)), A)
else
  some (some (.int ((x1 - x1 / x2 * x2) + x2)), A) := by
  refine (tz_Fe (L := [some (.int x1), some (.int x2), none]) rfl).trans ?_
  refine (tz_g_iload_n rfl (tz_in0 rfl)).trans ?_
  refine (tz_g_iload_n rfl (tz_in0 rfl)).trans ?_
  refine (tz_g_irem (tz_in0 rfl)).trans ?_
  refine tz_cn1 ?_
  refine (tz_g_istore_n (L2 := [some (.int x1), some (.int x2), some (.int (x1 - x1 / x2 * x2))]) rfl rfl (tz_in0 rfl)).trans ?_
  refine (tz_g_iload_n rfl (tz_in0 rfl)).trans ?_
  refine (tz_g_if_ge (t := 14) (by decide) (tz_in0 rfl)).trans ?_
  refine tz_cg ?_ ?_
  · skip
    refine (tz_g_iload_n rfl (tz_in0 rfl)).trans ?_
    exact tz_g_ret1 (tz_in0 rfl) rfl
  · skip
    refine (tz_g_iload_n rfl (tz_in0 rfl)).trans ?_
    refine (tz_g_iload_n rfl (tz_in0 rfl)).trans ?_
    refine (tz_g_iadd (tz_in0 rfl)).trans ?_
    refine (tz_g_goto (t := 15) (by decide) (tz_in0 rfl)).trans ?_
    exact tz_g_ret1 (tz_in0 rfl) rfl

theorem e_L_way (x2 : Int32) (x3 : Int32) (A : tz_Mem) : f_L_way x2 x3 A =
  if A.1 ≤ 158 then none else
if x2 < 0 ∨ 40 ≤ (Int32.toNatClampNeg x2) then none else
some (some (.int (Int64.toInt32 (((tz_gl A 158 (Int32.toNatClampNeg x2)) >>> (Int32.toInt64 (4 * x3) &&& 63)) &&& 15))), A) := by
  refine (tz_Fe (L := [some (.ref 158), some (.int x2), some (.int x3)]) rfl).trans ?_
  refine (tz_g_aload_n rfl (tz_in0 rfl)).trans ?_
  refine (tz_g_iload_n rfl (tz_in0 rfl)).trans ?_
  refine tz_gB (c := A.1 ≤ 158) (fun q => tz_gx_laload rfl (tz_in0 rfl) q) (fun hB0 => ?_)
  refine (tz_g_lald (n := 40) (by exact tz_okC hB0 rfl) rfl (tz_in0 rfl)).trans ?_
  refine tz_cn1 ?_
  refine (tz_g_iconst (v := 4) rfl (tz_in0 rfl)).trans ?_
  refine (tz_g_iload_n rfl (tz_in0 rfl)).trans ?_
  refine (tz_g_imul (tz_in0 rfl)).trans ?_
  refine (tz_g_lshr (tz_in0 rfl)).trans ?_
  refine (tz_g_ldc2_w (v := 15) rfl rfl (tz_in0 rfl)).trans ?_
  refine (tz_g_land (tz_in0 rfl)).trans ?_
  refine (tz_g_l2i (tz_in0 rfl)).trans ?_
  exact tz_g_ret1 (tz_in0 rfl) rfl

theorem e_L_letter (x3 : Int32) (x4 : Int32) (x5 : Int32) (x6 : Int32) (A : tz_Mem) : f_L_letter x3 x4 x5 x6 A =
  if A.1 ≤ 157 then none else
if (24 + (tz_g A 157 2)) < 0 ∨ 64 ≤ (Int32.toNatClampNeg (24 + (tz_g A 157 2))) then none else
if (36 + (tz_g (tz_s A 157 (Int32.toNatClampNeg (24 + (tz_g A 157 2))) (x3 + (10000 * x6))) 157 2)) < 0 ∨ 64 ≤ (Int32.toNatClampNeg (36 + (tz_g (tz_s A 157 (Int32.toNatClampNeg (24 + (tz_g A 157 2))) (x3 + (10000 * x6))) 157 2))) then none else
if (48 + (tz_g (tz_s (tz_s A 157 (Int32.toNatClampNeg (24 + (tz_g A 157 2))) (x3 + (10000 * x6))) 157 (Int32.toNatClampNeg (36 + (tz_g (tz_s A 157 (Int32.toNatClampNeg (24 + (tz_g A 157 2))) (x3 + (10000 * x6))) 157 2))) x4) 157 2)) < 0 ∨ 64 ≤ (Int32.toNatClampNeg (48 + (tz_g (tz_s (tz_s A 157 (Int32.toNatClampNeg (24 + (tz_g A 157 2))) (x3 + (10000 * x6))) 157 (Int32.toNatClampNeg (36 + (tz_g (tz_s A 157 (Int32.toNatClampNeg (24 + (tz_g A 157 2))) (x3 + (10000 * x6))) 157 2))) x4) 157 2))) then none else
if A.1 ≤ 158 then none else
if (4 + (tz_g (tz_s (tz_s (tz_s A 157 (Int32.toNatClampNeg (24 + (tz_g A 157 2))) (x3 + (10000 * x6))) 157 (Int32.toNatClampNeg (36 + (tz_g (tz_s A 157 (Int32.toNatClampNeg (24 + (tz_g A 157 2))) (x3 + (10000 * x6))) 157 2))) x4) 157 (Int32.toNatClampNeg (48 + (tz_g (tz_s (tz_s A 157 (Int32.toNatClampNeg (24 + (tz_g A 157 2))) (x3 + (10000 * x6))) 157 (Int32.toNatClampNeg (36 + (tz_g (tz_s A 157 (Int32.toNatClampNeg (24 + (tz_g A 157 2))) (x3 + (10000 * x6))) 157 2))) x4) 157 2))) (-1)) 157 2)) < 0 ∨ 40 ≤ (Int32.toNatClampNeg (4 + (tz_g (tz_s (tz_s (tz_s A 157 (Int32.toNatClampNeg (24 + (tz_g A 157 2))) (x3 + (10000 * x6))) 157 (Int32.toNatClampNeg (36 + (tz_g (tz_s A 157 (Int32.toNatClampNeg (24 + (tz_g A 157 2))) (x3 + (10000 * x6))) 157 2))) x4) 157 (Int32.toNatClampNeg (48 + (tz_g (tz_s (tz_s A 157 (Int32.toNatClampNeg (24 + (tz_g A 157 2))) (x3 + (10000 * x6))) 157 (Int32.toNatClampNeg (36 + (tz_g (tz_s A 157 (Int32.toNatClampNeg (24 + (tz_g A 157 2))) (x3 + (10000 * x6))) 157 2))) x4) 157 2))) (-1)) 157 2))) then none else
some (some (.int (tz_g (tz_sl (tz_s (tz_s (tz_s A 157 (Int32.toNatClampNeg (24 + (tz_g A 157 2))) (x3 + (10000 * x6))) 157 (Int32.toNatClampNeg (36 + (tz_g (tz_s A 157 (Int32.toNatClampNeg (24 + (tz_g A 157 2))) (x3 + (10000 * x6))) 157 2))) x4) 157 (Int32.toNatClampNeg (48 + (tz_g (tz_s (tz_s A 157 (Int32.toNatClampNeg (24 + (tz_g A 157 2))) (x3 + (10000 * x6))) 157 (Int32.toNatClampNeg (36 + (tz_g (tz_s A 157 (Int32.toNatClampNeg (24 + (tz_g A 157 2))) (x3 + (10000 * x6))) 157 2))) x4) 157 2))) (-1)) 158 (Int32.toNatClampNeg (4 + (tz_g (tz_s (tz_s (tz_s A 157 (Int32.toNatClampNeg (24 + (tz_g A 157 2))) (x3 + (10000 * x6))) 157 (Int32.toNatClampNeg (36 + (tz_g (tz_s A 157 (Int32.toNatClampNeg (24 + (tz_g A 157 2))) (x3 + (10000 * x6))) 157 2))) x4) 157 (Int32.toNatClampNeg (48 + (tz_g (tz_s (tz_s A 157 (Int32.toNatClampNeg (24 + (tz_g A 157 2))) (x3 + (10000 * x6))) 157 (Int32.toNatClampNeg (36 + (tz_g (tz_s A 157 (Int32.toNatClampNeg (24 + (tz_g A 157 2))) (x3 + (10000 * x6))) 157 2))) x4) 157 2))) (-1)) 157 2))) (Int32.toInt64 (x4 + (10 * x5)))) 157 2)), (tz_s (tz_sl (tz_s (tz_s (tz_s A 157 (Int32.toNatClampNeg (24 + (tz_g A 157 2))) (x3 + (10000 * x6))) 157 (Int32.toNatClampNeg (36 + (tz_g (tz_s A 157 (Int32.toNatClampNeg (24 + (tz_g A 157 2))) (x3 + (10000 * x6))) 157 2))) x4) 157 (Int32.toNatClampNeg (48 + (tz_g (tz_s (tz_s A 157 (Int32.toNatClampNeg (24 + (tz_g A 157 2))) (x3 + (10000 * x6))) 157 (Int32.toNatClampNeg (36 + (tz_g (tz_s A 157 (Int32.toNatClampNeg (24 + (tz_g A 157 2))) (x3 + (10000 * x6))) 157 2))) x4) 157 2))) (-1)) 158 (Int32.toNatClampNeg (4 + (tz_g (tz_s (tz_s (tz_s A 157 (Int32.toNatClampNeg (24 + (tz_g A 157 2))) (x3 + (10000 * x6))) 157 (Int32.toNatClampNeg (36 + (tz_g (tz_s A 157 (Int32.toNatClampNeg (24 + (tz_g A 157 2))) (x3 + (10000 * x6))) 157 2))) x4) 157 (Int32.toNatClampNeg (48 + (tz_g (tz_s (tz_s A 157 (Int32.toNatClampNeg (24 + (tz_g A 157 2))) (x3 + (10000 * x6))) 157 (Int32.toNatClampNeg (36 + (tz_g (tz_s A 157 (Int32.toNatClampNeg (24 + (tz_g A 157 2))) (x3 + (10000 * x6))) 157 2))) x4) 157 2))) (-1)) 157 2))) (Int32.toInt64 (x4 + (10 * x5)))) 157 2 ((tz_g (tz_sl (tz_s (tz_s (tz_s A 157 (Int32.toNatClampNeg (24 + (tz_g A 157 2))) (x3 + (10000 * x6))) 157 (Int32.toNatClampNeg (36 + (tz_g (tz_s A 157 (Int32.toNatClampNeg (24 + (tz_g A 157 2))) (x3 + (10000 * x6))) 157 2))) x4) 157 (Int32.toNatClampNeg (48 + (tz_g (tz_s (tz_s A 157 (Int32.toNatClampNeg (24 + (tz_g A 157 2))) (x3 + (10000 * x6))) 157 (Int32.toNatClampNeg (36 + (tz_g (tz_s A 157 (Int32.toNatClampNeg (24 + (tz_g A 157 2))) (x3 + (10000 * x6))) 157 2))) x4) 157 2))) (-1)) 158 (Int32.toNatClampNeg (4 + (tz_g (tz_s (tz_s (tz_s A 157 (Int32.toNatClampNeg (24 + (tz_g A 157 2))) (x3 + (10000 * x6))) 157 (Int32.toNatClampNeg (36 + (tz_g (tz_s A 157 (Int32.toNatClampNeg (24 + (tz_g A 157 2))) (x3 + (10000 * x6))) 157 2))) x4) 157 (Int32.toNatClampNeg (48 + (tz_g (tz_s (tz_s A 157 (Int32.toNatClampNeg (24 + (tz_g A 157 2))) (x3 + (10000 * x6))) 157 (Int32.toNatClampNeg (36 + (tz_g (tz_s A 157 (Int32.toNatClampNeg (24 + (tz_g A 157 2))) (x3 + (10000 * x6))) 157 2))) x4) 157 2))) (-1)) 157 2))) (Int32.toInt64 (x4 + (10 * x5)))) 157 2) + 1))) := by
  refine (tz_Fe (L := [some (.ref 157), some (.ref 158), some (.int x3), some (.int x4), some (.int x5), some (.int x6)]) rfl).trans ?_
  refine (tz_g_aload_n rfl (tz_in0 rfl)).trans ?_
  refine (tz_g_bipush (v := 24) rfl (tz_in0 rfl)).trans ?_
  refine (tz_g_aload_n rfl (tz_in0 rfl)).trans ?_
  refine (tz_g_iconst (v := 2) rfl (tz_in0 rfl)).trans ?_
  refine tz_gB (c := A.1 ≤ 157) (fun q => tz_gx_iaload rfl (tz_in0 rfl) q) (fun hB0 => ?_)
  refine (tz_g_iald (n := 64) (by exact tz_okB hB0 rfl) rfl rfl (tz_in0 rfl)).trans ?_
  refine (if_neg (by decide)).trans ?_
  refine (tz_g_iadd (tz_in0 rfl)).trans ?_
  refine (tz_g_iload_n rfl (tz_in0 rfl)).trans ?_
  refine (tz_g_sipush (v := 10000) rfl (tz_in0 rfl)).trans ?_
  refine (tz_g_iload rfl (tz_in0 rfl)).trans ?_
  refine (tz_g_imul (tz_in0 rfl)).trans ?_
  refine (tz_g_iadd (tz_in0 rfl)).trans ?_
  refine (tz_g_iast (n := 64) (by exact tz_okB hB0 rfl) rfl rfl (tz_in0 rfl)).trans ?_
  refine tz_cn1 ?_
  refine (tz_g_aload_n rfl (tz_in0 rfl)).trans ?_
  refine (tz_g_bipush (v := 36) rfl (tz_in0 rfl)).trans ?_
  refine (tz_g_aload_n rfl (tz_in0 rfl)).trans ?_
  refine (tz_g_iconst (v := 2) rfl (tz_in0 rfl)).trans ?_
  refine (tz_g_iald (n := 64) (by exact tz_okB hB0 rfl) rfl rfl (tz_in0 rfl)).trans ?_
  refine (if_neg (by decide)).trans ?_
  refine (tz_g_iadd (tz_in0 rfl)).trans ?_
  refine (tz_g_iload_n rfl (tz_in0 rfl)).trans ?_
  refine (tz_g_iast (n := 64) (by exact tz_okB hB0 rfl) rfl rfl (tz_in0 rfl)).trans ?_
  refine tz_cn1 ?_
  refine (tz_g_aload_n rfl (tz_in0 rfl)).trans ?_
  refine (tz_g_bipush (v := 48) rfl (tz_in0 rfl)).trans ?_
  refine (tz_g_aload_n rfl (tz_in0 rfl)).trans ?_
  refine (tz_g_iconst (v := 2) rfl (tz_in0 rfl)).trans ?_
  refine (tz_g_iald (n := 64) (by exact tz_okB hB0 rfl) rfl rfl (tz_in0 rfl)).trans ?_
  refine (if_neg (by decide)).trans ?_
  refine (tz_g_iadd (tz_in0 rfl)).trans ?_
  refine (tz_g_iconst (v := (-1)) rfl (tz_in0 rfl)).trans ?_
  refine (tz_g_iast (n := 64) (by exact tz_okB hB0 rfl) rfl rfl (tz_in0 rfl)).trans ?_
  refine tz_cn1 ?_
  refine (tz_g_aload_n rfl (tz_in0 rfl)).trans ?_
  refine (tz_g_iconst (v := 4) rfl (tz_in0 rfl)).trans ?_
  refine (tz_g_aload_n rfl (tz_in0 rfl)).trans ?_
  refine (tz_g_iconst (v := 2) rfl (tz_in0 rfl)).trans ?_
  refine (tz_g_iald (n := 64) (by exact tz_okB hB0 rfl) rfl rfl (tz_in0 rfl)).trans ?_
  refine (if_neg (by decide)).trans ?_
  refine (tz_g_iadd (tz_in0 rfl)).trans ?_
  refine (tz_g_iload_n rfl (tz_in0 rfl)).trans ?_
  refine (tz_g_bipush (v := 10) rfl (tz_in0 rfl)).trans ?_
  refine (tz_g_iload rfl (tz_in0 rfl)).trans ?_
  refine (tz_g_imul (tz_in0 rfl)).trans ?_
  refine (tz_g_iadd (tz_in0 rfl)).trans ?_
  refine (tz_g_i2l (tz_in0 rfl)).trans ?_
  refine tz_gB (c := A.1 ≤ 158) (fun q => tz_gx_lastore rfl (tz_in0 rfl) q) (fun hB1 => ?_)
  refine (tz_g_last (n := 40) (by exact tz_okC hB1 rfl) rfl (tz_in0 rfl)).trans ?_
  refine tz_cn1 ?_
  refine (tz_g_aload_n rfl (tz_in0 rfl)).trans ?_
  refine (tz_g_iconst (v := 2) rfl (tz_in0 rfl)).trans ?_
  refine (tz_g_dup2a rfl rfl (tz_in0 rfl)).trans ?_
  refine (tz_g_iald (n := 64) (by exact tz_okB hB0 rfl) rfl rfl (tz_in0 rfl)).trans ?_
  refine (if_neg (by decide)).trans ?_
  refine (tz_g_dup_x2 rfl (tz_in0 rfl)).trans ?_
  refine (tz_g_iconst (v := 1) rfl (tz_in0 rfl)).trans ?_
  refine (tz_g_iadd (tz_in0 rfl)).trans ?_
  refine (tz_g_iast (n := 64) (by exact tz_okB hB0 rfl) rfl rfl (tz_in0 rfl)).trans ?_
  refine (if_neg (by decide)).trans ?_
  exact tz_g_ret1 (tz_in0 rfl) rfl

theorem e_L_heaviest (x2 : Int32) (x3 : Int32) (A : tz_Mem) : f_L_heaviest x2 x3 A =
  if A.1 ≤ 157 then none else
q_L_heaviest_9 x2 x3 (-1) ((tz_g A 157 2) - 1) A := by
  refine (tz_Fe (L := [some (.ref 157), some (.int x2), some (.int x3), none, none]) rfl).trans ?_
  refine (tz_g_iconst (v := (-1)) rfl (tz_in0 rfl)).trans ?_
  refine (tz_g_istore_n (L2 := [some (.ref 157), some (.int x2), some (.int x3), some (.int (-1)), none]) rfl rfl (tz_in0 rfl)).trans ?_
  refine (tz_g_aload_n rfl (tz_in0 rfl)).trans ?_
  refine (tz_g_iconst (v := 2) rfl (tz_in0 rfl)).trans ?_
  refine tz_gB (c := A.1 ≤ 157) (fun q => tz_gx_iaload rfl (tz_in0 rfl) q) (fun hB0 => ?_)
  refine (tz_g_iald (n := 64) (by exact tz_okB hB0 rfl) rfl rfl (tz_in0 rfl)).trans ?_
  refine (if_neg (by decide)).trans ?_
  refine (tz_g_iconst (v := 1) rfl (tz_in0 rfl)).trans ?_
  refine (tz_g_isub (tz_in0 rfl)).trans ?_
  refine (tz_g_istore (L2 := [some (.ref 157), some (.int x2), some (.int x3), some (.int (-1)), some (.int ((tz_g A 157 2) - 1))]) rfl rfl (tz_in0 rfl)).trans ?_
  exact tz_Gm (L2 := [some (.ref 157), some (.int x2), some (.int x3), some (.int (-1)), some (.int ((tz_g A 157 2) - 1))]) rfl rfl rfl rfl

theorem e_L_heaviest_9 (z1 : Int32) (z2 : Int32) (z3 : Int32) (z4 : Int32) (A : tz_Mem) : q_L_heaviest_9 z1 z2 z3 z4 A =
  if z4 < 0 then
  some (some (.int z3), A)
else
  if A.1 ≤ 157 then none else
  if (36 + z4) < 0 ∨ 64 ≤ (Int32.toNatClampNeg (36 + z4)) then none else
  if ¬ (tz_g A 157 (Int32.toNatClampNeg (36 + z4))) = z1 then
    q_L_heaviest_71 z1 z2 z3 z4 A
  else
    if (24 + z4) < 0 ∨ 64 ≤ (Int32.toNatClampNeg (24 + z4)) then none else
    if z2 < ((tz_g A 157 (Int32.toNatClampNeg (24 + z4))) / 10000) then
      q_L_heaviest_71 z1 z2 z3 z4 A
    else
      if z3 < 0 then
        q_L_heaviest_68 z1 z2 z4 A
      else
        if (24 + z4) < 0 ∨ 64 ≤ (Int32.toNatClampNeg (24 + z4)) then none else
        if (24 + z3) < 0 ∨ 64 ≤ (Int32.toNatClampNeg (24 + z3)) then none else
        if ((tz_g A 157 (Int32.toNatClampNeg (24 + z4))) / 10000) < ((tz_g A 157 (Int32.toNatClampNeg (24 + z3))) / 10000) then
          q_L_heaviest_71 z1 z2 z3 z4 A
        else
          q_L_heaviest_68 z1 z2 z4 A := by
  show tz_Go 127 9 [some (.ref 157), some (.int z1), some (.int z2), some (.int z3), some (.int z4)] [] A = _
  refine (tz_g_iload rfl (tz_inM rfl rfl rfl)).trans ?_
  refine (tz_g_if_lt (t := 77) (by decide) (tz_in0 rfl)).trans ?_
  refine tz_cg ?_ ?_
  · skip
    refine (tz_g_iload_n rfl (tz_in0 rfl)).trans ?_
    exact tz_g_ret1 (tz_in0 rfl) rfl
  · skip
    refine (tz_g_aload_n rfl (tz_in0 rfl)).trans ?_
    refine (tz_g_bipush (v := 36) rfl (tz_in0 rfl)).trans ?_
    refine (tz_g_iload rfl (tz_in0 rfl)).trans ?_
    refine (tz_g_iadd (tz_in0 rfl)).trans ?_
    refine tz_gB (c := A.1 ≤ 157) (fun q => tz_gx_iaload rfl (tz_in0 rfl) q) (fun hB1 => ?_)
    refine (tz_g_iald (n := 64) (by exact tz_okB hB1 rfl) rfl rfl (tz_in0 rfl)).trans ?_
    refine tz_cn1 ?_
    refine (tz_g_iload_n rfl (tz_in0 rfl)).trans ?_
    refine (tz_g_ic_ne (t := 71) (by decide) (tz_in0 rfl)).trans ?_
    refine tz_cg ?_ ?_
    · skip
      exact tz_Gm (L2 := [some (.ref 157), some (.int z1), some (.int z2), some (.int z3), some (.int z4)]) rfl rfl rfl rfl
    · skip
      refine (tz_g_aload_n rfl (tz_in0 rfl)).trans ?_
      refine (tz_g_bipush (v := 24) rfl (tz_in0 rfl)).trans ?_
      refine (tz_g_iload rfl (tz_in0 rfl)).trans ?_
      refine (tz_g_iadd (tz_in0 rfl)).trans ?_
      refine (tz_g_iald (n := 64) (by exact tz_okB hB1 rfl) rfl rfl (tz_in0 rfl)).trans ?_
      refine tz_cn1 ?_
      refine (tz_g_sipush (v := 10000) rfl (tz_in0 rfl)).trans ?_
      refine (tz_g_idivK (by decide) (tz_in0 rfl)).trans ?_
      refine (tz_g_iload_n rfl (tz_in0 rfl)).trans ?_
      refine (tz_g_ic_gt (t := 71) (by decide) (tz_in0 rfl)).trans ?_
      refine tz_cg ?_ ?_
      · skip
        exact tz_Gm (L2 := [some (.ref 157), some (.int z1), some (.int z2), some (.int z3), some (.int z4)]) rfl rfl rfl rfl
      · skip
        refine (tz_g_iload_n rfl (tz_in0 rfl)).trans ?_
        refine (tz_g_if_lt (t := 68) (by decide) (tz_in0 rfl)).trans ?_
        refine tz_cg ?_ ?_
        · skip
          exact tz_Gm (L2 := [some (.ref 157), some (.int z1), some (.int z2), none, some (.int z4)]) rfl rfl rfl rfl
        · skip
          refine (tz_g_aload_n rfl (tz_in0 rfl)).trans ?_
          refine (tz_g_bipush (v := 24) rfl (tz_in0 rfl)).trans ?_
          refine (tz_g_iload rfl (tz_in0 rfl)).trans ?_
          refine (tz_g_iadd (tz_in0 rfl)).trans ?_
          refine (tz_g_iald (n := 64) (by exact tz_okB hB1 rfl) rfl rfl (tz_in0 rfl)).trans ?_
          refine tz_cn1 ?_
          refine (tz_g_sipush (v := 10000) rfl (tz_in0 rfl)).trans ?_
          refine (tz_g_idivK (by decide) (tz_in0 rfl)).trans ?_
          refine (tz_g_aload_n rfl (tz_in0 rfl)).trans ?_
          refine (tz_g_bipush (v := 24) rfl (tz_in0 rfl)).trans ?_
          refine (tz_g_iload_n rfl (tz_in0 rfl)).trans ?_
          refine (tz_g_iadd (tz_in0 rfl)).trans ?_
          refine (tz_g_iald (n := 64) (by exact tz_okB hB1 rfl) rfl rfl (tz_in0 rfl)).trans ?_
          refine tz_cn1 ?_
          refine (tz_g_sipush (v := 10000) rfl (tz_in0 rfl)).trans ?_
          refine (tz_g_idivK (by decide) (tz_in0 rfl)).trans ?_
          refine (tz_g_ic_lt (t := 71) (by decide) (tz_in0 rfl)).trans ?_
          refine tz_cg ?_ ?_
          · skip
            exact tz_Gm (L2 := [some (.ref 157), some (.int z1), some (.int z2), some (.int z3), some (.int z4)]) rfl rfl rfl rfl
          · skip
            exact tz_Gm (L2 := [some (.ref 157), some (.int z1), some (.int z2), none, some (.int z4)]) rfl rfl rfl rfl

theorem e_L_heaviest_71 (z1 : Int32) (z2 : Int32) (z3 : Int32) (z4 : Int32) (A : tz_Mem) : q_L_heaviest_71 z1 z2 z3 z4 A =
  q_L_heaviest_9 z1 z2 z3 (z4 + (-1)) A := by
  show tz_Go 127 71 [some (.ref 157), some (.int z1), some (.int z2), some (.int z3), some (.int z4)] [] A = _
  refine (tz_g_iinc (v := (-1)) (L2 := [some (.ref 157), some (.int z1), some (.int z2), some (.int z3), some (.int (z4 + (-1)))]) rfl rfl rfl rfl (tz_inM rfl rfl rfl)).trans ?_
  refine (tz_g_goto (t := 9) (by decide) (tz_in0 rfl)).trans ?_
  exact tz_Gm (L2 := [some (.ref 157), some (.int z1), some (.int z2), some (.int z3), some (.int (z4 + (-1)))]) rfl rfl rfl rfl

theorem e_L_heaviest_68 (z1 : Int32) (z2 : Int32) (z4 : Int32) (A : tz_Mem) : q_L_heaviest_68 z1 z2 z4 A =
  q_L_heaviest_71 z1 z2 z4 z4 A := by
  show tz_Go 127 68 [some (.ref 157), some (.int z1), some (.int z2), none, some (.int z4)] [] A = _
  refine (tz_g_iload rfl (tz_inM rfl rfl rfl)).trans ?_
  refine (tz_g_istore_n (L2 := [some (.ref 157), some (.int z1), some (.int z2), some (.int z4), some (.int z4)]) rfl rfl (tz_in0 rfl)).trans ?_
  exact tz_Gm (L2 := [some (.ref 157), some (.int z1), some (.int z2), some (.int z4), some (.int z4)]) rfl rfl rfl rfl

theorem e_L_becomes (x2 : Int32) (x3 : Int32) (A : tz_Mem) : f_L_becomes x2 x3 A =
  if A.1 ≤ 157 then none else
if (8 + x2) < 0 ∨ 64 ≤ (Int32.toNatClampNeg (8 + x2)) then none else
if ((tz_g A 157 (Int32.toNatClampNeg (8 + x2))) - (tz_g A 157 (Int32.toNatClampNeg (8 + x2))) / 10 * 10) = 2 then
  q_L_becomes_22 x2 x3 ((tz_g A 157 (Int32.toNatClampNeg (8 + x2))) - (tz_g A 157 (Int32.toNatClampNeg (8 + x2))) / 10 * 10) A
else
  if ((tz_g A 157 (Int32.toNatClampNeg (8 + x2))) - (tz_g A 157 (Int32.toNatClampNeg (8 + x2))) / 10 * 10) = 5 then
    q_L_becomes_22 x2 x3 ((tz_g A 157 (Int32.toNatClampNeg (8 + x2))) - (tz_g A 157 (Int32.toNatClampNeg (8 + x2))) / 10 * 10) A
  else
    some (some (.int x3), A) := by
  refine (tz_Fe (L := [some (.ref 157), some (.int x2), some (.int x3), none]) rfl).trans ?_
  refine (tz_g_aload_n rfl (tz_in0 rfl)).trans ?_
  refine (tz_g_bipush (v := 8) rfl (tz_in0 rfl)).trans ?_
  refine (tz_g_iload_n rfl (tz_in0 rfl)).trans ?_
  refine (tz_g_iadd (tz_in0 rfl)).trans ?_
  refine tz_gB (c := A.1 ≤ 157) (fun q => tz_gx_iaload rfl (tz_in0 rfl) q) (fun hB0 => ?_)
  refine (tz_g_iald (n := 64) (by exact tz_okB hB0 rfl) rfl rfl (tz_in0 rfl)).trans ?_
  refine tz_cn1 ?_
  refine (tz_g_bipush (v := 10) rfl (tz_in0 rfl)).trans ?_
  refine (tz_g_iremK (by decide) (tz_in0 rfl)).trans ?_
  refine (tz_g_istore_n (L2 := [some (.ref 157), some (.int x2), some (.int x3), some (.int ((tz_g A 157 (Int32.toNatClampNeg (8 + x2))) - (tz_g A 157 (Int32.toNatClampNeg (8 + x2))) / 10 * 10))]) rfl rfl (tz_in0 rfl)).trans ?_
  refine (tz_g_iload_n rfl (tz_in0 rfl)).trans ?_
  refine (tz_g_iconst (v := 2) rfl (tz_in0 rfl)).trans ?_
  refine (tz_g_ic_eq (t := 22) (by decide) (tz_in0 rfl)).trans ?_
  refine tz_cg ?_ ?_
  · skip
    exact tz_Gm (L2 := [some (.ref 157), some (.int x2), some (.int x3), some (.int ((tz_g A 157 (Int32.toNatClampNeg (8 + x2))) - (tz_g A 157 (Int32.toNatClampNeg (8 + x2))) / 10 * 10))]) rfl rfl rfl rfl
  · skip
    refine (tz_g_iload_n rfl (tz_in0 rfl)).trans ?_
    refine (tz_g_iconst (v := 5) rfl (tz_in0 rfl)).trans ?_
    refine (tz_g_ic_eq (t := 22) (by decide) (tz_in0 rfl)).trans ?_
    refine tz_cg ?_ ?_
    · skip
      exact tz_Gm (L2 := [some (.ref 157), some (.int x2), some (.int x3), some (.int ((tz_g A 157 (Int32.toNatClampNeg (8 + x2))) - (tz_g A 157 (Int32.toNatClampNeg (8 + x2))) / 10 * 10))]) rfl rfl rfl rfl
    · skip
      refine (tz_g_iload_n rfl (tz_in0 rfl)).trans ?_
      exact tz_g_ret1 (tz_in0 rfl) rfl

theorem e_L_becomes_22 (z1 : Int32) (z2 : Int32) (z3 : Int32) (A : tz_Mem) : q_L_becomes_22 z1 z2 z3 A =
  if ¬ z3 = 2 then
  if A.1 ≤ 157 then none else
  if (8 + z1) < 0 ∨ 64 ≤ (Int32.toNatClampNeg (8 + z1)) then none else
  some (some (.int ((z2 / 10) + ((tz_g A 157 (Int32.toNatClampNeg (8 + z1))) / 10))), A)
else
  some (some (.int (z2 / 10)), A) := by
  show tz_Go 128 22 [some (.ref 157), some (.int z1), some (.int z2), some (.int z3)] [] A = _
  refine (tz_g_iload_n rfl (tz_inM rfl rfl rfl)).trans ?_
  refine (tz_g_iconst (v := 2) rfl (tz_in0 rfl)).trans ?_
  refine (tz_g_ic_ne (t := 34) (by decide) (tz_in0 rfl)).trans ?_
  refine tz_cg ?_ ?_
  · skip
    refine (tz_g_iload_n rfl (tz_in0 rfl)).trans ?_
    refine (tz_g_bipush (v := 10) rfl (tz_in0 rfl)).trans ?_
    refine (tz_g_idivK (by decide) (tz_in0 rfl)).trans ?_
    refine (tz_g_aload_n rfl (tz_in0 rfl)).trans ?_
    refine (tz_g_bipush (v := 8) rfl (tz_in0 rfl)).trans ?_
    refine (tz_g_iload_n rfl (tz_in0 rfl)).trans ?_
    refine (tz_g_iadd (tz_in0 rfl)).trans ?_
    refine tz_gB (c := A.1 ≤ 157) (fun q => tz_gx_iaload rfl (tz_in0 rfl) q) (fun hB1 => ?_)
    refine (tz_g_iald (n := 64) (by exact tz_okB hB1 rfl) rfl rfl (tz_in0 rfl)).trans ?_
    refine tz_cn1 ?_
    refine (tz_g_bipush (v := 10) rfl (tz_in0 rfl)).trans ?_
    refine (tz_g_idivK (by decide) (tz_in0 rfl)).trans ?_
    refine (tz_g_iadd (tz_in0 rfl)).trans ?_
    exact tz_g_ret1 (tz_in0 rfl) rfl
  · skip
    refine (tz_g_iload_n rfl (tz_in0 rfl)).trans ?_
    refine (tz_g_bipush (v := 10) rfl (tz_in0 rfl)).trans ?_
    refine (tz_g_idivK (by decide) (tz_in0 rfl)).trans ?_
    refine (tz_g_goto (t := 48) (by decide) (tz_in0 rfl)).trans ?_
    exact tz_g_ret1 (tz_in0 rfl) rfl

theorem e_L_times (x2 : Int32) (x3 : Int32) (A : tz_Mem) : f_L_times x2 x3 A =
  if A.1 ≤ 157 then none else
if (8 + x2) < 0 ∨ 64 ≤ (Int32.toNatClampNeg (8 + x2)) then none else
if (8 + x2) < 0 ∨ 64 ≤ (Int32.toNatClampNeg (8 + x2)) then none else
if ¬ ((tz_g A 157 (Int32.toNatClampNeg (8 + x2))) - (tz_g A 157 (Int32.toNatClampNeg (8 + x2))) / 10 * 10) = 1 then
  if ¬ ((tz_g A 157 (Int32.toNatClampNeg (8 + x2))) - (tz_g A 157 (Int32.toNatClampNeg (8 + x2))) / 10 * 10) = 3 then
    if ¬ ((tz_g A 157 (Int32.toNatClampNeg (8 + x2))) - (tz_g A 157 (Int32.toNatClampNeg (8 + x2))) / 10 * 10) = 4 then
      if ¬ ((tz_g A 157 (Int32.toNatClampNeg (8 + x2))) - (tz_g A 157 (Int32.toNatClampNeg (8 + x2))) / 10 * 10) = 6 then
        some (some (.int 1), A)
      else
        some (some (.int 0), A)
    else
      if x3 ≤ (10 * ((tz_g A 157 (Int32.toNatClampNeg (8 + x2))) / 10)) then
        some (some (.int 0), A)
      else
        some (some (.int 1), A)
  else
    some (some (.int (2 + ((tz_g A 157 (Int32.toNatClampNeg (8 + x2))) / 10))), A)
else
  some (some (.int 2), A) := by
  refine (tz_Fe (L := [some (.ref 157), some (.int x2), some (.int x3), none, none]) rfl).trans ?_
  refine (tz_g_aload_n rfl (tz_in0 rfl)).trans ?_
  refine (tz_g_bipush (v := 8) rfl (tz_in0 rfl)).trans ?_
  refine (tz_g_iload_n rfl (tz_in0 rfl)).trans ?_
  refine (tz_g_iadd (tz_in0 rfl)).trans ?_
  refine tz_gB (c := A.1 ≤ 157) (fun q => tz_gx_iaload rfl (tz_in0 rfl) q) (fun hB0 => ?_)
  refine (tz_g_iald (n := 64) (by exact tz_okB hB0 rfl) rfl rfl (tz_in0 rfl)).trans ?_
  refine tz_cn1 ?_
  refine (tz_g_bipush (v := 10) rfl (tz_in0 rfl)).trans ?_
  refine (tz_g_iremK (by decide) (tz_in0 rfl)).trans ?_
  refine (tz_g_istore_n (L2 := [some (.ref 157), some (.int x2), some (.int x3), some (.int ((tz_g A 157 (Int32.toNatClampNeg (8 + x2))) - (tz_g A 157 (Int32.toNatClampNeg (8 + x2))) / 10 * 10)), none]) rfl rfl (tz_in0 rfl)).trans ?_
  refine (tz_g_aload_n rfl (tz_in0 rfl)).trans ?_
  refine (tz_g_bipush (v := 8) rfl (tz_in0 rfl)).trans ?_
  refine (tz_g_iload_n rfl (tz_in0 rfl)).trans ?_
  refine (tz_g_iadd (tz_in0 rfl)).trans ?_
  refine (tz_g_iald (n := 64) (by exact tz_okB hB0 rfl) rfl rfl (tz_in0 rfl)).trans ?_
  refine tz_cn1 ?_
  refine (tz_g_bipush (v := 10) rfl (tz_in0 rfl)).trans ?_
  refine (tz_g_idivK (by decide) (tz_in0 rfl)).trans ?_
  refine (tz_g_istore (L2 := [some (.ref 157), some (.int x2), some (.int x3), some (.int ((tz_g A 157 (Int32.toNatClampNeg (8 + x2))) - (tz_g A 157 (Int32.toNatClampNeg (8 + x2))) / 10 * 10)), some (.int ((tz_g A 157 (Int32.toNatClampNeg (8 + x2))) / 10))]) rfl rfl (tz_in0 rfl)).trans ?_
  refine (tz_g_iload_n rfl (tz_in0 rfl)).trans ?_
  refine (tz_g_iconst (v := 1) rfl (tz_in0 rfl)).trans ?_
  refine (tz_g_ic_ne (t := 30) (by decide) (tz_in0 rfl)).trans ?_
  refine tz_cg ?_ ?_
  · skip
    refine (tz_g_iload_n rfl (tz_in0 rfl)).trans ?_
    refine (tz_g_iconst (v := 3) rfl (tz_in0 rfl)).trans ?_
    refine (tz_g_ic_ne (t := 42) (by decide) (tz_in0 rfl)).trans ?_
    refine tz_cg ?_ ?_
    · skip
      refine (tz_g_iload_n rfl (tz_in0 rfl)).trans ?_
      refine (tz_g_iconst (v := 4) rfl (tz_in0 rfl)).trans ?_
      refine (tz_g_ic_ne (t := 64) (by decide) (tz_in0 rfl)).trans ?_
      refine tz_cg ?_ ?_
      · skip
        refine (tz_g_iload_n rfl (tz_in0 rfl)).trans ?_
        refine (tz_g_bipush (v := 6) rfl (tz_in0 rfl)).trans ?_
        refine (tz_g_ic_ne (t := 74) (by decide) (tz_in0 rfl)).trans ?_
        refine tz_cg ?_ ?_
        · skip
          refine (tz_g_iconst (v := 1) rfl (tz_in0 rfl)).trans ?_
          exact tz_g_ret1 (tz_in0 rfl) rfl
        · skip
          refine (tz_g_iconst (v := 0) rfl (tz_in0 rfl)).trans ?_
          refine (tz_g_goto (t := 75) (by decide) (tz_in0 rfl)).trans ?_
          exact tz_g_ret1 (tz_in0 rfl) rfl
      · skip
        refine (tz_g_iload_n rfl (tz_in0 rfl)).trans ?_
        refine (tz_g_bipush (v := 10) rfl (tz_in0 rfl)).trans ?_
        refine (tz_g_iload rfl (tz_in0 rfl)).trans ?_
        refine (tz_g_imul (tz_in0 rfl)).trans ?_
        refine (tz_g_ic_le (t := 60) (by decide) (tz_in0 rfl)).trans ?_
        refine tz_cg ?_ ?_
        · skip
          refine (tz_g_iconst (v := 0) rfl (tz_in0 rfl)).trans ?_
          refine (tz_g_goto (t := 75) (by decide) (tz_in0 rfl)).trans ?_
          exact tz_g_ret1 (tz_in0 rfl) rfl
        · skip
          refine (tz_g_iconst (v := 1) rfl (tz_in0 rfl)).trans ?_
          refine (tz_g_goto (t := 75) (by decide) (tz_in0 rfl)).trans ?_
          exact tz_g_ret1 (tz_in0 rfl) rfl
    · skip
      refine (tz_g_iconst (v := 2) rfl (tz_in0 rfl)).trans ?_
      refine (tz_g_iload rfl (tz_in0 rfl)).trans ?_
      refine (tz_g_iadd (tz_in0 rfl)).trans ?_
      refine (tz_g_goto (t := 75) (by decide) (tz_in0 rfl)).trans ?_
      exact tz_g_ret1 (tz_in0 rfl) rfl
  · skip
    refine (tz_g_iconst (v := 2) rfl (tz_in0 rfl)).trans ?_
    refine (tz_g_goto (t := 75) (by decide) (tz_in0 rfl)).trans ?_
    exact tz_g_ret1 (tz_in0 rfl) rfl

theorem e_L_hears (x3 : Int32) (x4 : Int32) (x5 : Int32) (A : tz_Mem) : f_L_hears x3 x4 x5 A =
  q_L_hears_3 x3 x4 x5 0 A := by
  refine (tz_Fe (L := [some (.ref 157), some (.ref 158), some (.int x3), some (.int x4), some (.int x5), none]) rfl).trans ?_
  refine (tz_g_iconst (v := 0) rfl (tz_in0 rfl)).trans ?_
  refine (tz_g_istore (L2 := [some (.ref 157), some (.ref 158), some (.int x3), some (.int x4), some (.int x5), some (.int 0)]) rfl rfl (tz_in0 rfl)).trans ?_
  exact tz_Gm (L2 := [some (.ref 157), some (.ref 158), some (.int x3), some (.int x4), some (.int x5), some (.int 0)]) rfl rfl rfl rfl

theorem e_L_hears_3 (z2 : Int32) (z3 : Int32) (z4 : Int32) (z5 : Int32) (A : tz_Mem) : q_L_hears_3 z2 z3 z4 z5 A =
  if z4 ≤ z5 then
  some (none, A)
else
  if A.1 ≤ 158 then none else
  if (16 + z2) < 0 ∨ 40 ≤ (Int32.toNatClampNeg (16 + z2)) then none else
  if (16 + z2) < 0 ∨ 40 ≤ (Int32.toNatClampNeg (16 + z2)) then none else
  if (32 + z2) < 0 ∨ 40 ≤ (Int32.toNatClampNeg (32 + z2)) then none else
  if (24 + z2) < 0 ∨ 40 ≤ (Int32.toNatClampNeg (24 + z2)) then none else
  if (32 + z2) < 0 ∨ 40 ≤ (Int32.toNatClampNeg (32 + z2)) then none else
  if (24 + z2) < 0 ∨ 40 ≤ (Int32.toNatClampNeg (24 + z2)) then none else
  if (24 + z2) < 0 ∨ 40 ≤ (Int32.toNatClampNeg (24 + z2)) then none else
  if ¬ z2 = (tz_g (tz_s (tz_sl (tz_sl (tz_sl A 158 (Int32.toNatClampNeg (16 + z2)) ((tz_gl A 158 (Int32.toNatClampNeg (16 + z2))) + 1)) 158 (Int32.toNatClampNeg (32 + z2)) ((((tz_gl (tz_sl A 158 (Int32.toNatClampNeg (16 + z2)) ((tz_gl A 158 (Int32.toNatClampNeg (16 + z2))) + 1)) 158 (Int32.toNatClampNeg (32 + z2))) - (tz_gl (tz_sl A 158 (Int32.toNatClampNeg (16 + z2)) ((tz_gl A 158 (Int32.toNatClampNeg (16 + z2))) + 1)) 158 (Int32.toNatClampNeg (32 + z2))) / 1000000000000 * 1000000000000) * 10000) + ((tz_gl (tz_sl A 158 (Int32.toNatClampNeg (16 + z2)) ((tz_gl A 158 (Int32.toNatClampNeg (16 + z2))) + 1)) 158 (Int32.toNatClampNeg (24 + z2))) / 1000000000000))) 158 (Int32.toNatClampNeg (24 + z2)) ((((tz_gl (tz_sl (tz_sl A 158 (Int32.toNatClampNeg (16 + z2)) ((tz_gl A 158 (Int32.toNatClampNeg (16 + z2))) + 1)) 158 (Int32.toNatClampNeg (32 + z2)) ((((tz_gl (tz_sl A 158 (Int32.toNatClampNeg (16 + z2)) ((tz_gl A 158 (Int32.toNatClampNeg (16 + z2))) + 1)) 158 (Int32.toNatClampNeg (32 + z2))) - (tz_gl (tz_sl A 158 (Int32.toNatClampNeg (16 + z2)) ((tz_gl A 158 (Int32.toNatClampNeg (16 + z2))) + 1)) 158 (Int32.toNatClampNeg (32 + z2))) / 1000000000000 * 1000000000000) * 10000) + ((tz_gl (tz_sl A 158 (Int32.toNatClampNeg (16 + z2)) ((tz_gl A 158 (Int32.toNatClampNeg (16 + z2))) + 1)) 158 (Int32.toNatClampNeg (24 + z2))) / 1000000000000))) 158 (Int32.toNatClampNeg (24 + z2))) - (tz_gl (tz_sl (tz_sl A 158 (Int32.toNatClampNeg (16 + z2)) ((tz_gl A 158 (Int32.toNatClampNeg (16 + z2))) + 1)) 158 (Int32.toNatClampNeg (32 + z2)) ((((tz_gl (tz_sl A 158 (Int32.toNatClampNeg (16 + z2)) ((tz_gl A 158 (Int32.toNatClampNeg (16 + z2))) + 1)) 158 (Int32.toNatClampNeg (32 + z2))) - (tz_gl (tz_sl A 158 (Int32.toNatClampNeg (16 + z2)) ((tz_gl A 158 (Int32.toNatClampNeg (16 + z2))) + 1)) 158 (Int32.toNatClampNeg (32 + z2))) / 1000000000000 * 1000000000000) * 10000) + ((tz_gl (tz_sl A 158 (Int32.toNatClampNeg (16 + z2)) ((tz_gl A 158 (Int32.toNatClampNeg (16 + z2))) + 1)) 158 (Int32.toNatClampNeg (24 + z2))) / 1000000000000))) 158 (Int32.toNatClampNeg (24 + z2))) / 1000000000000 * 1000000000000) * 10000) + (Int32.toInt64 z3))) 157 6 ((tz_g (tz_sl (tz_sl (tz_sl A 158 (Int32.toNatClampNeg (16 + z2)) ((tz_gl A 158 (Int32.toNatClampNeg (16 + z2))) + 1)) 158 (Int32.toNatClampNeg (32 + z2)) ((((tz_gl (tz_sl A 158 (Int32.toNatClampNeg (16 + z2)) ((tz_gl A 158 (Int32.toNatClampNeg (16 + z2))) + 1)) 158 (Int32.toNatClampNeg (32 + z2))) - (tz_gl (tz_sl A 158 (Int32.toNatClampNeg (16 + z2)) ((tz_gl A 158 (Int32.toNatClampNeg (16 + z2))) + 1)) 158 (Int32.toNatClampNeg (32 + z2))) / 1000000000000 * 1000000000000) * 10000) + ((tz_gl (tz_sl A 158 (Int32.toNatClampNeg (16 + z2)) ((tz_gl A 158 (Int32.toNatClampNeg (16 + z2))) + 1)) 158 (Int32.toNatClampNeg (24 + z2))) / 1000000000000))) 158 (Int32.toNatClampNeg (24 + z2)) ((((tz_gl (tz_sl (tz_sl A 158 (Int32.toNatClampNeg (16 + z2)) ((tz_gl A 158 (Int32.toNatClampNeg (16 + z2))) + 1)) 158 (Int32.toNatClampNeg (32 + z2)) ((((tz_gl (tz_sl A 158 (Int32.toNatClampNeg (16 + z2)) ((tz_gl A 158 (Int32.toNatClampNeg (16 + z2))) + 1)) 158 (Int32.toNatClampNeg (32 + z2))) - (tz_gl (tz_sl A 158 (Int32.toNatClampNeg (16 + z2)) ((tz_gl A 158 (Int32.toNatClampNeg (16 + z2))) + 1)) 158 (Int32.toNatClampNeg (32 + z2))) / 1000000000000 * 1000000000000) * 10000) + ((tz_gl (tz_sl A 158 (Int32.toNatClampNeg (16 + z2)) ((tz_gl A 158 (Int32.toNatClampNeg (16 + z2))) + 1)) 158 (Int32.toNatClampNeg (24 + z2))) / 1000000000000))) 158 (Int32.toNatClampNeg (24 + z2))) - (tz_gl (tz_sl (tz_sl A 158 (Int32.toNatClampNeg (16 + z2)) ((tz_gl A 158 (Int32.toNatClampNeg (16 + z2))) + 1)) 158 (Int32.toNatClampNeg (32 + z2)) ((((tz_gl (tz_sl A 158 (Int32.toNatClampNeg (16 + z2)) ((tz_gl A 158 (Int32.toNatClampNeg (16 + z2))) + 1)) 158 (Int32.toNatClampNeg (32 + z2))) - (tz_gl (tz_sl A 158 (Int32.toNatClampNeg (16 + z2)) ((tz_gl A 158 (Int32.toNatClampNeg (16 + z2))) + 1)) 158 (Int32.toNatClampNeg (32 + z2))) / 1000000000000 * 1000000000000) * 10000) + ((tz_gl (tz_sl A 158 (Int32.toNatClampNeg (16 + z2)) ((tz_gl A 158 (Int32.toNatClampNeg (16 + z2))) + 1)) 158 (Int32.toNatClampNeg (24 + z2))) / 1000000000000))) 158 (Int32.toNatClampNeg (24 + z2))) / 1000000000000 * 1000000000000) * 10000) + (Int32.toInt64 z3))) 157 6) + 1)) 157 60) then
    q_L_hears_98 z2 z3 z4 z5 (tz_s (tz_sl (tz_sl (tz_sl A 158 (Int32.toNatClampNeg (16 + z2)) ((tz_gl A 158 (Int32.toNatClampNeg (16 + z2))) + 1)) 158 (Int32.toNatClampNeg (32 + z2)) ((((tz_gl (tz_sl A 158 (Int32.toNatClampNeg (16 + z2)) ((tz_gl A 158 (Int32.toNatClampNeg (16 + z2))) + 1)) 158 (Int32.toNatClampNeg (32 + z2))) - (tz_gl (tz_sl A 158 (Int32.toNatClampNeg (16 + z2)) ((tz_gl A 158 (Int32.toNatClampNeg (16 + z2))) + 1)) 158 (Int32.toNatClampNeg (32 + z2))) / 1000000000000 * 1000000000000) * 10000) + ((tz_gl (tz_sl A 158 (Int32.toNatClampNeg (16 + z2)) ((tz_gl A 158 (Int32.toNatClampNeg (16 + z2))) + 1)) 158 (Int32.toNatClampNeg (24 + z2))) / 1000000000000))) 158 (Int32.toNatClampNeg (24 + z2)) ((((tz_gl (tz_sl (tz_sl A 158 (Int32.toNatClampNeg (16 + z2)) ((tz_gl A 158 (Int32.toNatClampNeg (16 + z2))) + 1)) 158 (Int32.toNatClampNeg (32 + z2)) ((((tz_gl (tz_sl A 158 (Int32.toNatClampNeg (16 + z2)) ((tz_gl A 158 (Int32.toNatClampNeg (16 + z2))) + 1)) 158 (Int32.toNatClampNeg (32 + z2))) - (tz_gl (tz_sl A 158 (Int32.toNatClampNeg (16 + z2)) ((tz_gl A 158 (Int32.toNatClampNeg (16 + z2))) + 1)) 158 (Int32.toNatClampNeg (32 + z2))) / 1000000000000 * 1000000000000) * 10000) + ((tz_gl (tz_sl A 158 (Int32.toNatClampNeg (16 + z2)) ((tz_gl A 158 (Int32.toNatClampNeg (16 + z2))) + 1)) 158 (Int32.toNatClampNeg (24 + z2))) / 1000000000000))) 158 (Int32.toNatClampNeg (24 + z2))) - (tz_gl (tz_sl (tz_sl A 158 (Int32.toNatClampNeg (16 + z2)) ((tz_gl A 158 (Int32.toNatClampNeg (16 + z2))) + 1)) 158 (Int32.toNatClampNeg (32 + z2)) ((((tz_gl (tz_sl A 158 (Int32.toNatClampNeg (16 + z2)) ((tz_gl A 158 (Int32.toNatClampNeg (16 + z2))) + 1)) 158 (Int32.toNatClampNeg (32 + z2))) - (tz_gl (tz_sl A 158 (Int32.toNatClampNeg (16 + z2)) ((tz_gl A 158 (Int32.toNatClampNeg (16 + z2))) + 1)) 158 (Int32.toNatClampNeg (32 + z2))) / 1000000000000 * 1000000000000) * 10000) + ((tz_gl (tz_sl A 158 (Int32.toNatClampNeg (16 + z2)) ((tz_gl A 158 (Int32.toNatClampNeg (16 + z2))) + 1)) 158 (Int32.toNatClampNeg (24 + z2))) / 1000000000000))) 158 (Int32.toNatClampNeg (24 + z2))) / 1000000000000 * 1000000000000) * 10000) + (Int32.toInt64 z3))) 157 6 ((tz_g (tz_sl (tz_sl (tz_sl A 158 (Int32.toNatClampNeg (16 + z2)) ((tz_gl A 158 (Int32.toNatClampNeg (16 + z2))) + 1)) 158 (Int32.toNatClampNeg (32 + z2)) ((((tz_gl (tz_sl A 158 (Int32.toNatClampNeg (16 + z2)) ((tz_gl A 158 (Int32.toNatClampNeg (16 + z2))) + 1)) 158 (Int32.toNatClampNeg (32 + z2))) - (tz_gl (tz_sl A 158 (Int32.toNatClampNeg (16 + z2)) ((tz_gl A 158 (Int32.toNatClampNeg (16 + z2))) + 1)) 158 (Int32.toNatClampNeg (32 + z2))) / 1000000000000 * 1000000000000) * 10000) + ((tz_gl (tz_sl A 158 (Int32.toNatClampNeg (16 + z2)) ((tz_gl A 158 (Int32.toNatClampNeg (16 + z2))) + 1)) 158 (Int32.toNatClampNeg (24 + z2))) / 1000000000000))) 158 (Int32.toNatClampNeg (24 + z2)) ((((tz_gl (tz_sl (tz_sl A 158 (Int32.toNatClampNeg (16 + z2)) ((tz_gl A 158 (Int32.toNatClampNeg (16 + z2))) + 1)) 158 (Int32.toNatClampNeg (32 + z2)) ((((tz_gl (tz_sl A 158 (Int32.toNatClampNeg (16 + z2)) ((tz_gl A 158 (Int32.toNatClampNeg (16 + z2))) + 1)) 158 (Int32.toNatClampNeg (32 + z2))) - (tz_gl (tz_sl A 158 (Int32.toNatClampNeg (16 + z2)) ((tz_gl A 158 (Int32.toNatClampNeg (16 + z2))) + 1)) 158 (Int32.toNatClampNeg (32 + z2))) / 1000000000000 * 1000000000000) * 10000) + ((tz_gl (tz_sl A 158 (Int32.toNatClampNeg (16 + z2)) ((tz_gl A 158 (Int32.toNatClampNeg (16 + z2))) + 1)) 158 (Int32.toNatClampNeg (24 + z2))) / 1000000000000))) 158 (Int32.toNatClampNeg (24 + z2))) - (tz_gl (tz_sl (tz_sl A 158 (Int32.toNatClampNeg (16 + z2)) ((tz_gl A 158 (Int32.toNatClampNeg (16 + z2))) + 1)) 158 (Int32.toNatClampNeg (32 + z2)) ((((tz_gl (tz_sl A 158 (Int32.toNatClampNeg (16 + z2)) ((tz_gl A 158 (Int32.toNatClampNeg (16 + z2))) + 1)) 158 (Int32.toNatClampNeg (32 + z2))) - (tz_gl (tz_sl A 158 (Int32.toNatClampNeg (16 + z2)) ((tz_gl A 158 (Int32.toNatClampNeg (16 + z2))) + 1)) 158 (Int32.toNatClampNeg (32 + z2))) / 1000000000000 * 1000000000000) * 10000) + ((tz_gl (tz_sl A 158 (Int32.toNatClampNeg (16 + z2)) ((tz_gl A 158 (Int32.toNatClampNeg (16 + z2))) + 1)) 158 (Int32.toNatClampNeg (24 + z2))) / 1000000000000))) 158 (Int32.toNatClampNeg (24 + z2))) / 1000000000000 * 1000000000000) * 10000) + (Int32.toInt64 z3))) 157 6) + 1))
  else
    q_L_hears_98 z2 z3 z4 z5 (tz_s (tz_s (tz_sl (tz_sl (tz_sl A 158 (Int32.toNatClampNeg (16 + z2)) ((tz_gl A 158 (Int32.toNatClampNeg (16 + z2))) + 1)) 158 (Int32.toNatClampNeg (32 + z2)) ((((tz_gl (tz_sl A 158 (Int32.toNatClampNeg (16 + z2)) ((tz_gl A 158 (Int32.toNatClampNeg (16 + z2))) + 1)) 158 (Int32.toNatClampNeg (32 + z2))) - (tz_gl (tz_sl A 158 (Int32.toNatClampNeg (16 + z2)) ((tz_gl A 158 (Int32.toNatClampNeg (16 + z2))) + 1)) 158 (Int32.toNatClampNeg (32 + z2))) / 1000000000000 * 1000000000000) * 10000) + ((tz_gl (tz_sl A 158 (Int32.toNatClampNeg (16 + z2)) ((tz_gl A 158 (Int32.toNatClampNeg (16 + z2))) + 1)) 158 (Int32.toNatClampNeg (24 + z2))) / 1000000000000))) 158 (Int32.toNatClampNeg (24 + z2)) ((((tz_gl (tz_sl (tz_sl A 158 (Int32.toNatClampNeg (16 + z2)) ((tz_gl A 158 (Int32.toNatClampNeg (16 + z2))) + 1)) 158 (Int32.toNatClampNeg (32 + z2)) ((((tz_gl (tz_sl A 158 (Int32.toNatClampNeg (16 + z2)) ((tz_gl A 158 (Int32.toNatClampNeg (16 + z2))) + 1)) 158 (Int32.toNatClampNeg (32 + z2))) - (tz_gl (tz_sl A 158 (Int32.toNatClampNeg (16 + z2)) ((tz_gl A 158 (Int32.toNatClampNeg (16 + z2))) + 1)) 158 (Int32.toNatClampNeg (32 + z2))) / 1000000000000 * 1000000000000) * 10000) + ((tz_gl (tz_sl A 158 (Int32.toNatClampNeg (16 + z2)) ((tz_gl A 158 (Int32.toNatClampNeg (16 + z2))) + 1)) 158 (Int32.toNatClampNeg (24 + z2))) / 1000000000000))) 158 (Int32.toNatClampNeg (24 + z2))) - (tz_gl (tz_sl (tz_sl A 158 (Int32.toNatClampNeg (16 + z2)) ((tz_gl A 158 (Int32.toNatClampNeg (16 + z2))) + 1)) 158 (Int32.toNatClampNeg (32 + z2)) ((((tz_gl (tz_sl A 158 (Int32.toNatClampNeg (16 + z2)) ((tz_gl A 158 (Int32.toNatClampNeg (16 + z2))) + 1)) 158 (Int32.toNatClampNeg (32 + z2))) - (tz_gl (tz_sl A 158 (Int32.toNatClampNeg (16 + z2)) ((tz_gl A 158 (Int32.toNatClampNeg (16 + z2))) + 1)) 158 (Int32.toNatClampNeg (32 + z2))) / 1000000000000 * 1000000000000) * 10000) + ((tz_gl (tz_sl A 158 (Int32.toNatClampNeg (16 + z2)) ((tz_gl A 158 (Int32.toNatClampNeg (16 + z2))) + 1)) 158 (Int32.toNatClampNeg (24 + z2))) / 1000000000000))) 158 (Int32.toNatClampNeg (24 + z2))) / 1000000000000 * 1000000000000) * 10000) + (Int32.toInt64 z3))) 157 6 ((tz_g (tz_sl (tz_sl (tz_sl A 158 (Int32.toNatClampNeg (16 + z2)) ((tz_gl A 158 (Int32.toNatClampNeg (16 + z2))) + 1)) 158 (Int32.toNatClampNeg (32 + z2)) ((((tz_gl (tz_sl A 158 (Int32.toNatClampNeg (16 + z2)) ((tz_gl A 158 (Int32.toNatClampNeg (16 + z2))) + 1)) 158 (Int32.toNatClampNeg (32 + z2))) - (tz_gl (tz_sl A 158 (Int32.toNatClampNeg (16 + z2)) ((tz_gl A 158 (Int32.toNatClampNeg (16 + z2))) + 1)) 158 (Int32.toNatClampNeg (32 + z2))) / 1000000000000 * 1000000000000) * 10000) + ((tz_gl (tz_sl A 158 (Int32.toNatClampNeg (16 + z2)) ((tz_gl A 158 (Int32.toNatClampNeg (16 + z2))) + 1)) 158 (Int32.toNatClampNeg (24 + z2))) / 1000000000000))) 158 (Int32.toNatClampNeg (24 + z2)) ((((tz_gl (tz_sl (tz_sl A 158 (Int32.toNatClampNeg (16 + z2)) ((tz_gl A 158 (Int32.toNatClampNeg (16 + z2))) + 1)) 158 (Int32.toNatClampNeg (32 + z2)) ((((tz_gl (tz_sl A 158 (Int32.toNatClampNeg (16 + z2)) ((tz_gl A 158 (Int32.toNatClampNeg (16 + z2))) + 1)) 158 (Int32.toNatClampNeg (32 + z2))) - (tz_gl (tz_sl A 158 (Int32.toNatClampNeg (16 + z2)) ((tz_gl A 158 (Int32.toNatClampNeg (16 + z2))) + 1)) 158 (Int32.toNatClampNeg (32 + z2))) / 1000000000000 * 1000000000000) * 10000) + ((tz_gl (tz_sl A 158 (Int32.toNatClampNeg (16 + z2)) ((tz_gl A 158 (Int32.toNatClampNeg (16 + z2))) + 1)) 158 (Int32.toNatClampNeg (24 + z2))) / 1000000000000))) 158 (Int32.toNatClampNeg (24 + z2))) - (tz_gl (tz_sl (tz_sl A 158 (Int32.toNatClampNeg (16 + z2)) ((tz_gl A 158 (Int32.toNatClampNeg (16 + z2))) + 1)) 158 (Int32.toNatClampNeg (32 + z2)) ((((tz_gl (tz_sl A 158 (Int32.toNatClampNeg (16 + z2)) ((tz_gl A 158 (Int32.toNatClampNeg (16 + z2))) + 1)) 158 (Int32.toNatClampNeg (32 + z2))) - (tz_gl (tz_sl A 158 (Int32.toNatClampNeg (16 + z2)) ((tz_gl A 158 (Int32.toNatClampNeg (16 + z2))) + 1)) 158 (Int32.toNatClampNeg (32 + z2))) / 1000000000000 * 1000000000000) * 10000) + ((tz_gl (tz_sl A 158 (Int32.toNatClampNeg (16 + z2)) ((tz_gl A 158 (Int32.toNatClampNeg (16 + z2))) + 1)) 158 (Int32.toNatClampNeg (24 + z2))) / 1000000000000))) 158 (Int32.toNatClampNeg (24 + z2))) / 1000000000000 * 1000000000000) * 10000) + (Int32.toInt64 z3))) 157 6) + 1)) 157 61 ((tz_g (tz_s (tz_sl (tz_sl (tz_sl A 158 (Int32.toNatClampNeg (16 + z2)) ((tz_gl A 158 (Int32.toNatClampNeg (16 + z2))) + 1)) 158 (Int32.toNatClampNeg (32 + z2)) ((((tz_gl (tz_sl A 158 (Int32.toNatClampNeg (16 + z2)) ((tz_gl A 158 (Int32.toNatClampNeg (16 + z2))) + 1)) 158 (Int32.toNatClampNeg (32 + z2))) - (tz_gl (tz_sl A 158 (Int32.toNatClampNeg (16 + z2)) ((tz_gl A 158 (Int32.toNatClampNeg (16 + z2))) + 1)) 158 (Int32.toNatClampNeg (32 + z2))) / 1000000000000 * 1000000000000) * 10000) + ((tz_gl (tz_sl A 158 (Int32.toNatClampNeg (16 + z2)) ((tz_gl A 158 (Int32.toNatClampNeg (16 + z2))) + 1)) 158 (Int32.toNatClampNeg (24 + z2))) / 1000000000000))) 158 (Int32.toNatClampNeg (24 + z2)) ((((tz_gl (tz_sl (tz_sl A 158 (Int32.toNatClampNeg (16 + z2)) ((tz_gl A 158 (Int32.toNatClampNeg (16 + z2))) + 1)) 158 (Int32.toNatClampNeg (32 + z2)) ((((tz_gl (tz_sl A 158 (Int32.toNatClampNeg (16 + z2)) ((tz_gl A 158 (Int32.toNatClampNeg (16 + z2))) + 1)) 158 (Int32.toNatClampNeg (32 + z2))) - (tz_gl (tz_sl A 158 (Int32.toNatClampNeg (16 + z2)) ((tz_gl A 158 (Int32.toNatClampNeg (16 + z2))) + 1)) 158 (Int32.toNatClampNeg (32 + z2))) / 1000000000000 * 1000000000000) * 10000) + ((tz_gl (tz_sl A 158 (Int32.toNatClampNeg (16 + z2)) ((tz_gl A 158 (Int32.toNatClampNeg (16 + z2))) + 1)) 158 (Int32.toNatClampNeg (24 + z2))) / 1000000000000))) 158 (Int32.toNatClampNeg (24 + z2))) - (tz_gl (tz_sl (tz_sl A 158 (Int32.toNatClampNeg (16 + z2)) ((tz_gl A 158 (Int32.toNatClampNeg (16 + z2))) + 1)) 158 (Int32.toNatClampNeg (32 + z2)) ((((tz_gl (tz_sl A 158 (Int32.toNatClampNeg (16 + z2)) ((tz_gl A 158 (Int32.toNatClampNeg (16 + z2))) + 1)) 158 (Int32.toNatClampNeg (32 + z2))) - (tz_gl (tz_sl A 158 (Int32.toNatClampNeg (16 + z2)) ((tz_gl A 158 (Int32.toNatClampNeg (16 + z2))) + 1)) 158 (Int32.toNatClampNeg (32 + z2))) / 1000000000000 * 1000000000000) * 10000) + ((tz_gl (tz_sl A 158 (Int32.toNatClampNeg (16 + z2)) ((tz_gl A 158 (Int32.toNatClampNeg (16 + z2))) + 1)) 158 (Int32.toNatClampNeg (24 + z2))) / 1000000000000))) 158 (Int32.toNatClampNeg (24 + z2))) / 1000000000000 * 1000000000000) * 10000) + (Int32.toInt64 z3))) 157 6 ((tz_g (tz_sl (tz_sl (tz_sl A 158 (Int32.toNatClampNeg (16 + z2)) ((tz_gl A 158 (Int32.toNatClampNeg (16 + z2))) + 1)) 158 (Int32.toNatClampNeg (32 + z2)) ((((tz_gl (tz_sl A 158 (Int32.toNatClampNeg (16 + z2)) ((tz_gl A 158 (Int32.toNatClampNeg (16 + z2))) + 1)) 158 (Int32.toNatClampNeg (32 + z2))) - (tz_gl (tz_sl A 158 (Int32.toNatClampNeg (16 + z2)) ((tz_gl A 158 (Int32.toNatClampNeg (16 + z2))) + 1)) 158 (Int32.toNatClampNeg (32 + z2))) / 1000000000000 * 1000000000000) * 10000) + ((tz_gl (tz_sl A 158 (Int32.toNatClampNeg (16 + z2)) ((tz_gl A 158 (Int32.toNatClampNeg (16 + z2))) + 1)) 158 (Int32.toNatClampNeg (24 + z2))) / 1000000000000))) 158 (Int32.toNatClampNeg (24 + z2)) ((((tz_gl (tz_sl (tz_sl A 158 (Int32.toNatClampNeg (16 + z2)) ((tz_gl A 158 (Int32.toNatClampNeg (16 + z2))) + 1)) 158 (Int32.toNatClampNeg (32 + z2)) ((((tz_gl (tz_sl A 158 (Int32.toNatClampNeg (16 + z2)) ((tz_gl A 158 (Int32.toNatClampNeg (16 + z2))) + 1)) 158 (Int32.toNatClampNeg (32 + z2))) - (tz_gl (tz_sl A 158 (Int32.toNatClampNeg (16 + z2)) ((tz_gl A 158 (Int32.toNatClampNeg (16 + z2))) + 1)) 158 (Int32.toNatClampNeg (32 + z2))) / 1000000000000 * 1000000000000) * 10000) + ((tz_gl (tz_sl A 158 (Int32.toNatClampNeg (16 + z2)) ((tz_gl A 158 (Int32.toNatClampNeg (16 + z2))) + 1)) 158 (Int32.toNatClampNeg (24 + z2))) / 1000000000000))) 158 (Int32.toNatClampNeg (24 + z2))) - (tz_gl (tz_sl (tz_sl A 158 (Int32.toNatClampNeg (16 + z2)) ((tz_gl A 158 (Int32.toNatClampNeg (16 + z2))) + 1)) 158 (Int32.toNatClampNeg (32 + z2)) ((((tz_gl (tz_sl A 158 (Int32.toNatClampNeg (16 + z2)) ((tz_gl A 158 (Int32.toNatClampNeg (16 + z2))) + 1)) 158 (Int32.toNatClampNeg (32 + z2))) - (tz_gl (tz_sl A 158 (Int32.toNatClampNeg (16 + z2)) ((tz_gl A 158 (Int32.toNatClampNeg (16 + z2))) + 1)) 158 (Int32.toNatClampNeg (32 + z2))) / 1000000000000 * 1000000000000) * 10000) + ((tz_gl (tz_sl A 158 (Int32.toNatClampNeg (16 + z2)) ((tz_gl A 158 (Int32.toNatClampNeg (16 + z2))) + 1)) 158 (Int32.toNatClampNeg (24 + z2))) / 1000000000000))) 158 (Int32.toNatClampNeg (24 + z2))) / 1000000000000 * 1000000000000) * 10000) + (Int32.toInt64 z3))) 157 6) + 1)) 157 61) + 1)) := by
  show tz_Go 130 3 [some (.ref 157), some (.ref 158), some (.int z2), some (.int z3), some (.int z4), some (.int z5)] [] A = _
  refine (tz_g_iload rfl (tz_inM rfl rfl rfl)).trans ?_
  refine (tz_g_iload rfl (tz_in0 rfl)).trans ?_
  refine (tz_g_ic_ge (t := 132) (by decide) (tz_in0 rfl)).trans ?_
  refine tz_cg ?_ ?_
  · skip
    exact tz_g_ret0 (tz_in0 rfl) rfl
  · skip
    refine (tz_g_aload_n rfl (tz_in0 rfl)).trans ?_
    refine (tz_g_bipush (v := 16) rfl (tz_in0 rfl)).trans ?_
    refine (tz_g_iload_n rfl (tz_in0 rfl)).trans ?_
    refine (tz_g_iadd (tz_in0 rfl)).trans ?_
    refine (tz_g_dup2a rfl rfl (tz_in0 rfl)).trans ?_
    refine tz_gB (c := A.1 ≤ 158) (fun q => tz_gx_laload rfl (tz_in0 rfl) q) (fun hB0 => ?_)
    refine (tz_g_lald (n := 40) (by exact tz_okC hB0 rfl) rfl (tz_in0 rfl)).trans ?_
    refine tz_cn1 ?_
    refine (tz_g_lconst (v := 1) rfl (tz_in0 rfl)).trans ?_
    refine (tz_g_ladd (tz_in0 rfl)).trans ?_
    refine (tz_g_last (n := 40) (by exact tz_okC hB0 rfl) rfl (tz_in0 rfl)).trans ?_
    refine tz_cn1 ?_
    refine (tz_g_aload_n rfl (tz_in0 rfl)).trans ?_
    refine (tz_g_bipush (v := 32) rfl (tz_in0 rfl)).trans ?_
    refine (tz_g_iload_n rfl (tz_in0 rfl)).trans ?_
    refine (tz_g_iadd (tz_in0 rfl)).trans ?_
    refine (tz_g_aload_n rfl (tz_in0 rfl)).trans ?_
    refine (tz_g_bipush (v := 32) rfl (tz_in0 rfl)).trans ?_
    refine (tz_g_iload_n rfl (tz_in0 rfl)).trans ?_
    refine (tz_g_iadd (tz_in0 rfl)).trans ?_
    refine (tz_g_lald (n := 40) (by exact tz_okC hB0 rfl) rfl (tz_in0 rfl)).trans ?_
    refine tz_cn1 ?_
    refine (tz_g_ldc2_w (v := 1000000000000) rfl rfl (tz_in0 rfl)).trans ?_
    refine (tz_g_lremK (by decide) (tz_in0 rfl)).trans ?_
    refine (tz_g_ldc2_w (v := 10000) rfl rfl (tz_in0 rfl)).trans ?_
    refine (tz_g_lmul (tz_in0 rfl)).trans ?_
    refine (tz_g_aload_n rfl (tz_in0 rfl)).trans ?_
    refine (tz_g_bipush (v := 24) rfl (tz_in0 rfl)).trans ?_
    refine (tz_g_iload_n rfl (tz_in0 rfl)).trans ?_
    refine (tz_g_iadd (tz_in0 rfl)).trans ?_
    refine (tz_g_lald (n := 40) (by exact tz_okC hB0 rfl) rfl (tz_in0 rfl)).trans ?_
    refine tz_cn1 ?_
    refine (tz_g_ldc2_w (v := 1000000000000) rfl rfl (tz_in0 rfl)).trans ?_
    refine (tz_g_ldivK (by decide) (tz_in0 rfl)).trans ?_
    refine (tz_g_ladd (tz_in0 rfl)).trans ?_
    refine (tz_g_last (n := 40) (by exact tz_okC hB0 rfl) rfl (tz_in0 rfl)).trans ?_
    refine tz_cn1 ?_
    refine (tz_g_aload_n rfl (tz_in0 rfl)).trans ?_
    refine (tz_g_bipush (v := 24) rfl (tz_in0 rfl)).trans ?_
    refine (tz_g_iload_n rfl (tz_in0 rfl)).trans ?_
    refine (tz_g_iadd (tz_in0 rfl)).trans ?_
    refine (tz_g_aload_n rfl (tz_in0 rfl)).trans ?_
    refine (tz_g_bipush (v := 24) rfl (tz_in0 rfl)).trans ?_
    refine (tz_g_iload_n rfl (tz_in0 rfl)).trans ?_
    refine (tz_g_iadd (tz_in0 rfl)).trans ?_
    refine (tz_g_lald (n := 40) (by exact tz_okC hB0 rfl) rfl (tz_in0 rfl)).trans ?_
    refine tz_cn1 ?_
    refine (tz_g_ldc2_w (v := 1000000000000) rfl rfl (tz_in0 rfl)).trans ?_
    refine (tz_g_lremK (by decide) (tz_in0 rfl)).trans ?_
    refine (tz_g_ldc2_w (v := 10000) rfl rfl (tz_in0 rfl)).trans ?_
    refine (tz_g_lmul (tz_in0 rfl)).trans ?_
    refine (tz_g_iload_n rfl (tz_in0 rfl)).trans ?_
    refine (tz_g_i2l (tz_in0 rfl)).trans ?_
    refine (tz_g_ladd (tz_in0 rfl)).trans ?_
    refine (tz_g_last (n := 40) (by exact tz_okC hB0 rfl) rfl (tz_in0 rfl)).trans ?_
    refine tz_cn1 ?_
    refine (tz_g_aload_n rfl (tz_in0 rfl)).trans ?_
    refine (tz_g_bipush (v := 6) rfl (tz_in0 rfl)).trans ?_
    refine (tz_g_dup2a rfl rfl (tz_in0 rfl)).trans ?_
    refine (tz_g_iald (n := 64) (by exact tz_okB (tz_leB hB0) rfl) rfl rfl (tz_in0 rfl)).trans ?_
    refine (if_neg (by decide)).trans ?_
    refine (tz_g_iconst (v := 1) rfl (tz_in0 rfl)).trans ?_
    refine (tz_g_iadd (tz_in0 rfl)).trans ?_
    refine (tz_g_iast (n := 64) (by exact tz_okB (tz_leB hB0) rfl) rfl rfl (tz_in0 rfl)).trans ?_
    refine (if_neg (by decide)).trans ?_
    refine (tz_g_iload_n rfl (tz_in0 rfl)).trans ?_
    refine (tz_g_aload_n rfl (tz_in0 rfl)).trans ?_
    refine (tz_g_bipush (v := 60) rfl (tz_in0 rfl)).trans ?_
    refine (tz_g_iald (n := 64) (by exact tz_okB (tz_leB hB0) rfl) rfl rfl (tz_in0 rfl)).trans ?_
    refine (if_neg (by decide)).trans ?_
    refine (tz_g_ic_ne (t := 98) (by decide) (tz_in0 rfl)).trans ?_
    refine tz_cg ?_ ?_
    · skip
      exact tz_Gm (L2 := [some (.ref 157), some (.ref 158), some (.int z2), some (.int z3), some (.int z4), some (.int z5)]) rfl rfl rfl rfl
    · skip
      refine (tz_g_aload_n rfl (tz_in0 rfl)).trans ?_
      refine (tz_g_bipush (v := 61) rfl (tz_in0 rfl)).trans ?_
      refine (tz_g_dup2a rfl rfl (tz_in0 rfl)).trans ?_
      refine (tz_g_iald (n := 64) (by exact tz_okB (tz_leB hB0) rfl) rfl rfl (tz_in0 rfl)).trans ?_
      refine (if_neg (by decide)).trans ?_
      refine (tz_g_iconst (v := 1) rfl (tz_in0 rfl)).trans ?_
      refine (tz_g_iadd (tz_in0 rfl)).trans ?_
      refine (tz_g_iast (n := 64) (by exact tz_okB (tz_leB hB0) rfl) rfl rfl (tz_in0 rfl)).trans ?_
      refine (if_neg (by decide)).trans ?_
      exact tz_Gm (L2 := [some (.ref 157), some (.ref 158), some (.int z2), some (.int z3), some (.int z4), some (.int z5)]) rfl rfl rfl rfl

theorem e_L_hears_98 (z2 : Int32) (z3 : Int32) (z4 : Int32) (z5 : Int32) (A : tz_Mem) : q_L_hears_98 z2 z3 z4 z5 A =
  if A.1 ≤ 157 then none else
if ¬ z3 = (tz_g A 157 62) then
  q_L_hears_126 z2 z3 z4 z5 A
else
  if (tz_g A 157 63) < 0 then
    q_L_hears_121 z2 z3 z4 z5 A
  else
    if (tz_g A 157 63) ≤ z2 then
      q_L_hears_126 z2 z3 z4 z5 A
    else
      q_L_hears_121 z2 z3 z4 z5 A := by
  show tz_Go 130 98 [some (.ref 157), some (.ref 158), some (.int z2), some (.int z3), some (.int z4), some (.int z5)] [] A = _
  refine (tz_g_iload_n rfl (tz_inM rfl rfl rfl)).trans ?_
  refine (tz_g_aload_n rfl (tz_in0 rfl)).trans ?_
  refine (tz_g_bipush (v := 62) rfl (tz_in0 rfl)).trans ?_
  refine tz_gB (c := A.1 ≤ 157) (fun q => tz_gx_iaload rfl (tz_in0 rfl) q) (fun hB1 => ?_)
  refine (tz_g_iald (n := 64) (by exact tz_okB hB1 rfl) rfl rfl (tz_in0 rfl)).trans ?_
  refine (if_neg (by decide)).trans ?_
  refine (tz_g_ic_ne (t := 126) (by decide) (tz_in0 rfl)).trans ?_
  refine tz_cg ?_ ?_
  · skip
    exact tz_Gm (L2 := [some (.ref 157), some (.ref 158), some (.int z2), some (.int z3), some (.int z4), some (.int z5)]) rfl rfl rfl rfl
  · skip
    refine (tz_g_aload_n rfl (tz_in0 rfl)).trans ?_
    refine (tz_g_bipush (v := 63) rfl (tz_in0 rfl)).trans ?_
    refine (tz_g_iald (n := 64) (by exact tz_okB hB1 rfl) rfl rfl (tz_in0 rfl)).trans ?_
    refine (if_neg (by decide)).trans ?_
    refine (tz_g_if_lt (t := 121) (by decide) (tz_in0 rfl)).trans ?_
    refine tz_cg ?_ ?_
    · skip
      exact tz_Gm (L2 := [some (.ref 157), some (.ref 158), some (.int z2), some (.int z3), some (.int z4), some (.int z5)]) rfl rfl rfl rfl
    · skip
      refine (tz_g_aload_n rfl (tz_in0 rfl)).trans ?_
      refine (tz_g_bipush (v := 63) rfl (tz_in0 rfl)).trans ?_
      refine (tz_g_iald (n := 64) (by exact tz_okB hB1 rfl) rfl rfl (tz_in0 rfl)).trans ?_
      refine (if_neg (by decide)).trans ?_
      refine (tz_g_iload_n rfl (tz_in0 rfl)).trans ?_
      refine (tz_g_ic_le (t := 126) (by decide) (tz_in0 rfl)).trans ?_
      refine tz_cg ?_ ?_
      · skip
        exact tz_Gm (L2 := [some (.ref 157), some (.ref 158), some (.int z2), some (.int z3), some (.int z4), some (.int z5)]) rfl rfl rfl rfl
      · skip
        exact tz_Gm (L2 := [some (.ref 157), some (.ref 158), some (.int z2), some (.int z3), some (.int z4), some (.int z5)]) rfl rfl rfl rfl

theorem e_L_hears_126 (z2 : Int32) (z3 : Int32) (z4 : Int32) (z5 : Int32) (A : tz_Mem) : q_L_hears_126 z2 z3 z4 z5 A =
  q_L_hears_3 z2 z3 z4 (z5 + 1) A := by
  show tz_Go 130 126 [some (.ref 157), some (.ref 158), some (.int z2), some (.int z3), some (.int z4), some (.int z5)] [] A = _
  refine (tz_g_iinc (v := 1) (L2 := [some (.ref 157), some (.ref 158), some (.int z2), some (.int z3), some (.int z4), some (.int (z5 + 1))]) rfl rfl rfl rfl (tz_inM rfl rfl rfl)).trans ?_
  refine (tz_g_goto (t := 3) (by decide) (tz_in0 rfl)).trans ?_
  exact tz_Gm (L2 := [some (.ref 157), some (.ref 158), some (.int z2), some (.int z3), some (.int z4), some (.int (z5 + 1))]) rfl rfl rfl rfl

theorem e_L_hears_121 (z2 : Int32) (z3 : Int32) (z4 : Int32) (z5 : Int32) (A : tz_Mem) : q_L_hears_121 z2 z3 z4 z5 A =
  if A.1 ≤ 157 then none else
q_L_hears_126 z2 z3 z4 z5 (tz_s A 157 63 z2) := by
  show tz_Go 130 121 [some (.ref 157), some (.ref 158), some (.int z2), some (.int z3), some (.int z4), some (.int z5)] [] A = _
  refine (tz_g_aload_n rfl (tz_inM rfl rfl rfl)).trans ?_
  refine (tz_g_bipush (v := 63) rfl (tz_in0 rfl)).trans ?_
  refine (tz_g_iload_n rfl (tz_in0 rfl)).trans ?_
  refine tz_gB (c := A.1 ≤ 157) (fun q => tz_gx_iastore rfl (tz_in0 rfl) q) (fun hB2 => ?_)
  refine (tz_g_iast (n := 64) (by exact tz_okB hB2 rfl) rfl rfl (tz_in0 rfl)).trans ?_
  refine (if_neg (by decide)).trans ?_
  exact tz_Gm (L2 := [some (.ref 157), some (.ref 158), some (.int z2), some (.int z3), some (.int z4), some (.int z5)]) rfl rfl rfl rfl

theorem e_X3_countKept (b : Nat) (x1 : Int32) (hb : tz_sky b) (A : tz_Mem) : f_X3_countKept b x1 A =
  if x1 < 0 ∨ 8 ≤ (Int32.toNatClampNeg x1) then none else
some (some (.int (if 8 < (tz_g A (b + 5) (Int32.toNatClampNeg x1)) then 8 else (tz_g A (b + 5) (Int32.toNatClampNeg x1)))), A) := by
  obtain rfl | rfl | rfl | rfl | rfl := hb
  all_goals
    refine (tz_Fe (L := [some (.ref _), some (.int x1)]) rfl).trans ?_
    refine (tz_g_aload_n rfl (tz_in0 rfl)).trans ?_
    refine (tz_g_getr (j := _) rfl rfl rfl rfl rfl (tz_in0 rfl)).trans ?_
    refine (tz_g_iload_n rfl (tz_in0 rfl)).trans ?_
    refine (tz_g_iald (n := 8) rfl rfl rfl (tz_in0 rfl)).trans ?_
    refine tz_cn1 ?_
    refine (tz_g_bipush (v := 8) rfl (tz_in0 rfl)).trans ?_
    refine (tz_g_min rfl rfl rfl (tz_in0 rfl)).trans ?_
    exact tz_g_ret1 (tz_in0 rfl) rfl

theorem e_J6_bitCount (x1 : Int32) (A : tz_Mem) : f_J6_bitCount x1 A =
  some (some (.int ((((((((x1 - ((Int32.toUInt32 x1 >>> (Int32.toUInt32 1 &&& Int32.toUInt32 31)).toInt32 &&& 1431655765)) &&& 858993459) + ((Int32.toUInt32 (x1 - ((Int32.toUInt32 x1 >>> (Int32.toUInt32 1 &&& Int32.toUInt32 31)).toInt32 &&& 1431655765)) >>> (Int32.toUInt32 2 &&& Int32.toUInt32 31)).toInt32 &&& 858993459)) + (Int32.toUInt32 (((x1 - ((Int32.toUInt32 x1 >>> (Int32.toUInt32 1 &&& Int32.toUInt32 31)).toInt32 &&& 1431655765)) &&& 858993459) + ((Int32.toUInt32 (x1 - ((Int32.toUInt32 x1 >>> (Int32.toUInt32 1 &&& Int32.toUInt32 31)).toInt32 &&& 1431655765)) >>> (Int32.toUInt32 2 &&& Int32.toUInt32 31)).toInt32 &&& 858993459)) >>> (Int32.toUInt32 4 &&& Int32.toUInt32 31)).toInt32) &&& 252645135) + (Int32.toUInt32 (((((x1 - ((Int32.toUInt32 x1 >>> (Int32.toUInt32 1 &&& Int32.toUInt32 31)).toInt32 &&& 1431655765)) &&& 858993459) + ((Int32.toUInt32 (x1 - ((Int32.toUInt32 x1 >>> (Int32.toUInt32 1 &&& Int32.toUInt32 31)).toInt32 &&& 1431655765)) >>> (Int32.toUInt32 2 &&& Int32.toUInt32 31)).toInt32 &&& 858993459)) + (Int32.toUInt32 (((x1 - ((Int32.toUInt32 x1 >>> (Int32.toUInt32 1 &&& Int32.toUInt32 31)).toInt32 &&& 1431655765)) &&& 858993459) + ((Int32.toUInt32 (x1 - ((Int32.toUInt32 x1 >>> (Int32.toUInt32 1 &&& Int32.toUInt32 31)).toInt32 &&& 1431655765)) >>> (Int32.toUInt32 2 &&& Int32.toUInt32 31)).toInt32 &&& 858993459)) >>> (Int32.toUInt32 4 &&& Int32.toUInt32 31)).toInt32) &&& 252645135) >>> (Int32.toUInt32 8 &&& Int32.toUInt32 31)).toInt32) + (Int32.toUInt32 ((((((x1 - ((Int32.toUInt32 x1 >>> (Int32.toUInt32 1 &&& Int32.toUInt32 31)).toInt32 &&& 1431655765)) &&& 858993459) + ((Int32.toUInt32 (x1 - ((Int32.toUInt32 x1 >>> (Int32.toUInt32 1 &&& Int32.toUInt32 31)).toInt32 &&& 1431655765)) >>> (Int32.toUInt32 2 &&& Int32.toUInt32 31)).toInt32 &&& 858993459)) + (Int32.toUInt32 (((x1 - ((Int32.toUInt32 x1 >>> (Int32.toUInt32 1 &&& Int32.toUInt32 31)).toInt32 &&& 1431655765)) &&& 858993459) + ((Int32.toUInt32 (x1 - ((Int32.toUInt32 x1 >>> (Int32.toUInt32 1 &&& Int32.toUInt32 31)).toInt32 &&& 1431655765)) >>> (Int32.toUInt32 2 &&& Int32.toUInt32 31)).toInt32 &&& 858993459)) >>> (Int32.toUInt32 4 &&& Int32.toUInt32 31)).toInt32) &&& 252645135) + (Int32.toUInt32 (((((x1 - ((Int32.toUInt32 x1 >>> (Int32.toUInt32 1 &&& Int32.toUInt32 31)).toInt32 &&& 1431655765)) &&& 858993459) + ((Int32.toUInt32 (x1 - ((Int32.toUInt32 x1 >>> (Int32.toUInt32 1 &&& Int32.toUInt32 31)).toInt32 &&& 1431655765)) >>> (Int32.toUInt32 2 &&& Int32.toUInt32 31)).toInt32 &&& 858993459)) + (Int32.toUInt32 (((x1 - ((Int32.toUInt32 x1 >>> (Int32.toUInt32 1 &&& Int32.toUInt32 31)).toInt32 &&& 1431655765)) &&& 858993459) + ((Int32.toUInt32 (x1 - ((Int32.toUInt32 x1 >>> (Int32.toUInt32 1 &&& Int32.toUInt32 31)).toInt32 &&& 1431655765)) >>> (Int32.toUInt32 2 &&& Int32.toUInt32 31)).toInt32 &&& 858993459)) >>> (Int32.toUInt32 4 &&& Int32.toUInt32 31)).toInt32) &&& 252645135) >>> (Int32.toUInt32 8 &&& Int32.toUInt32 31)).toInt32) >>> (Int32.toUInt32 16 &&& Int32.toUInt32 31)).toInt32) &&& 63)), A) := by
  refine (tz_Fe (L := [some (.int x1)]) rfl).trans ?_
  refine (tz_g_iload_n rfl (tz_in0 rfl)).trans ?_
  refine (tz_g_iload_n rfl (tz_in0 rfl)).trans ?_
  refine (tz_g_iconst (v := 1) rfl (tz_in0 rfl)).trans ?_
  refine (tz_g_iushr (tz_in0 rfl)).trans ?_
  refine (tz_g_ldc_w (v := 1431655765) rfl rfl (tz_in0 rfl)).trans ?_
  refine (tz_g_iand (tz_in0 rfl)).trans ?_
  refine (tz_g_isub (tz_in0 rfl)).trans ?_
  refine (tz_g_istore_n (L2 := [some (.int (x1 - ((Int32.toUInt32 x1 >>> (Int32.toUInt32 1 &&& Int32.toUInt32 31)).toInt32 &&& 1431655765)))]) rfl rfl (tz_in0 rfl)).trans ?_
  refine (tz_g_iload_n rfl (tz_in0 rfl)).trans ?_
  refine (tz_g_ldc_w (v := 858993459) rfl rfl (tz_in0 rfl)).trans ?_
  refine (tz_g_iand (tz_in0 rfl)).trans ?_
  refine (tz_g_iload_n rfl (tz_in0 rfl)).trans ?_
  refine (tz_g_iconst (v := 2) rfl (tz_in0 rfl)).trans ?_
  refine (tz_g_iushr (tz_in0 rfl)).trans ?_
  refine (tz_g_ldc_w (v := 858993459) rfl rfl (tz_in0 rfl)).trans ?_
  refine (tz_g_iand (tz_in0 rfl)).trans ?_
  refine (tz_g_iadd (tz_in0 rfl)).trans ?_
  refine (tz_g_istore_n (L2 := [some (.int (((x1 - ((Int32.toUInt32 x1 >>> (Int32.toUInt32 1 &&& Int32.toUInt32 31)).toInt32 &&& 1431655765)) &&& 858993459) + ((Int32.toUInt32 (x1 - ((Int32.toUInt32 x1 >>> (Int32.toUInt32 1 &&& Int32.toUInt32 31)).toInt32 &&& 1431655765)) >>> (Int32.toUInt32 2 &&& Int32.toUInt32 31)).toInt32 &&& 858993459)))]) rfl rfl (tz_in0 rfl)).trans ?_
  refine (tz_g_iload_n rfl (tz_in0 rfl)).trans ?_
  refine (tz_g_iload_n rfl (tz_in0 rfl)).trans ?_
  refine (tz_g_iconst (v := 4) rfl (tz_in0 rfl)).trans ?_
  refine (tz_g_iushr (tz_in0 rfl)).trans ?_
  refine (tz_g_iadd (tz_in0 rfl)).trans ?_
  refine (tz_g_ldc_w (v := 252645135) rfl rfl (tz_in0 rfl)).trans ?_
  refine (tz_g_iand (tz_in0 rfl)).trans ?_
  refine (tz_g_istore_n (L2 := [some (.int (((((x1 - ((Int32.toUInt32 x1 >>> (Int32.toUInt32 1 &&& Int32.toUInt32 31)).toInt32 &&& 1431655765)) &&& 858993459) + ((Int32.toUInt32 (x1 - ((Int32.toUInt32 x1 >>> (Int32.toUInt32 1 &&& Int32.toUInt32 31)).toInt32 &&& 1431655765)) >>> (Int32.toUInt32 2 &&& Int32.toUInt32 31)).toInt32 &&& 858993459)) + (Int32.toUInt32 (((x1 - ((Int32.toUInt32 x1 >>> (Int32.toUInt32 1 &&& Int32.toUInt32 31)).toInt32 &&& 1431655765)) &&& 858993459) + ((Int32.toUInt32 (x1 - ((Int32.toUInt32 x1 >>> (Int32.toUInt32 1 &&& Int32.toUInt32 31)).toInt32 &&& 1431655765)) >>> (Int32.toUInt32 2 &&& Int32.toUInt32 31)).toInt32 &&& 858993459)) >>> (Int32.toUInt32 4 &&& Int32.toUInt32 31)).toInt32) &&& 252645135))]) rfl rfl (tz_in0 rfl)).trans ?_
  refine (tz_g_iload_n rfl (tz_in0 rfl)).trans ?_
  refine (tz_g_iload_n rfl (tz_in0 rfl)).trans ?_
  refine (tz_g_bipush (v := 8) rfl (tz_in0 rfl)).trans ?_
  refine (tz_g_iushr (tz_in0 rfl)).trans ?_
  refine (tz_g_iadd (tz_in0 rfl)).trans ?_
  refine (tz_g_istore_n (L2 := [some (.int ((((((x1 - ((Int32.toUInt32 x1 >>> (Int32.toUInt32 1 &&& Int32.toUInt32 31)).toInt32 &&& 1431655765)) &&& 858993459) + ((Int32.toUInt32 (x1 - ((Int32.toUInt32 x1 >>> (Int32.toUInt32 1 &&& Int32.toUInt32 31)).toInt32 &&& 1431655765)) >>> (Int32.toUInt32 2 &&& Int32.toUInt32 31)).toInt32 &&& 858993459)) + (Int32.toUInt32 (((x1 - ((Int32.toUInt32 x1 >>> (Int32.toUInt32 1 &&& Int32.toUInt32 31)).toInt32 &&& 1431655765)) &&& 858993459) + ((Int32.toUInt32 (x1 - ((Int32.toUInt32 x1 >>> (Int32.toUInt32 1 &&& Int32.toUInt32 31)).toInt32 &&& 1431655765)) >>> (Int32.toUInt32 2 &&& Int32.toUInt32 31)).toInt32 &&& 858993459)) >>> (Int32.toUInt32 4 &&& Int32.toUInt32 31)).toInt32) &&& 252645135) + (Int32.toUInt32 (((((x1 - ((Int32.toUInt32 x1 >>> (Int32.toUInt32 1 &&& Int32.toUInt32 31)).toInt32 &&& 1431655765)) &&& 858993459) + ((Int32.toUInt32 (x1 - ((Int32.toUInt32 x1 >>> (Int32.toUInt32 1 &&& Int32.toUInt32 31)).toInt32 &&& 1431655765)) >>> (Int32.toUInt32 2 &&& Int32.toUInt32 31)).toInt32 &&& 858993459)) + (Int32.toUInt32 (((x1 - ((Int32.toUInt32 x1 >>> (Int32.toUInt32 1 &&& Int32.toUInt32 31)).toInt32 &&& 1431655765)) &&& 858993459) + ((Int32.toUInt32 (x1 - ((Int32.toUInt32 x1 >>> (Int32.toUInt32 1 &&& Int32.toUInt32 31)).toInt32 &&& 1431655765)) >>> (Int32.toUInt32 2 &&& Int32.toUInt32 31)).toInt32 &&& 858993459)) >>> (Int32.toUInt32 4 &&& Int32.toUInt32 31)).toInt32) &&& 252645135) >>> (Int32.toUInt32 8 &&& Int32.toUInt32 31)).toInt32))]) rfl rfl (tz_in0 rfl)).trans ?_
  refine (tz_g_iload_n rfl (tz_in0 rfl)).trans ?_
  refine (tz_g_iload_n rfl (tz_in0 rfl)).trans ?_
  refine (tz_g_bipush (v := 16) rfl (tz_in0 rfl)).trans ?_
  refine (tz_g_iushr (tz_in0 rfl)).trans ?_
  refine (tz_g_iadd (tz_in0 rfl)).trans ?_
  refine (tz_g_istore_n (L2 := [some (.int (((((((x1 - ((Int32.toUInt32 x1 >>> (Int32.toUInt32 1 &&& Int32.toUInt32 31)).toInt32 &&& 1431655765)) &&& 858993459) + ((Int32.toUInt32 (x1 - ((Int32.toUInt32 x1 >>> (Int32.toUInt32 1 &&& Int32.toUInt32 31)).toInt32 &&& 1431655765)) >>> (Int32.toUInt32 2 &&& Int32.toUInt32 31)).toInt32 &&& 858993459)) + (Int32.toUInt32 (((x1 - ((Int32.toUInt32 x1 >>> (Int32.toUInt32 1 &&& Int32.toUInt32 31)).toInt32 &&& 1431655765)) &&& 858993459) + ((Int32.toUInt32 (x1 - ((Int32.toUInt32 x1 >>> (Int32.toUInt32 1 &&& Int32.toUInt32 31)).toInt32 &&& 1431655765)) >>> (Int32.toUInt32 2 &&& Int32.toUInt32 31)).toInt32 &&& 858993459)) >>> (Int32.toUInt32 4 &&& Int32.toUInt32 31)).toInt32) &&& 252645135) + (Int32.toUInt32 (((((x1 - ((Int32.toUInt32 x1 >>> (Int32.toUInt32 1 &&& Int32.toUInt32 31)).toInt32 &&& 1431655765)) &&& 858993459) + ((Int32.toUInt32 (x1 - ((Int32.toUInt32 x1 >>> (Int32.toUInt32 1 &&& Int32.toUInt32 31)).toInt32 &&& 1431655765)) >>> (Int32.toUInt32 2 &&& Int32.toUInt32 31)).toInt32 &&& 858993459)) + (Int32.toUInt32 (((x1 - ((Int32.toUInt32 x1 >>> (Int32.toUInt32 1 &&& Int32.toUInt32 31)).toInt32 &&& 1431655765)) &&& 858993459) + ((Int32.toUInt32 (x1 - ((Int32.toUInt32 x1 >>> (Int32.toUInt32 1 &&& Int32.toUInt32 31)).toInt32 &&& 1431655765)) >>> (Int32.toUInt32 2 &&& Int32.toUInt32 31)).toInt32 &&& 858993459)) >>> (Int32.toUInt32 4 &&& Int32.toUInt32 31)).toInt32) &&& 252645135) >>> (Int32.toUInt32 8 &&& Int32.toUInt32 31)).toInt32) + (Int32.toUInt32 ((((((x1 - ((Int32.toUInt32 x1 >>> (Int32.toUInt32 1 &&& Int32.toUInt32 31)).toInt32 &&& 1431655765)) &&& 858993459) + ((Int32.toUInt32 (x1 - ((Int32.toUInt32 x1 >>> (Int32.toUInt32 1 &&& Int32.toUInt32 31)).toInt32 &&& 1431655765)) >>> (Int32.toUInt32 2 &&& Int32.toUInt32 31)).toInt32 &&& 858993459)) + (Int32.toUInt32 (((x1 - ((Int32.toUInt32 x1 >>> (Int32.toUInt32 1 &&& Int32.toUInt32 31)).toInt32 &&& 1431655765)) &&& 858993459) + ((Int32.toUInt32 (x1 - ((Int32.toUInt32 x1 >>> (Int32.toUInt32 1 &&& Int32.toUInt32 31)).toInt32 &&& 1431655765)) >>> (Int32.toUInt32 2 &&& Int32.toUInt32 31)).toInt32 &&& 858993459)) >>> (Int32.toUInt32 4 &&& Int32.toUInt32 31)).toInt32) &&& 252645135) + (Int32.toUInt32 (((((x1 - ((Int32.toUInt32 x1 >>> (Int32.toUInt32 1 &&& Int32.toUInt32 31)).toInt32 &&& 1431655765)) &&& 858993459) + ((Int32.toUInt32 (x1 - ((Int32.toUInt32 x1 >>> (Int32.toUInt32 1 &&& Int32.toUInt32 31)).toInt32 &&& 1431655765)) >>> (Int32.toUInt32 2 &&& Int32.toUInt32 31)).toInt32 &&& 858993459)) + (Int32.toUInt32 (((x1 - ((Int32.toUInt32 x1 >>> (Int32.toUInt32 1 &&& Int32.toUInt32 31)).toInt32 &&& 1431655765)) &&& 858993459) + ((Int32.toUInt32 (x1 - ((Int32.toUInt32 x1 >>> (Int32.toUInt32 1 &&& Int32.toUInt32 31)).toInt32 &&& 1431655765)) >>> (Int32.toUInt32 2 &&& Int32.toUInt32 31)).toInt32 &&& 858993459)) >>> (Int32.toUInt32 4 &&& Int32.toUInt32 31)).toInt32) &&& 252645135) >>> (Int32.toUInt32 8 &&& Int32.toUInt32 31)).toInt32) >>> (Int32.toUInt32 16 &&& Int32.toUInt32 31)).toInt32))]) rfl rfl (tz_in0 rfl)).trans ?_
  refine (tz_g_iload_n rfl (tz_in0 rfl)).trans ?_
  refine (tz_g_bipush (v := 63) rfl (tz_in0 rfl)).trans ?_
  refine (tz_g_iand (tz_in0 rfl)).trans ?_
  exact tz_g_ret1 (tz_in0 rfl) rfl

theorem e_X2_listenFor (x1 : Int32) (A : tz_Mem) : f_X2_listenFor x1 A =
  some (none, (tz_s (tz_s A 150 1 x1) 150 0 (-1))) := by
  refine (tz_Fe (L := [some (.ref 150), some (.int x1)]) rfl).trans ?_
  refine (tz_g_aload_n rfl (tz_in0 rfl)).trans ?_
  refine (tz_g_iload_n rfl (tz_in0 rfl)).trans ?_
  refine (tz_g_puti rfl rfl rfl (tz_in0 rfl)).trans ?_
  refine (tz_g_aload_n rfl (tz_in0 rfl)).trans ?_
  refine (tz_g_iconst (v := (-1)) rfl (tz_in0 rfl)).trans ?_
  refine (tz_g_puti rfl rfl rfl (tz_in0 rfl)).trans ?_
  exact tz_g_ret0 (tz_in0 rfl) rfl

theorem e_X8_putRow (x1 : Int32) (x2 : Int32) (x3 : Int32) (A : tz_Mem) : f_X8_putRow x1 x2 x3 A =
  if x1 < 0 ∨ 8 ≤ (Int32.toNatClampNeg x1) then none else
if x1 < 0 ∨ 8 ≤ (Int32.toNatClampNeg x1) then none else
if x1 < 0 ∨ 8 ≤ (Int32.toNatClampNeg x1) then none else
tz_bV (f_J7_fill_d0a16 (22 + (Int32.toNatClampNeg x1)) 0 (tz_s (tz_s A 19 (Int32.toNatClampNeg x1) (100 + x2)) 20 (Int32.toNatClampNeg x1) x3)) (fun A1 =>
some (none, A1)) := by
  refine (tz_Fe (L := [some (.ref 18), some (.int x1), some (.int x2), some (.int x3)]) rfl).trans ?_
  refine (tz_g_aload_n rfl (tz_in0 rfl)).trans ?_
  refine (tz_g_getr (j := 19) rfl rfl rfl rfl rfl (tz_in0 rfl)).trans ?_
  refine (tz_g_iload_n rfl (tz_in0 rfl)).trans ?_
  refine (tz_g_bipush (v := 100) rfl (tz_in0 rfl)).trans ?_
  refine (tz_g_iload_n rfl (tz_in0 rfl)).trans ?_
  refine (tz_g_iadd (tz_in0 rfl)).trans ?_
  refine (tz_g_iast (n := 8) rfl rfl rfl (tz_in0 rfl)).trans ?_
  refine tz_cn1 ?_
  refine (tz_g_aload_n rfl (tz_in0 rfl)).trans ?_
  refine (tz_g_getr (j := 20) rfl rfl rfl rfl rfl (tz_in0 rfl)).trans ?_
  refine (tz_g_iload_n rfl (tz_in0 rfl)).trans ?_
  refine (tz_g_iload_n rfl (tz_in0 rfl)).trans ?_
  refine (tz_g_iast (n := 8) rfl rfl rfl (tz_in0 rfl)).trans ?_
  refine tz_cn1 ?_
  refine (tz_g_aload_n rfl (tz_in0 rfl)).trans ?_
  refine (tz_g_getr (j := 21) rfl rfl rfl rfl rfl (tz_in0 rfl)).trans ?_
  refine (tz_g_iload_n rfl (tz_in0 rfl)).trans ?_
  refine (tz_g_aald (n := 8) rfl rfl (tz_in0 rfl)).trans ?_
  refine tz_cnh (fun h_0 => ?_)
  refine (tz_g_lconst (v := 0) rfl (tz_in0 rfl)).trans ?_
  refine (tz_g_cs2V (m2 := 17) (rc := 0) rfl rfl rfl rfl rfl rfl (by decide) (tz_in0 rfl)).trans ?_
  refine tz_jV (fun A1 => ?_)
  exact tz_g_ret0 (tz_in0 rfl) rfl

theorem e_X8_refusalOfRow (x1 : Int32) (A : tz_Mem) : f_X8_refusalOfRow x1 A =
  tz_bI (f_X8_has x1 A) (fun y1 A1 =>
if ¬ y1 = 0 then
  tz_bI (f_X8_holdsRow x1 A1) (fun y2 A2 =>
  if y2 = 0 then
    if x1 < 0 ∨ 8 ≤ (Int32.toNatClampNeg x1) then none else
    if ¬ (tz_g A2 19 (Int32.toNatClampNeg x1)) = (-1) then
      some (some (.int (-2)), A2)
    else
      some (some (.int (-3)), A2)
  else
    some (some (.int 0), A2))
else
  some (some (.int (-1)), A1)) := by
  refine (tz_Fe (L := [some (.ref 18), some (.int x1)]) rfl).trans ?_
  refine (tz_g_aload_n rfl (tz_in0 rfl)).trans ?_
  refine (tz_g_iload_n rfl (tz_in0 rfl)).trans ?_
  refine (tz_g_cv1I (m2 := 14) (rc := 4) rfl rfl rfl rfl rfl rfl (by decide) (tz_in0 rfl)).trans ?_
  refine tz_jI (fun y1 A1 => ?_)
  refine (tz_g_if_ne (t := 10) (by decide) (tz_in0 rfl)).trans ?_
  refine tz_cg ?_ ?_
  · skip
    refine (tz_g_aload_n rfl (tz_in0 rfl)).trans ?_
    refine (tz_g_iload_n rfl (tz_in0 rfl)).trans ?_
    refine (tz_g_cv1I (m2 := 20) (rc := 4) rfl rfl rfl rfl rfl rfl (by decide) (tz_in0 rfl)).trans ?_
    refine tz_jI (fun y2 A2 => ?_)
    refine (tz_g_if_eq (t := 20) (by decide) (tz_in0 rfl)).trans ?_
    refine tz_cg ?_ ?_
    · skip
      refine (tz_g_aload_n rfl (tz_in0 rfl)).trans ?_
      refine (tz_g_getr (j := 19) rfl rfl rfl rfl rfl (tz_in0 rfl)).trans ?_
      refine (tz_g_iload_n rfl (tz_in0 rfl)).trans ?_
      refine (tz_g_iald (n := 8) rfl rfl rfl (tz_in0 rfl)).trans ?_
      refine tz_cn1 ?_
      refine (tz_g_iconst (v := (-1)) rfl (tz_in0 rfl)).trans ?_
      refine (tz_g_ic_ne (t := 35) (by decide) (tz_in0 rfl)).trans ?_
      refine tz_cg ?_ ?_
      · skip
        refine (tz_g_bipush (v := (-2)) rfl (tz_in0 rfl)).trans ?_
        exact tz_g_ret1 (tz_in0 rfl) rfl
      · skip
        refine (tz_g_bipush (v := (-3)) rfl (tz_in0 rfl)).trans ?_
        refine (tz_g_goto (t := 37) (by decide) (tz_in0 rfl)).trans ?_
        exact tz_g_ret1 (tz_in0 rfl) rfl
    · skip
      refine (tz_g_iconst (v := 0) rfl (tz_in0 rfl)).trans ?_
      exact tz_g_ret1 (tz_in0 rfl) rfl
  · skip
    refine (tz_g_iconst (v := (-1)) rfl (tz_in0 rfl)).trans ?_
    exact tz_g_ret1 (tz_in0 rfl) rfl

theorem e_X8_hasElement (x1 : Int32) (x2 : Int32) (A : tz_Mem) : f_X8_hasElement x1 x2 A =
  tz_bI (f_X8_has x1 A) (fun y1 A1 =>
if y1 = 0 then
  some (some (.int 0), A1)
else
  tz_bI (f_X8_holdsRow x1 A1) (fun y2 A2 =>
  if y2 = 0 then
    some (some (.int 0), A2)
  else
    if x2 < 0 then
      some (some (.int 0), A2)
    else
      if x1 < 0 ∨ 8 ≤ (Int32.toNatClampNeg x1) then none else
      if (tz_g A2 20 (Int32.toNatClampNeg x1)) ≤ x2 then
        some (some (.int 0), A2)
      else
        some (some (.int 1), A2))) := by
  refine (tz_Fe (L := [some (.ref 18), some (.int x1), some (.int x2)]) rfl).trans ?_
  refine (tz_g_aload_n rfl (tz_in0 rfl)).trans ?_
  refine (tz_g_iload_n rfl (tz_in0 rfl)).trans ?_
  refine (tz_g_cv1I (m2 := 14) (rc := 4) rfl rfl rfl rfl rfl rfl (by decide) (tz_in0 rfl)).trans ?_
  refine tz_jI (fun y1 A1 => ?_)
  refine (tz_g_if_eq (t := 34) (by decide) (tz_in0 rfl)).trans ?_
  refine tz_cg ?_ ?_
  · skip
    refine (tz_g_iconst (v := 0) rfl (tz_in0 rfl)).trans ?_
    exact tz_g_ret4K (by decide) (tz_in0 rfl) rfl
  · skip
    refine (tz_g_aload_n rfl (tz_in0 rfl)).trans ?_
    refine (tz_g_iload_n rfl (tz_in0 rfl)).trans ?_
    refine (tz_g_cv1I (m2 := 20) (rc := 4) rfl rfl rfl rfl rfl rfl (by decide) (tz_in0 rfl)).trans ?_
    refine tz_jI (fun y2 A2 => ?_)
    refine (tz_g_if_eq (t := 34) (by decide) (tz_in0 rfl)).trans ?_
    refine tz_cg ?_ ?_
    · skip
      refine (tz_g_iconst (v := 0) rfl (tz_in0 rfl)).trans ?_
      exact tz_g_ret4K (by decide) (tz_in0 rfl) rfl
    · skip
      refine (tz_g_iload_n rfl (tz_in0 rfl)).trans ?_
      refine (tz_g_if_lt (t := 34) (by decide) (tz_in0 rfl)).trans ?_
      refine tz_cg ?_ ?_
      · skip
        refine (tz_g_iconst (v := 0) rfl (tz_in0 rfl)).trans ?_
        exact tz_g_ret4K (by decide) (tz_in0 rfl) rfl
      · skip
        refine (tz_g_iload_n rfl (tz_in0 rfl)).trans ?_
        refine (tz_g_aload_n rfl (tz_in0 rfl)).trans ?_
        refine (tz_g_getr (j := 20) rfl rfl rfl rfl rfl (tz_in0 rfl)).trans ?_
        refine (tz_g_iload_n rfl (tz_in0 rfl)).trans ?_
        refine (tz_g_iald (n := 8) rfl rfl rfl (tz_in0 rfl)).trans ?_
        refine tz_cn1 ?_
        refine (tz_g_ic_ge (t := 34) (by decide) (tz_in0 rfl)).trans ?_
        refine tz_cg ?_ ?_
        · skip
          refine (tz_g_iconst (v := 0) rfl (tz_in0 rfl)).trans ?_
          exact tz_g_ret4K (by decide) (tz_in0 rfl) rfl
        · skip
          refine (tz_g_iconst (v := 1) rfl (tz_in0 rfl)).trans ?_
          refine (tz_g_goto (t := 35) (by decide) (tz_in0 rfl)).trans ?_
          exact tz_g_ret4K (by decide) (tz_in0 rfl) rfl

theorem e_X11_show (x1 : Int32) (x2 : Int32) (A : tz_Mem) : f_X11_show x1 x2 A =
  tz_bI (f_X8_has x1 A) (fun y1 A1 =>
if y1 = 0 then
  tz_bI (f_X11_refuse (-1) A1) (fun y2 A2 =>
  some (some (.int y2), A2))
else
  if x2 = (-1) then
    if x1 < 0 ∨ 8 ≤ (Int32.toNatClampNeg x1) then none else
    if ¬ x2 = (-1) then
      some (some (.int 1), (tz_s A1 19 (Int32.toNatClampNeg x1) x2))
    else
      some (some (.int 0), (tz_s A1 19 (Int32.toNatClampNeg x1) x2))
  else
    tz_bI (f_X3_has 30 x2 A1) (fun y2 A2 =>
    if ¬ y2 = 0 then
      if x1 < 0 ∨ 8 ≤ (Int32.toNatClampNeg x1) then none else
      if ¬ x2 = (-1) then
        some (some (.int 1), (tz_s A2 19 (Int32.toNatClampNeg x1) x2))
      else
        some (some (.int 0), (tz_s A2 19 (Int32.toNatClampNeg x1) x2))
    else
      tz_bI (f_X11_refuse (-1) A2) (fun y3 A3 =>
      some (some (.int y3), A3)))) := by
  refine (tz_Fe (L := [some (.ref 17), some (.int x1), some (.int x2)]) rfl).trans ?_
  refine (tz_g_aload_n rfl (tz_in0 rfl)).trans ?_
  refine (tz_g_getr (j := 18) rfl rfl rfl rfl rfl (tz_in0 rfl)).trans ?_
  refine (tz_g_iload_n rfl (tz_in0 rfl)).trans ?_
  refine (tz_g_cv1I (m2 := 14) (rc := 4) rfl rfl rfl rfl rfl rfl (by decide) (tz_in0 rfl)).trans ?_
  refine tz_jI (fun y1 A1 => ?_)
  refine (tz_g_if_eq (t := 30) (by decide) (tz_in0 rfl)).trans ?_
  refine tz_cg ?_ ?_
  · skip
    refine (tz_g_aload_n rfl (tz_in0 rfl)).trans ?_
    refine (tz_g_iconst (v := (-1)) rfl (tz_in0 rfl)).trans ?_
    refine (tz_g_cv1I (m2 := 15) (rc := 1) rfl rfl rfl rfl rfl rfl (by decide) (tz_in0 rfl)).trans ?_
    refine tz_jI (fun y2 A2 => ?_)
    exact tz_g_ret1 (tz_in0 rfl) rfl
  · skip
    refine (tz_g_iload_n rfl (tz_in0 rfl)).trans ?_
    refine (tz_g_iconst (v := (-1)) rfl (tz_in0 rfl)).trans ?_
    refine (tz_g_ic_eq (t := 36) (by decide) (tz_in0 rfl)).trans ?_
    refine tz_cg ?_ ?_
    · skip
      refine (tz_g_aload_n rfl (tz_in0 rfl)).trans ?_
      refine (tz_g_getr (j := 18) rfl rfl rfl rfl rfl (tz_in0 rfl)).trans ?_
      refine (tz_g_getr (j := 19) rfl rfl rfl rfl rfl (tz_in0 rfl)).trans ?_
      refine (tz_g_iload_n rfl (tz_in0 rfl)).trans ?_
      refine (tz_g_iload_n rfl (tz_in0 rfl)).trans ?_
      refine (tz_g_iast (n := 8) rfl rfl rfl (tz_in0 rfl)).trans ?_
      refine tz_cn1 ?_
      refine (tz_g_iload_n rfl (tz_in0 rfl)).trans ?_
      refine (tz_g_iconst (v := (-1)) rfl (tz_in0 rfl)).trans ?_
      refine (tz_g_ic_ne (t := 55) (by decide) (tz_in0 rfl)).trans ?_
      refine tz_cg ?_ ?_
      · skip
        refine (tz_g_iconst (v := 1) rfl (tz_in0 rfl)).trans ?_
        exact tz_g_ret1 (tz_in0 rfl) rfl
      · skip
        refine (tz_g_iconst (v := 0) rfl (tz_in0 rfl)).trans ?_
        refine (tz_g_goto (t := 56) (by decide) (tz_in0 rfl)).trans ?_
        exact tz_g_ret1 (tz_in0 rfl) rfl
    · skip
      refine (tz_g_aload_n rfl (tz_in0 rfl)).trans ?_
      refine (tz_g_getr (j := 30) rfl rfl rfl rfl rfl (tz_in0 rfl)).trans ?_
      refine (tz_g_getr (j := 31) rfl rfl rfl rfl rfl (tz_in0 rfl)).trans ?_
      refine (tz_g_iload_n rfl (tz_in0 rfl)).trans ?_
      refine (tz_g_cv1I (m2 := 24) (rc := 4) rfl rfl rfl rfl rfl rfl (by decide) (tz_in0 rfl)).trans ?_
      refine tz_jI (fun y2 A2 => ?_)
      refine (tz_g_if_ne (t := 36) (by decide) (tz_in0 rfl)).trans ?_
      refine tz_cg ?_ ?_
      · skip
        refine (tz_g_aload_n rfl (tz_in0 rfl)).trans ?_
        refine (tz_g_getr (j := 18) rfl rfl rfl rfl rfl (tz_in0 rfl)).trans ?_
        refine (tz_g_getr (j := 19) rfl rfl rfl rfl rfl (tz_in0 rfl)).trans ?_
        refine (tz_g_iload_n rfl (tz_in0 rfl)).trans ?_
        refine (tz_g_iload_n rfl (tz_in0 rfl)).trans ?_
        refine (tz_g_iast (n := 8) rfl rfl rfl (tz_in0 rfl)).trans ?_
        refine tz_cn1 ?_
        refine (tz_g_iload_n rfl (tz_in0 rfl)).trans ?_
        refine (tz_g_iconst (v := (-1)) rfl (tz_in0 rfl)).trans ?_
        refine (tz_g_ic_ne (t := 55) (by decide) (tz_in0 rfl)).trans ?_
        refine tz_cg ?_ ?_
        · skip
          refine (tz_g_iconst (v := 1) rfl (tz_in0 rfl)).trans ?_
          exact tz_g_ret1 (tz_in0 rfl) rfl
        · skip
          refine (tz_g_iconst (v := 0) rfl (tz_in0 rfl)).trans ?_
          refine (tz_g_goto (t := 56) (by decide) (tz_in0 rfl)).trans ?_
          exact tz_g_ret1 (tz_in0 rfl) rfl
      · skip
        refine (tz_g_aload_n rfl (tz_in0 rfl)).trans ?_
        refine (tz_g_iconst (v := (-1)) rfl (tz_in0 rfl)).trans ?_
        refine (tz_g_cv1I (m2 := 15) (rc := 1) rfl rfl rfl rfl rfl rfl (by decide) (tz_in0 rfl)).trans ?_
        refine tz_jI (fun y3 A3 => ?_)
        exact tz_g_ret1 (tz_in0 rfl) rfl

theorem e_X11_holds (x1 : Int32) (A : tz_Mem) : f_X11_holds x1 A =
  tz_bI (f_X8_has x1 A) (fun y1 A1 =>
if y1 = 0 then
  some (some (.int (-1)), A1)
else
  if x1 < 0 ∨ 8 ≤ (Int32.toNatClampNeg x1) then none else
  some (some (.int (tz_g A1 19 (Int32.toNatClampNeg x1))), A1)) := by
  refine (tz_Fe (L := [some (.ref 17), some (.int x1)]) rfl).trans ?_
  refine (tz_g_aload_n rfl (tz_in0 rfl)).trans ?_
  refine (tz_g_getr (j := 18) rfl rfl rfl rfl rfl (tz_in0 rfl)).trans ?_
  refine (tz_g_iload_n rfl (tz_in0 rfl)).trans ?_
  refine (tz_g_cv1I (m2 := 14) (rc := 4) rfl rfl rfl rfl rfl rfl (by decide) (tz_in0 rfl)).trans ?_
  refine tz_jI (fun y1 A1 => ?_)
  refine (tz_g_if_eq (t := 23) (by decide) (tz_in0 rfl)).trans ?_
  refine tz_cg ?_ ?_
  · skip
    refine (tz_g_iconst (v := (-1)) rfl (tz_in0 rfl)).trans ?_
    exact tz_g_ret1 (tz_in0 rfl) rfl
  · skip
    refine (tz_g_aload_n rfl (tz_in0 rfl)).trans ?_
    refine (tz_g_getr (j := 18) rfl rfl rfl rfl rfl (tz_in0 rfl)).trans ?_
    refine (tz_g_getr (j := 19) rfl rfl rfl rfl rfl (tz_in0 rfl)).trans ?_
    refine (tz_g_iload_n rfl (tz_in0 rfl)).trans ?_
    refine (tz_g_iald (n := 8) rfl rfl rfl (tz_in0 rfl)).trans ?_
    refine tz_cn1 ?_
    refine (tz_g_goto (t := 24) (by decide) (tz_in0 rfl)).trans ?_
    exact tz_g_ret1 (tz_in0 rfl) rfl

theorem e_X11_hill (x1 : Int32) (x2 : Int32) (A : tz_Mem) : f_X11_hill x1 x2 A =
  tz_bI (f_X11_isKind x1 A) (fun y1 A1 =>
if ¬ y1 = 0 then
  if x2 < 0 then
    tz_bI (f_X11_refuse (-6) A1) (fun y2 A2 =>
    some (some (.int y2), A2))
  else
    if x2 ≤ 9 then
      tz_bI (f_X3_isFull 30 A1) (fun y2 A2 =>
      if y2 = 0 then
        tz_bI (f_X3_add 30 x1 x2 A2) (fun y3 A3 =>
        some (some (.int y3), A3))
      else
        tz_bI (f_X11_refuse (-7) A2) (fun y3 A3 =>
        some (some (.int y3), A3)))
    else
      tz_bI (f_X11_refuse (-6) A1) (fun y2 A2 =>
      some (some (.int y2), A2))
else
  tz_bI (f_X11_refuse (-1) A1) (fun y2 A2 =>
  some (some (.int y2), A2))) := by
  refine (tz_Fe (L := [some (.ref 17), some (.int x1), some (.int x2)]) rfl).trans ?_
  refine (tz_g_iload_n rfl (tz_in0 rfl)).trans ?_
  refine (tz_g_cs1I (m2 := 27) (rc := 4) rfl rfl rfl rfl rfl rfl (by decide) (tz_in0 rfl)).trans ?_
  refine tz_jI (fun y1 A1 => ?_)
  refine (tz_g_if_ne (t := 13) (by decide) (tz_in0 rfl)).trans ?_
  refine tz_cg ?_ ?_
  · skip
    refine (tz_g_iload_n rfl (tz_in0 rfl)).trans ?_
    refine (tz_g_if_lt (t := 23) (by decide) (tz_in0 rfl)).trans ?_
    refine tz_cg ?_ ?_
    · skip
      refine (tz_g_aload_n rfl (tz_in0 rfl)).trans ?_
      refine (tz_g_bipush (v := (-6)) rfl (tz_in0 rfl)).trans ?_
      refine (tz_g_cv1I (m2 := 15) (rc := 1) rfl rfl rfl rfl rfl rfl (by decide) (tz_in0 rfl)).trans ?_
      refine tz_jI (fun y2 A2 => ?_)
      exact tz_g_ret1 (tz_in0 rfl) rfl
    · skip
      refine (tz_g_iload_n rfl (tz_in0 rfl)).trans ?_
      refine (tz_g_bipush (v := 9) rfl (tz_in0 rfl)).trans ?_
      refine (tz_g_ic_le (t := 30) (by decide) (tz_in0 rfl)).trans ?_
      refine tz_cg ?_ ?_
      · skip
        refine (tz_g_aload_n rfl (tz_in0 rfl)).trans ?_
        refine (tz_g_getr (j := 30) rfl rfl rfl rfl rfl (tz_in0 rfl)).trans ?_
        refine (tz_g_getr (j := 31) rfl rfl rfl rfl rfl (tz_in0 rfl)).trans ?_
        refine (tz_g_cv0I (m2 := 28) (rc := 4) rfl rfl rfl rfl rfl rfl (by decide) (tz_in0 rfl)).trans ?_
        refine tz_jI (fun y2 A2 => ?_)
        refine (tz_g_if_eq (t := 50) (by decide) (tz_in0 rfl)).trans ?_
        refine tz_cg ?_ ?_
        · skip
          refine (tz_g_aload_n rfl (tz_in0 rfl)).trans ?_
          refine (tz_g_getr (j := 30) rfl rfl rfl rfl rfl (tz_in0 rfl)).trans ?_
          refine (tz_g_getr (j := 31) rfl rfl rfl rfl rfl (tz_in0 rfl)).trans ?_
          refine (tz_g_iload_n rfl (tz_in0 rfl)).trans ?_
          refine (tz_g_iload_n rfl (tz_in0 rfl)).trans ?_
          refine (tz_g_cv2I (m2 := 29) (rc := 1) rfl rfl rfl rfl rfl rfl (by decide) (tz_in0 rfl)).trans ?_
          refine tz_jI (fun y3 A3 => ?_)
          exact tz_g_ret1 (tz_in0 rfl) rfl
        · skip
          refine (tz_g_aload_n rfl (tz_in0 rfl)).trans ?_
          refine (tz_g_bipush (v := (-7)) rfl (tz_in0 rfl)).trans ?_
          refine (tz_g_cv1I (m2 := 15) (rc := 1) rfl rfl rfl rfl rfl rfl (by decide) (tz_in0 rfl)).trans ?_
          refine tz_jI (fun y3 A3 => ?_)
          exact tz_g_ret1 (tz_in0 rfl) rfl
      · skip
        refine (tz_g_aload_n rfl (tz_in0 rfl)).trans ?_
        refine (tz_g_bipush (v := (-6)) rfl (tz_in0 rfl)).trans ?_
        refine (tz_g_cv1I (m2 := 15) (rc := 1) rfl rfl rfl rfl rfl rfl (by decide) (tz_in0 rfl)).trans ?_
        refine tz_jI (fun y2 A2 => ?_)
        exact tz_g_ret1 (tz_in0 rfl) rfl
  · skip
    refine (tz_g_aload_n rfl (tz_in0 rfl)).trans ?_
    refine (tz_g_iconst (v := (-1)) rfl (tz_in0 rfl)).trans ?_
    refine (tz_g_cv1I (m2 := 15) (rc := 1) rfl rfl rfl rfl rfl rfl (by decide) (tz_in0 rfl)).trans ?_
    refine tz_jI (fun y2 A2 => ?_)
    exact tz_g_ret1 (tz_in0 rfl) rfl

theorem e_X11_isWay (x1 : Int32) (x2 : Int32) (A : tz_Mem) : f_X11_isWay x1 x2 A =
  if x2 < 2 then
  some (some (.int 0), A)
else
  if x2 ≤ 6 then
    tz_bI (f_X8_number x1 (x2 - 1) A) (fun y1 A1 =>
    q_X11_isWay_28 x1 x2 y1 0 A1)
  else
    some (some (.int 0), A) := by
  refine (tz_Fe (L := [some (.ref 17), some (.int x1), some (.int x2), none, none, none]) rfl).trans ?_
  refine (tz_g_iload_n rfl (tz_in0 rfl)).trans ?_
  refine (tz_g_iconst (v := 2) rfl (tz_in0 rfl)).trans ?_
  refine (tz_g_ic_lt (t := 11) (by decide) (tz_in0 rfl)).trans ?_
  refine tz_cg ?_ ?_
  · skip
    refine (tz_g_iconst (v := 0) rfl (tz_in0 rfl)).trans ?_
    exact tz_g_ret4K (by decide) (tz_in0 rfl) rfl
  · skip
    refine (tz_g_iload_n rfl (tz_in0 rfl)).trans ?_
    refine (tz_g_bipush (v := 6) rfl (tz_in0 rfl)).trans ?_
    refine (tz_g_ic_le (t := 13) (by decide) (tz_in0 rfl)).trans ?_
    refine tz_cg ?_ ?_
    · skip
      refine (tz_g_aload_n rfl (tz_in0 rfl)).trans ?_
      refine (tz_g_getr (j := 18) rfl rfl rfl rfl rfl (tz_in0 rfl)).trans ?_
      refine (tz_g_iload_n rfl (tz_in0 rfl)).trans ?_
      refine (tz_g_iload_n rfl (tz_in0 rfl)).trans ?_
      refine (tz_g_iconst (v := 1) rfl (tz_in0 rfl)).trans ?_
      refine (tz_g_isub (tz_in0 rfl)).trans ?_
      refine (tz_g_cv2I (m2 := 34) (rc := 1) rfl rfl rfl rfl rfl rfl (by decide) (tz_in0 rfl)).trans ?_
      refine tz_jI (fun y1 A1 => ?_)
      refine (tz_g_istore_n (L2 := [some (.ref 17), some (.int x1), some (.int x2), some (.int y1), none, none]) rfl rfl (tz_in0 rfl)).trans ?_
      refine (tz_g_iconst (v := 0) rfl (tz_in0 rfl)).trans ?_
      refine (tz_g_istore (L2 := [some (.ref 17), some (.int x1), some (.int x2), some (.int y1), some (.int 0), none]) rfl rfl (tz_in0 rfl)).trans ?_
      exact tz_Gm (L2 := [some (.ref 17), some (.int x1), some (.int x2), some (.int y1), some (.int 0), none]) rfl rfl rfl rfl
    · skip
      refine (tz_g_iconst (v := 0) rfl (tz_in0 rfl)).trans ?_
      exact tz_g_ret4K (by decide) (tz_in0 rfl) rfl

theorem e_X11_isWay_28 (z1 : Int32) (z2 : Int32) (z3 : Int32) (z4 : Int32) (A : tz_Mem) : q_X11_isWay_28 z1 z2 z3 z4 A =
  if z2 ≤ z4 then
  some (some (.int 1), A)
else
  tz_bI (f_X8_number z1 z4 A) (fun y1 A1 =>
  tz_bI (f_X3_has 30 y1 A1) (fun y2 A2 =>
  if y2 = 0 then
    some (some (.int 0), A2)
  else
    if ¬ y1 = z3 then
      q_X11_isWay_28 z1 z2 y1 (z4 + 1) A2
    else
      some (some (.int 0), A2))) := by
  show tz_Go 33 28 [some (.ref 17), some (.int z1), some (.int z2), some (.int z3), some (.int z4), none] [] A = _
  refine (tz_g_iload rfl (tz_inM rfl rfl rfl)).trans ?_
  refine (tz_g_iload_n rfl (tz_in0 rfl)).trans ?_
  refine (tz_g_ic_ge (t := 78) (by decide) (tz_in0 rfl)).trans ?_
  refine tz_cg ?_ ?_
  · skip
    refine (tz_g_iconst (v := 1) rfl (tz_in0 rfl)).trans ?_
    exact tz_g_ret4K (by decide) (tz_in0 rfl) rfl
  · skip
    refine (tz_g_aload_n rfl (tz_in0 rfl)).trans ?_
    refine (tz_g_getr (j := 18) rfl rfl rfl rfl rfl (tz_in0 rfl)).trans ?_
    refine (tz_g_iload_n rfl (tz_in0 rfl)).trans ?_
    refine (tz_g_iload rfl (tz_in0 rfl)).trans ?_
    refine (tz_g_cv2I (m2 := 34) (rc := 1) rfl rfl rfl rfl rfl rfl (by decide) (tz_in0 rfl)).trans ?_
    refine tz_jI (fun y1 A1 => ?_)
    refine (tz_g_istore (L2 := [some (.ref 17), some (.int z1), some (.int z2), some (.int z3), some (.int z4), some (.int y1)]) rfl rfl (tz_in0 rfl)).trans ?_
    refine (tz_g_aload_n rfl (tz_in0 rfl)).trans ?_
    refine (tz_g_getr (j := 30) rfl rfl rfl rfl rfl (tz_in0 rfl)).trans ?_
    refine (tz_g_getr (j := 31) rfl rfl rfl rfl rfl (tz_in0 rfl)).trans ?_
    refine (tz_g_iload rfl (tz_in0 rfl)).trans ?_
    refine (tz_g_cv1I (m2 := 24) (rc := 4) rfl rfl rfl rfl rfl rfl (by decide) (tz_in0 rfl)).trans ?_
    refine tz_jI (fun y2 A2 => ?_)
    refine (tz_g_if_eq (t := 67) (by decide) (tz_in0 rfl)).trans ?_
    refine tz_cg ?_ ?_
    · skip
      refine (tz_g_iconst (v := 0) rfl (tz_in0 rfl)).trans ?_
      exact tz_g_ret4K (by decide) (tz_in0 rfl) rfl
    · skip
      refine (tz_g_iload rfl (tz_in0 rfl)).trans ?_
      refine (tz_g_iload_n rfl (tz_in0 rfl)).trans ?_
      refine (tz_g_ic_ne (t := 69) (by decide) (tz_in0 rfl)).trans ?_
      refine tz_cg ?_ ?_
      · skip
        refine (tz_g_iload rfl (tz_in0 rfl)).trans ?_
        refine (tz_g_istore_n (L2 := [some (.ref 17), some (.int z1), some (.int z2), some (.int y1), some (.int z4), some (.int y1)]) rfl rfl (tz_in0 rfl)).trans ?_
        refine (tz_g_iinc (v := 1) (L2 := [some (.ref 17), some (.int z1), some (.int z2), some (.int y1), some (.int (z4 + 1)), some (.int y1)]) rfl rfl rfl rfl (tz_in0 rfl)).trans ?_
        refine (tz_g_goto (t := 28) (by decide) (tz_in0 rfl)).trans ?_
        exact tz_Gm (L2 := [some (.ref 17), some (.int z1), some (.int z2), some (.int y1), some (.int (z4 + 1)), none]) rfl rfl rfl rfl
      · skip
        refine (tz_g_iconst (v := 0) rfl (tz_in0 rfl)).trans ?_
        exact tz_g_ret4K (by decide) (tz_in0 rfl) rfl

theorem e_X8_copyNumbers_s123 (x1 : Int32) (x2 : Int32) (A : tz_Mem) : f_X8_copyNumbers_s123 x1 x2 A =
  q_X8_copyNumbers_s123_3 x1 x2 0 A := by
  refine (tz_Fe (L := [some (.ref 18), some (.int x1), some (.int x2), some (.ref 123), none]) rfl).trans ?_
  refine (tz_g_iconst (v := 0) rfl (tz_in0 rfl)).trans ?_
  refine (tz_g_istore (L2 := [some (.ref 18), some (.int x1), some (.int x2), some (.ref 123), some (.int 0)]) rfl rfl (tz_in0 rfl)).trans ?_
  exact tz_Gm (L2 := [some (.ref 18), some (.int x1), some (.int x2), some (.ref 123), some (.int 0)]) rfl rfl rfl rfl

theorem e_X8_copyNumbers_s123_3 (z1 : Int32) (z2 : Int32) (z4 : Int32) (A : tz_Mem) : q_X8_copyNumbers_s123_3 z1 z2 z4 A =
  if z2 ≤ z4 then
  some (none, A)
else
  if 160 ≤ z4 then
    some (none, A)
  else
    tz_bI (f_X8_number z1 z4 A) (fun y1 A1 =>
    if z4 < 0 ∨ 160 ≤ (Int32.toNatClampNeg z4) then none else
    q_X8_copyNumbers_s123_3 z1 z2 (z4 + 1) (tz_s A1 123 (Int32.toNatClampNeg z4) y1)) := by
  show tz_Go 36 3 [some (.ref 18), some (.int z1), some (.int z2), some (.ref 123), some (.int z4)] [] A = _
  refine (tz_g_iload rfl (tz_inM rfl rfl rfl)).trans ?_
  refine (tz_g_iload_n rfl (tz_in0 rfl)).trans ?_
  refine (tz_g_ic_ge (t := 33) (by decide) (tz_in0 rfl)).trans ?_
  refine tz_cg ?_ ?_
  · skip
    exact tz_g_ret0 (tz_in0 rfl) rfl
  · skip
    refine (tz_g_iload rfl (tz_in0 rfl)).trans ?_
    refine (tz_g_aload_n rfl (tz_in0 rfl)).trans ?_
    refine (tz_g_alen (v := 160) rfl rfl (tz_in0 rfl)).trans ?_
    refine (tz_g_ic_ge (t := 33) (by decide) (tz_in0 rfl)).trans ?_
    refine tz_cg ?_ ?_
    · skip
      exact tz_g_ret0 (tz_in0 rfl) rfl
    · skip
      refine (tz_g_aload_n rfl (tz_in0 rfl)).trans ?_
      refine (tz_g_iload rfl (tz_in0 rfl)).trans ?_
      refine (tz_g_aload_n rfl (tz_in0 rfl)).trans ?_
      refine (tz_g_iload_n rfl (tz_in0 rfl)).trans ?_
      refine (tz_g_iload rfl (tz_in0 rfl)).trans ?_
      refine (tz_g_cv2I (m2 := 34) (rc := 1) rfl rfl rfl rfl rfl rfl (by decide) (tz_in0 rfl)).trans ?_
      refine tz_jI (fun y1 A1 => ?_)
      refine (tz_g_iast (n := 160) rfl rfl rfl (tz_in0 rfl)).trans ?_
      refine tz_cn1 ?_
      refine (tz_g_iinc (v := 1) (L2 := [some (.ref 18), some (.int z1), some (.int z2), some (.ref 123), some (.int (z4 + 1))]) rfl rfl rfl rfl (tz_in0 rfl)).trans ?_
      refine (tz_g_goto (t := 3) (by decide) (tz_in0 rfl)).trans ?_
      exact tz_Gm (L2 := [some (.ref 18), some (.int z1), some (.int z2), some (.ref 123), some (.int (z4 + 1))]) rfl rfl rfl rfl

theorem e_X8_copyNumbers_s155 (x1 : Int32) (x2 : Int32) (A : tz_Mem) : f_X8_copyNumbers_s155 x1 x2 A =
  q_X8_copyNumbers_s155_3 x1 x2 0 A := by
  refine (tz_Fe (L := [some (.ref 18), some (.int x1), some (.int x2), some (.ref 155), none]) rfl).trans ?_
  refine (tz_g_iconst (v := 0) rfl (tz_in0 rfl)).trans ?_
  refine (tz_g_istore (L2 := [some (.ref 18), some (.int x1), some (.int x2), some (.ref 155), some (.int 0)]) rfl rfl (tz_in0 rfl)).trans ?_
  exact tz_Gm (L2 := [some (.ref 18), some (.int x1), some (.int x2), some (.ref 155), some (.int 0)]) rfl rfl rfl rfl

theorem e_X8_copyNumbers_s155_3 (z1 : Int32) (z2 : Int32) (z4 : Int32) (A : tz_Mem) : q_X8_copyNumbers_s155_3 z1 z2 z4 A =
  if z2 ≤ z4 then
  some (none, A)
else
  if 6 ≤ z4 then
    some (none, A)
  else
    tz_bI (f_X8_number z1 z4 A) (fun y1 A1 =>
    if z4 < 0 ∨ 6 ≤ (Int32.toNatClampNeg z4) then none else
    q_X8_copyNumbers_s155_3 z1 z2 (z4 + 1) (tz_s A1 155 (Int32.toNatClampNeg z4) y1)) := by
  show tz_Go 36 3 [some (.ref 18), some (.int z1), some (.int z2), some (.ref 155), some (.int z4)] [] A = _
  refine (tz_g_iload rfl (tz_inM rfl rfl rfl)).trans ?_
  refine (tz_g_iload_n rfl (tz_in0 rfl)).trans ?_
  refine (tz_g_ic_ge (t := 33) (by decide) (tz_in0 rfl)).trans ?_
  refine tz_cg ?_ ?_
  · skip
    exact tz_g_ret0 (tz_in0 rfl) rfl
  · skip
    refine (tz_g_iload rfl (tz_in0 rfl)).trans ?_
    refine (tz_g_aload_n rfl (tz_in0 rfl)).trans ?_
    refine (tz_g_alen (v := 6) rfl rfl (tz_in0 rfl)).trans ?_
    refine (tz_g_ic_ge (t := 33) (by decide) (tz_in0 rfl)).trans ?_
    refine tz_cg ?_ ?_
    · skip
      exact tz_g_ret0 (tz_in0 rfl) rfl
    · skip
      refine (tz_g_aload_n rfl (tz_in0 rfl)).trans ?_
      refine (tz_g_iload rfl (tz_in0 rfl)).trans ?_
      refine (tz_g_aload_n rfl (tz_in0 rfl)).trans ?_
      refine (tz_g_iload_n rfl (tz_in0 rfl)).trans ?_
      refine (tz_g_iload rfl (tz_in0 rfl)).trans ?_
      refine (tz_g_cv2I (m2 := 34) (rc := 1) rfl rfl rfl rfl rfl rfl (by decide) (tz_in0 rfl)).trans ?_
      refine tz_jI (fun y1 A1 => ?_)
      refine (tz_g_iast (n := 6) rfl rfl rfl (tz_in0 rfl)).trans ?_
      refine tz_cn1 ?_
      refine (tz_g_iinc (v := 1) (L2 := [some (.ref 18), some (.int z1), some (.int z2), some (.ref 155), some (.int (z4 + 1))]) rfl rfl rfl rfl (tz_in0 rfl)).trans ?_
      refine (tz_g_goto (t := 3) (by decide) (tz_in0 rfl)).trans ?_
      exact tz_Gm (L2 := [some (.ref 18), some (.int z1), some (.int z2), some (.ref 155), some (.int (z4 + 1))]) rfl rfl rfl rfl

theorem e_X11_refusalOfLetter (x1 : Int32) (x2 : Int32) (x3 : Int32) (x4 : Int32) (A : tz_Mem) : f_X11_refusalOfLetter x1 x2 x3 x4 A =
  tz_bI (f_X3_has 30 x2 A) (fun y1 A1 =>
if y1 = 0 then
  some (some (.int (-1)), A1)
else
  tz_bI (f_X3_has 30 x3 A1) (fun y2 A2 =>
  if ¬ y2 = 0 then
    tz_bI (f_X11_isWord x1 A2) (fun y3 A3 =>
    if y3 = 0 then
      some (some (.int (-6)), A3)
    else
      if x4 < 1 then
        some (some (.int (-6)), A3)
      else
        if 99 < x4 then
          some (some (.int (-6)), A3)
        else
          if ¬ x2 = x3 then
            tz_bI (f_X4_isFull 30 A3) (fun y4 A4 =>
            if y4 = 0 then
              some (some (.int 0), A4)
            else
              some (some (.int (-7)), A4))
          else
            some (some (.int (-6)), A3))
  else
    some (some (.int (-1)), A2))) := by
  refine (tz_Fe (L := [some (.ref 17), some (.int x1), some (.int x2), some (.int x3), some (.int x4)]) rfl).trans ?_
  refine (tz_g_aload_n rfl (tz_in0 rfl)).trans ?_
  refine (tz_g_getr (j := 30) rfl rfl rfl rfl rfl (tz_in0 rfl)).trans ?_
  refine (tz_g_getr (j := 31) rfl rfl rfl rfl rfl (tz_in0 rfl)).trans ?_
  refine (tz_g_iload_n rfl (tz_in0 rfl)).trans ?_
  refine (tz_g_cv1I (m2 := 24) (rc := 4) rfl rfl rfl rfl rfl rfl (by decide) (tz_in0 rfl)).trans ?_
  refine tz_jI (fun y1 A1 => ?_)
  refine (tz_g_if_eq (t := 28) (by decide) (tz_in0 rfl)).trans ?_
  refine tz_cg ?_ ?_
  · skip
    refine (tz_g_iconst (v := (-1)) rfl (tz_in0 rfl)).trans ?_
    exact tz_g_ret1 (tz_in0 rfl) rfl
  · skip
    refine (tz_g_aload_n rfl (tz_in0 rfl)).trans ?_
    refine (tz_g_getr (j := 30) rfl rfl rfl rfl rfl (tz_in0 rfl)).trans ?_
    refine (tz_g_getr (j := 31) rfl rfl rfl rfl rfl (tz_in0 rfl)).trans ?_
    refine (tz_g_iload_n rfl (tz_in0 rfl)).trans ?_
    refine (tz_g_cv1I (m2 := 24) (rc := 4) rfl rfl rfl rfl rfl rfl (by decide) (tz_in0 rfl)).trans ?_
    refine tz_jI (fun y2 A2 => ?_)
    refine (tz_g_if_ne (t := 30) (by decide) (tz_in0 rfl)).trans ?_
    refine tz_cg ?_ ?_
    · skip
      refine (tz_g_iload_n rfl (tz_in0 rfl)).trans ?_
      refine (tz_g_cs1I (m2 := 40) (rc := 4) rfl rfl rfl rfl rfl rfl (by decide) (tz_in0 rfl)).trans ?_
      refine tz_jI (fun y3 A3 => ?_)
      refine (tz_g_if_eq (t := 55) (by decide) (tz_in0 rfl)).trans ?_
      refine tz_cg ?_ ?_
      · skip
        refine (tz_g_bipush (v := (-6)) rfl (tz_in0 rfl)).trans ?_
        exact tz_g_ret1 (tz_in0 rfl) rfl
      · skip
        refine (tz_g_iload rfl (tz_in0 rfl)).trans ?_
        refine (tz_g_iconst (v := 1) rfl (tz_in0 rfl)).trans ?_
        refine (tz_g_ic_lt (t := 55) (by decide) (tz_in0 rfl)).trans ?_
        refine tz_cg ?_ ?_
        · skip
          refine (tz_g_bipush (v := (-6)) rfl (tz_in0 rfl)).trans ?_
          exact tz_g_ret1 (tz_in0 rfl) rfl
        · skip
          refine (tz_g_iload rfl (tz_in0 rfl)).trans ?_
          refine (tz_g_bipush (v := 99) rfl (tz_in0 rfl)).trans ?_
          refine (tz_g_ic_gt (t := 55) (by decide) (tz_in0 rfl)).trans ?_
          refine tz_cg ?_ ?_
          · skip
            refine (tz_g_bipush (v := (-6)) rfl (tz_in0 rfl)).trans ?_
            exact tz_g_ret1 (tz_in0 rfl) rfl
          · skip
            refine (tz_g_iload_n rfl (tz_in0 rfl)).trans ?_
            refine (tz_g_iload_n rfl (tz_in0 rfl)).trans ?_
            refine (tz_g_ic_ne (t := 58) (by decide) (tz_in0 rfl)).trans ?_
            refine tz_cg ?_ ?_
            · skip
              refine (tz_g_aload_n rfl (tz_in0 rfl)).trans ?_
              refine (tz_g_getr (j := 30) rfl rfl rfl rfl rfl (tz_in0 rfl)).trans ?_
              refine (tz_g_getr (j := 45) rfl rfl rfl rfl rfl (tz_in0 rfl)).trans ?_
              refine (tz_g_cv0I (m2 := 41) (rc := 4) rfl rfl rfl rfl rfl rfl (by decide) (tz_in0 rfl)).trans ?_
              refine tz_jI (fun y4 A4 => ?_)
              refine (tz_g_if_eq (t := 76) (by decide) (tz_in0 rfl)).trans ?_
              refine tz_cg ?_ ?_
              · skip
                refine (tz_g_iconst (v := 0) rfl (tz_in0 rfl)).trans ?_
                exact tz_g_ret1 (tz_in0 rfl) rfl
              · skip
                refine (tz_g_bipush (v := (-7)) rfl (tz_in0 rfl)).trans ?_
                refine (tz_g_goto (t := 77) (by decide) (tz_in0 rfl)).trans ?_
                exact tz_g_ret1 (tz_in0 rfl) rfl
            · skip
              refine (tz_g_bipush (v := (-6)) rfl (tz_in0 rfl)).trans ?_
              exact tz_g_ret1 (tz_in0 rfl) rfl
    · skip
      refine (tz_g_iconst (v := (-1)) rfl (tz_in0 rfl)).trans ?_
      exact tz_g_ret1 (tz_in0 rfl) rfl

theorem e_X9_addLetter (b : Nat) (x1 : Int32) (x2 : Int32) (x3 : Int32) (x4 : Int32) (hb : tz_sky b) (A : tz_Mem) : f_X9_addLetter b x1 x2 x3 x4 A =
  tz_bI (f_X4_add b x1 x2 x3 x4 A) (fun y1 A1 =>
if x2 < 0 ∨ 8 ≤ (Int32.toNatClampNeg x2) then none else
if x2 < 0 ∨ 8 ≤ (Int32.toNatClampNeg x2) then none else
some (some (.int y1), (tz_s A1 (b + 4) (Int32.toNatClampNeg x2) ((tz_g A1 (b + 4) (Int32.toNatClampNeg x2)) ||| (1 <<< (y1 &&& 31)))))) := by
  obtain rfl | rfl | rfl | rfl | rfl := hb
  all_goals
    refine (tz_Fe (L := [some (.ref _), some (.int x1), some (.int x2), some (.int x3), some (.int x4), none]) rfl).trans ?_
    refine (tz_g_aload_n rfl (tz_in0 rfl)).trans ?_
    refine (tz_g_getr (j := _) rfl rfl rfl rfl rfl (tz_in0 rfl)).trans ?_
    refine (tz_g_iload_n rfl (tz_in0 rfl)).trans ?_
    refine (tz_g_iload_n rfl (tz_in0 rfl)).trans ?_
    refine (tz_g_iload_n rfl (tz_in0 rfl)).trans ?_
    refine (tz_g_iload rfl (tz_in0 rfl)).trans ?_
    refine (tz_g_cv4I (m2 := 43) (rc := 1) rfl rfl rfl rfl rfl rfl (by decide) (tz_in0 rfl)).trans ?_
    refine tz_jI (fun y1 A1 => ?_)
    refine (tz_g_istore (L2 := [some (.ref _), some (.int x1), some (.int x2), some (.int x3), some (.int x4), some (.int y1)]) rfl rfl (tz_in0 rfl)).trans ?_
    refine (tz_g_aload_n rfl (tz_in0 rfl)).trans ?_
    refine (tz_g_getr (j := _) rfl rfl rfl rfl rfl (tz_in0 rfl)).trans ?_
    refine (tz_g_getr (j := _) rfl rfl rfl rfl rfl (tz_in0 rfl)).trans ?_
    refine (tz_g_iload_n rfl (tz_in0 rfl)).trans ?_
    refine (tz_g_dup2a rfl rfl (tz_in0 rfl)).trans ?_
    refine (tz_g_iald (n := 8) rfl rfl rfl (tz_in0 rfl)).trans ?_
    refine tz_cn1 ?_
    refine (tz_g_iconst (v := 1) rfl (tz_in0 rfl)).trans ?_
    refine (tz_g_iload rfl (tz_in0 rfl)).trans ?_
    refine (tz_g_ishl (tz_in0 rfl)).trans ?_
    refine (tz_g_ior (tz_in0 rfl)).trans ?_
    refine (tz_g_iast (n := 8) rfl rfl rfl (tz_in0 rfl)).trans ?_
    refine tz_cn1 ?_
    refine (tz_g_iload rfl (tz_in0 rfl)).trans ?_
    exact tz_g_ret1 (tz_in0 rfl) rfl

theorem e_X10_hillOfStorm (b : Nat) (x1 : Int32) (hb : tz_sky b) (A : tz_Mem) : f_X10_hillOfStorm b x1 A =
  if x1 < 0 ∨ 4 ≤ (Int32.toNatClampNeg x1) then none else
tz_bI (f_X10_wayHill b x1 (tz_g A (b + 13) (Int32.toNatClampNeg x1)) A) (fun y1 A1 =>
some (some (.int y1), A1)) := by
  obtain rfl | rfl | rfl | rfl | rfl := hb
  all_goals
    refine (tz_Fe (L := [some (.ref _), some (.int x1)]) rfl).trans ?_
    refine (tz_g_aload_n rfl (tz_in0 rfl)).trans ?_
    refine (tz_g_iload_n rfl (tz_in0 rfl)).trans ?_
    refine (tz_g_aload_n rfl (tz_in0 rfl)).trans ?_
    refine (tz_g_getr (j := _) rfl rfl rfl rfl rfl (tz_in0 rfl)).trans ?_
    refine (tz_g_iload_n rfl (tz_in0 rfl)).trans ?_
    refine (tz_g_iald (n := 4) rfl rfl rfl (tz_in0 rfl)).trans ?_
    refine tz_cn1 ?_
    refine (tz_g_cv2I (m2 := 47) (rc := 1) rfl rfl rfl rfl rfl rfl (by decide) (tz_in0 rfl)).trans ?_
    refine tz_jI (fun y1 A1 => ?_)
    exact tz_g_ret1 (tz_in0 rfl) rfl

theorem e_X11_wayOf (x1 : Int32) (x2 : Int32) (A : tz_Mem) : f_X11_wayOf x1 x2 A =
  if x2 < 10 then
  tz_bI (f_X11_refuse (-5) A) (fun y1 A1 =>
  some (some (.int y1), A1))
else
  if 15 < x2 then
    tz_bI (f_X11_refuse (-5) A) (fun y1 A1 =>
    some (some (.int y1), A1))
  else
    if x1 < 0 ∨ 4 ≤ (Int32.toNatClampNeg x1) then none else
    if (x2 - 10) < (tz_g A 41 (Int32.toNatClampNeg x1)) then
      tz_bI (f_X10_wayHill 30 x1 (x2 - 10) A) (fun y1 A1 =>
      some (some (.int y1), A1))
    else
      tz_bI (f_X11_refuse (-5) A) (fun y1 A1 =>
      some (some (.int y1), A1)) := by
  refine (tz_Fe (L := [some (.ref 17), some (.int x1), some (.int x2)]) rfl).trans ?_
  refine (tz_g_iload_n rfl (tz_in0 rfl)).trans ?_
  refine (tz_g_bipush (v := 10) rfl (tz_in0 rfl)).trans ?_
  refine (tz_g_ic_lt (t := 31) (by decide) (tz_in0 rfl)).trans ?_
  refine tz_cg ?_ ?_
  · skip
    refine (tz_g_aload_n rfl (tz_in0 rfl)).trans ?_
    refine (tz_g_bipush (v := (-5)) rfl (tz_in0 rfl)).trans ?_
    refine (tz_g_cv1I (m2 := 15) (rc := 1) rfl rfl rfl rfl rfl rfl (by decide) (tz_in0 rfl)).trans ?_
    refine tz_jI (fun y1 A1 => ?_)
    exact tz_g_ret1 (tz_in0 rfl) rfl
  · skip
    refine (tz_g_iload_n rfl (tz_in0 rfl)).trans ?_
    refine (tz_g_bipush (v := 15) rfl (tz_in0 rfl)).trans ?_
    refine (tz_g_ic_gt (t := 31) (by decide) (tz_in0 rfl)).trans ?_
    refine tz_cg ?_ ?_
    · skip
      refine (tz_g_aload_n rfl (tz_in0 rfl)).trans ?_
      refine (tz_g_bipush (v := (-5)) rfl (tz_in0 rfl)).trans ?_
      refine (tz_g_cv1I (m2 := 15) (rc := 1) rfl rfl rfl rfl rfl rfl (by decide) (tz_in0 rfl)).trans ?_
      refine tz_jI (fun y1 A1 => ?_)
      exact tz_g_ret1 (tz_in0 rfl) rfl
    · skip
      refine (tz_g_iload_n rfl (tz_in0 rfl)).trans ?_
      refine (tz_g_bipush (v := 10) rfl (tz_in0 rfl)).trans ?_
      refine (tz_g_isub (tz_in0 rfl)).trans ?_
      refine (tz_g_aload_n rfl (tz_in0 rfl)).trans ?_
      refine (tz_g_getr (j := 30) rfl rfl rfl rfl rfl (tz_in0 rfl)).trans ?_
      refine (tz_g_getr (j := 37) rfl rfl rfl rfl rfl (tz_in0 rfl)).trans ?_
      refine (tz_g_getr (j := 41) rfl rfl rfl rfl rfl (tz_in0 rfl)).trans ?_
      refine (tz_g_iload_n rfl (tz_in0 rfl)).trans ?_
      refine (tz_g_iald (n := 4) rfl rfl rfl (tz_in0 rfl)).trans ?_
      refine tz_cn1 ?_
      refine (tz_g_ic_lt (t := 38) (by decide) (tz_in0 rfl)).trans ?_
      refine tz_cg ?_ ?_
      · skip
        refine (tz_g_aload_n rfl (tz_in0 rfl)).trans ?_
        refine (tz_g_getr (j := 30) rfl rfl rfl rfl rfl (tz_in0 rfl)).trans ?_
        refine (tz_g_getr (j := 37) rfl rfl rfl rfl rfl (tz_in0 rfl)).trans ?_
        refine (tz_g_iload_n rfl (tz_in0 rfl)).trans ?_
        refine (tz_g_iload_n rfl (tz_in0 rfl)).trans ?_
        refine (tz_g_bipush (v := 10) rfl (tz_in0 rfl)).trans ?_
        refine (tz_g_isub (tz_in0 rfl)).trans ?_
        refine (tz_g_cv2I (m2 := 47) (rc := 1) rfl rfl rfl rfl rfl rfl (by decide) (tz_in0 rfl)).trans ?_
        refine tz_jI (fun y1 A1 => ?_)
        exact tz_g_ret1 (tz_in0 rfl) rfl
      · skip
        refine (tz_g_aload_n rfl (tz_in0 rfl)).trans ?_
        refine (tz_g_bipush (v := (-5)) rfl (tz_in0 rfl)).trans ?_
        refine (tz_g_cv1I (m2 := 15) (rc := 1) rfl rfl rfl rfl rfl rfl (by decide) (tz_in0 rfl)).trans ?_
        refine tz_jI (fun y1 A1 => ?_)
        exact tz_g_ret1 (tz_in0 rfl) rfl

