/-! the constructors, by program (gen_c.py) -/
def c_J7_fill_53178_k19 (A : tz_Mem) : tz_Mem := (tz_s (tz_s (tz_s (tz_s (tz_s (tz_s (tz_s (tz_s A 19 0 (-1)) 19 1 (-1)) 19 2 (-1)) 19 3 (-1)) 19 4 (-1)) 19 5 (-1)) 19 6 (-1)) 19 7 (-1))
set_option maxRecDepth 8192 in
theorem e_J7_fill_53178_k19 (A : tz_Mem) (hA : A.1 = 30) : tz_F 2 [.ref 19, .int (-1)] A = some (none, c_J7_fill_53178_k19 A) := by
  obtain ⟨t, M, Lg, Rf⟩ := A
  obtain rfl : t = 30 := hA
  refine (tz_Fe (L := [some (.ref 19), some (.int (-1)), none, none]) rfl).trans ?_
  refine (tz_g_iconst (v := 0) rfl (tz_in0 rfl)).trans ?_
  refine (tz_g_istore_n (L2 := [some (.ref 19), some (.int (-1)), some (.int 0), none]) rfl rfl (tz_in0 rfl)).trans ?_
  refine (tz_g_aload_n rfl (tz_in0 rfl)).trans ?_
  refine (tz_g_alen (v := 8) rfl rfl (tz_in0 rfl)).trans ?_
  refine (tz_g_istore_n (L2 := [some (.ref 19), some (.int (-1)), some (.int 0), some (.int 8)]) rfl rfl (tz_in0 rfl)).trans ?_
  refine (tz_g_iload_n rfl (tz_inM rfl rfl rfl)).trans ?_
  refine (tz_g_iload_n rfl (tz_in0 rfl)).trans ?_
  refine (tz_g_ic_ge (t := 20) (by decide) (tz_in0 rfl)).trans ?_
  refine (if_neg (by decide)).trans ?_
  refine (tz_g_aload_n rfl (tz_in0 rfl)).trans ?_
  refine (tz_g_iload_n rfl (tz_in0 rfl)).trans ?_
  refine (tz_g_iload_n rfl (tz_in0 rfl)).trans ?_
  refine (tz_g_iast (n := 8) rfl rfl rfl (tz_in0 rfl)).trans ?_
  refine (if_neg (by decide)).trans ?_
  refine (tz_g_iinc (v := 1) (L2 := [some (.ref 19), some (.int (-1)), some (.int 1), some (.int 8)]) rfl rfl rfl rfl (tz_in0 rfl)).trans ?_
  refine (tz_g_goto (t := 5) (by decide) (tz_in0 rfl)).trans ?_
  refine (tz_g_iload_n rfl (tz_inM rfl rfl rfl)).trans ?_
  refine (tz_g_iload_n rfl (tz_in0 rfl)).trans ?_
  refine (tz_g_ic_ge (t := 20) (by decide) (tz_in0 rfl)).trans ?_
  refine (if_neg (by decide)).trans ?_
  refine (tz_g_aload_n rfl (tz_in0 rfl)).trans ?_
  refine (tz_g_iload_n rfl (tz_in0 rfl)).trans ?_
  refine (tz_g_iload_n rfl (tz_in0 rfl)).trans ?_
  refine (tz_g_iast (n := 8) rfl rfl rfl (tz_in0 rfl)).trans ?_
  refine (if_neg (by decide)).trans ?_
  refine (tz_g_iinc (v := 1) (L2 := [some (.ref 19), some (.int (-1)), some (.int 2), some (.int 8)]) rfl rfl rfl rfl (tz_in0 rfl)).trans ?_
  refine (tz_g_goto (t := 5) (by decide) (tz_in0 rfl)).trans ?_
  refine (tz_g_iload_n rfl (tz_inM rfl rfl rfl)).trans ?_
  refine (tz_g_iload_n rfl (tz_in0 rfl)).trans ?_
  refine (tz_g_ic_ge (t := 20) (by decide) (tz_in0 rfl)).trans ?_
  refine (if_neg (by decide)).trans ?_
  refine (tz_g_aload_n rfl (tz_in0 rfl)).trans ?_
  refine (tz_g_iload_n rfl (tz_in0 rfl)).trans ?_
  refine (tz_g_iload_n rfl (tz_in0 rfl)).trans ?_
  refine (tz_g_iast (n := 8) rfl rfl rfl (tz_in0 rfl)).trans ?_
  refine (if_neg (by decide)).trans ?_
  refine (tz_g_iinc (v := 1) (L2 := [some (.ref 19), some (.int (-1)), some (.int 3), some (.int 8)]) rfl rfl rfl rfl (tz_in0 rfl)).trans ?_
  refine (tz_g_goto (t := 5) (by decide) (tz_in0 rfl)).trans ?_
  refine (tz_g_iload_n rfl (tz_inM rfl rfl rfl)).trans ?_
  refine (tz_g_iload_n rfl (tz_in0 rfl)).trans ?_
  refine (tz_g_ic_ge (t := 20) (by decide) (tz_in0 rfl)).trans ?_
  refine (if_neg (by decide)).trans ?_
  refine (tz_g_aload_n rfl (tz_in0 rfl)).trans ?_
  refine (tz_g_iload_n rfl (tz_in0 rfl)).trans ?_
  refine (tz_g_iload_n rfl (tz_in0 rfl)).trans ?_
  refine (tz_g_iast (n := 8) rfl rfl rfl (tz_in0 rfl)).trans ?_
  refine (if_neg (by decide)).trans ?_
  refine (tz_g_iinc (v := 1) (L2 := [some (.ref 19), some (.int (-1)), some (.int 4), some (.int 8)]) rfl rfl rfl rfl (tz_in0 rfl)).trans ?_
  refine (tz_g_goto (t := 5) (by decide) (tz_in0 rfl)).trans ?_
  refine (tz_g_iload_n rfl (tz_inM rfl rfl rfl)).trans ?_
  refine (tz_g_iload_n rfl (tz_in0 rfl)).trans ?_
  refine (tz_g_ic_ge (t := 20) (by decide) (tz_in0 rfl)).trans ?_
  refine (if_neg (by decide)).trans ?_
  refine (tz_g_aload_n rfl (tz_in0 rfl)).trans ?_
  refine (tz_g_iload_n rfl (tz_in0 rfl)).trans ?_
  refine (tz_g_iload_n rfl (tz_in0 rfl)).trans ?_
  refine (tz_g_iast (n := 8) rfl rfl rfl (tz_in0 rfl)).trans ?_
  refine (if_neg (by decide)).trans ?_
  refine (tz_g_iinc (v := 1) (L2 := [some (.ref 19), some (.int (-1)), some (.int 5), some (.int 8)]) rfl rfl rfl rfl (tz_in0 rfl)).trans ?_
  refine (tz_g_goto (t := 5) (by decide) (tz_in0 rfl)).trans ?_
  refine (tz_g_iload_n rfl (tz_inM rfl rfl rfl)).trans ?_
  refine (tz_g_iload_n rfl (tz_in0 rfl)).trans ?_
  refine (tz_g_ic_ge (t := 20) (by decide) (tz_in0 rfl)).trans ?_
  refine (if_neg (by decide)).trans ?_
  refine (tz_g_aload_n rfl (tz_in0 rfl)).trans ?_
  refine (tz_g_iload_n rfl (tz_in0 rfl)).trans ?_
  refine (tz_g_iload_n rfl (tz_in0 rfl)).trans ?_
  refine (tz_g_iast (n := 8) rfl rfl rfl (tz_in0 rfl)).trans ?_
  refine (if_neg (by decide)).trans ?_
  refine (tz_g_iinc (v := 1) (L2 := [some (.ref 19), some (.int (-1)), some (.int 6), some (.int 8)]) rfl rfl rfl rfl (tz_in0 rfl)).trans ?_
  refine (tz_g_goto (t := 5) (by decide) (tz_in0 rfl)).trans ?_
  refine (tz_g_iload_n rfl (tz_inM rfl rfl rfl)).trans ?_
  refine (tz_g_iload_n rfl (tz_in0 rfl)).trans ?_
  refine (tz_g_ic_ge (t := 20) (by decide) (tz_in0 rfl)).trans ?_
  refine (if_neg (by decide)).trans ?_
  refine (tz_g_aload_n rfl (tz_in0 rfl)).trans ?_
  refine (tz_g_iload_n rfl (tz_in0 rfl)).trans ?_
  refine (tz_g_iload_n rfl (tz_in0 rfl)).trans ?_
  refine (tz_g_iast (n := 8) rfl rfl rfl (tz_in0 rfl)).trans ?_
  refine (if_neg (by decide)).trans ?_
  refine (tz_g_iinc (v := 1) (L2 := [some (.ref 19), some (.int (-1)), some (.int 7), some (.int 8)]) rfl rfl rfl rfl (tz_in0 rfl)).trans ?_
  refine (tz_g_goto (t := 5) (by decide) (tz_in0 rfl)).trans ?_
  refine (tz_g_iload_n rfl (tz_inM rfl rfl rfl)).trans ?_
  refine (tz_g_iload_n rfl (tz_in0 rfl)).trans ?_
  refine (tz_g_ic_ge (t := 20) (by decide) (tz_in0 rfl)).trans ?_
  refine (if_neg (by decide)).trans ?_
  refine (tz_g_aload_n rfl (tz_in0 rfl)).trans ?_
  refine (tz_g_iload_n rfl (tz_in0 rfl)).trans ?_
  refine (tz_g_iload_n rfl (tz_in0 rfl)).trans ?_
  refine (tz_g_iast (n := 8) rfl rfl rfl (tz_in0 rfl)).trans ?_
  refine (if_neg (by decide)).trans ?_
  refine (tz_g_iinc (v := 1) (L2 := [some (.ref 19), some (.int (-1)), some (.int 8), some (.int 8)]) rfl rfl rfl rfl (tz_in0 rfl)).trans ?_
  refine (tz_g_goto (t := 5) (by decide) (tz_in0 rfl)).trans ?_
  refine (tz_g_iload_n rfl (tz_inM rfl rfl rfl)).trans ?_
  refine (tz_g_iload_n rfl (tz_in0 rfl)).trans ?_
  refine (tz_g_ic_ge (t := 20) (by decide) (tz_in0 rfl)).trans ?_
  refine (if_pos (by decide)).trans ?_
  exact tz_g_ret0 (tz_in0 rfl) rfl

def c_X8_init_k18 (A : tz_Mem) : tz_Mem := (c_J7_fill_53178_k19 (tz_sr (tz_nw (tz_sr (tz_nw (tz_sr (tz_nw A 1) 18 0 20) 1) 18 1 21) 9) 18 2 22))
set_option maxRecDepth 8192 in
theorem e_X8_init_k18 (A : tz_Mem) (hA : A.1 = 19) : tz_F 1 [.ref 18] A = some (none, c_X8_init_k18 A) := by
  obtain ⟨t, M, Lg, Rf⟩ := A
  obtain rfl : t = 19 := hA
  refine (tz_Fe (L := [some (.ref 18)]) rfl).trans ?_
  refine (tz_g_aload_n rfl (tz_in0 rfl)).trans ?_
  refine (tz_g_obj rfl rfl rfl (tz_in0 rfl)).trans ?_
  refine (tz_g_aload_n rfl (tz_in0 rfl)).trans ?_
  refine (tz_g_bipush (v := 8) rfl (tz_in0 rfl)).trans ?_
  refine (tz_g_newpi (j := 19) rfl (by decide) rfl rfl (tz_in0 rfl)).trans ?_
  refine (tz_g_putr rfl rfl rfl rfl (tz_in0 rfl)).trans ?_
  refine (tz_g_aload_n rfl (tz_in0 rfl)).trans ?_
  refine (tz_g_bipush (v := 8) rfl (tz_in0 rfl)).trans ?_
  refine (tz_g_newpi (j := 20) rfl (by decide) rfl rfl (tz_in0 rfl)).trans ?_
  refine (tz_g_putr rfl rfl rfl rfl (tz_in0 rfl)).trans ?_
  refine (tz_g_aload_n rfl (tz_in0 rfl)).trans ?_
  refine (tz_g_bipush (v := 8) rfl (tz_in0 rfl)).trans ?_
  refine (tz_g_sipush (v := 160) rfl (tz_in0 rfl)).trans ?_
  refine (tz_g_multip (j := 21) (c := 9) rfl (by decide) rfl rfl (tz_in0 rfl)).trans ?_
  refine (tz_g_putr rfl rfl rfl rfl (tz_in0 rfl)).trans ?_
  refine (tz_g_aload_n rfl (tz_in0 rfl)).trans ?_
  refine (tz_g_getq (j := 19) rfl rfl rfl rfl rfl (tz_in0 rfl)).trans ?_
  refine (tz_g_iconst (v := (-1)) rfl (tz_in0 rfl)).trans ?_
  refine (tz_g_cs2V (m2 := 2) (rc := 0) rfl rfl rfl rfl rfl rfl (by decide) (tz_in0 rfl)).trans ?_
  refine (tz_cc (e_J7_fill_53178_k19 _ rfl)).trans ?_
  refine tz_bV_some.trans ?_
  exact tz_g_ret0 (tz_in0 rfl) rfl

def c_X3_init_k31 (A : tz_Mem) : tz_Mem := (tz_sr (tz_nw (tz_sr (tz_nw (tz_sr (tz_nw (tz_sr (tz_nw (tz_sr (tz_nw A 1) 31 1 33) 1) 31 2 34) 1) 31 3 35) 1) 31 4 36) 1) 31 5 37)
set_option maxRecDepth 8192 in
theorem e_X3_init_k31 (A : tz_Mem) (hA : A.1 = 32) : tz_F 4 [.ref 31] A = some (none, c_X3_init_k31 A) := by
  obtain ⟨t, M, Lg, Rf⟩ := A
  obtain rfl : t = 32 := hA
  refine (tz_Fe (L := [some (.ref 31)]) rfl).trans ?_
  refine (tz_g_aload_n rfl (tz_in0 rfl)).trans ?_
  refine (tz_g_obj rfl rfl rfl (tz_in0 rfl)).trans ?_
  refine (tz_g_aload_n rfl (tz_in0 rfl)).trans ?_
  refine (tz_g_bipush (v := 8) rfl (tz_in0 rfl)).trans ?_
  refine (tz_g_newpi (j := 32) rfl (by decide) rfl rfl (tz_in0 rfl)).trans ?_
  refine (tz_g_putr rfl rfl rfl rfl (tz_in0 rfl)).trans ?_
  refine (tz_g_aload_n rfl (tz_in0 rfl)).trans ?_
  refine (tz_g_bipush (v := 8) rfl (tz_in0 rfl)).trans ?_
  refine (tz_g_newpi (j := 33) rfl (by decide) rfl rfl (tz_in0 rfl)).trans ?_
  refine (tz_g_putr rfl rfl rfl rfl (tz_in0 rfl)).trans ?_
  refine (tz_g_aload_n rfl (tz_in0 rfl)).trans ?_
  refine (tz_g_bipush (v := 8) rfl (tz_in0 rfl)).trans ?_
  refine (tz_g_newpi (j := 34) rfl (by decide) rfl rfl (tz_in0 rfl)).trans ?_
  refine (tz_g_putr rfl rfl rfl rfl (tz_in0 rfl)).trans ?_
  refine (tz_g_aload_n rfl (tz_in0 rfl)).trans ?_
  refine (tz_g_bipush (v := 8) rfl (tz_in0 rfl)).trans ?_
  refine (tz_g_newpi (j := 35) rfl (by decide) rfl rfl (tz_in0 rfl)).trans ?_
  refine (tz_g_putr rfl rfl rfl rfl (tz_in0 rfl)).trans ?_
  refine (tz_g_aload_n rfl (tz_in0 rfl)).trans ?_
  refine (tz_g_bipush (v := 64) rfl (tz_in0 rfl)).trans ?_
  refine (tz_g_newpi (j := 36) rfl (by decide) rfl rfl (tz_in0 rfl)).trans ?_
  refine (tz_g_putr rfl rfl rfl rfl (tz_in0 rfl)).trans ?_
  exact tz_g_ret0 (tz_in0 rfl) rfl

def c_X10_init_k37 (A : tz_Mem) : tz_Mem := (tz_sr (tz_nw (tz_sr (tz_nw (tz_sr (tz_nw (tz_sr (tz_nw (tz_sr (tz_nw (tz_sr (tz_nw (tz_sr (tz_nw A 1) 37 1 39) 1) 37 2 40) 1) 37 3 41) 1) 37 4 42) 1) 37 5 43) 1) 37 6 44) 1) 37 7 45)
set_option maxRecDepth 8192 in
theorem e_X10_init_k37 (A : tz_Mem) (hA : A.1 = 38) : tz_F 5 [.ref 37] A = some (none, c_X10_init_k37 A) := by
  obtain ⟨t, M, Lg, Rf⟩ := A
  obtain rfl : t = 38 := hA
  refine (tz_Fe (L := [some (.ref 37)]) rfl).trans ?_
  refine (tz_g_aload_n rfl (tz_in0 rfl)).trans ?_
  refine (tz_g_obj rfl rfl rfl (tz_in0 rfl)).trans ?_
  refine (tz_g_aload_n rfl (tz_in0 rfl)).trans ?_
  refine (tz_g_iconst (v := 4) rfl (tz_in0 rfl)).trans ?_
  refine (tz_g_newpi (j := 38) rfl (by decide) rfl rfl (tz_in0 rfl)).trans ?_
  refine (tz_g_putr rfl rfl rfl rfl (tz_in0 rfl)).trans ?_
  refine (tz_g_aload_n rfl (tz_in0 rfl)).trans ?_
  refine (tz_g_iconst (v := 4) rfl (tz_in0 rfl)).trans ?_
  refine (tz_g_newpi (j := 39) rfl (by decide) rfl rfl (tz_in0 rfl)).trans ?_
  refine (tz_g_putr rfl rfl rfl rfl (tz_in0 rfl)).trans ?_
  refine (tz_g_aload_n rfl (tz_in0 rfl)).trans ?_
  refine (tz_g_iconst (v := 4) rfl (tz_in0 rfl)).trans ?_
  refine (tz_g_newpi (j := 40) rfl (by decide) rfl rfl (tz_in0 rfl)).trans ?_
  refine (tz_g_putr rfl rfl rfl rfl (tz_in0 rfl)).trans ?_
  refine (tz_g_aload_n rfl (tz_in0 rfl)).trans ?_
  refine (tz_g_iconst (v := 4) rfl (tz_in0 rfl)).trans ?_
  refine (tz_g_newpi (j := 41) rfl (by decide) rfl rfl (tz_in0 rfl)).trans ?_
  refine (tz_g_putr rfl rfl rfl rfl (tz_in0 rfl)).trans ?_
  refine (tz_g_aload_n rfl (tz_in0 rfl)).trans ?_
  refine (tz_g_bipush (v := 24) rfl (tz_in0 rfl)).trans ?_
  refine (tz_g_newpi (j := 42) rfl (by decide) rfl rfl (tz_in0 rfl)).trans ?_
  refine (tz_g_putr rfl rfl rfl rfl (tz_in0 rfl)).trans ?_
  refine (tz_g_aload_n rfl (tz_in0 rfl)).trans ?_
  refine (tz_g_iconst (v := 4) rfl (tz_in0 rfl)).trans ?_
  refine (tz_g_newpi (j := 43) rfl (by decide) rfl rfl (tz_in0 rfl)).trans ?_
  refine (tz_g_putr rfl rfl rfl rfl (tz_in0 rfl)).trans ?_
  refine (tz_g_aload_n rfl (tz_in0 rfl)).trans ?_
  refine (tz_g_iconst (v := 4) rfl (tz_in0 rfl)).trans ?_
  refine (tz_g_newpi (j := 44) rfl (by decide) rfl rfl (tz_in0 rfl)).trans ?_
  refine (tz_g_putr rfl rfl rfl rfl (tz_in0 rfl)).trans ?_
  exact tz_g_ret0 (tz_in0 rfl) rfl

def c_X4_init_k45 (A : tz_Mem) : tz_Mem := (tz_sr (tz_nw (tz_sr (tz_nw (tz_sr (tz_nw (tz_sr (tz_nw (tz_sr (tz_nw (tz_sr (tz_nw (tz_sr (tz_nw A 1) 45 1 47) 1) 45 2 48) 1) 45 3 49) 1) 45 4 50) 1) 45 5 51) 1) 45 6 52) 1) 45 7 53)
set_option maxRecDepth 8192 in
theorem e_X4_init_k45 (A : tz_Mem) (hA : A.1 = 46) : tz_F 6 [.ref 45] A = some (none, c_X4_init_k45 A) := by
  obtain ⟨t, M, Lg, Rf⟩ := A
  obtain rfl : t = 46 := hA
  refine (tz_Fe (L := [some (.ref 45)]) rfl).trans ?_
  refine (tz_g_aload_n rfl (tz_in0 rfl)).trans ?_
  refine (tz_g_obj rfl rfl rfl (tz_in0 rfl)).trans ?_
  refine (tz_g_aload_n rfl (tz_in0 rfl)).trans ?_
  refine (tz_g_bipush (v := 12) rfl (tz_in0 rfl)).trans ?_
  refine (tz_g_newpi (j := 46) rfl (by decide) rfl rfl (tz_in0 rfl)).trans ?_
  refine (tz_g_putr rfl rfl rfl rfl (tz_in0 rfl)).trans ?_
  refine (tz_g_aload_n rfl (tz_in0 rfl)).trans ?_
  refine (tz_g_bipush (v := 12) rfl (tz_in0 rfl)).trans ?_
  refine (tz_g_newpi (j := 47) rfl (by decide) rfl rfl (tz_in0 rfl)).trans ?_
  refine (tz_g_putr rfl rfl rfl rfl (tz_in0 rfl)).trans ?_
  refine (tz_g_aload_n rfl (tz_in0 rfl)).trans ?_
  refine (tz_g_bipush (v := 12) rfl (tz_in0 rfl)).trans ?_
  refine (tz_g_newpi (j := 48) rfl (by decide) rfl rfl (tz_in0 rfl)).trans ?_
  refine (tz_g_putr rfl rfl rfl rfl (tz_in0 rfl)).trans ?_
  refine (tz_g_aload_n rfl (tz_in0 rfl)).trans ?_
  refine (tz_g_bipush (v := 12) rfl (tz_in0 rfl)).trans ?_
  refine (tz_g_newpi (j := 49) rfl (by decide) rfl rfl (tz_in0 rfl)).trans ?_
  refine (tz_g_putr rfl rfl rfl rfl (tz_in0 rfl)).trans ?_
  refine (tz_g_aload_n rfl (tz_in0 rfl)).trans ?_
  refine (tz_g_bipush (v := 12) rfl (tz_in0 rfl)).trans ?_
  refine (tz_g_newpi (j := 50) rfl (by decide) rfl rfl (tz_in0 rfl)).trans ?_
  refine (tz_g_putr rfl rfl rfl rfl (tz_in0 rfl)).trans ?_
  refine (tz_g_aload_n rfl (tz_in0 rfl)).trans ?_
  refine (tz_g_bipush (v := 12) rfl (tz_in0 rfl)).trans ?_
  refine (tz_g_newpi (j := 51) rfl (by decide) rfl rfl (tz_in0 rfl)).trans ?_
  refine (tz_g_putr rfl rfl rfl rfl (tz_in0 rfl)).trans ?_
  refine (tz_g_aload_n rfl (tz_in0 rfl)).trans ?_
  refine (tz_g_bipush (v := 12) rfl (tz_in0 rfl)).trans ?_
  refine (tz_g_newpi (j := 52) rfl (by decide) rfl rfl (tz_in0 rfl)).trans ?_
  refine (tz_g_putr rfl rfl rfl rfl (tz_in0 rfl)).trans ?_
  exact tz_g_ret0 (tz_in0 rfl) rfl

def c_X9_init_k30 (A : tz_Mem) : tz_Mem := (tz_s (tz_s (tz_s (tz_sr (c_X4_init_k45 (tz_nw (tz_sr (c_X10_init_k37 (tz_nw (tz_sr (c_X3_init_k31 (tz_nw A 1)) 30 0 32) 1)) 30 1 38) 1)) 30 2 46) 30 4 20) 30 5 1) 30 6 (-1))
set_option maxRecDepth 8192 in
theorem e_X9_init_k30 (A : tz_Mem) (hA : A.1 = 31) : tz_F 3 [.ref 30] A = some (none, c_X9_init_k30 A) := by
  obtain ⟨t, M, Lg, Rf⟩ := A
  obtain rfl : t = 31 := hA
  refine (tz_Fe (L := [some (.ref 30)]) rfl).trans ?_
  refine (tz_g_aload_n rfl (tz_in0 rfl)).trans ?_
  refine (tz_g_obj rfl rfl rfl (tz_in0 rfl)).trans ?_
  refine (tz_g_aload_n rfl (tz_in0 rfl)).trans ?_
  refine (tz_g_newp (j := 31) rfl rfl rfl (tz_in0 rfl)).trans ?_
  refine (tz_g_dup rfl (tz_in0 rfl)).trans ?_
  refine (tz_g_cp0V (m2 := 4) (rc := 0) rfl rfl rfl rfl rfl rfl (by decide) (tz_in0 rfl)).trans ?_
  refine (tz_cc (e_X3_init_k31 _ rfl)).trans ?_
  refine tz_bV_some.trans ?_
  refine (tz_g_putr rfl rfl rfl rfl (tz_in0 rfl)).trans ?_
  refine (tz_g_aload_n rfl (tz_in0 rfl)).trans ?_
  refine (tz_g_newp (j := 37) rfl rfl rfl (tz_in0 rfl)).trans ?_
  refine (tz_g_dup rfl (tz_in0 rfl)).trans ?_
  refine (tz_g_cp0V (m2 := 5) (rc := 0) rfl rfl rfl rfl rfl rfl (by decide) (tz_in0 rfl)).trans ?_
  refine (tz_cc (e_X10_init_k37 _ rfl)).trans ?_
  refine tz_bV_some.trans ?_
  refine (tz_g_putr rfl rfl rfl rfl (tz_in0 rfl)).trans ?_
  refine (tz_g_aload_n rfl (tz_in0 rfl)).trans ?_
  refine (tz_g_newp (j := 45) rfl rfl rfl (tz_in0 rfl)).trans ?_
  refine (tz_g_dup rfl (tz_in0 rfl)).trans ?_
  refine (tz_g_cp0V (m2 := 6) (rc := 0) rfl rfl rfl rfl rfl rfl (by decide) (tz_in0 rfl)).trans ?_
  refine (tz_cc (e_X4_init_k45 _ rfl)).trans ?_
  refine tz_bV_some.trans ?_
  refine (tz_g_putr rfl rfl rfl rfl (tz_in0 rfl)).trans ?_
  refine (tz_g_aload_n rfl (tz_in0 rfl)).trans ?_
  refine (tz_g_bipush (v := 20) rfl (tz_in0 rfl)).trans ?_
  refine (tz_g_puti rfl rfl rfl (tz_in0 rfl)).trans ?_
  refine (tz_g_aload_n rfl (tz_in0 rfl)).trans ?_
  refine (tz_g_iconst (v := 1) rfl (tz_in0 rfl)).trans ?_
  refine (tz_g_puti rfl rfl rfl (tz_in0 rfl)).trans ?_
  refine (tz_g_aload_n rfl (tz_in0 rfl)).trans ?_
  refine (tz_g_iconst (v := (-1)) rfl (tz_in0 rfl)).trans ?_
  refine (tz_g_puti rfl rfl rfl (tz_in0 rfl)).trans ?_
  exact tz_g_ret0 (tz_in0 rfl) rfl

def c_X3_init_k54 (A : tz_Mem) : tz_Mem := (tz_sr (tz_nw (tz_sr (tz_nw (tz_sr (tz_nw (tz_sr (tz_nw (tz_sr (tz_nw A 1) 54 1 56) 1) 54 2 57) 1) 54 3 58) 1) 54 4 59) 1) 54 5 60)
set_option maxRecDepth 8192 in
theorem e_X3_init_k54 (A : tz_Mem) (hA : A.1 = 55) : tz_F 4 [.ref 54] A = some (none, c_X3_init_k54 A) := by
  obtain ⟨t, M, Lg, Rf⟩ := A
  obtain rfl : t = 55 := hA
  refine (tz_Fe (L := [some (.ref 54)]) rfl).trans ?_
  refine (tz_g_aload_n rfl (tz_in0 rfl)).trans ?_
  refine (tz_g_obj rfl rfl rfl (tz_in0 rfl)).trans ?_
  refine (tz_g_aload_n rfl (tz_in0 rfl)).trans ?_
  refine (tz_g_bipush (v := 8) rfl (tz_in0 rfl)).trans ?_
  refine (tz_g_newpi (j := 55) rfl (by decide) rfl rfl (tz_in0 rfl)).trans ?_
  refine (tz_g_putr rfl rfl rfl rfl (tz_in0 rfl)).trans ?_
  refine (tz_g_aload_n rfl (tz_in0 rfl)).trans ?_
  refine (tz_g_bipush (v := 8) rfl (tz_in0 rfl)).trans ?_
  refine (tz_g_newpi (j := 56) rfl (by decide) rfl rfl (tz_in0 rfl)).trans ?_
  refine (tz_g_putr rfl rfl rfl rfl (tz_in0 rfl)).trans ?_
  refine (tz_g_aload_n rfl (tz_in0 rfl)).trans ?_
  refine (tz_g_bipush (v := 8) rfl (tz_in0 rfl)).trans ?_
  refine (tz_g_newpi (j := 57) rfl (by decide) rfl rfl (tz_in0 rfl)).trans ?_
  refine (tz_g_putr rfl rfl rfl rfl (tz_in0 rfl)).trans ?_
  refine (tz_g_aload_n rfl (tz_in0 rfl)).trans ?_
  refine (tz_g_bipush (v := 8) rfl (tz_in0 rfl)).trans ?_
  refine (tz_g_newpi (j := 58) rfl (by decide) rfl rfl (tz_in0 rfl)).trans ?_
  refine (tz_g_putr rfl rfl rfl rfl (tz_in0 rfl)).trans ?_
  refine (tz_g_aload_n rfl (tz_in0 rfl)).trans ?_
  refine (tz_g_bipush (v := 64) rfl (tz_in0 rfl)).trans ?_
  refine (tz_g_newpi (j := 59) rfl (by decide) rfl rfl (tz_in0 rfl)).trans ?_
  refine (tz_g_putr rfl rfl rfl rfl (tz_in0 rfl)).trans ?_
  exact tz_g_ret0 (tz_in0 rfl) rfl

def c_X10_init_k60 (A : tz_Mem) : tz_Mem := (tz_sr (tz_nw (tz_sr (tz_nw (tz_sr (tz_nw (tz_sr (tz_nw (tz_sr (tz_nw (tz_sr (tz_nw (tz_sr (tz_nw A 1) 60 1 62) 1) 60 2 63) 1) 60 3 64) 1) 60 4 65) 1) 60 5 66) 1) 60 6 67) 1) 60 7 68)
set_option maxRecDepth 8192 in
theorem e_X10_init_k60 (A : tz_Mem) (hA : A.1 = 61) : tz_F 5 [.ref 60] A = some (none, c_X10_init_k60 A) := by
  obtain ⟨t, M, Lg, Rf⟩ := A
  obtain rfl : t = 61 := hA
  refine (tz_Fe (L := [some (.ref 60)]) rfl).trans ?_
  refine (tz_g_aload_n rfl (tz_in0 rfl)).trans ?_
  refine (tz_g_obj rfl rfl rfl (tz_in0 rfl)).trans ?_
  refine (tz_g_aload_n rfl (tz_in0 rfl)).trans ?_
  refine (tz_g_iconst (v := 4) rfl (tz_in0 rfl)).trans ?_
  refine (tz_g_newpi (j := 61) rfl (by decide) rfl rfl (tz_in0 rfl)).trans ?_
  refine (tz_g_putr rfl rfl rfl rfl (tz_in0 rfl)).trans ?_
  refine (tz_g_aload_n rfl (tz_in0 rfl)).trans ?_
  refine (tz_g_iconst (v := 4) rfl (tz_in0 rfl)).trans ?_
  refine (tz_g_newpi (j := 62) rfl (by decide) rfl rfl (tz_in0 rfl)).trans ?_
  refine (tz_g_putr rfl rfl rfl rfl (tz_in0 rfl)).trans ?_
  refine (tz_g_aload_n rfl (tz_in0 rfl)).trans ?_
  refine (tz_g_iconst (v := 4) rfl (tz_in0 rfl)).trans ?_
  refine (tz_g_newpi (j := 63) rfl (by decide) rfl rfl (tz_in0 rfl)).trans ?_
  refine (tz_g_putr rfl rfl rfl rfl (tz_in0 rfl)).trans ?_
  refine (tz_g_aload_n rfl (tz_in0 rfl)).trans ?_
  refine (tz_g_iconst (v := 4) rfl (tz_in0 rfl)).trans ?_
  refine (tz_g_newpi (j := 64) rfl (by decide) rfl rfl (tz_in0 rfl)).trans ?_
  refine (tz_g_putr rfl rfl rfl rfl (tz_in0 rfl)).trans ?_
  refine (tz_g_aload_n rfl (tz_in0 rfl)).trans ?_
  refine (tz_g_bipush (v := 24) rfl (tz_in0 rfl)).trans ?_
  refine (tz_g_newpi (j := 65) rfl (by decide) rfl rfl (tz_in0 rfl)).trans ?_
  refine (tz_g_putr rfl rfl rfl rfl (tz_in0 rfl)).trans ?_
  refine (tz_g_aload_n rfl (tz_in0 rfl)).trans ?_
  refine (tz_g_iconst (v := 4) rfl (tz_in0 rfl)).trans ?_
  refine (tz_g_newpi (j := 66) rfl (by decide) rfl rfl (tz_in0 rfl)).trans ?_
  refine (tz_g_putr rfl rfl rfl rfl (tz_in0 rfl)).trans ?_
  refine (tz_g_aload_n rfl (tz_in0 rfl)).trans ?_
  refine (tz_g_iconst (v := 4) rfl (tz_in0 rfl)).trans ?_
  refine (tz_g_newpi (j := 67) rfl (by decide) rfl rfl (tz_in0 rfl)).trans ?_
  refine (tz_g_putr rfl rfl rfl rfl (tz_in0 rfl)).trans ?_
  exact tz_g_ret0 (tz_in0 rfl) rfl

def c_X4_init_k68 (A : tz_Mem) : tz_Mem := (tz_sr (tz_nw (tz_sr (tz_nw (tz_sr (tz_nw (tz_sr (tz_nw (tz_sr (tz_nw (tz_sr (tz_nw (tz_sr (tz_nw A 1) 68 1 70) 1) 68 2 71) 1) 68 3 72) 1) 68 4 73) 1) 68 5 74) 1) 68 6 75) 1) 68 7 76)
set_option maxRecDepth 8192 in
theorem e_X4_init_k68 (A : tz_Mem) (hA : A.1 = 69) : tz_F 6 [.ref 68] A = some (none, c_X4_init_k68 A) := by
  obtain ⟨t, M, Lg, Rf⟩ := A
  obtain rfl : t = 69 := hA
  refine (tz_Fe (L := [some (.ref 68)]) rfl).trans ?_
  refine (tz_g_aload_n rfl (tz_in0 rfl)).trans ?_
  refine (tz_g_obj rfl rfl rfl (tz_in0 rfl)).trans ?_
  refine (tz_g_aload_n rfl (tz_in0 rfl)).trans ?_
  refine (tz_g_bipush (v := 12) rfl (tz_in0 rfl)).trans ?_
  refine (tz_g_newpi (j := 69) rfl (by decide) rfl rfl (tz_in0 rfl)).trans ?_
  refine (tz_g_putr rfl rfl rfl rfl (tz_in0 rfl)).trans ?_
  refine (tz_g_aload_n rfl (tz_in0 rfl)).trans ?_
  refine (tz_g_bipush (v := 12) rfl (tz_in0 rfl)).trans ?_
  refine (tz_g_newpi (j := 70) rfl (by decide) rfl rfl (tz_in0 rfl)).trans ?_
  refine (tz_g_putr rfl rfl rfl rfl (tz_in0 rfl)).trans ?_
  refine (tz_g_aload_n rfl (tz_in0 rfl)).trans ?_
  refine (tz_g_bipush (v := 12) rfl (tz_in0 rfl)).trans ?_
  refine (tz_g_newpi (j := 71) rfl (by decide) rfl rfl (tz_in0 rfl)).trans ?_
  refine (tz_g_putr rfl rfl rfl rfl (tz_in0 rfl)).trans ?_
  refine (tz_g_aload_n rfl (tz_in0 rfl)).trans ?_
  refine (tz_g_bipush (v := 12) rfl (tz_in0 rfl)).trans ?_
  refine (tz_g_newpi (j := 72) rfl (by decide) rfl rfl (tz_in0 rfl)).trans ?_
  refine (tz_g_putr rfl rfl rfl rfl (tz_in0 rfl)).trans ?_
  refine (tz_g_aload_n rfl (tz_in0 rfl)).trans ?_
  refine (tz_g_bipush (v := 12) rfl (tz_in0 rfl)).trans ?_
  refine (tz_g_newpi (j := 73) rfl (by decide) rfl rfl (tz_in0 rfl)).trans ?_
  refine (tz_g_putr rfl rfl rfl rfl (tz_in0 rfl)).trans ?_
  refine (tz_g_aload_n rfl (tz_in0 rfl)).trans ?_
  refine (tz_g_bipush (v := 12) rfl (tz_in0 rfl)).trans ?_
  refine (tz_g_newpi (j := 74) rfl (by decide) rfl rfl (tz_in0 rfl)).trans ?_
  refine (tz_g_putr rfl rfl rfl rfl (tz_in0 rfl)).trans ?_
  refine (tz_g_aload_n rfl (tz_in0 rfl)).trans ?_
  refine (tz_g_bipush (v := 12) rfl (tz_in0 rfl)).trans ?_
  refine (tz_g_newpi (j := 75) rfl (by decide) rfl rfl (tz_in0 rfl)).trans ?_
  refine (tz_g_putr rfl rfl rfl rfl (tz_in0 rfl)).trans ?_
  exact tz_g_ret0 (tz_in0 rfl) rfl

def c_X9_init_k53 (A : tz_Mem) : tz_Mem := (tz_s (tz_s (tz_s (tz_sr (c_X4_init_k68 (tz_nw (tz_sr (c_X10_init_k60 (tz_nw (tz_sr (c_X3_init_k54 (tz_nw A 1)) 53 0 55) 1)) 53 1 61) 1)) 53 2 69) 53 4 20) 53 5 1) 53 6 (-1))
set_option maxRecDepth 8192 in
theorem e_X9_init_k53 (A : tz_Mem) (hA : A.1 = 54) : tz_F 3 [.ref 53] A = some (none, c_X9_init_k53 A) := by
  obtain ⟨t, M, Lg, Rf⟩ := A
  obtain rfl : t = 54 := hA
  refine (tz_Fe (L := [some (.ref 53)]) rfl).trans ?_
  refine (tz_g_aload_n rfl (tz_in0 rfl)).trans ?_
  refine (tz_g_obj rfl rfl rfl (tz_in0 rfl)).trans ?_
  refine (tz_g_aload_n rfl (tz_in0 rfl)).trans ?_
  refine (tz_g_newp (j := 54) rfl rfl rfl (tz_in0 rfl)).trans ?_
  refine (tz_g_dup rfl (tz_in0 rfl)).trans ?_
  refine (tz_g_cp0V (m2 := 4) (rc := 0) rfl rfl rfl rfl rfl rfl (by decide) (tz_in0 rfl)).trans ?_
  refine (tz_cc (e_X3_init_k54 _ rfl)).trans ?_
  refine tz_bV_some.trans ?_
  refine (tz_g_putr rfl rfl rfl rfl (tz_in0 rfl)).trans ?_
  refine (tz_g_aload_n rfl (tz_in0 rfl)).trans ?_
  refine (tz_g_newp (j := 60) rfl rfl rfl (tz_in0 rfl)).trans ?_
  refine (tz_g_dup rfl (tz_in0 rfl)).trans ?_
  refine (tz_g_cp0V (m2 := 5) (rc := 0) rfl rfl rfl rfl rfl rfl (by decide) (tz_in0 rfl)).trans ?_
  refine (tz_cc (e_X10_init_k60 _ rfl)).trans ?_
  refine tz_bV_some.trans ?_
  refine (tz_g_putr rfl rfl rfl rfl (tz_in0 rfl)).trans ?_
  refine (tz_g_aload_n rfl (tz_in0 rfl)).trans ?_
  refine (tz_g_newp (j := 68) rfl rfl rfl (tz_in0 rfl)).trans ?_
  refine (tz_g_dup rfl (tz_in0 rfl)).trans ?_
  refine (tz_g_cp0V (m2 := 6) (rc := 0) rfl rfl rfl rfl rfl rfl (by decide) (tz_in0 rfl)).trans ?_
  refine (tz_cc (e_X4_init_k68 _ rfl)).trans ?_
  refine tz_bV_some.trans ?_
  refine (tz_g_putr rfl rfl rfl rfl (tz_in0 rfl)).trans ?_
  refine (tz_g_aload_n rfl (tz_in0 rfl)).trans ?_
  refine (tz_g_bipush (v := 20) rfl (tz_in0 rfl)).trans ?_
  refine (tz_g_puti rfl rfl rfl (tz_in0 rfl)).trans ?_
  refine (tz_g_aload_n rfl (tz_in0 rfl)).trans ?_
  refine (tz_g_iconst (v := 1) rfl (tz_in0 rfl)).trans ?_
  refine (tz_g_puti rfl rfl rfl (tz_in0 rfl)).trans ?_
  refine (tz_g_aload_n rfl (tz_in0 rfl)).trans ?_
  refine (tz_g_iconst (v := (-1)) rfl (tz_in0 rfl)).trans ?_
  refine (tz_g_puti rfl rfl rfl (tz_in0 rfl)).trans ?_
  exact tz_g_ret0 (tz_in0 rfl) rfl

def c_X3_init_k77 (A : tz_Mem) : tz_Mem := (tz_sr (tz_nw (tz_sr (tz_nw (tz_sr (tz_nw (tz_sr (tz_nw (tz_sr (tz_nw A 1) 77 1 79) 1) 77 2 80) 1) 77 3 81) 1) 77 4 82) 1) 77 5 83)
set_option maxRecDepth 8192 in
theorem e_X3_init_k77 (A : tz_Mem) (hA : A.1 = 78) : tz_F 4 [.ref 77] A = some (none, c_X3_init_k77 A) := by
  obtain ⟨t, M, Lg, Rf⟩ := A
  obtain rfl : t = 78 := hA
  refine (tz_Fe (L := [some (.ref 77)]) rfl).trans ?_
  refine (tz_g_aload_n rfl (tz_in0 rfl)).trans ?_
  refine (tz_g_obj rfl rfl rfl (tz_in0 rfl)).trans ?_
  refine (tz_g_aload_n rfl (tz_in0 rfl)).trans ?_
  refine (tz_g_bipush (v := 8) rfl (tz_in0 rfl)).trans ?_
  refine (tz_g_newpi (j := 78) rfl (by decide) rfl rfl (tz_in0 rfl)).trans ?_
  refine (tz_g_putr rfl rfl rfl rfl (tz_in0 rfl)).trans ?_
  refine (tz_g_aload_n rfl (tz_in0 rfl)).trans ?_
  refine (tz_g_bipush (v := 8) rfl (tz_in0 rfl)).trans ?_
  refine (tz_g_newpi (j := 79) rfl (by decide) rfl rfl (tz_in0 rfl)).trans ?_
  refine (tz_g_putr rfl rfl rfl rfl (tz_in0 rfl)).trans ?_
  refine (tz_g_aload_n rfl (tz_in0 rfl)).trans ?_
  refine (tz_g_bipush (v := 8) rfl (tz_in0 rfl)).trans ?_
  refine (tz_g_newpi (j := 80) rfl (by decide) rfl rfl (tz_in0 rfl)).trans ?_
  refine (tz_g_putr rfl rfl rfl rfl (tz_in0 rfl)).trans ?_
  refine (tz_g_aload_n rfl (tz_in0 rfl)).trans ?_
  refine (tz_g_bipush (v := 8) rfl (tz_in0 rfl)).trans ?_
  refine (tz_g_newpi (j := 81) rfl (by decide) rfl rfl (tz_in0 rfl)).trans ?_
  refine (tz_g_putr rfl rfl rfl rfl (tz_in0 rfl)).trans ?_
  refine (tz_g_aload_n rfl (tz_in0 rfl)).trans ?_
  refine (tz_g_bipush (v := 64) rfl (tz_in0 rfl)).trans ?_
  refine (tz_g_newpi (j := 82) rfl (by decide) rfl rfl (tz_in0 rfl)).trans ?_
  refine (tz_g_putr rfl rfl rfl rfl (tz_in0 rfl)).trans ?_
  exact tz_g_ret0 (tz_in0 rfl) rfl

def c_X10_init_k83 (A : tz_Mem) : tz_Mem := (tz_sr (tz_nw (tz_sr (tz_nw (tz_sr (tz_nw (tz_sr (tz_nw (tz_sr (tz_nw (tz_sr (tz_nw (tz_sr (tz_nw A 1) 83 1 85) 1) 83 2 86) 1) 83 3 87) 1) 83 4 88) 1) 83 5 89) 1) 83 6 90) 1) 83 7 91)
set_option maxRecDepth 8192 in
theorem e_X10_init_k83 (A : tz_Mem) (hA : A.1 = 84) : tz_F 5 [.ref 83] A = some (none, c_X10_init_k83 A) := by
  obtain ⟨t, M, Lg, Rf⟩ := A
  obtain rfl : t = 84 := hA
  refine (tz_Fe (L := [some (.ref 83)]) rfl).trans ?_
  refine (tz_g_aload_n rfl (tz_in0 rfl)).trans ?_
  refine (tz_g_obj rfl rfl rfl (tz_in0 rfl)).trans ?_
  refine (tz_g_aload_n rfl (tz_in0 rfl)).trans ?_
  refine (tz_g_iconst (v := 4) rfl (tz_in0 rfl)).trans ?_
  refine (tz_g_newpi (j := 84) rfl (by decide) rfl rfl (tz_in0 rfl)).trans ?_
  refine (tz_g_putr rfl rfl rfl rfl (tz_in0 rfl)).trans ?_
  refine (tz_g_aload_n rfl (tz_in0 rfl)).trans ?_
  refine (tz_g_iconst (v := 4) rfl (tz_in0 rfl)).trans ?_
  refine (tz_g_newpi (j := 85) rfl (by decide) rfl rfl (tz_in0 rfl)).trans ?_
  refine (tz_g_putr rfl rfl rfl rfl (tz_in0 rfl)).trans ?_
  refine (tz_g_aload_n rfl (tz_in0 rfl)).trans ?_
  refine (tz_g_iconst (v := 4) rfl (tz_in0 rfl)).trans ?_
  refine (tz_g_newpi (j := 86) rfl (by decide) rfl rfl (tz_in0 rfl)).trans ?_
  refine (tz_g_putr rfl rfl rfl rfl (tz_in0 rfl)).trans ?_
  refine (tz_g_aload_n rfl (tz_in0 rfl)).trans ?_
  refine (tz_g_iconst (v := 4) rfl (tz_in0 rfl)).trans ?_
  refine (tz_g_newpi (j := 87) rfl (by decide) rfl rfl (tz_in0 rfl)).trans ?_
  refine (tz_g_putr rfl rfl rfl rfl (tz_in0 rfl)).trans ?_
  refine (tz_g_aload_n rfl (tz_in0 rfl)).trans ?_
  refine (tz_g_bipush (v := 24) rfl (tz_in0 rfl)).trans ?_
  refine (tz_g_newpi (j := 88) rfl (by decide) rfl rfl (tz_in0 rfl)).trans ?_
  refine (tz_g_putr rfl rfl rfl rfl (tz_in0 rfl)).trans ?_
  refine (tz_g_aload_n rfl (tz_in0 rfl)).trans ?_
  refine (tz_g_iconst (v := 4) rfl (tz_in0 rfl)).trans ?_
  refine (tz_g_newpi (j := 89) rfl (by decide) rfl rfl (tz_in0 rfl)).trans ?_
  refine (tz_g_putr rfl rfl rfl rfl (tz_in0 rfl)).trans ?_
  refine (tz_g_aload_n rfl (tz_in0 rfl)).trans ?_
  refine (tz_g_iconst (v := 4) rfl (tz_in0 rfl)).trans ?_
  refine (tz_g_newpi (j := 90) rfl (by decide) rfl rfl (tz_in0 rfl)).trans ?_
  refine (tz_g_putr rfl rfl rfl rfl (tz_in0 rfl)).trans ?_
  exact tz_g_ret0 (tz_in0 rfl) rfl

def c_X4_init_k91 (A : tz_Mem) : tz_Mem := (tz_sr (tz_nw (tz_sr (tz_nw (tz_sr (tz_nw (tz_sr (tz_nw (tz_sr (tz_nw (tz_sr (tz_nw (tz_sr (tz_nw A 1) 91 1 93) 1) 91 2 94) 1) 91 3 95) 1) 91 4 96) 1) 91 5 97) 1) 91 6 98) 1) 91 7 99)
set_option maxRecDepth 8192 in
theorem e_X4_init_k91 (A : tz_Mem) (hA : A.1 = 92) : tz_F 6 [.ref 91] A = some (none, c_X4_init_k91 A) := by
  obtain ⟨t, M, Lg, Rf⟩ := A
  obtain rfl : t = 92 := hA
  refine (tz_Fe (L := [some (.ref 91)]) rfl).trans ?_
  refine (tz_g_aload_n rfl (tz_in0 rfl)).trans ?_
  refine (tz_g_obj rfl rfl rfl (tz_in0 rfl)).trans ?_
  refine (tz_g_aload_n rfl (tz_in0 rfl)).trans ?_
  refine (tz_g_bipush (v := 12) rfl (tz_in0 rfl)).trans ?_
  refine (tz_g_newpi (j := 92) rfl (by decide) rfl rfl (tz_in0 rfl)).trans ?_
  refine (tz_g_putr rfl rfl rfl rfl (tz_in0 rfl)).trans ?_
  refine (tz_g_aload_n rfl (tz_in0 rfl)).trans ?_
  refine (tz_g_bipush (v := 12) rfl (tz_in0 rfl)).trans ?_
  refine (tz_g_newpi (j := 93) rfl (by decide) rfl rfl (tz_in0 rfl)).trans ?_
  refine (tz_g_putr rfl rfl rfl rfl (tz_in0 rfl)).trans ?_
  refine (tz_g_aload_n rfl (tz_in0 rfl)).trans ?_
  refine (tz_g_bipush (v := 12) rfl (tz_in0 rfl)).trans ?_
  refine (tz_g_newpi (j := 94) rfl (by decide) rfl rfl (tz_in0 rfl)).trans ?_
  refine (tz_g_putr rfl rfl rfl rfl (tz_in0 rfl)).trans ?_
  refine (tz_g_aload_n rfl (tz_in0 rfl)).trans ?_
  refine (tz_g_bipush (v := 12) rfl (tz_in0 rfl)).trans ?_
  refine (tz_g_newpi (j := 95) rfl (by decide) rfl rfl (tz_in0 rfl)).trans ?_
  refine (tz_g_putr rfl rfl rfl rfl (tz_in0 rfl)).trans ?_
  refine (tz_g_aload_n rfl (tz_in0 rfl)).trans ?_
  refine (tz_g_bipush (v := 12) rfl (tz_in0 rfl)).trans ?_
  refine (tz_g_newpi (j := 96) rfl (by decide) rfl rfl (tz_in0 rfl)).trans ?_
  refine (tz_g_putr rfl rfl rfl rfl (tz_in0 rfl)).trans ?_
  refine (tz_g_aload_n rfl (tz_in0 rfl)).trans ?_
  refine (tz_g_bipush (v := 12) rfl (tz_in0 rfl)).trans ?_
  refine (tz_g_newpi (j := 97) rfl (by decide) rfl rfl (tz_in0 rfl)).trans ?_
  refine (tz_g_putr rfl rfl rfl rfl (tz_in0 rfl)).trans ?_
  refine (tz_g_aload_n rfl (tz_in0 rfl)).trans ?_
  refine (tz_g_bipush (v := 12) rfl (tz_in0 rfl)).trans ?_
  refine (tz_g_newpi (j := 98) rfl (by decide) rfl rfl (tz_in0 rfl)).trans ?_
  refine (tz_g_putr rfl rfl rfl rfl (tz_in0 rfl)).trans ?_
  exact tz_g_ret0 (tz_in0 rfl) rfl

def c_X9_init_k76 (A : tz_Mem) : tz_Mem := (tz_s (tz_s (tz_s (tz_sr (c_X4_init_k91 (tz_nw (tz_sr (c_X10_init_k83 (tz_nw (tz_sr (c_X3_init_k77 (tz_nw A 1)) 76 0 78) 1)) 76 1 84) 1)) 76 2 92) 76 4 20) 76 5 1) 76 6 (-1))
set_option maxRecDepth 8192 in
theorem e_X9_init_k76 (A : tz_Mem) (hA : A.1 = 77) : tz_F 3 [.ref 76] A = some (none, c_X9_init_k76 A) := by
  obtain ⟨t, M, Lg, Rf⟩ := A
  obtain rfl : t = 77 := hA
  refine (tz_Fe (L := [some (.ref 76)]) rfl).trans ?_
  refine (tz_g_aload_n rfl (tz_in0 rfl)).trans ?_
  refine (tz_g_obj rfl rfl rfl (tz_in0 rfl)).trans ?_
  refine (tz_g_aload_n rfl (tz_in0 rfl)).trans ?_
  refine (tz_g_newp (j := 77) rfl rfl rfl (tz_in0 rfl)).trans ?_
  refine (tz_g_dup rfl (tz_in0 rfl)).trans ?_
  refine (tz_g_cp0V (m2 := 4) (rc := 0) rfl rfl rfl rfl rfl rfl (by decide) (tz_in0 rfl)).trans ?_
  refine (tz_cc (e_X3_init_k77 _ rfl)).trans ?_
  refine tz_bV_some.trans ?_
  refine (tz_g_putr rfl rfl rfl rfl (tz_in0 rfl)).trans ?_
  refine (tz_g_aload_n rfl (tz_in0 rfl)).trans ?_
  refine (tz_g_newp (j := 83) rfl rfl rfl (tz_in0 rfl)).trans ?_
  refine (tz_g_dup rfl (tz_in0 rfl)).trans ?_
  refine (tz_g_cp0V (m2 := 5) (rc := 0) rfl rfl rfl rfl rfl rfl (by decide) (tz_in0 rfl)).trans ?_
  refine (tz_cc (e_X10_init_k83 _ rfl)).trans ?_
  refine tz_bV_some.trans ?_
  refine (tz_g_putr rfl rfl rfl rfl (tz_in0 rfl)).trans ?_
  refine (tz_g_aload_n rfl (tz_in0 rfl)).trans ?_
  refine (tz_g_newp (j := 91) rfl rfl rfl (tz_in0 rfl)).trans ?_
  refine (tz_g_dup rfl (tz_in0 rfl)).trans ?_
  refine (tz_g_cp0V (m2 := 6) (rc := 0) rfl rfl rfl rfl rfl rfl (by decide) (tz_in0 rfl)).trans ?_
  refine (tz_cc (e_X4_init_k91 _ rfl)).trans ?_
  refine tz_bV_some.trans ?_
  refine (tz_g_putr rfl rfl rfl rfl (tz_in0 rfl)).trans ?_
  refine (tz_g_aload_n rfl (tz_in0 rfl)).trans ?_
  refine (tz_g_bipush (v := 20) rfl (tz_in0 rfl)).trans ?_
  refine (tz_g_puti rfl rfl rfl (tz_in0 rfl)).trans ?_
  refine (tz_g_aload_n rfl (tz_in0 rfl)).trans ?_
  refine (tz_g_iconst (v := 1) rfl (tz_in0 rfl)).trans ?_
  refine (tz_g_puti rfl rfl rfl (tz_in0 rfl)).trans ?_
  refine (tz_g_aload_n rfl (tz_in0 rfl)).trans ?_
  refine (tz_g_iconst (v := (-1)) rfl (tz_in0 rfl)).trans ?_
  refine (tz_g_puti rfl rfl rfl (tz_in0 rfl)).trans ?_
  exact tz_g_ret0 (tz_in0 rfl) rfl

def c_X3_init_k100 (A : tz_Mem) : tz_Mem := (tz_sr (tz_nw (tz_sr (tz_nw (tz_sr (tz_nw (tz_sr (tz_nw (tz_sr (tz_nw A 1) 100 1 102) 1) 100 2 103) 1) 100 3 104) 1) 100 4 105) 1) 100 5 106)
set_option maxRecDepth 8192 in
theorem e_X3_init_k100 (A : tz_Mem) (hA : A.1 = 101) : tz_F 4 [.ref 100] A = some (none, c_X3_init_k100 A) := by
  obtain ⟨t, M, Lg, Rf⟩ := A
  obtain rfl : t = 101 := hA
  refine (tz_Fe (L := [some (.ref 100)]) rfl).trans ?_
  refine (tz_g_aload_n rfl (tz_in0 rfl)).trans ?_
  refine (tz_g_obj rfl rfl rfl (tz_in0 rfl)).trans ?_
  refine (tz_g_aload_n rfl (tz_in0 rfl)).trans ?_
  refine (tz_g_bipush (v := 8) rfl (tz_in0 rfl)).trans ?_
  refine (tz_g_newpi (j := 101) rfl (by decide) rfl rfl (tz_in0 rfl)).trans ?_
  refine (tz_g_putr rfl rfl rfl rfl (tz_in0 rfl)).trans ?_
  refine (tz_g_aload_n rfl (tz_in0 rfl)).trans ?_
  refine (tz_g_bipush (v := 8) rfl (tz_in0 rfl)).trans ?_
  refine (tz_g_newpi (j := 102) rfl (by decide) rfl rfl (tz_in0 rfl)).trans ?_
  refine (tz_g_putr rfl rfl rfl rfl (tz_in0 rfl)).trans ?_
  refine (tz_g_aload_n rfl (tz_in0 rfl)).trans ?_
  refine (tz_g_bipush (v := 8) rfl (tz_in0 rfl)).trans ?_
  refine (tz_g_newpi (j := 103) rfl (by decide) rfl rfl (tz_in0 rfl)).trans ?_
  refine (tz_g_putr rfl rfl rfl rfl (tz_in0 rfl)).trans ?_
  refine (tz_g_aload_n rfl (tz_in0 rfl)).trans ?_
  refine (tz_g_bipush (v := 8) rfl (tz_in0 rfl)).trans ?_
  refine (tz_g_newpi (j := 104) rfl (by decide) rfl rfl (tz_in0 rfl)).trans ?_
  refine (tz_g_putr rfl rfl rfl rfl (tz_in0 rfl)).trans ?_
  refine (tz_g_aload_n rfl (tz_in0 rfl)).trans ?_
  refine (tz_g_bipush (v := 64) rfl (tz_in0 rfl)).trans ?_
  refine (tz_g_newpi (j := 105) rfl (by decide) rfl rfl (tz_in0 rfl)).trans ?_
  refine (tz_g_putr rfl rfl rfl rfl (tz_in0 rfl)).trans ?_
  exact tz_g_ret0 (tz_in0 rfl) rfl

def c_X10_init_k106 (A : tz_Mem) : tz_Mem := (tz_sr (tz_nw (tz_sr (tz_nw (tz_sr (tz_nw (tz_sr (tz_nw (tz_sr (tz_nw (tz_sr (tz_nw (tz_sr (tz_nw A 1) 106 1 108) 1) 106 2 109) 1) 106 3 110) 1) 106 4 111) 1) 106 5 112) 1) 106 6 113) 1) 106 7 114)
set_option maxRecDepth 8192 in
theorem e_X10_init_k106 (A : tz_Mem) (hA : A.1 = 107) : tz_F 5 [.ref 106] A = some (none, c_X10_init_k106 A) := by
  obtain ⟨t, M, Lg, Rf⟩ := A
  obtain rfl : t = 107 := hA
  refine (tz_Fe (L := [some (.ref 106)]) rfl).trans ?_
  refine (tz_g_aload_n rfl (tz_in0 rfl)).trans ?_
  refine (tz_g_obj rfl rfl rfl (tz_in0 rfl)).trans ?_
  refine (tz_g_aload_n rfl (tz_in0 rfl)).trans ?_
  refine (tz_g_iconst (v := 4) rfl (tz_in0 rfl)).trans ?_
  refine (tz_g_newpi (j := 107) rfl (by decide) rfl rfl (tz_in0 rfl)).trans ?_
  refine (tz_g_putr rfl rfl rfl rfl (tz_in0 rfl)).trans ?_
  refine (tz_g_aload_n rfl (tz_in0 rfl)).trans ?_
  refine (tz_g_iconst (v := 4) rfl (tz_in0 rfl)).trans ?_
  refine (tz_g_newpi (j := 108) rfl (by decide) rfl rfl (tz_in0 rfl)).trans ?_
  refine (tz_g_putr rfl rfl rfl rfl (tz_in0 rfl)).trans ?_
  refine (tz_g_aload_n rfl (tz_in0 rfl)).trans ?_
  refine (tz_g_iconst (v := 4) rfl (tz_in0 rfl)).trans ?_
  refine (tz_g_newpi (j := 109) rfl (by decide) rfl rfl (tz_in0 rfl)).trans ?_
  refine (tz_g_putr rfl rfl rfl rfl (tz_in0 rfl)).trans ?_
  refine (tz_g_aload_n rfl (tz_in0 rfl)).trans ?_
  refine (tz_g_iconst (v := 4) rfl (tz_in0 rfl)).trans ?_
  refine (tz_g_newpi (j := 110) rfl (by decide) rfl rfl (tz_in0 rfl)).trans ?_
  refine (tz_g_putr rfl rfl rfl rfl (tz_in0 rfl)).trans ?_
  refine (tz_g_aload_n rfl (tz_in0 rfl)).trans ?_
  refine (tz_g_bipush (v := 24) rfl (tz_in0 rfl)).trans ?_
  refine (tz_g_newpi (j := 111) rfl (by decide) rfl rfl (tz_in0 rfl)).trans ?_
  refine (tz_g_putr rfl rfl rfl rfl (tz_in0 rfl)).trans ?_
  refine (tz_g_aload_n rfl (tz_in0 rfl)).trans ?_
  refine (tz_g_iconst (v := 4) rfl (tz_in0 rfl)).trans ?_
  refine (tz_g_newpi (j := 112) rfl (by decide) rfl rfl (tz_in0 rfl)).trans ?_
  refine (tz_g_putr rfl rfl rfl rfl (tz_in0 rfl)).trans ?_
  refine (tz_g_aload_n rfl (tz_in0 rfl)).trans ?_
  refine (tz_g_iconst (v := 4) rfl (tz_in0 rfl)).trans ?_
  refine (tz_g_newpi (j := 113) rfl (by decide) rfl rfl (tz_in0 rfl)).trans ?_
  refine (tz_g_putr rfl rfl rfl rfl (tz_in0 rfl)).trans ?_
  exact tz_g_ret0 (tz_in0 rfl) rfl

def c_X4_init_k114 (A : tz_Mem) : tz_Mem := (tz_sr (tz_nw (tz_sr (tz_nw (tz_sr (tz_nw (tz_sr (tz_nw (tz_sr (tz_nw (tz_sr (tz_nw (tz_sr (tz_nw A 1) 114 1 116) 1) 114 2 117) 1) 114 3 118) 1) 114 4 119) 1) 114 5 120) 1) 114 6 121) 1) 114 7 122)
set_option maxRecDepth 8192 in
theorem e_X4_init_k114 (A : tz_Mem) (hA : A.1 = 115) : tz_F 6 [.ref 114] A = some (none, c_X4_init_k114 A) := by
  obtain ⟨t, M, Lg, Rf⟩ := A
  obtain rfl : t = 115 := hA
  refine (tz_Fe (L := [some (.ref 114)]) rfl).trans ?_
  refine (tz_g_aload_n rfl (tz_in0 rfl)).trans ?_
  refine (tz_g_obj rfl rfl rfl (tz_in0 rfl)).trans ?_
  refine (tz_g_aload_n rfl (tz_in0 rfl)).trans ?_
  refine (tz_g_bipush (v := 12) rfl (tz_in0 rfl)).trans ?_
  refine (tz_g_newpi (j := 115) rfl (by decide) rfl rfl (tz_in0 rfl)).trans ?_
  refine (tz_g_putr rfl rfl rfl rfl (tz_in0 rfl)).trans ?_
  refine (tz_g_aload_n rfl (tz_in0 rfl)).trans ?_
  refine (tz_g_bipush (v := 12) rfl (tz_in0 rfl)).trans ?_
  refine (tz_g_newpi (j := 116) rfl (by decide) rfl rfl (tz_in0 rfl)).trans ?_
  refine (tz_g_putr rfl rfl rfl rfl (tz_in0 rfl)).trans ?_
  refine (tz_g_aload_n rfl (tz_in0 rfl)).trans ?_
  refine (tz_g_bipush (v := 12) rfl (tz_in0 rfl)).trans ?_
  refine (tz_g_newpi (j := 117) rfl (by decide) rfl rfl (tz_in0 rfl)).trans ?_
  refine (tz_g_putr rfl rfl rfl rfl (tz_in0 rfl)).trans ?_
  refine (tz_g_aload_n rfl (tz_in0 rfl)).trans ?_
  refine (tz_g_bipush (v := 12) rfl (tz_in0 rfl)).trans ?_
  refine (tz_g_newpi (j := 118) rfl (by decide) rfl rfl (tz_in0 rfl)).trans ?_
  refine (tz_g_putr rfl rfl rfl rfl (tz_in0 rfl)).trans ?_
  refine (tz_g_aload_n rfl (tz_in0 rfl)).trans ?_
  refine (tz_g_bipush (v := 12) rfl (tz_in0 rfl)).trans ?_
  refine (tz_g_newpi (j := 119) rfl (by decide) rfl rfl (tz_in0 rfl)).trans ?_
  refine (tz_g_putr rfl rfl rfl rfl (tz_in0 rfl)).trans ?_
  refine (tz_g_aload_n rfl (tz_in0 rfl)).trans ?_
  refine (tz_g_bipush (v := 12) rfl (tz_in0 rfl)).trans ?_
  refine (tz_g_newpi (j := 120) rfl (by decide) rfl rfl (tz_in0 rfl)).trans ?_
  refine (tz_g_putr rfl rfl rfl rfl (tz_in0 rfl)).trans ?_
  refine (tz_g_aload_n rfl (tz_in0 rfl)).trans ?_
  refine (tz_g_bipush (v := 12) rfl (tz_in0 rfl)).trans ?_
  refine (tz_g_newpi (j := 121) rfl (by decide) rfl rfl (tz_in0 rfl)).trans ?_
  refine (tz_g_putr rfl rfl rfl rfl (tz_in0 rfl)).trans ?_
  exact tz_g_ret0 (tz_in0 rfl) rfl

def c_X9_init_k99 (A : tz_Mem) : tz_Mem := (tz_s (tz_s (tz_s (tz_sr (c_X4_init_k114 (tz_nw (tz_sr (c_X10_init_k106 (tz_nw (tz_sr (c_X3_init_k100 (tz_nw A 1)) 99 0 101) 1)) 99 1 107) 1)) 99 2 115) 99 4 20) 99 5 1) 99 6 (-1))
set_option maxRecDepth 8192 in
theorem e_X9_init_k99 (A : tz_Mem) (hA : A.1 = 100) : tz_F 3 [.ref 99] A = some (none, c_X9_init_k99 A) := by
  obtain ⟨t, M, Lg, Rf⟩ := A
  obtain rfl : t = 100 := hA
  refine (tz_Fe (L := [some (.ref 99)]) rfl).trans ?_
  refine (tz_g_aload_n rfl (tz_in0 rfl)).trans ?_
  refine (tz_g_obj rfl rfl rfl (tz_in0 rfl)).trans ?_
  refine (tz_g_aload_n rfl (tz_in0 rfl)).trans ?_
  refine (tz_g_newp (j := 100) rfl rfl rfl (tz_in0 rfl)).trans ?_
  refine (tz_g_dup rfl (tz_in0 rfl)).trans ?_
  refine (tz_g_cp0V (m2 := 4) (rc := 0) rfl rfl rfl rfl rfl rfl (by decide) (tz_in0 rfl)).trans ?_
  refine (tz_cc (e_X3_init_k100 _ rfl)).trans ?_
  refine tz_bV_some.trans ?_
  refine (tz_g_putr rfl rfl rfl rfl (tz_in0 rfl)).trans ?_
  refine (tz_g_aload_n rfl (tz_in0 rfl)).trans ?_
  refine (tz_g_newp (j := 106) rfl rfl rfl (tz_in0 rfl)).trans ?_
  refine (tz_g_dup rfl (tz_in0 rfl)).trans ?_
  refine (tz_g_cp0V (m2 := 5) (rc := 0) rfl rfl rfl rfl rfl rfl (by decide) (tz_in0 rfl)).trans ?_
  refine (tz_cc (e_X10_init_k106 _ rfl)).trans ?_
  refine tz_bV_some.trans ?_
  refine (tz_g_putr rfl rfl rfl rfl (tz_in0 rfl)).trans ?_
  refine (tz_g_aload_n rfl (tz_in0 rfl)).trans ?_
  refine (tz_g_newp (j := 114) rfl rfl rfl (tz_in0 rfl)).trans ?_
  refine (tz_g_dup rfl (tz_in0 rfl)).trans ?_
  refine (tz_g_cp0V (m2 := 6) (rc := 0) rfl rfl rfl rfl rfl rfl (by decide) (tz_in0 rfl)).trans ?_
  refine (tz_cc (e_X4_init_k114 _ rfl)).trans ?_
  refine tz_bV_some.trans ?_
  refine (tz_g_putr rfl rfl rfl rfl (tz_in0 rfl)).trans ?_
  refine (tz_g_aload_n rfl (tz_in0 rfl)).trans ?_
  refine (tz_g_bipush (v := 20) rfl (tz_in0 rfl)).trans ?_
  refine (tz_g_puti rfl rfl rfl (tz_in0 rfl)).trans ?_
  refine (tz_g_aload_n rfl (tz_in0 rfl)).trans ?_
  refine (tz_g_iconst (v := 1) rfl (tz_in0 rfl)).trans ?_
  refine (tz_g_puti rfl rfl rfl (tz_in0 rfl)).trans ?_
  refine (tz_g_aload_n rfl (tz_in0 rfl)).trans ?_
  refine (tz_g_iconst (v := (-1)) rfl (tz_in0 rfl)).trans ?_
  refine (tz_g_puti rfl rfl rfl (tz_in0 rfl)).trans ?_
  exact tz_g_ret0 (tz_in0 rfl) rfl

def c_X3_init_k125 (A : tz_Mem) : tz_Mem := (tz_sr (tz_nw (tz_sr (tz_nw (tz_sr (tz_nw (tz_sr (tz_nw (tz_sr (tz_nw A 1) 125 1 127) 1) 125 2 128) 1) 125 3 129) 1) 125 4 130) 1) 125 5 131)
set_option maxRecDepth 8192 in
theorem e_X3_init_k125 (A : tz_Mem) (hA : A.1 = 126) : tz_F 4 [.ref 125] A = some (none, c_X3_init_k125 A) := by
  obtain ⟨t, M, Lg, Rf⟩ := A
  obtain rfl : t = 126 := hA
  refine (tz_Fe (L := [some (.ref 125)]) rfl).trans ?_
  refine (tz_g_aload_n rfl (tz_in0 rfl)).trans ?_
  refine (tz_g_obj rfl rfl rfl (tz_in0 rfl)).trans ?_
  refine (tz_g_aload_n rfl (tz_in0 rfl)).trans ?_
  refine (tz_g_bipush (v := 8) rfl (tz_in0 rfl)).trans ?_
  refine (tz_g_newpi (j := 126) rfl (by decide) rfl rfl (tz_in0 rfl)).trans ?_
  refine (tz_g_putr rfl rfl rfl rfl (tz_in0 rfl)).trans ?_
  refine (tz_g_aload_n rfl (tz_in0 rfl)).trans ?_
  refine (tz_g_bipush (v := 8) rfl (tz_in0 rfl)).trans ?_
  refine (tz_g_newpi (j := 127) rfl (by decide) rfl rfl (tz_in0 rfl)).trans ?_
  refine (tz_g_putr rfl rfl rfl rfl (tz_in0 rfl)).trans ?_
  refine (tz_g_aload_n rfl (tz_in0 rfl)).trans ?_
  refine (tz_g_bipush (v := 8) rfl (tz_in0 rfl)).trans ?_
  refine (tz_g_newpi (j := 128) rfl (by decide) rfl rfl (tz_in0 rfl)).trans ?_
  refine (tz_g_putr rfl rfl rfl rfl (tz_in0 rfl)).trans ?_
  refine (tz_g_aload_n rfl (tz_in0 rfl)).trans ?_
  refine (tz_g_bipush (v := 8) rfl (tz_in0 rfl)).trans ?_
  refine (tz_g_newpi (j := 129) rfl (by decide) rfl rfl (tz_in0 rfl)).trans ?_
  refine (tz_g_putr rfl rfl rfl rfl (tz_in0 rfl)).trans ?_
  refine (tz_g_aload_n rfl (tz_in0 rfl)).trans ?_
  refine (tz_g_bipush (v := 64) rfl (tz_in0 rfl)).trans ?_
  refine (tz_g_newpi (j := 130) rfl (by decide) rfl rfl (tz_in0 rfl)).trans ?_
  refine (tz_g_putr rfl rfl rfl rfl (tz_in0 rfl)).trans ?_
  exact tz_g_ret0 (tz_in0 rfl) rfl

def c_X10_init_k131 (A : tz_Mem) : tz_Mem := (tz_sr (tz_nw (tz_sr (tz_nw (tz_sr (tz_nw (tz_sr (tz_nw (tz_sr (tz_nw (tz_sr (tz_nw (tz_sr (tz_nw A 1) 131 1 133) 1) 131 2 134) 1) 131 3 135) 1) 131 4 136) 1) 131 5 137) 1) 131 6 138) 1) 131 7 139)
set_option maxRecDepth 8192 in
theorem e_X10_init_k131 (A : tz_Mem) (hA : A.1 = 132) : tz_F 5 [.ref 131] A = some (none, c_X10_init_k131 A) := by
  obtain ⟨t, M, Lg, Rf⟩ := A
  obtain rfl : t = 132 := hA
  refine (tz_Fe (L := [some (.ref 131)]) rfl).trans ?_
  refine (tz_g_aload_n rfl (tz_in0 rfl)).trans ?_
  refine (tz_g_obj rfl rfl rfl (tz_in0 rfl)).trans ?_
  refine (tz_g_aload_n rfl (tz_in0 rfl)).trans ?_
  refine (tz_g_iconst (v := 4) rfl (tz_in0 rfl)).trans ?_
  refine (tz_g_newpi (j := 132) rfl (by decide) rfl rfl (tz_in0 rfl)).trans ?_
  refine (tz_g_putr rfl rfl rfl rfl (tz_in0 rfl)).trans ?_
  refine (tz_g_aload_n rfl (tz_in0 rfl)).trans ?_
  refine (tz_g_iconst (v := 4) rfl (tz_in0 rfl)).trans ?_
  refine (tz_g_newpi (j := 133) rfl (by decide) rfl rfl (tz_in0 rfl)).trans ?_
  refine (tz_g_putr rfl rfl rfl rfl (tz_in0 rfl)).trans ?_
  refine (tz_g_aload_n rfl (tz_in0 rfl)).trans ?_
  refine (tz_g_iconst (v := 4) rfl (tz_in0 rfl)).trans ?_
  refine (tz_g_newpi (j := 134) rfl (by decide) rfl rfl (tz_in0 rfl)).trans ?_
  refine (tz_g_putr rfl rfl rfl rfl (tz_in0 rfl)).trans ?_
  refine (tz_g_aload_n rfl (tz_in0 rfl)).trans ?_
  refine (tz_g_iconst (v := 4) rfl (tz_in0 rfl)).trans ?_
  refine (tz_g_newpi (j := 135) rfl (by decide) rfl rfl (tz_in0 rfl)).trans ?_
  refine (tz_g_putr rfl rfl rfl rfl (tz_in0 rfl)).trans ?_
  refine (tz_g_aload_n rfl (tz_in0 rfl)).trans ?_
  refine (tz_g_bipush (v := 24) rfl (tz_in0 rfl)).trans ?_
  refine (tz_g_newpi (j := 136) rfl (by decide) rfl rfl (tz_in0 rfl)).trans ?_
  refine (tz_g_putr rfl rfl rfl rfl (tz_in0 rfl)).trans ?_
  refine (tz_g_aload_n rfl (tz_in0 rfl)).trans ?_
  refine (tz_g_iconst (v := 4) rfl (tz_in0 rfl)).trans ?_
  refine (tz_g_newpi (j := 137) rfl (by decide) rfl rfl (tz_in0 rfl)).trans ?_
  refine (tz_g_putr rfl rfl rfl rfl (tz_in0 rfl)).trans ?_
  refine (tz_g_aload_n rfl (tz_in0 rfl)).trans ?_
  refine (tz_g_iconst (v := 4) rfl (tz_in0 rfl)).trans ?_
  refine (tz_g_newpi (j := 138) rfl (by decide) rfl rfl (tz_in0 rfl)).trans ?_
  refine (tz_g_putr rfl rfl rfl rfl (tz_in0 rfl)).trans ?_
  exact tz_g_ret0 (tz_in0 rfl) rfl

def c_X4_init_k139 (A : tz_Mem) : tz_Mem := (tz_sr (tz_nw (tz_sr (tz_nw (tz_sr (tz_nw (tz_sr (tz_nw (tz_sr (tz_nw (tz_sr (tz_nw (tz_sr (tz_nw A 1) 139 1 141) 1) 139 2 142) 1) 139 3 143) 1) 139 4 144) 1) 139 5 145) 1) 139 6 146) 1) 139 7 147)
set_option maxRecDepth 8192 in
theorem e_X4_init_k139 (A : tz_Mem) (hA : A.1 = 140) : tz_F 6 [.ref 139] A = some (none, c_X4_init_k139 A) := by
  obtain ⟨t, M, Lg, Rf⟩ := A
  obtain rfl : t = 140 := hA
  refine (tz_Fe (L := [some (.ref 139)]) rfl).trans ?_
  refine (tz_g_aload_n rfl (tz_in0 rfl)).trans ?_
  refine (tz_g_obj rfl rfl rfl (tz_in0 rfl)).trans ?_
  refine (tz_g_aload_n rfl (tz_in0 rfl)).trans ?_
  refine (tz_g_bipush (v := 12) rfl (tz_in0 rfl)).trans ?_
  refine (tz_g_newpi (j := 140) rfl (by decide) rfl rfl (tz_in0 rfl)).trans ?_
  refine (tz_g_putr rfl rfl rfl rfl (tz_in0 rfl)).trans ?_
  refine (tz_g_aload_n rfl (tz_in0 rfl)).trans ?_
  refine (tz_g_bipush (v := 12) rfl (tz_in0 rfl)).trans ?_
  refine (tz_g_newpi (j := 141) rfl (by decide) rfl rfl (tz_in0 rfl)).trans ?_
  refine (tz_g_putr rfl rfl rfl rfl (tz_in0 rfl)).trans ?_
  refine (tz_g_aload_n rfl (tz_in0 rfl)).trans ?_
  refine (tz_g_bipush (v := 12) rfl (tz_in0 rfl)).trans ?_
  refine (tz_g_newpi (j := 142) rfl (by decide) rfl rfl (tz_in0 rfl)).trans ?_
  refine (tz_g_putr rfl rfl rfl rfl (tz_in0 rfl)).trans ?_
  refine (tz_g_aload_n rfl (tz_in0 rfl)).trans ?_
  refine (tz_g_bipush (v := 12) rfl (tz_in0 rfl)).trans ?_
  refine (tz_g_newpi (j := 143) rfl (by decide) rfl rfl (tz_in0 rfl)).trans ?_
  refine (tz_g_putr rfl rfl rfl rfl (tz_in0 rfl)).trans ?_
  refine (tz_g_aload_n rfl (tz_in0 rfl)).trans ?_
  refine (tz_g_bipush (v := 12) rfl (tz_in0 rfl)).trans ?_
  refine (tz_g_newpi (j := 144) rfl (by decide) rfl rfl (tz_in0 rfl)).trans ?_
  refine (tz_g_putr rfl rfl rfl rfl (tz_in0 rfl)).trans ?_
  refine (tz_g_aload_n rfl (tz_in0 rfl)).trans ?_
  refine (tz_g_bipush (v := 12) rfl (tz_in0 rfl)).trans ?_
  refine (tz_g_newpi (j := 145) rfl (by decide) rfl rfl (tz_in0 rfl)).trans ?_
  refine (tz_g_putr rfl rfl rfl rfl (tz_in0 rfl)).trans ?_
  refine (tz_g_aload_n rfl (tz_in0 rfl)).trans ?_
  refine (tz_g_bipush (v := 12) rfl (tz_in0 rfl)).trans ?_
  refine (tz_g_newpi (j := 146) rfl (by decide) rfl rfl (tz_in0 rfl)).trans ?_
  refine (tz_g_putr rfl rfl rfl rfl (tz_in0 rfl)).trans ?_
  exact tz_g_ret0 (tz_in0 rfl) rfl

def c_X9_init_k124 (A : tz_Mem) : tz_Mem := (tz_s (tz_s (tz_s (tz_sr (c_X4_init_k139 (tz_nw (tz_sr (c_X10_init_k131 (tz_nw (tz_sr (c_X3_init_k125 (tz_nw A 1)) 124 0 126) 1)) 124 1 132) 1)) 124 2 140) 124 4 20) 124 5 1) 124 6 (-1))
set_option maxRecDepth 8192 in
theorem e_X9_init_k124 (A : tz_Mem) (hA : A.1 = 125) : tz_F 3 [.ref 124] A = some (none, c_X9_init_k124 A) := by
  obtain ⟨t, M, Lg, Rf⟩ := A
  obtain rfl : t = 125 := hA
  refine (tz_Fe (L := [some (.ref 124)]) rfl).trans ?_
  refine (tz_g_aload_n rfl (tz_in0 rfl)).trans ?_
  refine (tz_g_obj rfl rfl rfl (tz_in0 rfl)).trans ?_
  refine (tz_g_aload_n rfl (tz_in0 rfl)).trans ?_
  refine (tz_g_newp (j := 125) rfl rfl rfl (tz_in0 rfl)).trans ?_
  refine (tz_g_dup rfl (tz_in0 rfl)).trans ?_
  refine (tz_g_cp0V (m2 := 4) (rc := 0) rfl rfl rfl rfl rfl rfl (by decide) (tz_in0 rfl)).trans ?_
  refine (tz_cc (e_X3_init_k125 _ rfl)).trans ?_
  refine tz_bV_some.trans ?_
  refine (tz_g_putr rfl rfl rfl rfl (tz_in0 rfl)).trans ?_
  refine (tz_g_aload_n rfl (tz_in0 rfl)).trans ?_
  refine (tz_g_newp (j := 131) rfl rfl rfl (tz_in0 rfl)).trans ?_
  refine (tz_g_dup rfl (tz_in0 rfl)).trans ?_
  refine (tz_g_cp0V (m2 := 5) (rc := 0) rfl rfl rfl rfl rfl rfl (by decide) (tz_in0 rfl)).trans ?_
  refine (tz_cc (e_X10_init_k131 _ rfl)).trans ?_
  refine tz_bV_some.trans ?_
  refine (tz_g_putr rfl rfl rfl rfl (tz_in0 rfl)).trans ?_
  refine (tz_g_aload_n rfl (tz_in0 rfl)).trans ?_
  refine (tz_g_newp (j := 139) rfl rfl rfl (tz_in0 rfl)).trans ?_
  refine (tz_g_dup rfl (tz_in0 rfl)).trans ?_
  refine (tz_g_cp0V (m2 := 6) (rc := 0) rfl rfl rfl rfl rfl rfl (by decide) (tz_in0 rfl)).trans ?_
  refine (tz_cc (e_X4_init_k139 _ rfl)).trans ?_
  refine tz_bV_some.trans ?_
  refine (tz_g_putr rfl rfl rfl rfl (tz_in0 rfl)).trans ?_
  refine (tz_g_aload_n rfl (tz_in0 rfl)).trans ?_
  refine (tz_g_bipush (v := 20) rfl (tz_in0 rfl)).trans ?_
  refine (tz_g_puti rfl rfl rfl (tz_in0 rfl)).trans ?_
  refine (tz_g_aload_n rfl (tz_in0 rfl)).trans ?_
  refine (tz_g_iconst (v := 1) rfl (tz_in0 rfl)).trans ?_
  refine (tz_g_puti rfl rfl rfl (tz_in0 rfl)).trans ?_
  refine (tz_g_aload_n rfl (tz_in0 rfl)).trans ?_
  refine (tz_g_iconst (v := (-1)) rfl (tz_in0 rfl)).trans ?_
  refine (tz_g_puti rfl rfl rfl (tz_in0 rfl)).trans ?_
  exact tz_g_ret0 (tz_in0 rfl) rfl

def c_X7_init_k122 (A : tz_Mem) : tz_Mem := (tz_sr (tz_nw (tz_sr (c_X9_init_k124 (tz_nw (tz_sr (tz_nw (tz_s A 122 0 (-1)) 1) 122 1 124) 1)) 122 2 125) 1) 122 3 148)
set_option maxRecDepth 8192 in
theorem e_X7_init_k122 (A : tz_Mem) (hA : A.1 = 123) : tz_F 7 [.ref 122] A = some (none, c_X7_init_k122 A) := by
  obtain ⟨t, M, Lg, Rf⟩ := A
  obtain rfl : t = 123 := hA
  refine (tz_Fe (L := [some (.ref 122)]) rfl).trans ?_
  refine (tz_g_aload_n rfl (tz_in0 rfl)).trans ?_
  refine (tz_g_obj rfl rfl rfl (tz_in0 rfl)).trans ?_
  refine (tz_g_aload_n rfl (tz_in0 rfl)).trans ?_
  refine (tz_g_iconst (v := (-1)) rfl (tz_in0 rfl)).trans ?_
  refine (tz_g_puti rfl rfl rfl (tz_in0 rfl)).trans ?_
  refine (tz_g_aload_n rfl (tz_in0 rfl)).trans ?_
  refine (tz_g_sipush (v := 160) rfl (tz_in0 rfl)).trans ?_
  refine (tz_g_newpi (j := 123) rfl (by decide) rfl rfl (tz_in0 rfl)).trans ?_
  refine (tz_g_putr rfl rfl rfl rfl (tz_in0 rfl)).trans ?_
  refine (tz_g_aload_n rfl (tz_in0 rfl)).trans ?_
  refine (tz_g_newp (j := 124) rfl rfl rfl (tz_in0 rfl)).trans ?_
  refine (tz_g_dup rfl (tz_in0 rfl)).trans ?_
  refine (tz_g_cp0V (m2 := 3) (rc := 0) rfl rfl rfl rfl rfl rfl (by decide) (tz_in0 rfl)).trans ?_
  refine (tz_cc (e_X9_init_k124 _ rfl)).trans ?_
  refine tz_bV_some.trans ?_
  refine (tz_g_putr rfl rfl rfl rfl (tz_in0 rfl)).trans ?_
  refine (tz_g_aload_n rfl (tz_in0 rfl)).trans ?_
  refine (tz_g_bipush (v := 6) rfl (tz_in0 rfl)).trans ?_
  refine (tz_g_newpi (j := 147) rfl (by decide) rfl rfl (tz_in0 rfl)).trans ?_
  refine (tz_g_putr rfl rfl rfl rfl (tz_in0 rfl)).trans ?_
  exact tz_g_ret0 (tz_in0 rfl) rfl

def c_X0_init_k148 (A : tz_Mem) : tz_Mem := (tz_sr (tz_nw A 1) 148 1 150)
set_option maxRecDepth 8192 in
theorem e_X0_init_k148 (A : tz_Mem) (hA : A.1 = 149) : tz_F 8 [.ref 148] A = some (none, c_X0_init_k148 A) := by
  obtain ⟨t, M, Lg, Rf⟩ := A
  obtain rfl : t = 149 := hA
  refine (tz_Fe (L := [some (.ref 148)]) rfl).trans ?_
  refine (tz_g_aload_n rfl (tz_in0 rfl)).trans ?_
  refine (tz_g_obj rfl rfl rfl (tz_in0 rfl)).trans ?_
  refine (tz_g_aload_n rfl (tz_in0 rfl)).trans ?_
  refine (tz_g_bipush (v := 20) rfl (tz_in0 rfl)).trans ?_
  refine (tz_g_newpi (j := 149) rfl (by decide) rfl rfl (tz_in0 rfl)).trans ?_
  refine (tz_g_putr rfl rfl rfl rfl (tz_in0 rfl)).trans ?_
  exact tz_g_ret0 (tz_in0 rfl) rfl

def c_X1_init_k150 (A : tz_Mem) : tz_Mem := A
set_option maxRecDepth 8192 in
theorem e_X1_init_k150 (A : tz_Mem) (hA : A.1 = 151) : tz_F 10 [.ref 150] A = some (none, c_X1_init_k150 A) := by
  obtain ⟨t, M, Lg, Rf⟩ := A
  obtain rfl : t = 151 := hA
  refine (tz_Fe (L := [some (.ref 150)]) rfl).trans ?_
  refine (tz_g_aload_n rfl (tz_in0 rfl)).trans ?_
  refine (tz_g_obj rfl rfl rfl (tz_in0 rfl)).trans ?_
  exact tz_g_ret0 (tz_in0 rfl) rfl

def c_X2_init_k150 (A : tz_Mem) : tz_Mem := (c_X1_init_k150 A)
set_option maxRecDepth 8192 in
theorem e_X2_init_k150 (A : tz_Mem) (hA : A.1 = 151) : tz_F 9 [.ref 150] A = some (none, c_X2_init_k150 A) := by
  obtain ⟨t, M, Lg, Rf⟩ := A
  obtain rfl : t = 151 := hA
  refine (tz_Fe (L := [some (.ref 150)]) rfl).trans ?_
  refine (tz_g_aload_n rfl (tz_in0 rfl)).trans ?_
  refine (tz_g_cp0V (m2 := 10) (rc := 0) rfl rfl rfl rfl rfl rfl (by decide) (tz_in0 rfl)).trans ?_
  refine (tz_cc (e_X1_init_k150 _ rfl)).trans ?_
  refine tz_bV_some.trans ?_
  exact tz_g_ret0 (tz_in0 rfl) rfl

def c_X1_init_k151 (A : tz_Mem) : tz_Mem := A
set_option maxRecDepth 8192 in
theorem e_X1_init_k151 (A : tz_Mem) (hA : A.1 = 152) : tz_F 10 [.ref 151] A = some (none, c_X1_init_k151 A) := by
  obtain ⟨t, M, Lg, Rf⟩ := A
  obtain rfl : t = 152 := hA
  refine (tz_Fe (L := [some (.ref 151)]) rfl).trans ?_
  refine (tz_g_aload_n rfl (tz_in0 rfl)).trans ?_
  refine (tz_g_obj rfl rfl rfl (tz_in0 rfl)).trans ?_
  exact tz_g_ret0 (tz_in0 rfl) rfl

def c_X5_init_k151 (A : tz_Mem) : tz_Mem := (tz_sr (tz_nw (c_X1_init_k151 A) 1) 151 1 153)
set_option maxRecDepth 8192 in
theorem e_X5_init_k151 (A : tz_Mem) (hA : A.1 = 152) : tz_F 11 [.ref 151] A = some (none, c_X5_init_k151 A) := by
  obtain ⟨t, M, Lg, Rf⟩ := A
  obtain rfl : t = 152 := hA
  refine (tz_Fe (L := [some (.ref 151)]) rfl).trans ?_
  refine (tz_g_aload_n rfl (tz_in0 rfl)).trans ?_
  refine (tz_g_cp0V (m2 := 10) (rc := 0) rfl rfl rfl rfl rfl rfl (by decide) (tz_in0 rfl)).trans ?_
  refine (tz_cc (e_X1_init_k151 _ rfl)).trans ?_
  refine tz_bV_some.trans ?_
  refine (tz_g_aload_n rfl (tz_in0 rfl)).trans ?_
  refine (tz_g_bipush (v := 40) rfl (tz_in0 rfl)).trans ?_
  refine (tz_g_newpi (j := 152) rfl (by decide) rfl rfl (tz_in0 rfl)).trans ?_
  refine (tz_g_putr rfl rfl rfl rfl (tz_in0 rfl)).trans ?_
  exact tz_g_ret0 (tz_in0 rfl) rfl

def c_X1_init_k153 (A : tz_Mem) : tz_Mem := A
set_option maxRecDepth 8192 in
theorem e_X1_init_k153 (A : tz_Mem) (hA : A.1 = 154) : tz_F 10 [.ref 153] A = some (none, c_X1_init_k153 A) := by
  obtain ⟨t, M, Lg, Rf⟩ := A
  obtain rfl : t = 154 := hA
  refine (tz_Fe (L := [some (.ref 153)]) rfl).trans ?_
  refine (tz_g_aload_n rfl (tz_in0 rfl)).trans ?_
  refine (tz_g_obj rfl rfl rfl (tz_in0 rfl)).trans ?_
  exact tz_g_ret0 (tz_in0 rfl) rfl

def c_X6_init_k153 (A : tz_Mem) : tz_Mem := (tz_sr (tz_nw (c_X1_init_k153 A) 1) 153 0 155)
set_option maxRecDepth 8192 in
theorem e_X6_init_k153 (A : tz_Mem) (hA : A.1 = 154) : tz_F 12 [.ref 153] A = some (none, c_X6_init_k153 A) := by
  obtain ⟨t, M, Lg, Rf⟩ := A
  obtain rfl : t = 154 := hA
  refine (tz_Fe (L := [some (.ref 153)]) rfl).trans ?_
  refine (tz_g_aload_n rfl (tz_in0 rfl)).trans ?_
  refine (tz_g_cp0V (m2 := 10) (rc := 0) rfl rfl rfl rfl rfl rfl (by decide) (tz_in0 rfl)).trans ?_
  refine (tz_cc (e_X1_init_k153 _ rfl)).trans ?_
  refine tz_bV_some.trans ?_
  refine (tz_g_aload_n rfl (tz_in0 rfl)).trans ?_
  refine (tz_g_sipush (v := 500) rfl (tz_in0 rfl)).trans ?_
  refine (tz_g_newpi (j := 154) rfl (by decide) rfl rfl (tz_in0 rfl)).trans ?_
  refine (tz_g_putr rfl rfl rfl rfl (tz_in0 rfl)).trans ?_
  exact tz_g_ret0 (tz_in0 rfl) rfl

def c_X11_init_k17 (A : tz_Mem) : tz_Mem := (tz_s (tz_sr (tz_nw (tz_sr (tz_nw (tz_sr (c_X6_init_k153 (tz_nw (tz_sr (c_X5_init_k151 (tz_nw (tz_sr (c_X2_init_k150 (tz_nw (tz_sr (c_X0_init_k148 (tz_nw (tz_sr (c_X7_init_k122 (tz_nw (tz_sr (c_X9_init_k99 (tz_nw (tz_sr (c_X9_init_k76 (tz_nw (tz_sr (c_X9_init_k53 (tz_nw (tz_sr (c_X9_init_k30 (tz_nw (tz_sr (c_X8_init_k18 (tz_nw A 1)) 17 0 19) 1)) 17 1 31) 1)) 17 2 54) 1)) 17 3 77) 1)) 17 4 100) 1)) 17 5 123) 1)) 17 6 149) 1)) 17 7 151) 1)) 17 8 152) 1)) 17 9 154) 1) 17 10 156) 1) 17 11 157) 17 13 (-1))
set_option maxRecDepth 8192 in
theorem e_X11_init_k17 (A : tz_Mem) (hA : A.1 = 18) : tz_F 0 [.ref 17] A = some (none, c_X11_init_k17 A) := by
  obtain ⟨t, M, Lg, Rf⟩ := A
  obtain rfl : t = 18 := hA
  refine (tz_Fe (L := [some (.ref 17)]) rfl).trans ?_
  refine (tz_g_aload_n rfl (tz_in0 rfl)).trans ?_
  refine (tz_g_obj rfl rfl rfl (tz_in0 rfl)).trans ?_
  refine (tz_g_aload_n rfl (tz_in0 rfl)).trans ?_
  refine (tz_g_newp (j := 18) rfl rfl rfl (tz_in0 rfl)).trans ?_
  refine (tz_g_dup rfl (tz_in0 rfl)).trans ?_
  refine (tz_g_cp0V (m2 := 1) (rc := 0) rfl rfl rfl rfl rfl rfl (by decide) (tz_in0 rfl)).trans ?_
  refine (tz_cc (e_X8_init_k18 _ rfl)).trans ?_
  refine tz_bV_some.trans ?_
  refine (tz_g_putr rfl rfl rfl rfl (tz_in0 rfl)).trans ?_
  refine (tz_g_aload_n rfl (tz_in0 rfl)).trans ?_
  refine (tz_g_newp (j := 30) rfl rfl rfl (tz_in0 rfl)).trans ?_
  refine (tz_g_dup rfl (tz_in0 rfl)).trans ?_
  refine (tz_g_cp0V (m2 := 3) (rc := 0) rfl rfl rfl rfl rfl rfl (by decide) (tz_in0 rfl)).trans ?_
  refine (tz_cc (e_X9_init_k30 _ rfl)).trans ?_
  refine tz_bV_some.trans ?_
  refine (tz_g_putr rfl rfl rfl rfl (tz_in0 rfl)).trans ?_
  refine (tz_g_aload_n rfl (tz_in0 rfl)).trans ?_
  refine (tz_g_newp (j := 53) rfl rfl rfl (tz_in0 rfl)).trans ?_
  refine (tz_g_dup rfl (tz_in0 rfl)).trans ?_
  refine (tz_g_cp0V (m2 := 3) (rc := 0) rfl rfl rfl rfl rfl rfl (by decide) (tz_in0 rfl)).trans ?_
  refine (tz_cc (e_X9_init_k53 _ rfl)).trans ?_
  refine tz_bV_some.trans ?_
  refine (tz_g_putr rfl rfl rfl rfl (tz_in0 rfl)).trans ?_
  refine (tz_g_aload_n rfl (tz_in0 rfl)).trans ?_
  refine (tz_g_newp (j := 76) rfl rfl rfl (tz_in0 rfl)).trans ?_
  refine (tz_g_dup rfl (tz_in0 rfl)).trans ?_
  refine (tz_g_cp0V (m2 := 3) (rc := 0) rfl rfl rfl rfl rfl rfl (by decide) (tz_in0 rfl)).trans ?_
  refine (tz_cc (e_X9_init_k76 _ rfl)).trans ?_
  refine tz_bV_some.trans ?_
  refine (tz_g_putr rfl rfl rfl rfl (tz_in0 rfl)).trans ?_
  refine (tz_g_aload_n rfl (tz_in0 rfl)).trans ?_
  refine (tz_g_newp (j := 99) rfl rfl rfl (tz_in0 rfl)).trans ?_
  refine (tz_g_dup rfl (tz_in0 rfl)).trans ?_
  refine (tz_g_cp0V (m2 := 3) (rc := 0) rfl rfl rfl rfl rfl rfl (by decide) (tz_in0 rfl)).trans ?_
  refine (tz_cc (e_X9_init_k99 _ rfl)).trans ?_
  refine tz_bV_some.trans ?_
  refine (tz_g_putr rfl rfl rfl rfl (tz_in0 rfl)).trans ?_
  refine (tz_g_aload_n rfl (tz_in0 rfl)).trans ?_
  refine (tz_g_newp (j := 122) rfl rfl rfl (tz_in0 rfl)).trans ?_
  refine (tz_g_dup rfl (tz_in0 rfl)).trans ?_
  refine (tz_g_cp0V (m2 := 7) (rc := 0) rfl rfl rfl rfl rfl rfl (by decide) (tz_in0 rfl)).trans ?_
  refine (tz_cc (e_X7_init_k122 _ rfl)).trans ?_
  refine tz_bV_some.trans ?_
  refine (tz_g_putr rfl rfl rfl rfl (tz_in0 rfl)).trans ?_
  refine (tz_g_aload_n rfl (tz_in0 rfl)).trans ?_
  refine (tz_g_newp (j := 148) rfl rfl rfl (tz_in0 rfl)).trans ?_
  refine (tz_g_dup rfl (tz_in0 rfl)).trans ?_
  refine (tz_g_cp0V (m2 := 8) (rc := 0) rfl rfl rfl rfl rfl rfl (by decide) (tz_in0 rfl)).trans ?_
  refine (tz_cc (e_X0_init_k148 _ rfl)).trans ?_
  refine tz_bV_some.trans ?_
  refine (tz_g_putr rfl rfl rfl rfl (tz_in0 rfl)).trans ?_
  refine (tz_g_aload_n rfl (tz_in0 rfl)).trans ?_
  refine (tz_g_newp (j := 150) rfl rfl rfl (tz_in0 rfl)).trans ?_
  refine (tz_g_dup rfl (tz_in0 rfl)).trans ?_
  refine (tz_g_cp0V (m2 := 9) (rc := 0) rfl rfl rfl rfl rfl rfl (by decide) (tz_in0 rfl)).trans ?_
  refine (tz_cc (e_X2_init_k150 _ rfl)).trans ?_
  refine tz_bV_some.trans ?_
  refine (tz_g_putr rfl rfl rfl rfl (tz_in0 rfl)).trans ?_
  refine (tz_g_aload_n rfl (tz_in0 rfl)).trans ?_
  refine (tz_g_newp (j := 151) rfl rfl rfl (tz_in0 rfl)).trans ?_
  refine (tz_g_dup rfl (tz_in0 rfl)).trans ?_
  refine (tz_g_cp0V (m2 := 11) (rc := 0) rfl rfl rfl rfl rfl rfl (by decide) (tz_in0 rfl)).trans ?_
  refine (tz_cc (e_X5_init_k151 _ rfl)).trans ?_
  refine tz_bV_some.trans ?_
  refine (tz_g_putr rfl rfl rfl rfl (tz_in0 rfl)).trans ?_
  refine (tz_g_aload_n rfl (tz_in0 rfl)).trans ?_
  refine (tz_g_newp (j := 153) rfl rfl rfl (tz_in0 rfl)).trans ?_
  refine (tz_g_dup rfl (tz_in0 rfl)).trans ?_
  refine (tz_g_cp0V (m2 := 12) (rc := 0) rfl rfl rfl rfl rfl rfl (by decide) (tz_in0 rfl)).trans ?_
  refine (tz_cc (e_X6_init_k153 _ rfl)).trans ?_
  refine tz_bV_some.trans ?_
  refine (tz_g_putr rfl rfl rfl rfl (tz_in0 rfl)).trans ?_
  refine (tz_g_aload_n rfl (tz_in0 rfl)).trans ?_
  refine (tz_g_bipush (v := 6) rfl (tz_in0 rfl)).trans ?_
  refine (tz_g_newpi (j := 155) rfl (by decide) rfl rfl (tz_in0 rfl)).trans ?_
  refine (tz_g_putr rfl rfl rfl rfl (tz_in0 rfl)).trans ?_
  refine (tz_g_aload_n rfl (tz_in0 rfl)).trans ?_
  refine (tz_g_bipush (v := 8) rfl (tz_in0 rfl)).trans ?_
  refine (tz_g_newpi (j := 156) rfl (by decide) rfl rfl (tz_in0 rfl)).trans ?_
  refine (tz_g_putr rfl rfl rfl rfl (tz_in0 rfl)).trans ?_
  refine (tz_g_aload_n rfl (tz_in0 rfl)).trans ?_
  refine (tz_g_iconst (v := (-1)) rfl (tz_in0 rfl)).trans ?_
  refine (tz_g_puti rfl rfl rfl (tz_in0 rfl)).trans ?_
  exact tz_g_ret0 (tz_in0 rfl) rfl
