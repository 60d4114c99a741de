/-! the law: rows for its calls, and its equation by program (gen_l.py) -/
/-- what the law's calls ask of the memory -/
noncomputable def tz_C (A : tz_Mem) (x : tz_X) : tz_X := @ite _ (tz_con A) (Classical.propDecidable _) x none
theorem tz_C_pos {A : tz_Mem} {x : tz_X} (h : tz_con A) : tz_C A x = x := if_pos h
theorem tz_conok {A : tz_Mem} {c a : Nat} (h : tz_con A) (ha : Nat.blt a tz_N0 = true) : tz_ok c A a = true := by
  unfold tz_ok
  rw [show Nat.blt a A.1 = true from Nat.ble_eq_true_of_le (Nat.le_trans (Nat.le_of_ble_eq_true ha) h.1)]
  exact Bool.or_true _
theorem tz_call_con {call : Nat → List Value → tz_Mem → tz_X} {m m2 how : Nat} {args r : List Value} {A : tz_Mem} {f : List Value → tz_Mem → tz_X} (hh : (Nat.beq how 1 || Nat.beq how 5) = true) (hok : tz_con A → tz_okr (tz_cm m) A args = true) (hk : (Nat.blt (tz_rk m2) (tz_rk m) && Nat.ble (tz_cat r) 8 && Nat.ble (tz_lay args).length (tz_ml m2)) = true) (hc : Nat.beq (tz_cm m) (tz_cm m2) = false) (h2 : Nat.beq (tz_cm m2) tz_N0 = true) : (bif (Nat.beq how 1 || Nat.beq how 5) && tz_okr (tz_cm m) A args then tz_inv call m m2 args r A f else none) = tz_C A (tz_bd (tz_rc m2) (call m2 args A) (fun v A2 => f (v ++ r) A2)) := by
  by_cases hA : tz_con A
  · rw [hh, hok hA]
    exact (tz_inv_con hk hc h2 hA).trans (tz_C_pos hA).symm
  · have e : tz_inv call m m2 args r A f = none := by
      unfold tz_inv
      exact (tz_bt hk).trans ((tz_bf hc).trans ((tz_bt h2).trans (if_neg hA)))
    rw [e]
    have e2 : tz_C A (tz_bd (tz_rc m2) (call m2 args A) (fun v A2 => f (v ++ r) A2)) = none := if_neg hA
    rw [e2]
    cases (Nat.beq how 1 || Nat.beq how 5) && tz_okr (tz_cm m) A args <;> rfl
section TZK
variable {m pc np : Nat} {L : tz_Lo} {r : List Value} {A : tz_Mem}
theorem tz_g_kv0I {idx m2 how rc a : Nat} (hnp : tz_np (tz_pn m) idx = some 0) (hm : tz_mth (tz_pn m) idx (tz_kd a) = some (how, m2)) (hh : (Nat.beq how 1 || Nat.beq how 5) = true) (hok : tz_con A → tz_ok (tz_cm m) A a = true) (hk : (Nat.blt (tz_rk m2) (tz_rk m) && Nat.ble (tz_cat r) 8 && Nat.ble (tz_lay [.ref a]).length (tz_ml m2)) = true) (hc : Nat.beq (tz_cm m) (tz_cm m2) = false) (h2 : Nat.beq (tz_cm m2) tz_N0 = true) (hr : tz_rc m2 = rc) (hr2 : rc = 1 ∨ rc = 4 ∨ rc = 5 ∨ rc = 6) (h : tz_In m pc (.invokevirtual idx) np L) : tz_Go m pc L (.ref a :: r) A = tz_C A (tz_bI (tz_F m2 [.ref a] A) (fun x A2 => tz_Go m np L (.int x :: r) A2)) := (h _ _).trans (by show tz_m1 _ _ = _; refine (tz_m1_e hnp).trans ?_; refine (tz_pop_e (n := 1) (st := .ref a :: r) (Nat.ble_eq_true_of_le (by simp))).trans ?_; show tz_m2 (tz_mth (tz_pn m) idx (tz_kd a)) _ = _; refine (tz_m2_e hm).trans ?_; refine (tz_call_con hh hok hk hc h2).trans ?_; unfold tz_bd; rw [hr]; rcases hr2 with q | q | q | q <;> (subst q; rfl))
theorem tz_g_kv0V {idx m2 how rc a : Nat} (hnp : tz_np (tz_pn m) idx = some 0) (hm : tz_mth (tz_pn m) idx (tz_kd a) = some (how, m2)) (hh : (Nat.beq how 1 || Nat.beq how 5) = true) (hok : tz_con A → tz_ok (tz_cm m) A a = true) (hk : (Nat.blt (tz_rk m2) (tz_rk m) && Nat.ble (tz_cat r) 8 && Nat.ble (tz_lay [.ref a]).length (tz_ml m2)) = true) (hc : Nat.beq (tz_cm m) (tz_cm m2) = false) (h2 : Nat.beq (tz_cm m2) tz_N0 = true) (hr : tz_rc m2 = rc) (hr2 : rc = 0) (h : tz_In m pc (.invokevirtual idx) np L) : tz_Go m pc L (.ref a :: r) A = tz_C A (tz_bV (tz_F m2 [.ref a] A) (fun A2 => tz_Go m np L r A2)) := (h _ _).trans (by show tz_m1 _ _ = _; refine (tz_m1_e hnp).trans ?_; refine (tz_pop_e (n := 1) (st := .ref a :: r) (Nat.ble_eq_true_of_le (by simp))).trans ?_; show tz_m2 (tz_mth (tz_pn m) idx (tz_kd a)) _ = _; refine (tz_m2_e hm).trans ?_; refine (tz_call_con hh hok hk hc h2).trans ?_; unfold tz_bd; rw [hr]; (subst hr2; rfl))
theorem tz_g_kv0L {idx m2 how rc a : Nat} (hnp : tz_np (tz_pn m) idx = some 0) (hm : tz_mth (tz_pn m) idx (tz_kd a) = some (how, m2)) (hh : (Nat.beq how 1 || Nat.beq how 5) = true) (hok : tz_con A → tz_ok (tz_cm m) A a = true) (hk : (Nat.blt (tz_rk m2) (tz_rk m) && Nat.ble (tz_cat r) 8 && Nat.ble (tz_lay [.ref a]).length (tz_ml m2)) = true) (hc : Nat.beq (tz_cm m) (tz_cm m2) = false) (h2 : Nat.beq (tz_cm m2) tz_N0 = true) (hr : tz_rc m2 = rc) (hr2 : rc = 2) (h : tz_In m pc (.invokevirtual idx) np L) : tz_Go m pc L (.ref a :: r) A = tz_C A (tz_bL (tz_F m2 [.ref a] A) (fun x A2 => tz_Go m np L (.long x :: r) A2)) := (h _ _).trans (by show tz_m1 _ _ = _; refine (tz_m1_e hnp).trans ?_; refine (tz_pop_e (n := 1) (st := .ref a :: r) (Nat.ble_eq_true_of_le (by simp))).trans ?_; show tz_m2 (tz_mth (tz_pn m) idx (tz_kd a)) _ = _; refine (tz_m2_e hm).trans ?_; refine (tz_call_con hh hok hk hc h2).trans ?_; unfold tz_bd; rw [hr]; (subst hr2; rfl))
theorem tz_g_kv1I {idx m2 how rc a : Nat} {v0 : Value} (hnp : tz_np (tz_pn m) idx = some 1) (hm : tz_mth (tz_pn m) idx (tz_kd a) = some (how, m2)) (hh : (Nat.beq how 1 || Nat.beq how 5) = true) (hok : tz_con A → tz_ok (tz_cm m) A a = true) (hk : (Nat.blt (tz_rk m2) (tz_rk m) && Nat.ble (tz_cat r) 8 && Nat.ble (tz_lay [.ref a, v0]).length (tz_ml m2)) = true) (hc : Nat.beq (tz_cm m) (tz_cm m2) = false) (h2 : Nat.beq (tz_cm m2) tz_N0 = true) (hr : tz_rc m2 = rc) (hr2 : rc = 1 ∨ rc = 4 ∨ rc = 5 ∨ rc = 6) (h : tz_In m pc (.invokevirtual idx) np L) : tz_Go m pc L (v0 :: .ref a :: r) A = tz_C A (tz_bI (tz_F m2 [.ref a, v0] A) (fun x A2 => tz_Go m np L (.int x :: r) A2)) := (h _ _).trans (by show tz_m1 _ _ = _; refine (tz_m1_e hnp).trans ?_; refine (tz_pop_e (n := 2) (st := v0 :: .ref a :: r) (Nat.ble_eq_true_of_le (by simp))).trans ?_; show tz_m2 (tz_mth (tz_pn m) idx (tz_kd a)) _ = _; refine (tz_m2_e hm).trans ?_; refine (tz_call_con hh hok hk hc h2).trans ?_; unfold tz_bd; rw [hr]; rcases hr2 with q | q | q | q <;> (subst q; rfl))
theorem tz_g_kv1V {idx m2 how rc a : Nat} {v0 : Value} (hnp : tz_np (tz_pn m) idx = some 1) (hm : tz_mth (tz_pn m) idx (tz_kd a) = some (how, m2)) (hh : (Nat.beq how 1 || Nat.beq how 5) = true) (hok : tz_con A → tz_ok (tz_cm m) A a = true) (hk : (Nat.blt (tz_rk m2) (tz_rk m) && Nat.ble (tz_cat r) 8 && Nat.ble (tz_lay [.ref a, v0]).length (tz_ml m2)) = true) (hc : Nat.beq (tz_cm m) (tz_cm m2) = false) (h2 : Nat.beq (tz_cm m2) tz_N0 = true) (hr : tz_rc m2 = rc) (hr2 : rc = 0) (h : tz_In m pc (.invokevirtual idx) np L) : tz_Go m pc L (v0 :: .ref a :: r) A = tz_C A (tz_bV (tz_F m2 [.ref a, v0] A) (fun A2 => tz_Go m np L r A2)) := (h _ _).trans (by show tz_m1 _ _ = _; refine (tz_m1_e hnp).trans ?_; refine (tz_pop_e (n := 2) (st := v0 :: .ref a :: r) (Nat.ble_eq_true_of_le (by simp))).trans ?_; show tz_m2 (tz_mth (tz_pn m) idx (tz_kd a)) _ = _; refine (tz_m2_e hm).trans ?_; refine (tz_call_con hh hok hk hc h2).trans ?_; unfold tz_bd; rw [hr]; (subst hr2; rfl))
theorem tz_g_kv1L {idx m2 how rc a : Nat} {v0 : Value} (hnp : tz_np (tz_pn m) idx = some 1) (hm : tz_mth (tz_pn m) idx (tz_kd a) = some (how, m2)) (hh : (Nat.beq how 1 || Nat.beq how 5) = true) (hok : tz_con A → tz_ok (tz_cm m) A a = true) (hk : (Nat.blt (tz_rk m2) (tz_rk m) && Nat.ble (tz_cat r) 8 && Nat.ble (tz_lay [.ref a, v0]).length (tz_ml m2)) = true) (hc : Nat.beq (tz_cm m) (tz_cm m2) = false) (h2 : Nat.beq (tz_cm m2) tz_N0 = true) (hr : tz_rc m2 = rc) (hr2 : rc = 2) (h : tz_In m pc (.invokevirtual idx) np L) : tz_Go m pc L (v0 :: .ref a :: r) A = tz_C A (tz_bL (tz_F m2 [.ref a, v0] A) (fun x A2 => tz_Go m np L (.long x :: r) A2)) := (h _ _).trans (by show tz_m1 _ _ = _; refine (tz_m1_e hnp).trans ?_; refine (tz_pop_e (n := 2) (st := v0 :: .ref a :: r) (Nat.ble_eq_true_of_le (by simp))).trans ?_; show tz_m2 (tz_mth (tz_pn m) idx (tz_kd a)) _ = _; refine (tz_m2_e hm).trans ?_; refine (tz_call_con hh hok hk hc h2).trans ?_; unfold tz_bd; rw [hr]; (subst hr2; rfl))
theorem tz_g_kv2I {idx m2 how rc a : Nat} {v0 v1 : Value} (hnp : tz_np (tz_pn m) idx = some 2) (hm : tz_mth (tz_pn m) idx (tz_kd a) = some (how, m2)) (hh : (Nat.beq how 1 || Nat.beq how 5) = true) (hok : tz_con A → tz_ok (tz_cm m) A a = true) (hk : (Nat.blt (tz_rk m2) (tz_rk m) && Nat.ble (tz_cat r) 8 && Nat.ble (tz_lay [.ref a, v0, v1]).length (tz_ml m2)) = true) (hc : Nat.beq (tz_cm m) (tz_cm m2) = false) (h2 : Nat.beq (tz_cm m2) tz_N0 = true) (hr : tz_rc m2 = rc) (hr2 : rc = 1 ∨ rc = 4 ∨ rc = 5 ∨ rc = 6) (h : tz_In m pc (.invokevirtual idx) np L) : tz_Go m pc L (v1 :: v0 :: .ref a :: r) A = tz_C A (tz_bI (tz_F m2 [.ref a, v0, v1] A) (fun x A2 => tz_Go m np L (.int x :: r) A2)) := (h _ _).trans (by show tz_m1 _ _ = _; refine (tz_m1_e hnp).trans ?_; refine (tz_pop_e (n := 3) (st := v1 :: v0 :: .ref a :: r) (Nat.ble_eq_true_of_le (by simp))).trans ?_; show tz_m2 (tz_mth (tz_pn m) idx (tz_kd a)) _ = _; refine (tz_m2_e hm).trans ?_; refine (tz_call_con hh hok hk hc h2).trans ?_; unfold tz_bd; rw [hr]; rcases hr2 with q | q | q | q <;> (subst q; rfl))
theorem tz_g_kv2V {idx m2 how rc a : Nat} {v0 v1 : Value} (hnp : tz_np (tz_pn m) idx = some 2) (hm : tz_mth (tz_pn m) idx (tz_kd a) = some (how, m2)) (hh : (Nat.beq how 1 || Nat.beq how 5) = true) (hok : tz_con A → tz_ok (tz_cm m) A a = true) (hk : (Nat.blt (tz_rk m2) (tz_rk m) && Nat.ble (tz_cat r) 8 && Nat.ble (tz_lay [.ref a, v0, v1]).length (tz_ml m2)) = true) (hc : Nat.beq (tz_cm m) (tz_cm m2) = false) (h2 : Nat.beq (tz_cm m2) tz_N0 = true) (hr : tz_rc m2 = rc) (hr2 : rc = 0) (h : tz_In m pc (.invokevirtual idx) np L) : tz_Go m pc L (v1 :: v0 :: .ref a :: r) A = tz_C A (tz_bV (tz_F m2 [.ref a, v0, v1] A) (fun A2 => tz_Go m np L r A2)) := (h _ _).trans (by show tz_m1 _ _ = _; refine (tz_m1_e hnp).trans ?_; refine (tz_pop_e (n := 3) (st := v1 :: v0 :: .ref a :: r) (Nat.ble_eq_true_of_le (by simp))).trans ?_; show tz_m2 (tz_mth (tz_pn m) idx (tz_kd a)) _ = _; refine (tz_m2_e hm).trans ?_; refine (tz_call_con hh hok hk hc h2).trans ?_; unfold tz_bd; rw [hr]; (subst hr2; rfl))
theorem tz_g_kv2L {idx m2 how rc a : Nat} {v0 v1 : Value} (hnp : tz_np (tz_pn m) idx = some 2) (hm : tz_mth (tz_pn m) idx (tz_kd a) = some (how, m2)) (hh : (Nat.beq how 1 || Nat.beq how 5) = true) (hok : tz_con A → tz_ok (tz_cm m) A a = true) (hk : (Nat.blt (tz_rk m2) (tz_rk m) && Nat.ble (tz_cat r) 8 && Nat.ble (tz_lay [.ref a, v0, v1]).length (tz_ml m2)) = true) (hc : Nat.beq (tz_cm m) (tz_cm m2) = false) (h2 : Nat.beq (tz_cm m2) tz_N0 = true) (hr : tz_rc m2 = rc) (hr2 : rc = 2) (h : tz_In m pc (.invokevirtual idx) np L) : tz_Go m pc L (v1 :: v0 :: .ref a :: r) A = tz_C A (tz_bL (tz_F m2 [.ref a, v0, v1] A) (fun x A2 => tz_Go m np L (.long x :: r) A2)) := (h _ _).trans (by show tz_m1 _ _ = _; refine (tz_m1_e hnp).trans ?_; refine (tz_pop_e (n := 3) (st := v1 :: v0 :: .ref a :: r) (Nat.ble_eq_true_of_le (by simp))).trans ?_; show tz_m2 (tz_mth (tz_pn m) idx (tz_kd a)) _ = _; refine (tz_m2_e hm).trans ?_; refine (tz_call_con hh hok hk hc h2).trans ?_; unfold tz_bd; rw [hr]; (subst hr2; rfl))
theorem tz_g_kv3I {idx m2 how rc a : Nat} {v0 v1 v2 : Value} (hnp : tz_np (tz_pn m) idx = some 3) (hm : tz_mth (tz_pn m) idx (tz_kd a) = some (how, m2)) (hh : (Nat.beq how 1 || Nat.beq how 5) = true) (hok : tz_con A → tz_ok (tz_cm m) A a = true) (hk : (Nat.blt (tz_rk m2) (tz_rk m) && Nat.ble (tz_cat r) 8 && Nat.ble (tz_lay [.ref a, v0, v1, v2]).length (tz_ml m2)) = true) (hc : Nat.beq (tz_cm m) (tz_cm m2) = false) (h2 : Nat.beq (tz_cm m2) tz_N0 = true) (hr : tz_rc m2 = rc) (hr2 : rc = 1 ∨ rc = 4 ∨ rc = 5 ∨ rc = 6) (h : tz_In m pc (.invokevirtual idx) np L) : tz_Go m pc L (v2 :: v1 :: v0 :: .ref a :: r) A = tz_C A (tz_bI (tz_F m2 [.ref a, v0, v1, v2] A) (fun x A2 => tz_Go m np L (.int x :: r) A2)) := (h _ _).trans (by show tz_m1 _ _ = _; refine (tz_m1_e hnp).trans ?_; refine (tz_pop_e (n := 4) (st := v2 :: v1 :: v0 :: .ref a :: r) (Nat.ble_eq_true_of_le (by simp))).trans ?_; show tz_m2 (tz_mth (tz_pn m) idx (tz_kd a)) _ = _; refine (tz_m2_e hm).trans ?_; refine (tz_call_con hh hok hk hc h2).trans ?_; unfold tz_bd; rw [hr]; rcases hr2 with q | q | q | q <;> (subst q; rfl))
theorem tz_g_kv3V {idx m2 how rc a : Nat} {v0 v1 v2 : Value} (hnp : tz_np (tz_pn m) idx = some 3) (hm : tz_mth (tz_pn m) idx (tz_kd a) = some (how, m2)) (hh : (Nat.beq how 1 || Nat.beq how 5) = true) (hok : tz_con A → tz_ok (tz_cm m) A a = true) (hk : (Nat.blt (tz_rk m2) (tz_rk m) && Nat.ble (tz_cat r) 8 && Nat.ble (tz_lay [.ref a, v0, v1, v2]).length (tz_ml m2)) = true) (hc : Nat.beq (tz_cm m) (tz_cm m2) = false) (h2 : Nat.beq (tz_cm m2) tz_N0 = true) (hr : tz_rc m2 = rc) (hr2 : rc = 0) (h : tz_In m pc (.invokevirtual idx) np L) : tz_Go m pc L (v2 :: v1 :: v0 :: .ref a :: r) A = tz_C A (tz_bV (tz_F m2 [.ref a, v0, v1, v2] A) (fun A2 => tz_Go m np L r A2)) := (h _ _).trans (by show tz_m1 _ _ = _; refine (tz_m1_e hnp).trans ?_; refine (tz_pop_e (n := 4) (st := v2 :: v1 :: v0 :: .ref a :: r) (Nat.ble_eq_true_of_le (by simp))).trans ?_; show tz_m2 (tz_mth (tz_pn m) idx (tz_kd a)) _ = _; refine (tz_m2_e hm).trans ?_; refine (tz_call_con hh hok hk hc h2).trans ?_; unfold tz_bd; rw [hr]; (subst hr2; rfl))
theorem tz_g_kv3L {idx m2 how rc a : Nat} {v0 v1 v2 : Value} (hnp : tz_np (tz_pn m) idx = some 3) (hm : tz_mth (tz_pn m) idx (tz_kd a) = some (how, m2)) (hh : (Nat.beq how 1 || Nat.beq how 5) = true) (hok : tz_con A → tz_ok (tz_cm m) A a = true) (hk : (Nat.blt (tz_rk m2) (tz_rk m) && Nat.ble (tz_cat r) 8 && Nat.ble (tz_lay [.ref a, v0, v1, v2]).length (tz_ml m2)) = true) (hc : Nat.beq (tz_cm m) (tz_cm m2) = false) (h2 : Nat.beq (tz_cm m2) tz_N0 = true) (hr : tz_rc m2 = rc) (hr2 : rc = 2) (h : tz_In m pc (.invokevirtual idx) np L) : tz_Go m pc L (v2 :: v1 :: v0 :: .ref a :: r) A = tz_C A (tz_bL (tz_F m2 [.ref a, v0, v1, v2] A) (fun x A2 => tz_Go m np L (.long x :: r) A2)) := (h _ _).trans (by show tz_m1 _ _ = _; refine (tz_m1_e hnp).trans ?_; refine (tz_pop_e (n := 4) (st := v2 :: v1 :: v0 :: .ref a :: r) (Nat.ble_eq_true_of_le (by simp))).trans ?_; show tz_m2 (tz_mth (tz_pn m) idx (tz_kd a)) _ = _; refine (tz_m2_e hm).trans ?_; refine (tz_call_con hh hok hk hc h2).trans ?_; unfold tz_bd; rw [hr]; (subst hr2; rfl))
theorem tz_g_kv4I {idx m2 how rc a : Nat} {v0 v1 v2 v3 : Value} (hnp : tz_np (tz_pn m) idx = some 4) (hm : tz_mth (tz_pn m) idx (tz_kd a) = some (how, m2)) (hh : (Nat.beq how 1 || Nat.beq how 5) = true) (hok : tz_con A → tz_ok (tz_cm m) A a = true) (hk : (Nat.blt (tz_rk m2) (tz_rk m) && Nat.ble (tz_cat r) 8 && Nat.ble (tz_lay [.ref a, v0, v1, v2, v3]).length (tz_ml m2)) = true) (hc : Nat.beq (tz_cm m) (tz_cm m2) = false) (h2 : Nat.beq (tz_cm m2) tz_N0 = true) (hr : tz_rc m2 = rc) (hr2 : rc = 1 ∨ rc = 4 ∨ rc = 5 ∨ rc = 6) (h : tz_In m pc (.invokevirtual idx) np L) : tz_Go m pc L (v3 :: v2 :: v1 :: v0 :: .ref a :: r) A = tz_C A (tz_bI (tz_F m2 [.ref a, v0, v1, v2, v3] A) (fun x A2 => tz_Go m np L (.int x :: r) A2)) := (h _ _).trans (by show tz_m1 _ _ = _; refine (tz_m1_e hnp).trans ?_; refine (tz_pop_e (n := 5) (st := v3 :: v2 :: v1 :: v0 :: .ref a :: r) (Nat.ble_eq_true_of_le (by simp))).trans ?_; show tz_m2 (tz_mth (tz_pn m) idx (tz_kd a)) _ = _; refine (tz_m2_e hm).trans ?_; refine (tz_call_con hh hok hk hc h2).trans ?_; unfold tz_bd; rw [hr]; rcases hr2 with q | q | q | q <;> (subst q; rfl))
theorem tz_g_kv4V {idx m2 how rc a : Nat} {v0 v1 v2 v3 : Value} (hnp : tz_np (tz_pn m) idx = some 4) (hm : tz_mth (tz_pn m) idx (tz_kd a) = some (how, m2)) (hh : (Nat.beq how 1 || Nat.beq how 5) = true) (hok : tz_con A → tz_ok (tz_cm m) A a = true) (hk : (Nat.blt (tz_rk m2) (tz_rk m) && Nat.ble (tz_cat r) 8 && Nat.ble (tz_lay [.ref a, v0, v1, v2, v3]).length (tz_ml m2)) = true) (hc : Nat.beq (tz_cm m) (tz_cm m2) = false) (h2 : Nat.beq (tz_cm m2) tz_N0 = true) (hr : tz_rc m2 = rc) (hr2 : rc = 0) (h : tz_In m pc (.invokevirtual idx) np L) : tz_Go m pc L (v3 :: v2 :: v1 :: v0 :: .ref a :: r) A = tz_C A (tz_bV (tz_F m2 [.ref a, v0, v1, v2, v3] A) (fun A2 => tz_Go m np L r A2)) := (h _ _).trans (by show tz_m1 _ _ = _; refine (tz_m1_e hnp).trans ?_; refine (tz_pop_e (n := 5) (st := v3 :: v2 :: v1 :: v0 :: .ref a :: r) (Nat.ble_eq_true_of_le (by simp))).trans ?_; show tz_m2 (tz_mth (tz_pn m) idx (tz_kd a)) _ = _; refine (tz_m2_e hm).trans ?_; refine (tz_call_con hh hok hk hc h2).trans ?_; unfold tz_bd; rw [hr]; (subst hr2; rfl))
theorem tz_g_kv4L {idx m2 how rc a : Nat} {v0 v1 v2 v3 : Value} (hnp : tz_np (tz_pn m) idx = some 4) (hm : tz_mth (tz_pn m) idx (tz_kd a) = some (how, m2)) (hh : (Nat.beq how 1 || Nat.beq how 5) = true) (hok : tz_con A → tz_ok (tz_cm m) A a = true) (hk : (Nat.blt (tz_rk m2) (tz_rk m) && Nat.ble (tz_cat r) 8 && Nat.ble (tz_lay [.ref a, v0, v1, v2, v3]).length (tz_ml m2)) = true) (hc : Nat.beq (tz_cm m) (tz_cm m2) = false) (h2 : Nat.beq (tz_cm m2) tz_N0 = true) (hr : tz_rc m2 = rc) (hr2 : rc = 2) (h : tz_In m pc (.invokevirtual idx) np L) : tz_Go m pc L (v3 :: v2 :: v1 :: v0 :: .ref a :: r) A = tz_C A (tz_bL (tz_F m2 [.ref a, v0, v1, v2, v3] A) (fun x A2 => tz_Go m np L (.long x :: r) A2)) := (h _ _).trans (by show tz_m1 _ _ = _; refine (tz_m1_e hnp).trans ?_; refine (tz_pop_e (n := 5) (st := v3 :: v2 :: v1 :: v0 :: .ref a :: r) (Nat.ble_eq_true_of_le (by simp))).trans ?_; show tz_m2 (tz_mth (tz_pn m) idx (tz_kd a)) _ = _; refine (tz_m2_e hm).trans ?_; refine (tz_call_con hh hok hk hc h2).trans ?_; unfold tz_bd; rw [hr]; (subst hr2; rfl))
theorem tz_g_kv5I {idx m2 how rc a : Nat} {v0 v1 v2 v3 v4 : Value} (hnp : tz_np (tz_pn m) idx = some 5) (hm : tz_mth (tz_pn m) idx (tz_kd a) = some (how, m2)) (hh : (Nat.beq how 1 || Nat.beq how 5) = true) (hok : tz_con A → tz_ok (tz_cm m) A a = true) (hk : (Nat.blt (tz_rk m2) (tz_rk m) && Nat.ble (tz_cat r) 8 && Nat.ble (tz_lay [.ref a, v0, v1, v2, v3, v4]).length (tz_ml m2)) = true) (hc : Nat.beq (tz_cm m) (tz_cm m2) = false) (h2 : Nat.beq (tz_cm m2) tz_N0 = true) (hr : tz_rc m2 = rc) (hr2 : rc = 1 ∨ rc = 4 ∨ rc = 5 ∨ rc = 6) (h : tz_In m pc (.invokevirtual idx) np L) : tz_Go m pc L (v4 :: v3 :: v2 :: v1 :: v0 :: .ref a :: r) A = tz_C A (tz_bI (tz_F m2 [.ref a, v0, v1, v2, v3, v4] A) (fun x A2 => tz_Go m np L (.int x :: r) A2)) := (h _ _).trans (by show tz_m1 _ _ = _; refine (tz_m1_e hnp).trans ?_; refine (tz_pop_e (n := 6) (st := v4 :: v3 :: v2 :: v1 :: v0 :: .ref a :: r) (Nat.ble_eq_true_of_le (by simp))).trans ?_; show tz_m2 (tz_mth (tz_pn m) idx (tz_kd a)) _ = _; refine (tz_m2_e hm).trans ?_; refine (tz_call_con hh hok hk hc h2).trans ?_; unfold tz_bd; rw [hr]; rcases hr2 with q | q | q | q <;> (subst q; rfl))
theorem tz_g_kv5V {idx m2 how rc a : Nat} {v0 v1 v2 v3 v4 : Value} (hnp : tz_np (tz_pn m) idx = some 5) (hm : tz_mth (tz_pn m) idx (tz_kd a) = some (how, m2)) (hh : (Nat.beq how 1 || Nat.beq how 5) = true) (hok : tz_con A → tz_ok (tz_cm m) A a = true) (hk : (Nat.blt (tz_rk m2) (tz_rk m) && Nat.ble (tz_cat r) 8 && Nat.ble (tz_lay [.ref a, v0, v1, v2, v3, v4]).length (tz_ml m2)) = true) (hc : Nat.beq (tz_cm m) (tz_cm m2) = false) (h2 : Nat.beq (tz_cm m2) tz_N0 = true) (hr : tz_rc m2 = rc) (hr2 : rc = 0) (h : tz_In m pc (.invokevirtual idx) np L) : tz_Go m pc L (v4 :: v3 :: v2 :: v1 :: v0 :: .ref a :: r) A = tz_C A (tz_bV (tz_F m2 [.ref a, v0, v1, v2, v3, v4] A) (fun A2 => tz_Go m np L r A2)) := (h _ _).trans (by show tz_m1 _ _ = _; refine (tz_m1_e hnp).trans ?_; refine (tz_pop_e (n := 6) (st := v4 :: v3 :: v2 :: v1 :: v0 :: .ref a :: r) (Nat.ble_eq_true_of_le (by simp))).trans ?_; show tz_m2 (tz_mth (tz_pn m) idx (tz_kd a)) _ = _; refine (tz_m2_e hm).trans ?_; refine (tz_call_con hh hok hk hc h2).trans ?_; unfold tz_bd; rw [hr]; (subst hr2; rfl))
theorem tz_g_kv5L {idx m2 how rc a : Nat} {v0 v1 v2 v3 v4 : Value} (hnp : tz_np (tz_pn m) idx = some 5) (hm : tz_mth (tz_pn m) idx (tz_kd a) = some (how, m2)) (hh : (Nat.beq how 1 || Nat.beq how 5) = true) (hok : tz_con A → tz_ok (tz_cm m) A a = true) (hk : (Nat.blt (tz_rk m2) (tz_rk m) && Nat.ble (tz_cat r) 8 && Nat.ble (tz_lay [.ref a, v0, v1, v2, v3, v4]).length (tz_ml m2)) = true) (hc : Nat.beq (tz_cm m) (tz_cm m2) = false) (h2 : Nat.beq (tz_cm m2) tz_N0 = true) (hr : tz_rc m2 = rc) (hr2 : rc = 2) (h : tz_In m pc (.invokevirtual idx) np L) : tz_Go m pc L (v4 :: v3 :: v2 :: v1 :: v0 :: .ref a :: r) A = tz_C A (tz_bL (tz_F m2 [.ref a, v0, v1, v2, v3, v4] A) (fun x A2 => tz_Go m np L (.long x :: r) A2)) := (h _ _).trans (by show tz_m1 _ _ = _; refine (tz_m1_e hnp).trans ?_; refine (tz_pop_e (n := 6) (st := v4 :: v3 :: v2 :: v1 :: v0 :: .ref a :: r) (Nat.ble_eq_true_of_le (by simp))).trans ?_; show tz_m2 (tz_mth (tz_pn m) idx (tz_kd a)) _ = _; refine (tz_m2_e hm).trans ?_; refine (tz_call_con hh hok hk hc h2).trans ?_; unfold tz_bd; rw [hr]; (subst hr2; rfl))
end TZK
noncomputable def q_L_law_18 (z3 : Int32) (A : tz_Mem) : tz_X := tz_Go 249 18 [some (.ref 0), some (.ref 17), some (.ref 157), some (.int z3)] [] A
theorem e_L_law_18 (z3 : Int32) (A : tz_Mem) : q_L_law_18 z3 A =
  if ((Int32.ofNat (tz_gr A 0 0)) - 6) < z3 then
  some (some (.int 1), A)
else
  if z3 < 0 ∨ (tz_gr A 0 0) ≤ (Int32.toNatClampNeg z3) then none else
  if ((tz_g A 0 (Int32.toNatClampNeg z3)) &&& 63) = 0 then
    if (z3 + 1) < 0 ∨ (tz_gr A 0 0) ≤ (Int32.toNatClampNeg (z3 + 1)) then none else
    if (z3 + 2) < 0 ∨ (tz_gr A 0 0) ≤ (Int32.toNatClampNeg (z3 + 2)) then none else
    if (z3 + 3) < 0 ∨ (tz_gr A 0 0) ≤ (Int32.toNatClampNeg (z3 + 3)) then none else
    tz_C A (tz_bI (f_X11_row (tz_g A 0 (Int32.toNatClampNeg (z3 + 1))) (tz_g A 0 (Int32.toNatClampNeg (z3 + 2))) (tz_g A 0 (Int32.toNatClampNeg (z3 + 3))) A) (fun y1 A1 =>
    if (z3 + 1) < 0 ∨ (tz_gr A1 0 0) ≤ (Int32.toNatClampNeg (z3 + 1)) then none else
    if (z3 + 2) < 0 ∨ (tz_gr A1 0 0) ≤ (Int32.toNatClampNeg (z3 + 2)) then none else
    if (z3 + 3) < 0 ∨ (tz_gr A1 0 0) ≤ (Int32.toNatClampNeg (z3 + 3)) then none else
    tz_C A1 (tz_bI (f_X12_row (tz_g A1 0 (Int32.toNatClampNeg (z3 + 1))) (tz_g A1 0 (Int32.toNatClampNeg (z3 + 2))) (tz_g A1 0 (Int32.toNatClampNeg (z3 + 3))) A1) (fun y2 A2 =>
    if y1 = y2 then
      q_L_law_18 (z3 + 6) A2
    else
      some (some (.int 0), A2)))))
  else if ((tz_g A 0 (Int32.toNatClampNeg z3)) &&& 63) = 1 then
    if (z3 + 1) < 0 ∨ (tz_gr A 0 0) ≤ (Int32.toNatClampNeg (z3 + 1)) then none else
    if (z3 + 2) < 0 ∨ (tz_gr A 0 0) ≤ (Int32.toNatClampNeg (z3 + 2)) then none else
    if (z3 + 3) < 0 ∨ (tz_gr A 0 0) ≤ (Int32.toNatClampNeg (z3 + 3)) then none else
    if (z3 + 4) < 0 ∨ (tz_gr A 0 0) ≤ (Int32.toNatClampNeg (z3 + 4)) then none else
    tz_C A (tz_bI (f_X11_set (tz_g A 0 (Int32.toNatClampNeg (z3 + 1))) (tz_g A 0 (Int32.toNatClampNeg (z3 + 2))) (((Int32.toInt64 (tz_g A 0 (Int32.toNatClampNeg (z3 + 3)))) <<< (Int32.toInt64 32 &&& 63)) ||| ((Int32.toInt64 (tz_g A 0 (Int32.toNatClampNeg (z3 + 4)))) &&& 4294967295)) A) (fun y1 A1 =>
    if (z3 + 1) < 0 ∨ (tz_gr A1 0 0) ≤ (Int32.toNatClampNeg (z3 + 1)) then none else
    if (z3 + 2) < 0 ∨ (tz_gr A1 0 0) ≤ (Int32.toNatClampNeg (z3 + 2)) then none else
    if (z3 + 3) < 0 ∨ (tz_gr A1 0 0) ≤ (Int32.toNatClampNeg (z3 + 3)) then none else
    if (z3 + 4) < 0 ∨ (tz_gr A1 0 0) ≤ (Int32.toNatClampNeg (z3 + 4)) then none else
    tz_C A1 (tz_bI (f_X12_set (tz_g A1 0 (Int32.toNatClampNeg (z3 + 1))) (tz_g A1 0 (Int32.toNatClampNeg (z3 + 2))) (((Int32.toInt64 (tz_g A1 0 (Int32.toNatClampNeg (z3 + 3)))) <<< (Int32.toInt64 32 &&& 63)) ||| ((Int32.toInt64 (tz_g A1 0 (Int32.toNatClampNeg (z3 + 4)))) &&& 4294967295)) A1) (fun y2 A2 =>
    if y1 = y2 then
      q_L_law_18 (z3 + 6) A2
    else
      some (some (.int 0), A2)))))
  else if ((tz_g A 0 (Int32.toNatClampNeg z3)) &&& 63) = 2 then
    if (z3 + 1) < 0 ∨ (tz_gr A 0 0) ≤ (Int32.toNatClampNeg (z3 + 1)) then none else
    if (z3 + 2) < 0 ∨ (tz_gr A 0 0) ≤ (Int32.toNatClampNeg (z3 + 2)) then none else
    if (z3 + 3) < 0 ∨ (tz_gr A 0 0) ≤ (Int32.toNatClampNeg (z3 + 3)) then none else
    if (z3 + 4) < 0 ∨ (tz_gr A 0 0) ≤ (Int32.toNatClampNeg (z3 + 4)) then none else
    if (z3 + 5) < 0 ∨ (tz_gr A 0 0) ≤ (Int32.toNatClampNeg (z3 + 5)) then none else
    tz_C A (tz_bI (f_X11_copy (tz_g A 0 (Int32.toNatClampNeg (z3 + 1))) (tz_g A 0 (Int32.toNatClampNeg (z3 + 2))) (tz_g A 0 (Int32.toNatClampNeg (z3 + 3))) (tz_g A 0 (Int32.toNatClampNeg (z3 + 4))) (tz_g A 0 (Int32.toNatClampNeg (z3 + 5))) A) (fun y1 A1 =>
    if (z3 + 1) < 0 ∨ (tz_gr A1 0 0) ≤ (Int32.toNatClampNeg (z3 + 1)) then none else
    if (z3 + 2) < 0 ∨ (tz_gr A1 0 0) ≤ (Int32.toNatClampNeg (z3 + 2)) then none else
    if (z3 + 3) < 0 ∨ (tz_gr A1 0 0) ≤ (Int32.toNatClampNeg (z3 + 3)) then none else
    if (z3 + 4) < 0 ∨ (tz_gr A1 0 0) ≤ (Int32.toNatClampNeg (z3 + 4)) then none else
    if (z3 + 5) < 0 ∨ (tz_gr A1 0 0) ≤ (Int32.toNatClampNeg (z3 + 5)) then none else
    tz_C A1 (tz_bI (f_X12_copy (tz_g A1 0 (Int32.toNatClampNeg (z3 + 1))) (tz_g A1 0 (Int32.toNatClampNeg (z3 + 2))) (tz_g A1 0 (Int32.toNatClampNeg (z3 + 3))) (tz_g A1 0 (Int32.toNatClampNeg (z3 + 4))) (tz_g A1 0 (Int32.toNatClampNeg (z3 + 5))) A1) (fun y2 A2 =>
    if y1 = y2 then
      q_L_law_18 (z3 + 6) A2
    else
      some (some (.int 0), A2)))))
  else if ((tz_g A 0 (Int32.toNatClampNeg z3)) &&& 63) = 3 then
    if (z3 + 1) < 0 ∨ (tz_gr A 0 0) ≤ (Int32.toNatClampNeg (z3 + 1)) then none else
    if (z3 + 2) < 0 ∨ (tz_gr A 0 0) ≤ (Int32.toNatClampNeg (z3 + 2)) then none else
    tz_C A (tz_bL (f_X11_element (tz_g A 0 (Int32.toNatClampNeg (z3 + 1))) (tz_g A 0 (Int32.toNatClampNeg (z3 + 2))) A) (fun y1 A1 =>
    if (z3 + 1) < 0 ∨ (tz_gr A1 0 0) ≤ (Int32.toNatClampNeg (z3 + 1)) then none else
    if (z3 + 2) < 0 ∨ (tz_gr A1 0 0) ≤ (Int32.toNatClampNeg (z3 + 2)) then none else
    tz_C A1 (tz_bL (f_X12_element (tz_g A1 0 (Int32.toNatClampNeg (z3 + 1))) (tz_g A1 0 (Int32.toNatClampNeg (z3 + 2))) A1) (fun y2 A2 =>
    if (lg_cmp y1 y2) = 0 then
      q_L_law_18 (z3 + 6) A2
    else
      some (some (.int 0), A2)))))
  else if ((tz_g A 0 (Int32.toNatClampNeg z3)) &&& 63) = 4 then
    if (z3 + 1) < 0 ∨ (tz_gr A 0 0) ≤ (Int32.toNatClampNeg (z3 + 1)) then none else
    if (z3 + 2) < 0 ∨ (tz_gr A 0 0) ≤ (Int32.toNatClampNeg (z3 + 2)) then none else
    tz_C A (tz_bI (f_X11_show (tz_g A 0 (Int32.toNatClampNeg (z3 + 1))) (tz_g A 0 (Int32.toNatClampNeg (z3 + 2))) A) (fun y1 A1 =>
    if (z3 + 1) < 0 ∨ (tz_gr A1 0 0) ≤ (Int32.toNatClampNeg (z3 + 1)) then none else
    if (z3 + 2) < 0 ∨ (tz_gr A1 0 0) ≤ (Int32.toNatClampNeg (z3 + 2)) then none else
    tz_C A1 (tz_bI (f_X12_show (tz_g A1 0 (Int32.toNatClampNeg (z3 + 1))) (tz_g A1 0 (Int32.toNatClampNeg (z3 + 2))) A1) (fun y2 A2 =>
    if y1 = y2 then
      q_L_law_18 (z3 + 6) A2
    else
      some (some (.int 0), A2)))))
  else if ((tz_g A 0 (Int32.toNatClampNeg z3)) &&& 63) = 5 then
    if (z3 + 1) < 0 ∨ (tz_gr A 0 0) ≤ (Int32.toNatClampNeg (z3 + 1)) then none else
    tz_C A (tz_bI (f_X11_holds (tz_g A 0 (Int32.toNatClampNeg (z3 + 1))) A) (fun y1 A1 =>
    if (z3 + 1) < 0 ∨ (tz_gr A1 0 0) ≤ (Int32.toNatClampNeg (z3 + 1)) then none else
    tz_C A1 (tz_bI (f_X12_holds (tz_g A1 0 (Int32.toNatClampNeg (z3 + 1))) A1) (fun y2 A2 =>
    if y1 = y2 then
      q_L_law_18 (z3 + 6) A2
    else
      some (some (.int 0), A2)))))
  else if ((tz_g A 0 (Int32.toNatClampNeg z3)) &&& 63) = 6 then
    if (z3 + 1) < 0 ∨ (tz_gr A 0 0) ≤ (Int32.toNatClampNeg (z3 + 1)) then none else
    if (z3 + 2) < 0 ∨ (tz_gr A 0 0) ≤ (Int32.toNatClampNeg (z3 + 2)) then none else
    tz_C A (tz_bI (f_X11_says (tz_g A 0 (Int32.toNatClampNeg (z3 + 1))) (tz_g A 0 (Int32.toNatClampNeg (z3 + 2))) A) (fun y1 A1 =>
    if (z3 + 1) < 0 ∨ (tz_gr A1 0 0) ≤ (Int32.toNatClampNeg (z3 + 1)) then none else
    if (z3 + 2) < 0 ∨ (tz_gr A1 0 0) ≤ (Int32.toNatClampNeg (z3 + 2)) then none else
    tz_C A1 (tz_bI (f_X12_says (tz_g A1 0 (Int32.toNatClampNeg (z3 + 1))) (tz_g A1 0 (Int32.toNatClampNeg (z3 + 2))) A1) (fun y2 A2 =>
    if y1 = y2 then
      q_L_law_18 (z3 + 6) A2
    else
      some (some (.int 0), A2)))))
  else if ((tz_g A 0 (Int32.toNatClampNeg z3)) &&& 63) = 7 then
    if (z3 + 1) < 0 ∨ (tz_gr A 0 0) ≤ (Int32.toNatClampNeg (z3 + 1)) then none else
    if (z3 + 2) < 0 ∨ (tz_gr A 0 0) ≤ (Int32.toNatClampNeg (z3 + 2)) then none else
    tz_C A (tz_bI (f_X11_hill (tz_g A 0 (Int32.toNatClampNeg (z3 + 1))) (tz_g A 0 (Int32.toNatClampNeg (z3 + 2))) A) (fun y1 A1 =>
    if (z3 + 1) < 0 ∨ (tz_gr A1 0 0) ≤ (Int32.toNatClampNeg (z3 + 1)) then none else
    if (z3 + 2) < 0 ∨ (tz_gr A1 0 0) ≤ (Int32.toNatClampNeg (z3 + 2)) then none else
    tz_C A1 (tz_bI (f_X12_hill (tz_g A1 0 (Int32.toNatClampNeg (z3 + 1))) (tz_g A1 0 (Int32.toNatClampNeg (z3 + 2))) A1) (fun y2 A2 =>
    if y1 = y2 then
      q_L_law_18 (z3 + 6) A2
    else
      some (some (.int 0), A2)))))
  else if ((tz_g A 0 (Int32.toNatClampNeg z3)) &&& 63) = 8 then
    if (z3 + 1) < 0 ∨ (tz_gr A 0 0) ≤ (Int32.toNatClampNeg (z3 + 1)) then none else
    if (z3 + 2) < 0 ∨ (tz_gr A 0 0) ≤ (Int32.toNatClampNeg (z3 + 2)) then none else
    if (z3 + 3) < 0 ∨ (tz_gr A 0 0) ≤ (Int32.toNatClampNeg (z3 + 3)) then none else
    if (z3 + 4) < 0 ∨ (tz_gr A 0 0) ≤ (Int32.toNatClampNeg (z3 + 4)) then none else
    if (z3 + 5) < 0 ∨ (tz_gr A 0 0) ≤ (Int32.toNatClampNeg (z3 + 5)) then none else
    tz_C A (tz_bI (f_X11_storm (tz_g A 0 (Int32.toNatClampNeg (z3 + 1))) (tz_g A 0 (Int32.toNatClampNeg (z3 + 2))) (tz_g A 0 (Int32.toNatClampNeg (z3 + 3))) (tz_g A 0 (Int32.toNatClampNeg (z3 + 4))) (tz_g A 0 (Int32.toNatClampNeg (z3 + 5))) A) (fun y1 A1 =>
    if (z3 + 1) < 0 ∨ (tz_gr A1 0 0) ≤ (Int32.toNatClampNeg (z3 + 1)) then none else
    if (z3 + 2) < 0 ∨ (tz_gr A1 0 0) ≤ (Int32.toNatClampNeg (z3 + 2)) then none else
    if (z3 + 3) < 0 ∨ (tz_gr A1 0 0) ≤ (Int32.toNatClampNeg (z3 + 3)) then none else
    if (z3 + 4) < 0 ∨ (tz_gr A1 0 0) ≤ (Int32.toNatClampNeg (z3 + 4)) then none else
    if (z3 + 5) < 0 ∨ (tz_gr A1 0 0) ≤ (Int32.toNatClampNeg (z3 + 5)) then none else
    tz_C A1 (tz_bI (f_X12_storm (tz_g A1 0 (Int32.toNatClampNeg (z3 + 1))) (tz_g A1 0 (Int32.toNatClampNeg (z3 + 2))) (tz_g A1 0 (Int32.toNatClampNeg (z3 + 3))) (tz_g A1 0 (Int32.toNatClampNeg (z3 + 4))) (tz_g A1 0 (Int32.toNatClampNeg (z3 + 5))) A1) (fun y2 A2 =>
    if y1 = y2 then
      q_L_law_18 (z3 + 6) A2
    else
      some (some (.int 0), A2)))))
  else if ((tz_g A 0 (Int32.toNatClampNeg z3)) &&& 63) = 9 then
    if (z3 + 1) < 0 ∨ (tz_gr A 0 0) ≤ (Int32.toNatClampNeg (z3 + 1)) then none else
    if (z3 + 2) < 0 ∨ (tz_gr A 0 0) ≤ (Int32.toNatClampNeg (z3 + 2)) then none else
    if (z3 + 3) < 0 ∨ (tz_gr A 0 0) ≤ (Int32.toNatClampNeg (z3 + 3)) then none else
    if (z3 + 4) < 0 ∨ (tz_gr A 0 0) ≤ (Int32.toNatClampNeg (z3 + 4)) then none else
    tz_C A (tz_bI (f_X11_letter (tz_g A 0 (Int32.toNatClampNeg (z3 + 1))) (tz_g A 0 (Int32.toNatClampNeg (z3 + 2))) (tz_g A 0 (Int32.toNatClampNeg (z3 + 3))) (tz_g A 0 (Int32.toNatClampNeg (z3 + 4))) A) (fun y1 A1 =>
    if (z3 + 1) < 0 ∨ (tz_gr A1 0 0) ≤ (Int32.toNatClampNeg (z3 + 1)) then none else
    if (z3 + 2) < 0 ∨ (tz_gr A1 0 0) ≤ (Int32.toNatClampNeg (z3 + 2)) then none else
    if (z3 + 3) < 0 ∨ (tz_gr A1 0 0) ≤ (Int32.toNatClampNeg (z3 + 3)) then none else
    if (z3 + 4) < 0 ∨ (tz_gr A1 0 0) ≤ (Int32.toNatClampNeg (z3 + 4)) then none else
    tz_C A1 (tz_bI (f_X12_letter (tz_g A1 0 (Int32.toNatClampNeg (z3 + 1))) (tz_g A1 0 (Int32.toNatClampNeg (z3 + 2))) (tz_g A1 0 (Int32.toNatClampNeg (z3 + 3))) (tz_g A1 0 (Int32.toNatClampNeg (z3 + 4))) A1) (fun y2 A2 =>
    if y1 = y2 then
      q_L_law_18 (z3 + 6) A2
    else
      some (some (.int 0), A2)))))
  else if ((tz_g A 0 (Int32.toNatClampNeg z3)) &&& 63) = 10 then
    if (z3 + 1) < 0 ∨ (tz_gr A 0 0) ≤ (Int32.toNatClampNeg (z3 + 1)) then none else
    if (z3 + 2) < 0 ∨ (tz_gr A 0 0) ≤ (Int32.toNatClampNeg (z3 + 2)) then none else
    tz_C A (tz_bI (f_X11_hillOf (tz_g A 0 (Int32.toNatClampNeg (z3 + 1))) (tz_g A 0 (Int32.toNatClampNeg (z3 + 2))) A) (fun y1 A1 =>
    if (z3 + 1) < 0 ∨ (tz_gr A1 0 0) ≤ (Int32.toNatClampNeg (z3 + 1)) then none else
    if (z3 + 2) < 0 ∨ (tz_gr A1 0 0) ≤ (Int32.toNatClampNeg (z3 + 2)) then none else
    tz_C A1 (tz_bI (f_X12_hillOf (tz_g A1 0 (Int32.toNatClampNeg (z3 + 1))) (tz_g A1 0 (Int32.toNatClampNeg (z3 + 2))) A1) (fun y2 A2 =>
    if y1 = y2 then
      q_L_law_18 (z3 + 6) A2
    else
      some (some (.int 0), A2)))))
  else if ((tz_g A 0 (Int32.toNatClampNeg z3)) &&& 63) = 11 then
    if (z3 + 1) < 0 ∨ (tz_gr A 0 0) ≤ (Int32.toNatClampNeg (z3 + 1)) then none else
    if (z3 + 2) < 0 ∨ (tz_gr A 0 0) ≤ (Int32.toNatClampNeg (z3 + 2)) then none else
    tz_C A (tz_bI (f_X11_stormOf (tz_g A 0 (Int32.toNatClampNeg (z3 + 1))) (tz_g A 0 (Int32.toNatClampNeg (z3 + 2))) A) (fun y1 A1 =>
    if (z3 + 1) < 0 ∨ (tz_gr A1 0 0) ≤ (Int32.toNatClampNeg (z3 + 1)) then none else
    if (z3 + 2) < 0 ∨ (tz_gr A1 0 0) ≤ (Int32.toNatClampNeg (z3 + 2)) then none else
    tz_C A1 (tz_bI (f_X12_stormOf (tz_g A1 0 (Int32.toNatClampNeg (z3 + 1))) (tz_g A1 0 (Int32.toNatClampNeg (z3 + 2))) A1) (fun y2 A2 =>
    if y1 = y2 then
      q_L_law_18 (z3 + 6) A2
    else
      some (some (.int 0), A2)))))
  else if ((tz_g A 0 (Int32.toNatClampNeg z3)) &&& 63) = 12 then
    if (z3 + 1) < 0 ∨ (tz_gr A 0 0) ≤ (Int32.toNatClampNeg (z3 + 1)) then none else
    if (z3 + 2) < 0 ∨ (tz_gr A 0 0) ≤ (Int32.toNatClampNeg (z3 + 2)) then none else
    tz_C A (tz_bI (f_X11_letterOf (tz_g A 0 (Int32.toNatClampNeg (z3 + 1))) (tz_g A 0 (Int32.toNatClampNeg (z3 + 2))) A) (fun y1 A1 =>
    if (z3 + 1) < 0 ∨ (tz_gr A1 0 0) ≤ (Int32.toNatClampNeg (z3 + 1)) then none else
    if (z3 + 2) < 0 ∨ (tz_gr A1 0 0) ≤ (Int32.toNatClampNeg (z3 + 2)) then none else
    tz_C A1 (tz_bI (f_X12_letterOf (tz_g A1 0 (Int32.toNatClampNeg (z3 + 1))) (tz_g A1 0 (Int32.toNatClampNeg (z3 + 2))) A1) (fun y2 A2 =>
    if y1 = y2 then
      q_L_law_18 (z3 + 6) A2
    else
      some (some (.int 0), A2)))))
  else if ((tz_g A 0 (Int32.toNatClampNeg z3)) &&& 63) = 13 then
    if (z3 + 1) < 0 ∨ (tz_gr A 0 0) ≤ (Int32.toNatClampNeg (z3 + 1)) then none else
    if (z3 + 2) < 0 ∨ (tz_gr A 0 0) ≤ (Int32.toNatClampNeg (z3 + 2)) then none else
    tz_C A (tz_bI (f_X11_heard (tz_g A 0 (Int32.toNatClampNeg (z3 + 1))) (tz_g A 0 (Int32.toNatClampNeg (z3 + 2))) A) (fun y1 A1 =>
    if (z3 + 1) < 0 ∨ (tz_gr A1 0 0) ≤ (Int32.toNatClampNeg (z3 + 1)) then none else
    if (z3 + 2) < 0 ∨ (tz_gr A1 0 0) ≤ (Int32.toNatClampNeg (z3 + 2)) then none else
    tz_C A1 (tz_bI (f_X12_heard (tz_g A1 0 (Int32.toNatClampNeg (z3 + 1))) (tz_g A1 0 (Int32.toNatClampNeg (z3 + 2))) A1) (fun y2 A2 =>
    if y1 = y2 then
      q_L_law_18 (z3 + 6) A2
    else
      some (some (.int 0), A2)))))
  else if ((tz_g A 0 (Int32.toNatClampNeg z3)) &&& 63) = 14 then
    if (z3 + 1) < 0 ∨ (tz_gr A 0 0) ≤ (Int32.toNatClampNeg (z3 + 1)) then none else
    tz_C A (tz_bI (f_X11_sky (tz_g A 0 (Int32.toNatClampNeg (z3 + 1))) A) (fun y1 A1 =>
    if (z3 + 1) < 0 ∨ (tz_gr A1 0 0) ≤ (Int32.toNatClampNeg (z3 + 1)) then none else
    tz_C A1 (tz_bI (f_X12_sky (tz_g A1 0 (Int32.toNatClampNeg (z3 + 1))) A1) (fun y2 A2 =>
    if y1 = y2 then
      q_L_law_18 (z3 + 6) A2
    else
      some (some (.int 0), A2)))))
  else if ((tz_g A 0 (Int32.toNatClampNeg z3)) &&& 63) = 15 then
    tz_C A (tz_bI (f_X11_fault A) (fun y1 A1 =>
    tz_C A1 (tz_bI (f_X12_fault A1) (fun y2 A2 =>
    if y1 = y2 then
      q_L_law_18 (z3 + 6) A2
    else
      some (some (.int 0), A2)))))
  else if ((tz_g A 0 (Int32.toNatClampNeg z3)) &&& 63) = 16 then
    if (z3 + 1) < 0 ∨ (tz_gr A 0 0) ≤ (Int32.toNatClampNeg (z3 + 1)) then none else
    if (z3 + 2) < 0 ∨ (tz_gr A 0 0) ≤ (Int32.toNatClampNeg (z3 + 2)) then none else
    if (z3 + 3) < 0 ∨ (tz_gr A 0 0) ≤ (Int32.toNatClampNeg (z3 + 3)) then none else
    tz_C A (tz_bI (f_X11_behind (tz_g A 0 (Int32.toNatClampNeg (z3 + 1))) (tz_g A 0 (Int32.toNatClampNeg (z3 + 2))) (tz_g A 0 (Int32.toNatClampNeg (z3 + 3))) A) (fun y1 A1 =>
    if (z3 + 1) < 0 ∨ (tz_gr A1 0 0) ≤ (Int32.toNatClampNeg (z3 + 1)) then none else
    if (z3 + 2) < 0 ∨ (tz_gr A1 0 0) ≤ (Int32.toNatClampNeg (z3 + 2)) then none else
    if (z3 + 3) < 0 ∨ (tz_gr A1 0 0) ≤ (Int32.toNatClampNeg (z3 + 3)) then none else
    tz_C A1 (tz_bI (f_X12_behind (tz_g A1 0 (Int32.toNatClampNeg (z3 + 1))) (tz_g A1 0 (Int32.toNatClampNeg (z3 + 2))) (tz_g A1 0 (Int32.toNatClampNeg (z3 + 3))) A1) (fun y2 A2 =>
    if y1 = y2 then
      q_L_law_18 (z3 + 6) A2
    else
      some (some (.int 0), A2)))))
  else if ((tz_g A 0 (Int32.toNatClampNeg z3)) &&& 63) = 17 then
    if (z3 + 1) < 0 ∨ (tz_gr A 0 0) ≤ (Int32.toNatClampNeg (z3 + 1)) then none else
    tz_C A (tz_bI (f_X11_arrives (tz_g A 0 (Int32.toNatClampNeg (z3 + 1))) A) (fun y1 A1 =>
    if (z3 + 1) < 0 ∨ (tz_gr A1 0 0) ≤ (Int32.toNatClampNeg (z3 + 1)) then none else
    tz_C A1 (tz_bI (f_X12_arrives (tz_g A1 0 (Int32.toNatClampNeg (z3 + 1))) A1) (fun y2 A2 =>
    if y1 = y2 then
      q_L_law_18 (z3 + 6) A2
    else
      some (some (.int 0), A2)))))
  else if ((tz_g A 0 (Int32.toNatClampNeg z3)) &&& 63) = 18 then
    if (z3 + 1) < 0 ∨ (tz_gr A 0 0) ≤ (Int32.toNatClampNeg (z3 + 1)) then none else
    if (z3 + 2) < 0 ∨ (tz_gr A 0 0) ≤ (Int32.toNatClampNeg (z3 + 2)) then none else
    if (z3 + 3) < 0 ∨ (tz_gr A 0 0) ≤ (Int32.toNatClampNeg (z3 + 3)) then none else
    if (z3 + 4) < 0 ∨ (tz_gr A 0 0) ≤ (Int32.toNatClampNeg (z3 + 4)) then none else
    if (z3 + 5) < 0 ∨ (tz_gr A 0 0) ≤ (Int32.toNatClampNeg (z3 + 5)) then none else
    tz_C A (tz_bI (f_X11_handIn (tz_g A 0 (Int32.toNatClampNeg (z3 + 1))) (tz_g A 0 (Int32.toNatClampNeg (z3 + 2))) (tz_g A 0 (Int32.toNatClampNeg (z3 + 3))) (tz_g A 0 (Int32.toNatClampNeg (z3 + 4))) (tz_g A 0 (Int32.toNatClampNeg (z3 + 5))) A) (fun y1 A1 =>
    if (z3 + 1) < 0 ∨ (tz_gr A1 0 0) ≤ (Int32.toNatClampNeg (z3 + 1)) then none else
    if (z3 + 2) < 0 ∨ (tz_gr A1 0 0) ≤ (Int32.toNatClampNeg (z3 + 2)) then none else
    if (z3 + 3) < 0 ∨ (tz_gr A1 0 0) ≤ (Int32.toNatClampNeg (z3 + 3)) then none else
    if (z3 + 4) < 0 ∨ (tz_gr A1 0 0) ≤ (Int32.toNatClampNeg (z3 + 4)) then none else
    if (z3 + 5) < 0 ∨ (tz_gr A1 0 0) ≤ (Int32.toNatClampNeg (z3 + 5)) then none else
    tz_C A1 (tz_bI (f_X12_handIn (tz_g A1 0 (Int32.toNatClampNeg (z3 + 1))) (tz_g A1 0 (Int32.toNatClampNeg (z3 + 2))) (tz_g A1 0 (Int32.toNatClampNeg (z3 + 3))) (tz_g A1 0 (Int32.toNatClampNeg (z3 + 4))) (tz_g A1 0 (Int32.toNatClampNeg (z3 + 5))) A1) (fun y2 A2 =>
    if y1 = y2 then
      q_L_law_18 (z3 + 6) A2
    else
      some (some (.int 0), A2)))))
  else if ((tz_g A 0 (Int32.toNatClampNeg z3)) &&& 63) = 19 then
    if (z3 + 1) < 0 ∨ (tz_gr A 0 0) ≤ (Int32.toNatClampNeg (z3 + 1)) then none else
    if (z3 + 2) < 0 ∨ (tz_gr A 0 0) ≤ (Int32.toNatClampNeg (z3 + 2)) then none else
    if (z3 + 3) < 0 ∨ (tz_gr A 0 0) ≤ (Int32.toNatClampNeg (z3 + 3)) then none else
    if (z3 + 4) < 0 ∨ (tz_gr A 0 0) ≤ (Int32.toNatClampNeg (z3 + 4)) then none else
    tz_C A (tz_bI (f_X11_latest (tz_g A 0 (Int32.toNatClampNeg (z3 + 1))) (tz_g A 0 (Int32.toNatClampNeg (z3 + 2))) (tz_g A 0 (Int32.toNatClampNeg (z3 + 3))) (tz_g A 0 (Int32.toNatClampNeg (z3 + 4))) A) (fun y1 A1 =>
    if (z3 + 1) < 0 ∨ (tz_gr A1 0 0) ≤ (Int32.toNatClampNeg (z3 + 1)) then none else
    if (z3 + 2) < 0 ∨ (tz_gr A1 0 0) ≤ (Int32.toNatClampNeg (z3 + 2)) then none else
    if (z3 + 3) < 0 ∨ (tz_gr A1 0 0) ≤ (Int32.toNatClampNeg (z3 + 3)) then none else
    if (z3 + 4) < 0 ∨ (tz_gr A1 0 0) ≤ (Int32.toNatClampNeg (z3 + 4)) then none else
    tz_C A1 (tz_bI (f_X12_latest (tz_g A1 0 (Int32.toNatClampNeg (z3 + 1))) (tz_g A1 0 (Int32.toNatClampNeg (z3 + 2))) (tz_g A1 0 (Int32.toNatClampNeg (z3 + 3))) (tz_g A1 0 (Int32.toNatClampNeg (z3 + 4))) A1) (fun y2 A2 =>
    if y1 = y2 then
      q_L_law_18 (z3 + 6) A2
    else
      some (some (.int 0), A2)))))
  else if ((tz_g A 0 (Int32.toNatClampNeg z3)) &&& 63) = 20 then
    if (z3 + 1) < 0 ∨ (tz_gr A 0 0) ≤ (Int32.toNatClampNeg (z3 + 1)) then none else
    if (z3 + 2) < 0 ∨ (tz_gr A 0 0) ≤ (Int32.toNatClampNeg (z3 + 2)) then none else
    if (z3 + 3) < 0 ∨ (tz_gr A 0 0) ≤ (Int32.toNatClampNeg (z3 + 3)) then none else
    tz_C A (tz_bI (f_X11_lightest (tz_g A 0 (Int32.toNatClampNeg (z3 + 1))) (tz_g A 0 (Int32.toNatClampNeg (z3 + 2))) (tz_g A 0 (Int32.toNatClampNeg (z3 + 3))) A) (fun y1 A1 =>
    if (z3 + 1) < 0 ∨ (tz_gr A1 0 0) ≤ (Int32.toNatClampNeg (z3 + 1)) then none else
    if (z3 + 2) < 0 ∨ (tz_gr A1 0 0) ≤ (Int32.toNatClampNeg (z3 + 2)) then none else
    if (z3 + 3) < 0 ∨ (tz_gr A1 0 0) ≤ (Int32.toNatClampNeg (z3 + 3)) then none else
    tz_C A1 (tz_bI (f_X12_lightest (tz_g A1 0 (Int32.toNatClampNeg (z3 + 1))) (tz_g A1 0 (Int32.toNatClampNeg (z3 + 2))) (tz_g A1 0 (Int32.toNatClampNeg (z3 + 3))) A1) (fun y2 A2 =>
    if y1 = y2 then
      q_L_law_18 (z3 + 6) A2
    else
      some (some (.int 0), A2)))))
  else if ((tz_g A 0 (Int32.toNatClampNeg z3)) &&& 63) = 21 then
    if (z3 + 1) < 0 ∨ (tz_gr A 0 0) ≤ (Int32.toNatClampNeg (z3 + 1)) then none else
    if (z3 + 2) < 0 ∨ (tz_gr A 0 0) ≤ (Int32.toNatClampNeg (z3 + 2)) then none else
    if (z3 + 3) < 0 ∨ (tz_gr A 0 0) ≤ (Int32.toNatClampNeg (z3 + 3)) then none else
    if (z3 + 4) < 0 ∨ (tz_gr A 0 0) ≤ (Int32.toNatClampNeg (z3 + 4)) then none else
    if (z3 + 5) < 0 ∨ (tz_gr A 0 0) ≤ (Int32.toNatClampNeg (z3 + 5)) then none else
    tz_C A (tz_bI (f_X11_was (tz_g A 0 (Int32.toNatClampNeg (z3 + 1))) (tz_g A 0 (Int32.toNatClampNeg (z3 + 2))) (tz_g A 0 (Int32.toNatClampNeg (z3 + 3))) (tz_g A 0 (Int32.toNatClampNeg (z3 + 4))) (tz_g A 0 (Int32.toNatClampNeg (z3 + 5))) A) (fun y1 A1 =>
    if (z3 + 1) < 0 ∨ (tz_gr A1 0 0) ≤ (Int32.toNatClampNeg (z3 + 1)) then none else
    if (z3 + 2) < 0 ∨ (tz_gr A1 0 0) ≤ (Int32.toNatClampNeg (z3 + 2)) then none else
    if (z3 + 3) < 0 ∨ (tz_gr A1 0 0) ≤ (Int32.toNatClampNeg (z3 + 3)) then none else
    if (z3 + 4) < 0 ∨ (tz_gr A1 0 0) ≤ (Int32.toNatClampNeg (z3 + 4)) then none else
    if (z3 + 5) < 0 ∨ (tz_gr A1 0 0) ≤ (Int32.toNatClampNeg (z3 + 5)) then none else
    tz_C A1 (tz_bI (f_X12_was (tz_g A1 0 (Int32.toNatClampNeg (z3 + 1))) (tz_g A1 0 (Int32.toNatClampNeg (z3 + 2))) (tz_g A1 0 (Int32.toNatClampNeg (z3 + 3))) (tz_g A1 0 (Int32.toNatClampNeg (z3 + 4))) (tz_g A1 0 (Int32.toNatClampNeg (z3 + 5))) A1) (fun y2 A2 =>
    if y1 = y2 then
      q_L_law_18 (z3 + 6) A2
    else
      some (some (.int 0), A2)))))
  else if ((tz_g A 0 (Int32.toNatClampNeg z3)) &&& 63) = 22 then
    if (z3 + 1) < 0 ∨ (tz_gr A 0 0) ≤ (Int32.toNatClampNeg (z3 + 1)) then none else
    if (z3 + 2) < 0 ∨ (tz_gr A 0 0) ≤ (Int32.toNatClampNeg (z3 + 2)) then none else
    tz_C A (tz_bI (f_X11_needs (tz_g A 0 (Int32.toNatClampNeg (z3 + 1))) (tz_g A 0 (Int32.toNatClampNeg (z3 + 2))) A) (fun y1 A1 =>
    if (z3 + 1) < 0 ∨ (tz_gr A1 0 0) ≤ (Int32.toNatClampNeg (z3 + 1)) then none else
    if (z3 + 2) < 0 ∨ (tz_gr A1 0 0) ≤ (Int32.toNatClampNeg (z3 + 2)) then none else
    tz_C A1 (tz_bI (f_X12_needs (tz_g A1 0 (Int32.toNatClampNeg (z3 + 1))) (tz_g A1 0 (Int32.toNatClampNeg (z3 + 2))) A1) (fun y2 A2 =>
    if y1 = y2 then
      q_L_law_18 (z3 + 6) A2
    else
      some (some (.int 0), A2)))))
  else if ((tz_g A 0 (Int32.toNatClampNeg z3)) &&& 63) = 23 then
    if (z3 + 1) < 0 ∨ (tz_gr A 0 0) ≤ (Int32.toNatClampNeg (z3 + 1)) then none else
    if (z3 + 2) < 0 ∨ (tz_gr A 0 0) ≤ (Int32.toNatClampNeg (z3 + 2)) then none else
    tz_C A (tz_bI (f_X11_reach (tz_g A 0 (Int32.toNatClampNeg (z3 + 1))) (tz_g A 0 (Int32.toNatClampNeg (z3 + 2))) A) (fun y1 A1 =>
    if (z3 + 1) < 0 ∨ (tz_gr A1 0 0) ≤ (Int32.toNatClampNeg (z3 + 1)) then none else
    if (z3 + 2) < 0 ∨ (tz_gr A1 0 0) ≤ (Int32.toNatClampNeg (z3 + 2)) then none else
    tz_C A1 (tz_bI (f_X12_reach (tz_g A1 0 (Int32.toNatClampNeg (z3 + 1))) (tz_g A1 0 (Int32.toNatClampNeg (z3 + 2))) A1) (fun y2 A2 =>
    if y1 = y2 then
      q_L_law_18 (z3 + 6) A2
    else
      some (some (.int 0), A2)))))
  else if ((tz_g A 0 (Int32.toNatClampNeg z3)) &&& 63) = 24 then
    if (z3 + 1) < 0 ∨ (tz_gr A 0 0) ≤ (Int32.toNatClampNeg (z3 + 1)) then none else
    if (z3 + 2) < 0 ∨ (tz_gr A 0 0) ≤ (Int32.toNatClampNeg (z3 + 2)) then none else
    tz_C A (tz_bI (f_X11_loudest (tz_g A 0 (Int32.toNatClampNeg (z3 + 1))) (tz_g A 0 (Int32.toNatClampNeg (z3 + 2))) A) (fun y1 A1 =>
    if (z3 + 1) < 0 ∨ (tz_gr A1 0 0) ≤ (Int32.toNatClampNeg (z3 + 1)) then none else
    if (z3 + 2) < 0 ∨ (tz_gr A1 0 0) ≤ (Int32.toNatClampNeg (z3 + 2)) then none else
    tz_C A1 (tz_bI (f_X12_loudest (tz_g A1 0 (Int32.toNatClampNeg (z3 + 1))) (tz_g A1 0 (Int32.toNatClampNeg (z3 + 2))) A1) (fun y2 A2 =>
    if y1 = y2 then
      q_L_law_18 (z3 + 6) A2
    else
      some (some (.int 0), A2)))))
  else if ((tz_g A 0 (Int32.toNatClampNeg z3)) &&& 63) = 25 then
    if (z3 + 1) < 0 ∨ (tz_gr A 0 0) ≤ (Int32.toNatClampNeg (z3 + 1)) then none else
    if (z3 + 2) < 0 ∨ (tz_gr A 0 0) ≤ (Int32.toNatClampNeg (z3 + 2)) then none else
    tz_C A (tz_bI (f_X11_firstHeard (tz_g A 0 (Int32.toNatClampNeg (z3 + 1))) (tz_g A 0 (Int32.toNatClampNeg (z3 + 2))) A) (fun y1 A1 =>
    if (z3 + 1) < 0 ∨ (tz_gr A1 0 0) ≤ (Int32.toNatClampNeg (z3 + 1)) then none else
    if (z3 + 2) < 0 ∨ (tz_gr A1 0 0) ≤ (Int32.toNatClampNeg (z3 + 2)) then none else
    tz_C A1 (tz_bI (f_X12_firstHeard (tz_g A1 0 (Int32.toNatClampNeg (z3 + 1))) (tz_g A1 0 (Int32.toNatClampNeg (z3 + 2))) A1) (fun y2 A2 =>
    if y1 = y2 then
      q_L_law_18 (z3 + 6) A2
    else
      some (some (.int 0), A2)))))
  else if ((tz_g A 0 (Int32.toNatClampNeg z3)) &&& 63) = 26 then
    if (z3 + 1) < 0 ∨ (tz_gr A 0 0) ≤ (Int32.toNatClampNeg (z3 + 1)) then none else
    if (z3 + 2) < 0 ∨ (tz_gr A 0 0) ≤ (Int32.toNatClampNeg (z3 + 2)) then none else
    if (z3 + 3) < 0 ∨ (tz_gr A 0 0) ≤ (Int32.toNatClampNeg (z3 + 3)) then none else
    tz_C A (tz_bI (f_X11_night (tz_g A 0 (Int32.toNatClampNeg (z3 + 1))) (tz_g A 0 (Int32.toNatClampNeg (z3 + 2))) (tz_g A 0 (Int32.toNatClampNeg (z3 + 3))) A) (fun y1 A1 =>
    if (z3 + 1) < 0 ∨ (tz_gr A1 0 0) ≤ (Int32.toNatClampNeg (z3 + 1)) then none else
    if (z3 + 2) < 0 ∨ (tz_gr A1 0 0) ≤ (Int32.toNatClampNeg (z3 + 2)) then none else
    if (z3 + 3) < 0 ∨ (tz_gr A1 0 0) ≤ (Int32.toNatClampNeg (z3 + 3)) then none else
    tz_C A1 (tz_bI (f_X12_night (tz_g A1 0 (Int32.toNatClampNeg (z3 + 1))) (tz_g A1 0 (Int32.toNatClampNeg (z3 + 2))) (tz_g A1 0 (Int32.toNatClampNeg (z3 + 3))) A1) (fun y2 A2 =>
    if y1 = y2 then
      q_L_law_18 (z3 + 6) A2
    else
      some (some (.int 0), A2)))))
  else if ((tz_g A 0 (Int32.toNatClampNeg z3)) &&& 63) = 27 then
    if (z3 + 1) < 0 ∨ (tz_gr A 0 0) ≤ (Int32.toNatClampNeg (z3 + 1)) then none else
    if (z3 + 2) < 0 ∨ (tz_gr A 0 0) ≤ (Int32.toNatClampNeg (z3 + 2)) then none else
    tz_C A (tz_bI (f_X11_meet (tz_g A 0 (Int32.toNatClampNeg (z3 + 1))) (tz_g A 0 (Int32.toNatClampNeg (z3 + 2))) A) (fun y1 A1 =>
    if (z3 + 1) < 0 ∨ (tz_gr A1 0 0) ≤ (Int32.toNatClampNeg (z3 + 1)) then none else
    if (z3 + 2) < 0 ∨ (tz_gr A1 0 0) ≤ (Int32.toNatClampNeg (z3 + 2)) then none else
    tz_C A1 (tz_bI (f_X12_meet (tz_g A1 0 (Int32.toNatClampNeg (z3 + 1))) (tz_g A1 0 (Int32.toNatClampNeg (z3 + 2))) A1) (fun y2 A2 =>
    if y1 = y2 then
      q_L_law_18 (z3 + 6) A2
    else
      some (some (.int 0), A2)))))
  else if ((tz_g A 0 (Int32.toNatClampNeg z3)) &&& 63) = 28 then
    tz_C A (tz_bI (f_X11_postage A) (fun y1 A1 =>
    tz_C A1 (tz_bI (f_X12_postage A1) (fun y2 A2 =>
    if y1 = y2 then
      q_L_law_18 (z3 + 6) A2
    else
      some (some (.int 0), A2)))))
  else if ((tz_g A 0 (Int32.toNatClampNeg z3)) &&& 63) = 29 then
    if (z3 + 1) < 0 ∨ (tz_gr A 0 0) ≤ (Int32.toNatClampNeg (z3 + 1)) then none else
    tz_C A (tz_bI (f_X11_hours (tz_g A 0 (Int32.toNatClampNeg (z3 + 1))) A) (fun y1 A1 =>
    if (z3 + 1) < 0 ∨ (tz_gr A1 0 0) ≤ (Int32.toNatClampNeg (z3 + 1)) then none else
    tz_C A1 (tz_bI (f_X12_hours (tz_g A1 0 (Int32.toNatClampNeg (z3 + 1))) A1) (fun y2 A2 =>
    if y1 = y2 then
      q_L_law_18 (z3 + 6) A2
    else
      some (some (.int 0), A2)))))
  else if ((tz_g A 0 (Int32.toNatClampNeg z3)) &&& 63) = 30 then
    if (z3 + 1) < 0 ∨ (tz_gr A 0 0) ≤ (Int32.toNatClampNeg (z3 + 1)) then none else
    tz_C A (tz_bI (f_X11_burn (tz_g A 0 (Int32.toNatClampNeg (z3 + 1))) A) (fun y1 A1 =>
    if (z3 + 1) < 0 ∨ (tz_gr A1 0 0) ≤ (Int32.toNatClampNeg (z3 + 1)) then none else
    tz_C A1 (tz_bI (f_X12_burn (tz_g A1 0 (Int32.toNatClampNeg (z3 + 1))) A1) (fun y2 A2 =>
    if y1 = y2 then
      q_L_law_18 (z3 + 6) A2
    else
      some (some (.int 0), A2)))))
  else if ((tz_g A 0 (Int32.toNatClampNeg z3)) &&& 63) = 31 then
    if (z3 + 1) < 0 ∨ (tz_gr A 0 0) ≤ (Int32.toNatClampNeg (z3 + 1)) then none else
    tz_C A (tz_bI (f_X11_dry (tz_g A 0 (Int32.toNatClampNeg (z3 + 1))) A) (fun y1 A1 =>
    if (z3 + 1) < 0 ∨ (tz_gr A1 0 0) ≤ (Int32.toNatClampNeg (z3 + 1)) then none else
    tz_C A1 (tz_bI (f_X12_dry (tz_g A1 0 (Int32.toNatClampNeg (z3 + 1))) A1) (fun y2 A2 =>
    if y1 = y2 then
      q_L_law_18 (z3 + 6) A2
    else
      some (some (.int 0), A2)))))
  else if ((tz_g A 0 (Int32.toNatClampNeg z3)) &&& 63) = 32 then
    if (z3 + 1) < 0 ∨ (tz_gr A 0 0) ≤ (Int32.toNatClampNeg (z3 + 1)) then none else
    tz_C A (tz_bI (f_X11_drought (tz_g A 0 (Int32.toNatClampNeg (z3 + 1))) A) (fun y1 A1 =>
    if (z3 + 1) < 0 ∨ (tz_gr A1 0 0) ≤ (Int32.toNatClampNeg (z3 + 1)) then none else
    tz_C A1 (tz_bI (f_X12_drought (tz_g A1 0 (Int32.toNatClampNeg (z3 + 1))) A1) (fun y2 A2 =>
    if y1 = y2 then
      q_L_law_18 (z3 + 6) A2
    else
      some (some (.int 0), A2)))))
  else if ((tz_g A 0 (Int32.toNatClampNeg z3)) &&& 63) = 33 then
    if (z3 + 1) < 0 ∨ (tz_gr A 0 0) ≤ (Int32.toNatClampNeg (z3 + 1)) then none else
    tz_C A (tz_bI (f_X11_seed (tz_g A 0 (Int32.toNatClampNeg (z3 + 1))) A) (fun y1 A1 =>
    if (z3 + 1) < 0 ∨ (tz_gr A1 0 0) ≤ (Int32.toNatClampNeg (z3 + 1)) then none else
    tz_C A1 (tz_bI (f_X12_seed (tz_g A1 0 (Int32.toNatClampNeg (z3 + 1))) A1) (fun y2 A2 =>
    if y1 = y2 then
      q_L_law_18 (z3 + 6) A2
    else
      some (some (.int 0), A2)))))
  else if ((tz_g A 0 (Int32.toNatClampNeg z3)) &&& 63) = 34 then
    if (z3 + 1) < 0 ∨ (tz_gr A 0 0) ≤ (Int32.toNatClampNeg (z3 + 1)) then none else
    if (z3 + 2) < 0 ∨ (tz_gr A 0 0) ≤ (Int32.toNatClampNeg (z3 + 2)) then none else
    if (z3 + 3) < 0 ∨ (tz_gr A 0 0) ≤ (Int32.toNatClampNeg (z3 + 3)) then none else
    tz_C A (tz_bI (f_X11_act (tz_g A 0 (Int32.toNatClampNeg (z3 + 1))) (tz_g A 0 (Int32.toNatClampNeg (z3 + 2))) (tz_g A 0 (Int32.toNatClampNeg (z3 + 3))) A) (fun y1 A1 =>
    if (z3 + 1) < 0 ∨ (tz_gr A1 0 0) ≤ (Int32.toNatClampNeg (z3 + 1)) then none else
    if (z3 + 2) < 0 ∨ (tz_gr A1 0 0) ≤ (Int32.toNatClampNeg (z3 + 2)) then none else
    if (z3 + 3) < 0 ∨ (tz_gr A1 0 0) ≤ (Int32.toNatClampNeg (z3 + 3)) then none else
    tz_C A1 (tz_bI (f_X12_act (tz_g A1 0 (Int32.toNatClampNeg (z3 + 1))) (tz_g A1 0 (Int32.toNatClampNeg (z3 + 2))) (tz_g A1 0 (Int32.toNatClampNeg (z3 + 3))) A1) (fun y2 A2 =>
    if y1 = y2 then
      q_L_law_18 (z3 + 6) A2
    else
      some (some (.int 0), A2)))))
  else if ((tz_g A 0 (Int32.toNatClampNeg z3)) &&& 63) = 35 then
    if (z3 + 1) < 0 ∨ (tz_gr A 0 0) ≤ (Int32.toNatClampNeg (z3 + 1)) then none else
    tz_C A (tz_bI (f_X11_trace (tz_g A 0 (Int32.toNatClampNeg (z3 + 1))) A) (fun y1 A1 =>
    if (z3 + 1) < 0 ∨ (tz_gr A1 0 0) ≤ (Int32.toNatClampNeg (z3 + 1)) then none else
    tz_C A1 (tz_bI (f_X12_trace (tz_g A1 0 (Int32.toNatClampNeg (z3 + 1))) A1) (fun y2 A2 =>
    if y1 = y2 then
      q_L_law_18 (z3 + 6) A2
    else
      some (some (.int 0), A2)))))
  else if ((tz_g A 0 (Int32.toNatClampNeg z3)) &&& 63) = 36 then
    tz_C A (tz_bI (f_X11_image A) (fun y1 A1 =>
    tz_C A1 (tz_bI (f_X12_image A1) (fun y2 A2 =>
    if y1 = y2 then
      q_L_law_18 (z3 + 6) A2
    else
      some (some (.int 0), A2)))))
  else if ((tz_g A 0 (Int32.toNatClampNeg z3)) &&& 63) = 37 then
    tz_C A (tz_bI (f_X11_restore A) (fun y1 A1 =>
    tz_C A1 (tz_bI (f_X12_restore A1) (fun y2 A2 =>
    if y1 = y2 then
      q_L_law_18 (z3 + 6) A2
    else
      some (some (.int 0), A2)))))
  else if ((tz_g A 0 (Int32.toNatClampNeg z3)) &&& 63) = 38 then
    if (z3 + 1) < 0 ∨ (tz_gr A 0 0) ≤ (Int32.toNatClampNeg (z3 + 1)) then none else
    tz_C A (tz_bI (f_X11_status (tz_g A 0 (Int32.toNatClampNeg (z3 + 1))) A) (fun y1 A1 =>
    if (z3 + 1) < 0 ∨ (tz_gr A1 0 0) ≤ (Int32.toNatClampNeg (z3 + 1)) then none else
    tz_C A1 (tz_bI (f_X12_status (tz_g A1 0 (Int32.toNatClampNeg (z3 + 1))) A1) (fun y2 A2 =>
    if y1 = y2 then
      q_L_law_18 (z3 + 6) A2
    else
      some (some (.int 0), A2)))))
  else q_L_law_18 (z3 + 6) A := by
  show tz_Go 249 18 [some (.ref 0), some (.ref 17), some (.ref 157), some (.int z3)] [] A = _
  refine (tz_g_iload_n rfl (tz_inM rfl rfl rfl)).trans ?_
  refine (tz_g_aload_n rfl (tz_in0 rfl)).trans ?_
  refine (tz_g_alen (v := Int32.ofNat (tz_gr A 0 0)) rfl rfl (tz_in0 rfl)).trans ?_
  refine (tz_g_bipush (v := 6) rfl (tz_in0 rfl)).trans ?_
  refine (tz_g_isub (tz_in0 rfl)).trans ?_
  refine (tz_g_ic_gt (t := 1568) (by decide) (tz_in0 rfl)).trans ?_
  refine tz_cg ?_ ?_
  · skip
    refine (tz_g_iconst (v := 1) rfl (tz_in0 rfl)).trans ?_
    exact tz_g_ret4K (by decide) (tz_in0 rfl) rfl
  · skip
    refine (tz_g_aload_n rfl (tz_in0 rfl)).trans ?_
    refine (tz_g_iload_n rfl (tz_in0 rfl)).trans ?_
    refine (tz_g_iald (n := (tz_gr A 0 0)) rfl rfl rfl (tz_in0 rfl)).trans ?_
    refine tz_cn1 ?_
    refine (tz_g_bipush (v := 63) rfl (tz_in0 rfl)).trans ?_
    refine (tz_g_iand (tz_in0 rfl)).trans ?_
    refine (tz_g_tsw (by decide) (tz_in0 rfl)).trans ?_
    refine tz_swc (v := 0) (by decide) ?_ ?_
    · refine (tz_tg (t := 204) (by decide)).trans ?_
      refine (tz_g_aload_n rfl (tz_in0 rfl)).trans ?_
      refine (tz_g_aload_n rfl (tz_in0 rfl)).trans ?_
      refine (tz_g_iload_n rfl (tz_in0 rfl)).trans ?_
      refine (tz_g_iconst (v := 1) rfl (tz_in0 rfl)).trans ?_
      refine (tz_g_iadd (tz_in0 rfl)).trans ?_
      refine (tz_g_iald (n := (tz_gr A 0 0)) rfl rfl rfl (tz_in0 rfl)).trans ?_
      refine tz_cn1 ?_
      refine (tz_g_aload_n rfl (tz_in0 rfl)).trans ?_
      refine (tz_g_iload_n rfl (tz_in0 rfl)).trans ?_
      refine (tz_g_iconst (v := 2) rfl (tz_in0 rfl)).trans ?_
      refine (tz_g_iadd (tz_in0 rfl)).trans ?_
      refine (tz_g_iald (n := (tz_gr A 0 0)) rfl rfl rfl (tz_in0 rfl)).trans ?_
      refine tz_cn1 ?_
      refine (tz_g_aload_n rfl (tz_in0 rfl)).trans ?_
      refine (tz_g_iload_n rfl (tz_in0 rfl)).trans ?_
      refine (tz_g_iconst (v := 3) rfl (tz_in0 rfl)).trans ?_
      refine (tz_g_iadd (tz_in0 rfl)).trans ?_
      refine (tz_g_iald (n := (tz_gr A 0 0)) rfl rfl rfl (tz_in0 rfl)).trans ?_
      refine tz_cn1 ?_
      refine (tz_g_kv3I (m2 := 13) (rc := 1) rfl rfl rfl (fun hA => tz_conok hA rfl) rfl rfl rfl rfl (by decide) (tz_in0 rfl)).trans ?_
      refine congrArg (tz_C _) ?_
      refine tz_jI (fun y1 A1 => ?_)
      refine (tz_g_aload_n rfl (tz_in0 rfl)).trans ?_
      refine (tz_g_aload_n rfl (tz_in0 rfl)).trans ?_
      refine (tz_g_iload_n rfl (tz_in0 rfl)).trans ?_
      refine (tz_g_iconst (v := 1) rfl (tz_in0 rfl)).trans ?_
      refine (tz_g_iadd (tz_in0 rfl)).trans ?_
      refine (tz_g_iald (n := (tz_gr A1 0 0)) rfl rfl rfl (tz_in0 rfl)).trans ?_
      refine tz_cn1 ?_
      refine (tz_g_aload_n rfl (tz_in0 rfl)).trans ?_
      refine (tz_g_iload_n rfl (tz_in0 rfl)).trans ?_
      refine (tz_g_iconst (v := 2) rfl (tz_in0 rfl)).trans ?_
      refine (tz_g_iadd (tz_in0 rfl)).trans ?_
      refine (tz_g_iald (n := (tz_gr A1 0 0)) rfl rfl rfl (tz_in0 rfl)).trans ?_
      refine tz_cn1 ?_
      refine (tz_g_aload_n rfl (tz_in0 rfl)).trans ?_
      refine (tz_g_iload_n rfl (tz_in0 rfl)).trans ?_
      refine (tz_g_iconst (v := 3) rfl (tz_in0 rfl)).trans ?_
      refine (tz_g_iadd (tz_in0 rfl)).trans ?_
      refine (tz_g_iald (n := (tz_gr A1 0 0)) rfl rfl rfl (tz_in0 rfl)).trans ?_
      refine tz_cn1 ?_
      refine (tz_g_kv3I (m2 := 164) (rc := 1) rfl rfl rfl (fun hA => tz_conok hA rfl) rfl rfl rfl rfl (by decide) (tz_in0 rfl)).trans ?_
      refine congrArg (tz_C _) ?_
      refine tz_jI (fun y2 A2 => ?_)
      refine (tz_g_ic_eq (t := 1562) (by decide) (tz_in0 rfl)).trans ?_
      refine tz_cg ?_ ?_
      · skip
        refine (tz_g_iinc (v := 6) (L2 := [some (.ref 0), some (.ref 17), some (.ref 157), some (.int (z3 + 6))]) rfl rfl rfl rfl (tz_in0 rfl)).trans ?_
        refine (tz_g_goto (t := 18) (by decide) (tz_in0 rfl)).trans ?_
        exact tz_Gm (L2 := [some (.ref 0), some (.ref 17), some (.ref 157), some (.int (z3 + 6))]) rfl rfl rfl rfl
      · skip
        refine (tz_g_iconst (v := 0) rfl (tz_in0 rfl)).trans ?_
        exact tz_g_ret4K (by decide) (tz_in0 rfl) rfl
    refine tz_swc (v := 1) (by decide) ?_ ?_
    · refine (tz_tg (t := 247) (by decide)).trans ?_
      refine (tz_g_aload_n rfl (tz_in0 rfl)).trans ?_
      refine (tz_g_aload_n rfl (tz_in0 rfl)).trans ?_
      refine (tz_g_iload_n rfl (tz_in0 rfl)).trans ?_
      refine (tz_g_iconst (v := 1) rfl (tz_in0 rfl)).trans ?_
      refine (tz_g_iadd (tz_in0 rfl)).trans ?_
      refine (tz_g_iald (n := (tz_gr A 0 0)) rfl rfl rfl (tz_in0 rfl)).trans ?_
      refine tz_cn1 ?_
      refine (tz_g_aload_n rfl (tz_in0 rfl)).trans ?_
      refine (tz_g_iload_n rfl (tz_in0 rfl)).trans ?_
      refine (tz_g_iconst (v := 2) rfl (tz_in0 rfl)).trans ?_
      refine (tz_g_iadd (tz_in0 rfl)).trans ?_
      refine (tz_g_iald (n := (tz_gr A 0 0)) rfl rfl rfl (tz_in0 rfl)).trans ?_
      refine tz_cn1 ?_
      refine (tz_g_aload_n rfl (tz_in0 rfl)).trans ?_
      refine (tz_g_iload_n rfl (tz_in0 rfl)).trans ?_
      refine (tz_g_iconst (v := 3) rfl (tz_in0 rfl)).trans ?_
      refine (tz_g_iadd (tz_in0 rfl)).trans ?_
      refine (tz_g_iald (n := (tz_gr A 0 0)) rfl rfl rfl (tz_in0 rfl)).trans ?_
      refine tz_cn1 ?_
      refine (tz_g_i2l (tz_in0 rfl)).trans ?_
      refine (tz_g_bipush (v := 32) rfl (tz_in0 rfl)).trans ?_
      refine (tz_g_lshl (tz_in0 rfl)).trans ?_
      refine (tz_g_aload_n rfl (tz_in0 rfl)).trans ?_
      refine (tz_g_iload_n rfl (tz_in0 rfl)).trans ?_
      refine (tz_g_iconst (v := 4) rfl (tz_in0 rfl)).trans ?_
      refine (tz_g_iadd (tz_in0 rfl)).trans ?_
      refine (tz_g_iald (n := (tz_gr A 0 0)) rfl rfl rfl (tz_in0 rfl)).trans ?_
      refine tz_cn1 ?_
      refine (tz_g_i2l (tz_in0 rfl)).trans ?_
      refine (tz_g_ldc2_w (v := 4294967295) rfl rfl (tz_in0 rfl)).trans ?_
      refine (tz_g_land (tz_in0 rfl)).trans ?_
      refine (tz_g_lor (tz_in0 rfl)).trans ?_
      refine (tz_g_kv3I (m2 := 18) (rc := 1) rfl rfl rfl (fun hA => tz_conok hA rfl) rfl rfl rfl rfl (by decide) (tz_in0 rfl)).trans ?_
      refine congrArg (tz_C _) ?_
      refine tz_jI (fun y1 A1 => ?_)
      refine (tz_g_aload_n rfl (tz_in0 rfl)).trans ?_
      refine (tz_g_aload_n rfl (tz_in0 rfl)).trans ?_
      refine (tz_g_iload_n rfl (tz_in0 rfl)).trans ?_
      refine (tz_g_iconst (v := 1) rfl (tz_in0 rfl)).trans ?_
      refine (tz_g_iadd (tz_in0 rfl)).trans ?_
      refine (tz_g_iald (n := (tz_gr A1 0 0)) rfl rfl rfl (tz_in0 rfl)).trans ?_
      refine tz_cn1 ?_
      refine (tz_g_aload_n rfl (tz_in0 rfl)).trans ?_
      refine (tz_g_iload_n rfl (tz_in0 rfl)).trans ?_
      refine (tz_g_iconst (v := 2) rfl (tz_in0 rfl)).trans ?_
      refine (tz_g_iadd (tz_in0 rfl)).trans ?_
      refine (tz_g_iald (n := (tz_gr A1 0 0)) rfl rfl rfl (tz_in0 rfl)).trans ?_
      refine tz_cn1 ?_
      refine (tz_g_aload_n rfl (tz_in0 rfl)).trans ?_
      refine (tz_g_iload_n rfl (tz_in0 rfl)).trans ?_
      refine (tz_g_iconst (v := 3) rfl (tz_in0 rfl)).trans ?_
      refine (tz_g_iadd (tz_in0 rfl)).trans ?_
      refine (tz_g_iald (n := (tz_gr A1 0 0)) rfl rfl rfl (tz_in0 rfl)).trans ?_
      refine tz_cn1 ?_
      refine (tz_g_i2l (tz_in0 rfl)).trans ?_
      refine (tz_g_bipush (v := 32) rfl (tz_in0 rfl)).trans ?_
      refine (tz_g_lshl (tz_in0 rfl)).trans ?_
      refine (tz_g_aload_n rfl (tz_in0 rfl)).trans ?_
      refine (tz_g_iload_n rfl (tz_in0 rfl)).trans ?_
      refine (tz_g_iconst (v := 4) rfl (tz_in0 rfl)).trans ?_
      refine (tz_g_iadd (tz_in0 rfl)).trans ?_
      refine (tz_g_iald (n := (tz_gr A1 0 0)) rfl rfl rfl (tz_in0 rfl)).trans ?_
      refine tz_cn1 ?_
      refine (tz_g_i2l (tz_in0 rfl)).trans ?_
      refine (tz_g_ldc2_w (v := 4294967295) rfl rfl (tz_in0 rfl)).trans ?_
      refine (tz_g_land (tz_in0 rfl)).trans ?_
      refine (tz_g_lor (tz_in0 rfl)).trans ?_
      refine (tz_g_kv3I (m2 := 167) (rc := 1) rfl rfl rfl (fun hA => tz_conok hA rfl) rfl rfl rfl rfl (by decide) (tz_in0 rfl)).trans ?_
      refine congrArg (tz_C _) ?_
      refine tz_jI (fun y2 A2 => ?_)
      refine (tz_g_ic_eq (t := 1562) (by decide) (tz_in0 rfl)).trans ?_
      refine tz_cg ?_ ?_
      · skip
        refine (tz_g_iinc (v := 6) (L2 := [some (.ref 0), some (.ref 17), some (.ref 157), some (.int (z3 + 6))]) rfl rfl rfl rfl (tz_in0 rfl)).trans ?_
        refine (tz_g_goto (t := 18) (by decide) (tz_in0 rfl)).trans ?_
        exact tz_Gm (L2 := [some (.ref 0), some (.ref 17), some (.ref 157), some (.int (z3 + 6))]) rfl rfl rfl rfl
      · skip
        refine (tz_g_iconst (v := 0) rfl (tz_in0 rfl)).trans ?_
        exact tz_g_ret4K (by decide) (tz_in0 rfl) rfl
    refine tz_swc (v := 2) (by decide) ?_ ?_
    · refine (tz_tg (t := 320) (by decide)).trans ?_
      refine (tz_g_aload_n rfl (tz_in0 rfl)).trans ?_
      refine (tz_g_aload_n rfl (tz_in0 rfl)).trans ?_
      refine (tz_g_iload_n rfl (tz_in0 rfl)).trans ?_
      refine (tz_g_iconst (v := 1) rfl (tz_in0 rfl)).trans ?_
      refine (tz_g_iadd (tz_in0 rfl)).trans ?_
      refine (tz_g_iald (n := (tz_gr A 0 0)) rfl rfl rfl (tz_in0 rfl)).trans ?_
      refine tz_cn1 ?_
      refine (tz_g_aload_n rfl (tz_in0 rfl)).trans ?_
      refine (tz_g_iload_n rfl (tz_in0 rfl)).trans ?_
      refine (tz_g_iconst (v := 2) rfl (tz_in0 rfl)).trans ?_
      refine (tz_g_iadd (tz_in0 rfl)).trans ?_
      refine (tz_g_iald (n := (tz_gr A 0 0)) rfl rfl rfl (tz_in0 rfl)).trans ?_
      refine tz_cn1 ?_
      refine (tz_g_aload_n rfl (tz_in0 rfl)).trans ?_
      refine (tz_g_iload_n rfl (tz_in0 rfl)).trans ?_
      refine (tz_g_iconst (v := 3) rfl (tz_in0 rfl)).trans ?_
      refine (tz_g_iadd (tz_in0 rfl)).trans ?_
      refine (tz_g_iald (n := (tz_gr A 0 0)) rfl rfl rfl (tz_in0 rfl)).trans ?_
      refine tz_cn1 ?_
      refine (tz_g_aload_n rfl (tz_in0 rfl)).trans ?_
      refine (tz_g_iload_n rfl (tz_in0 rfl)).trans ?_
      refine (tz_g_iconst (v := 4) rfl (tz_in0 rfl)).trans ?_
      refine (tz_g_iadd (tz_in0 rfl)).trans ?_
      refine (tz_g_iald (n := (tz_gr A 0 0)) rfl rfl rfl (tz_in0 rfl)).trans ?_
      refine tz_cn1 ?_
      refine (tz_g_aload_n rfl (tz_in0 rfl)).trans ?_
      refine (tz_g_iload_n rfl (tz_in0 rfl)).trans ?_
      refine (tz_g_iconst (v := 5) rfl (tz_in0 rfl)).trans ?_
      refine (tz_g_iadd (tz_in0 rfl)).trans ?_
      refine (tz_g_iald (n := (tz_gr A 0 0)) rfl rfl rfl (tz_in0 rfl)).trans ?_
      refine tz_cn1 ?_
      refine (tz_g_kv5I (m2 := 23) (rc := 1) rfl rfl rfl (fun hA => tz_conok hA rfl) rfl rfl rfl rfl (by decide) (tz_in0 rfl)).trans ?_
      refine congrArg (tz_C _) ?_
      refine tz_jI (fun y1 A1 => ?_)
      refine (tz_g_aload_n rfl (tz_in0 rfl)).trans ?_
      refine (tz_g_aload_n rfl (tz_in0 rfl)).trans ?_
      refine (tz_g_iload_n rfl (tz_in0 rfl)).trans ?_
      refine (tz_g_iconst (v := 1) rfl (tz_in0 rfl)).trans ?_
      refine (tz_g_iadd (tz_in0 rfl)).trans ?_
      refine (tz_g_iald (n := (tz_gr A1 0 0)) rfl rfl rfl (tz_in0 rfl)).trans ?_
      refine tz_cn1 ?_
      refine (tz_g_aload_n rfl (tz_in0 rfl)).trans ?_
      refine (tz_g_iload_n rfl (tz_in0 rfl)).trans ?_
      refine (tz_g_iconst (v := 2) rfl (tz_in0 rfl)).trans ?_
      refine (tz_g_iadd (tz_in0 rfl)).trans ?_
      refine (tz_g_iald (n := (tz_gr A1 0 0)) rfl rfl rfl (tz_in0 rfl)).trans ?_
      refine tz_cn1 ?_
      refine (tz_g_aload_n rfl (tz_in0 rfl)).trans ?_
      refine (tz_g_iload_n rfl (tz_in0 rfl)).trans ?_
      refine (tz_g_iconst (v := 3) rfl (tz_in0 rfl)).trans ?_
      refine (tz_g_iadd (tz_in0 rfl)).trans ?_
      refine (tz_g_iald (n := (tz_gr A1 0 0)) rfl rfl rfl (tz_in0 rfl)).trans ?_
      refine tz_cn1 ?_
      refine (tz_g_aload_n rfl (tz_in0 rfl)).trans ?_
      refine (tz_g_iload_n rfl (tz_in0 rfl)).trans ?_
      refine (tz_g_iconst (v := 4) rfl (tz_in0 rfl)).trans ?_
      refine (tz_g_iadd (tz_in0 rfl)).trans ?_
      refine (tz_g_iald (n := (tz_gr A1 0 0)) rfl rfl rfl (tz_in0 rfl)).trans ?_
      refine tz_cn1 ?_
      refine (tz_g_aload_n rfl (tz_in0 rfl)).trans ?_
      refine (tz_g_iload_n rfl (tz_in0 rfl)).trans ?_
      refine (tz_g_iconst (v := 5) rfl (tz_in0 rfl)).trans ?_
      refine (tz_g_iadd (tz_in0 rfl)).trans ?_
      refine (tz_g_iald (n := (tz_gr A1 0 0)) rfl rfl rfl (tz_in0 rfl)).trans ?_
      refine tz_cn1 ?_
      refine (tz_g_kv5I (m2 := 170) (rc := 1) rfl rfl rfl (fun hA => tz_conok hA rfl) rfl rfl rfl rfl (by decide) (tz_in0 rfl)).trans ?_
      refine congrArg (tz_C _) ?_
      refine tz_jI (fun y2 A2 => ?_)
      refine (tz_g_ic_eq (t := 1562) (by decide) (tz_in0 rfl)).trans ?_
      refine tz_cg ?_ ?_
      · skip
        refine (tz_g_iinc (v := 6) (L2 := [some (.ref 0), some (.ref 17), some (.ref 157), some (.int (z3 + 6))]) rfl rfl rfl rfl (tz_in0 rfl)).trans ?_
        refine (tz_g_goto (t := 18) (by decide) (tz_in0 rfl)).trans ?_
        exact tz_Gm (L2 := [some (.ref 0), some (.ref 17), some (.ref 157), some (.int (z3 + 6))]) rfl rfl rfl rfl
      · skip
        refine (tz_g_iconst (v := 0) rfl (tz_in0 rfl)).trans ?_
        exact tz_g_ret4K (by decide) (tz_in0 rfl) rfl
    refine tz_swc (v := 3) (by decide) ?_ ?_
    · refine (tz_tg (t := 383) (by decide)).trans ?_
      refine (tz_g_aload_n rfl (tz_in0 rfl)).trans ?_
      refine (tz_g_aload_n rfl (tz_in0 rfl)).trans ?_
      refine (tz_g_iload_n rfl (tz_in0 rfl)).trans ?_
      refine (tz_g_iconst (v := 1) rfl (tz_in0 rfl)).trans ?_
      refine (tz_g_iadd (tz_in0 rfl)).trans ?_
      refine (tz_g_iald (n := (tz_gr A 0 0)) rfl rfl rfl (tz_in0 rfl)).trans ?_
      refine tz_cn1 ?_
      refine (tz_g_aload_n rfl (tz_in0 rfl)).trans ?_
      refine (tz_g_iload_n rfl (tz_in0 rfl)).trans ?_
      refine (tz_g_iconst (v := 2) rfl (tz_in0 rfl)).trans ?_
      refine (tz_g_iadd (tz_in0 rfl)).trans ?_
      refine (tz_g_iald (n := (tz_gr A 0 0)) rfl rfl rfl (tz_in0 rfl)).trans ?_
      refine tz_cn1 ?_
      refine (tz_g_kv2L (m2 := 26) (rc := 2) rfl rfl rfl (fun hA => tz_conok hA rfl) rfl rfl rfl rfl (by decide) (tz_in0 rfl)).trans ?_
      refine congrArg (tz_C _) ?_
      refine tz_jL (fun y1 A1 => ?_)
      refine (tz_g_aload_n rfl (tz_in0 rfl)).trans ?_
      refine (tz_g_aload_n rfl (tz_in0 rfl)).trans ?_
      refine (tz_g_iload_n rfl (tz_in0 rfl)).trans ?_
      refine (tz_g_iconst (v := 1) rfl (tz_in0 rfl)).trans ?_
      refine (tz_g_iadd (tz_in0 rfl)).trans ?_
      refine (tz_g_iald (n := (tz_gr A1 0 0)) rfl rfl rfl (tz_in0 rfl)).trans ?_
      refine tz_cn1 ?_
      refine (tz_g_aload_n rfl (tz_in0 rfl)).trans ?_
      refine (tz_g_iload_n rfl (tz_in0 rfl)).trans ?_
      refine (tz_g_iconst (v := 2) rfl (tz_in0 rfl)).trans ?_
      refine (tz_g_iadd (tz_in0 rfl)).trans ?_
      refine (tz_g_iald (n := (tz_gr A1 0 0)) rfl rfl rfl (tz_in0 rfl)).trans ?_
      refine tz_cn1 ?_
      refine (tz_g_kv2L (m2 := 171) (rc := 2) rfl rfl rfl (fun hA => tz_conok hA rfl) rfl rfl rfl rfl (by decide) (tz_in0 rfl)).trans ?_
      refine congrArg (tz_C _) ?_
      refine tz_jL (fun y2 A2 => ?_)
      refine (tz_g_lcmp (tz_in0 rfl)).trans ?_
      refine (tz_g_if_eq (t := 1562) (by decide) (tz_in0 rfl)).trans ?_
      refine tz_cg ?_ ?_
      · skip
        refine (tz_g_iinc (v := 6) (L2 := [some (.ref 0), some (.ref 17), some (.ref 157), some (.int (z3 + 6))]) rfl rfl rfl rfl (tz_in0 rfl)).trans ?_
        refine (tz_g_goto (t := 18) (by decide) (tz_in0 rfl)).trans ?_
        exact tz_Gm (L2 := [some (.ref 0), some (.ref 17), some (.ref 157), some (.int (z3 + 6))]) rfl rfl rfl rfl
      · skip
        refine (tz_g_iconst (v := 0) rfl (tz_in0 rfl)).trans ?_
        exact tz_g_ret4K (by decide) (tz_in0 rfl) rfl
    refine tz_swc (v := 4) (by decide) ?_ ?_
    · refine (tz_tg (t := 417) (by decide)).trans ?_
      refine (tz_g_aload_n rfl (tz_in0 rfl)).trans ?_
      refine (tz_g_aload_n rfl (tz_in0 rfl)).trans ?_
      refine (tz_g_iload_n rfl (tz_in0 rfl)).trans ?_
      refine (tz_g_iconst (v := 1) rfl (tz_in0 rfl)).trans ?_
      refine (tz_g_iadd (tz_in0 rfl)).trans ?_
      refine (tz_g_iald (n := (tz_gr A 0 0)) rfl rfl rfl (tz_in0 rfl)).trans ?_
      refine tz_cn1 ?_
      refine (tz_g_aload_n rfl (tz_in0 rfl)).trans ?_
      refine (tz_g_iload_n rfl (tz_in0 rfl)).trans ?_
      refine (tz_g_iconst (v := 2) rfl (tz_in0 rfl)).trans ?_
      refine (tz_g_iadd (tz_in0 rfl)).trans ?_
      refine (tz_g_iald (n := (tz_gr A 0 0)) rfl rfl rfl (tz_in0 rfl)).trans ?_
      refine tz_cn1 ?_
      refine (tz_g_kv2I (m2 := 27) (rc := 1) rfl rfl rfl (fun hA => tz_conok hA rfl) rfl rfl rfl rfl (by decide) (tz_in0 rfl)).trans ?_
      refine congrArg (tz_C _) ?_
      refine tz_jI (fun y1 A1 => ?_)
      refine (tz_g_aload_n rfl (tz_in0 rfl)).trans ?_
      refine (tz_g_aload_n rfl (tz_in0 rfl)).trans ?_
      refine (tz_g_iload_n rfl (tz_in0 rfl)).trans ?_
      refine (tz_g_iconst (v := 1) rfl (tz_in0 rfl)).trans ?_
      refine (tz_g_iadd (tz_in0 rfl)).trans ?_
      refine (tz_g_iald (n := (tz_gr A1 0 0)) rfl rfl rfl (tz_in0 rfl)).trans ?_
      refine tz_cn1 ?_
      refine (tz_g_aload_n rfl (tz_in0 rfl)).trans ?_
      refine (tz_g_iload_n rfl (tz_in0 rfl)).trans ?_
      refine (tz_g_iconst (v := 2) rfl (tz_in0 rfl)).trans ?_
      refine (tz_g_iadd (tz_in0 rfl)).trans ?_
      refine (tz_g_iald (n := (tz_gr A1 0 0)) rfl rfl rfl (tz_in0 rfl)).trans ?_
      refine tz_cn1 ?_
      refine (tz_g_kv2I (m2 := 172) (rc := 1) rfl rfl rfl (fun hA => tz_conok hA rfl) rfl rfl rfl rfl (by decide) (tz_in0 rfl)).trans ?_
      refine congrArg (tz_C _) ?_
      refine tz_jI (fun y2 A2 => ?_)
      refine (tz_g_ic_eq (t := 1562) (by decide) (tz_in0 rfl)).trans ?_
      refine tz_cg ?_ ?_
      · skip
        refine (tz_g_iinc (v := 6) (L2 := [some (.ref 0), some (.ref 17), some (.ref 157), some (.int (z3 + 6))]) rfl rfl rfl rfl (tz_in0 rfl)).trans ?_
        refine (tz_g_goto (t := 18) (by decide) (tz_in0 rfl)).trans ?_
        exact tz_Gm (L2 := [some (.ref 0), some (.ref 17), some (.ref 157), some (.int (z3 + 6))]) rfl rfl rfl rfl
      · skip
        refine (tz_g_iconst (v := 0) rfl (tz_in0 rfl)).trans ?_
        exact tz_g_ret4K (by decide) (tz_in0 rfl) rfl
    refine tz_swc (v := 5) (by decide) ?_ ?_
    · refine (tz_tg (t := 450) (by decide)).trans ?_
      refine (tz_g_aload_n rfl (tz_in0 rfl)).trans ?_
      refine (tz_g_aload_n rfl (tz_in0 rfl)).trans ?_
      refine (tz_g_iload_n rfl (tz_in0 rfl)).trans ?_
      refine (tz_g_iconst (v := 1) rfl (tz_in0 rfl)).trans ?_
      refine (tz_g_iadd (tz_in0 rfl)).trans ?_
      refine (tz_g_iald (n := (tz_gr A 0 0)) rfl rfl rfl (tz_in0 rfl)).trans ?_
      refine tz_cn1 ?_
      refine (tz_g_kv1I (m2 := 29) (rc := 1) rfl rfl rfl (fun hA => tz_conok hA rfl) rfl rfl rfl rfl (by decide) (tz_in0 rfl)).trans ?_
      refine congrArg (tz_C _) ?_
      refine tz_jI (fun y1 A1 => ?_)
      refine (tz_g_aload_n rfl (tz_in0 rfl)).trans ?_
      refine (tz_g_aload_n rfl (tz_in0 rfl)).trans ?_
      refine (tz_g_iload_n rfl (tz_in0 rfl)).trans ?_
      refine (tz_g_iconst (v := 1) rfl (tz_in0 rfl)).trans ?_
      refine (tz_g_iadd (tz_in0 rfl)).trans ?_
      refine (tz_g_iald (n := (tz_gr A1 0 0)) rfl rfl rfl (tz_in0 rfl)).trans ?_
      refine tz_cn1 ?_
      refine (tz_g_kv1I (m2 := 174) (rc := 1) rfl rfl rfl (fun hA => tz_conok hA rfl) rfl rfl rfl rfl (by decide) (tz_in0 rfl)).trans ?_
      refine congrArg (tz_C _) ?_
      refine tz_jI (fun y2 A2 => ?_)
      refine (tz_g_ic_eq (t := 1562) (by decide) (tz_in0 rfl)).trans ?_
      refine tz_cg ?_ ?_
      · skip
        refine (tz_g_iinc (v := 6) (L2 := [some (.ref 0), some (.ref 17), some (.ref 157), some (.int (z3 + 6))]) rfl rfl rfl rfl (tz_in0 rfl)).trans ?_
        refine (tz_g_goto (t := 18) (by decide) (tz_in0 rfl)).trans ?_
        exact tz_Gm (L2 := [some (.ref 0), some (.ref 17), some (.ref 157), some (.int (z3 + 6))]) rfl rfl rfl rfl
      · skip
        refine (tz_g_iconst (v := 0) rfl (tz_in0 rfl)).trans ?_
        exact tz_g_ret4K (by decide) (tz_in0 rfl) rfl
    refine tz_swc (v := 6) (by decide) ?_ ?_
    · refine (tz_tg (t := 473) (by decide)).trans ?_
      refine (tz_g_aload_n rfl (tz_in0 rfl)).trans ?_
      refine (tz_g_aload_n rfl (tz_in0 rfl)).trans ?_
      refine (tz_g_iload_n rfl (tz_in0 rfl)).trans ?_
      refine (tz_g_iconst (v := 1) rfl (tz_in0 rfl)).trans ?_
      refine (tz_g_iadd (tz_in0 rfl)).trans ?_
      refine (tz_g_iald (n := (tz_gr A 0 0)) rfl rfl rfl (tz_in0 rfl)).trans ?_
      refine tz_cn1 ?_
      refine (tz_g_aload_n rfl (tz_in0 rfl)).trans ?_
      refine (tz_g_iload_n rfl (tz_in0 rfl)).trans ?_
      refine (tz_g_iconst (v := 2) rfl (tz_in0 rfl)).trans ?_
      refine (tz_g_iadd (tz_in0 rfl)).trans ?_
      refine (tz_g_iald (n := (tz_gr A 0 0)) rfl rfl rfl (tz_in0 rfl)).trans ?_
      refine tz_cn1 ?_
      refine (tz_g_kv2I (m2 := 30) (rc := 1) rfl rfl rfl (fun hA => tz_conok hA rfl) rfl rfl rfl rfl (by decide) (tz_in0 rfl)).trans ?_
      refine congrArg (tz_C _) ?_
      refine tz_jI (fun y1 A1 => ?_)
      refine (tz_g_aload_n rfl (tz_in0 rfl)).trans ?_
      refine (tz_g_aload_n rfl (tz_in0 rfl)).trans ?_
      refine (tz_g_iload_n rfl (tz_in0 rfl)).trans ?_
      refine (tz_g_iconst (v := 1) rfl (tz_in0 rfl)).trans ?_
      refine (tz_g_iadd (tz_in0 rfl)).trans ?_
      refine (tz_g_iald (n := (tz_gr A1 0 0)) rfl rfl rfl (tz_in0 rfl)).trans ?_
      refine tz_cn1 ?_
      refine (tz_g_aload_n rfl (tz_in0 rfl)).trans ?_
      refine (tz_g_iload_n rfl (tz_in0 rfl)).trans ?_
      refine (tz_g_iconst (v := 2) rfl (tz_in0 rfl)).trans ?_
      refine (tz_g_iadd (tz_in0 rfl)).trans ?_
      refine (tz_g_iald (n := (tz_gr A1 0 0)) rfl rfl rfl (tz_in0 rfl)).trans ?_
      refine tz_cn1 ?_
      refine (tz_g_kv2I (m2 := 175) (rc := 1) rfl rfl rfl (fun hA => tz_conok hA rfl) rfl rfl rfl rfl (by decide) (tz_in0 rfl)).trans ?_
      refine congrArg (tz_C _) ?_
      refine tz_jI (fun y2 A2 => ?_)
      refine (tz_g_ic_eq (t := 1562) (by decide) (tz_in0 rfl)).trans ?_
      refine tz_cg ?_ ?_
      · skip
        refine (tz_g_iinc (v := 6) (L2 := [some (.ref 0), some (.ref 17), some (.ref 157), some (.int (z3 + 6))]) rfl rfl rfl rfl (tz_in0 rfl)).trans ?_
        refine (tz_g_goto (t := 18) (by decide) (tz_in0 rfl)).trans ?_
        exact tz_Gm (L2 := [some (.ref 0), some (.ref 17), some (.ref 157), some (.int (z3 + 6))]) rfl rfl rfl rfl
      · skip
        refine (tz_g_iconst (v := 0) rfl (tz_in0 rfl)).trans ?_
        exact tz_g_ret4K (by decide) (tz_in0 rfl) rfl
    refine tz_swc (v := 7) (by decide) ?_ ?_
    · refine (tz_tg (t := 506) (by decide)).trans ?_
      refine (tz_g_aload_n rfl (tz_in0 rfl)).trans ?_
      refine (tz_g_aload_n rfl (tz_in0 rfl)).trans ?_
      refine (tz_g_iload_n rfl (tz_in0 rfl)).trans ?_
      refine (tz_g_iconst (v := 1) rfl (tz_in0 rfl)).trans ?_
      refine (tz_g_iadd (tz_in0 rfl)).trans ?_
      refine (tz_g_iald (n := (tz_gr A 0 0)) rfl rfl rfl (tz_in0 rfl)).trans ?_
      refine tz_cn1 ?_
      refine (tz_g_aload_n rfl (tz_in0 rfl)).trans ?_
      refine (tz_g_iload_n rfl (tz_in0 rfl)).trans ?_
      refine (tz_g_iconst (v := 2) rfl (tz_in0 rfl)).trans ?_
      refine (tz_g_iadd (tz_in0 rfl)).trans ?_
      refine (tz_g_iald (n := (tz_gr A 0 0)) rfl rfl rfl (tz_in0 rfl)).trans ?_
      refine tz_cn1 ?_
      refine (tz_g_kv2I (m2 := 37) (rc := 1) rfl rfl rfl (fun hA => tz_conok hA rfl) rfl rfl rfl rfl (by decide) (tz_in0 rfl)).trans ?_
      refine congrArg (tz_C _) ?_
      refine tz_jI (fun y1 A1 => ?_)
      refine (tz_g_aload_n rfl (tz_in0 rfl)).trans ?_
      refine (tz_g_aload_n rfl (tz_in0 rfl)).trans ?_
      refine (tz_g_iload_n rfl (tz_in0 rfl)).trans ?_
      refine (tz_g_iconst (v := 1) rfl (tz_in0 rfl)).trans ?_
      refine (tz_g_iadd (tz_in0 rfl)).trans ?_
      refine (tz_g_iald (n := (tz_gr A1 0 0)) rfl rfl rfl (tz_in0 rfl)).trans ?_
      refine tz_cn1 ?_
      refine (tz_g_aload_n rfl (tz_in0 rfl)).trans ?_
      refine (tz_g_iload_n rfl (tz_in0 rfl)).trans ?_
      refine (tz_g_iconst (v := 2) rfl (tz_in0 rfl)).trans ?_
      refine (tz_g_iadd (tz_in0 rfl)).trans ?_
      refine (tz_g_iald (n := (tz_gr A1 0 0)) rfl rfl rfl (tz_in0 rfl)).trans ?_
      refine tz_cn1 ?_
      refine (tz_g_kv2I (m2 := 181) (rc := 1) rfl rfl rfl (fun hA => tz_conok hA rfl) rfl rfl rfl rfl (by decide) (tz_in0 rfl)).trans ?_
      refine congrArg (tz_C _) ?_
      refine tz_jI (fun y2 A2 => ?_)
      refine (tz_g_ic_eq (t := 1562) (by decide) (tz_in0 rfl)).trans ?_
      refine tz_cg ?_ ?_
      · skip
        refine (tz_g_iinc (v := 6) (L2 := [some (.ref 0), some (.ref 17), some (.ref 157), some (.int (z3 + 6))]) rfl rfl rfl rfl (tz_in0 rfl)).trans ?_
        refine (tz_g_goto (t := 18) (by decide) (tz_in0 rfl)).trans ?_
        exact tz_Gm (L2 := [some (.ref 0), some (.ref 17), some (.ref 157), some (.int (z3 + 6))]) rfl rfl rfl rfl
      · skip
        refine (tz_g_iconst (v := 0) rfl (tz_in0 rfl)).trans ?_
        exact tz_g_ret4K (by decide) (tz_in0 rfl) rfl
    refine tz_swc (v := 8) (by decide) ?_ ?_
    · refine (tz_tg (t := 539) (by decide)).trans ?_
      refine (tz_g_aload_n rfl (tz_in0 rfl)).trans ?_
      refine (tz_g_aload_n rfl (tz_in0 rfl)).trans ?_
      refine (tz_g_iload_n rfl (tz_in0 rfl)).trans ?_
      refine (tz_g_iconst (v := 1) rfl (tz_in0 rfl)).trans ?_
      refine (tz_g_iadd (tz_in0 rfl)).trans ?_
      refine (tz_g_iald (n := (tz_gr A 0 0)) rfl rfl rfl (tz_in0 rfl)).trans ?_
      refine tz_cn1 ?_
      refine (tz_g_aload_n rfl (tz_in0 rfl)).trans ?_
      refine (tz_g_iload_n rfl (tz_in0 rfl)).trans ?_
      refine (tz_g_iconst (v := 2) rfl (tz_in0 rfl)).trans ?_
      refine (tz_g_iadd (tz_in0 rfl)).trans ?_
      refine (tz_g_iald (n := (tz_gr A 0 0)) rfl rfl rfl (tz_in0 rfl)).trans ?_
      refine tz_cn1 ?_
      refine (tz_g_aload_n rfl (tz_in0 rfl)).trans ?_
      refine (tz_g_iload_n rfl (tz_in0 rfl)).trans ?_
      refine (tz_g_iconst (v := 3) rfl (tz_in0 rfl)).trans ?_
      refine (tz_g_iadd (tz_in0 rfl)).trans ?_
      refine (tz_g_iald (n := (tz_gr A 0 0)) rfl rfl rfl (tz_in0 rfl)).trans ?_
      refine tz_cn1 ?_
      refine (tz_g_aload_n rfl (tz_in0 rfl)).trans ?_
      refine (tz_g_iload_n rfl (tz_in0 rfl)).trans ?_
      refine (tz_g_iconst (v := 4) rfl (tz_in0 rfl)).trans ?_
      refine (tz_g_iadd (tz_in0 rfl)).trans ?_
      refine (tz_g_iald (n := (tz_gr A 0 0)) rfl rfl rfl (tz_in0 rfl)).trans ?_
      refine tz_cn1 ?_
      refine (tz_g_aload_n rfl (tz_in0 rfl)).trans ?_
      refine (tz_g_iload_n rfl (tz_in0 rfl)).trans ?_
      refine (tz_g_iconst (v := 5) rfl (tz_in0 rfl)).trans ?_
      refine (tz_g_iadd (tz_in0 rfl)).trans ?_
      refine (tz_g_iald (n := (tz_gr A 0 0)) rfl rfl rfl (tz_in0 rfl)).trans ?_
      refine tz_cn1 ?_
      refine (tz_g_kv5I (m2 := 40) (rc := 1) rfl rfl rfl (fun hA => tz_conok hA rfl) rfl rfl rfl rfl (by decide) (tz_in0 rfl)).trans ?_
      refine congrArg (tz_C _) ?_
      refine tz_jI (fun y1 A1 => ?_)
      refine (tz_g_aload_n rfl (tz_in0 rfl)).trans ?_
      refine (tz_g_aload_n rfl (tz_in0 rfl)).trans ?_
      refine (tz_g_iload_n rfl (tz_in0 rfl)).trans ?_
      refine (tz_g_iconst (v := 1) rfl (tz_in0 rfl)).trans ?_
      refine (tz_g_iadd (tz_in0 rfl)).trans ?_
      refine (tz_g_iald (n := (tz_gr A1 0 0)) rfl rfl rfl (tz_in0 rfl)).trans ?_
      refine tz_cn1 ?_
      refine (tz_g_aload_n rfl (tz_in0 rfl)).trans ?_
      refine (tz_g_iload_n rfl (tz_in0 rfl)).trans ?_
      refine (tz_g_iconst (v := 2) rfl (tz_in0 rfl)).trans ?_
      refine (tz_g_iadd (tz_in0 rfl)).trans ?_
      refine (tz_g_iald (n := (tz_gr A1 0 0)) rfl rfl rfl (tz_in0 rfl)).trans ?_
      refine tz_cn1 ?_
      refine (tz_g_aload_n rfl (tz_in0 rfl)).trans ?_
      refine (tz_g_iload_n rfl (tz_in0 rfl)).trans ?_
      refine (tz_g_iconst (v := 3) rfl (tz_in0 rfl)).trans ?_
      refine (tz_g_iadd (tz_in0 rfl)).trans ?_
      refine (tz_g_iald (n := (tz_gr A1 0 0)) rfl rfl rfl (tz_in0 rfl)).trans ?_
      refine tz_cn1 ?_
      refine (tz_g_aload_n rfl (tz_in0 rfl)).trans ?_
      refine (tz_g_iload_n rfl (tz_in0 rfl)).trans ?_
      refine (tz_g_iconst (v := 4) rfl (tz_in0 rfl)).trans ?_
      refine (tz_g_iadd (tz_in0 rfl)).trans ?_
      refine (tz_g_iald (n := (tz_gr A1 0 0)) rfl rfl rfl (tz_in0 rfl)).trans ?_
      refine tz_cn1 ?_
      refine (tz_g_aload_n rfl (tz_in0 rfl)).trans ?_
      refine (tz_g_iload_n rfl (tz_in0 rfl)).trans ?_
      refine (tz_g_iconst (v := 5) rfl (tz_in0 rfl)).trans ?_
      refine (tz_g_iadd (tz_in0 rfl)).trans ?_
      refine (tz_g_iald (n := (tz_gr A1 0 0)) rfl rfl rfl (tz_in0 rfl)).trans ?_
      refine tz_cn1 ?_
      refine (tz_g_kv5I (m2 := 183) (rc := 1) rfl rfl rfl (fun hA => tz_conok hA rfl) rfl rfl rfl rfl (by decide) (tz_in0 rfl)).trans ?_
      refine congrArg (tz_C _) ?_
      refine tz_jI (fun y2 A2 => ?_)
      refine (tz_g_ic_eq (t := 1562) (by decide) (tz_in0 rfl)).trans ?_
      refine tz_cg ?_ ?_
      · skip
        refine (tz_g_iinc (v := 6) (L2 := [some (.ref 0), some (.ref 17), some (.ref 157), some (.int (z3 + 6))]) rfl rfl rfl rfl (tz_in0 rfl)).trans ?_
        refine (tz_g_goto (t := 18) (by decide) (tz_in0 rfl)).trans ?_
        exact tz_Gm (L2 := [some (.ref 0), some (.ref 17), some (.ref 157), some (.int (z3 + 6))]) rfl rfl rfl rfl
      · skip
        refine (tz_g_iconst (v := 0) rfl (tz_in0 rfl)).trans ?_
        exact tz_g_ret4K (by decide) (tz_in0 rfl) rfl
    refine tz_swc (v := 9) (by decide) ?_ ?_
    · refine (tz_tg (t := 602) (by decide)).trans ?_
      refine (tz_g_aload_n rfl (tz_in0 rfl)).trans ?_
      refine (tz_g_aload_n rfl (tz_in0 rfl)).trans ?_
      refine (tz_g_iload_n rfl (tz_in0 rfl)).trans ?_
      refine (tz_g_iconst (v := 1) rfl (tz_in0 rfl)).trans ?_
      refine (tz_g_iadd (tz_in0 rfl)).trans ?_
      refine (tz_g_iald (n := (tz_gr A 0 0)) rfl rfl rfl (tz_in0 rfl)).trans ?_
      refine tz_cn1 ?_
      refine (tz_g_aload_n rfl (tz_in0 rfl)).trans ?_
      refine (tz_g_iload_n rfl (tz_in0 rfl)).trans ?_
      refine (tz_g_iconst (v := 2) rfl (tz_in0 rfl)).trans ?_
      refine (tz_g_iadd (tz_in0 rfl)).trans ?_
      refine (tz_g_iald (n := (tz_gr A 0 0)) rfl rfl rfl (tz_in0 rfl)).trans ?_
      refine tz_cn1 ?_
      refine (tz_g_aload_n rfl (tz_in0 rfl)).trans ?_
      refine (tz_g_iload_n rfl (tz_in0 rfl)).trans ?_
      refine (tz_g_iconst (v := 3) rfl (tz_in0 rfl)).trans ?_
      refine (tz_g_iadd (tz_in0 rfl)).trans ?_
      refine (tz_g_iald (n := (tz_gr A 0 0)) rfl rfl rfl (tz_in0 rfl)).trans ?_
      refine tz_cn1 ?_
      refine (tz_g_aload_n rfl (tz_in0 rfl)).trans ?_
      refine (tz_g_iload_n rfl (tz_in0 rfl)).trans ?_
      refine (tz_g_iconst (v := 4) rfl (tz_in0 rfl)).trans ?_
      refine (tz_g_iadd (tz_in0 rfl)).trans ?_
      refine (tz_g_iald (n := (tz_gr A 0 0)) rfl rfl rfl (tz_in0 rfl)).trans ?_
      refine tz_cn1 ?_
      refine (tz_g_kv4I (m2 := 48) (rc := 1) rfl rfl rfl (fun hA => tz_conok hA rfl) rfl rfl rfl rfl (by decide) (tz_in0 rfl)).trans ?_
      refine congrArg (tz_C _) ?_
      refine tz_jI (fun y1 A1 => ?_)
      refine (tz_g_aload_n rfl (tz_in0 rfl)).trans ?_
      refine (tz_g_aload_n rfl (tz_in0 rfl)).trans ?_
      refine (tz_g_iload_n rfl (tz_in0 rfl)).trans ?_
      refine (tz_g_iconst (v := 1) rfl (tz_in0 rfl)).trans ?_
      refine (tz_g_iadd (tz_in0 rfl)).trans ?_
      refine (tz_g_iald (n := (tz_gr A1 0 0)) rfl rfl rfl (tz_in0 rfl)).trans ?_
      refine tz_cn1 ?_
      refine (tz_g_aload_n rfl (tz_in0 rfl)).trans ?_
      refine (tz_g_iload_n rfl (tz_in0 rfl)).trans ?_
      refine (tz_g_iconst (v := 2) rfl (tz_in0 rfl)).trans ?_
      refine (tz_g_iadd (tz_in0 rfl)).trans ?_
      refine (tz_g_iald (n := (tz_gr A1 0 0)) rfl rfl rfl (tz_in0 rfl)).trans ?_
      refine tz_cn1 ?_
      refine (tz_g_aload_n rfl (tz_in0 rfl)).trans ?_
      refine (tz_g_iload_n rfl (tz_in0 rfl)).trans ?_
      refine (tz_g_iconst (v := 3) rfl (tz_in0 rfl)).trans ?_
      refine (tz_g_iadd (tz_in0 rfl)).trans ?_
      refine (tz_g_iald (n := (tz_gr A1 0 0)) rfl rfl rfl (tz_in0 rfl)).trans ?_
      refine tz_cn1 ?_
      refine (tz_g_aload_n rfl (tz_in0 rfl)).trans ?_
      refine (tz_g_iload_n rfl (tz_in0 rfl)).trans ?_
      refine (tz_g_iconst (v := 4) rfl (tz_in0 rfl)).trans ?_
      refine (tz_g_iadd (tz_in0 rfl)).trans ?_
      refine (tz_g_iald (n := (tz_gr A1 0 0)) rfl rfl rfl (tz_in0 rfl)).trans ?_
      refine tz_cn1 ?_
      refine (tz_g_kv4I (m2 := 186) (rc := 1) rfl rfl rfl (fun hA => tz_conok hA rfl) rfl rfl rfl rfl (by decide) (tz_in0 rfl)).trans ?_
      refine congrArg (tz_C _) ?_
      refine tz_jI (fun y2 A2 => ?_)
      refine (tz_g_ic_eq (t := 1562) (by decide) (tz_in0 rfl)).trans ?_
      refine tz_cg ?_ ?_
      · skip
        refine (tz_g_iinc (v := 6) (L2 := [some (.ref 0), some (.ref 17), some (.ref 157), some (.int (z3 + 6))]) rfl rfl rfl rfl (tz_in0 rfl)).trans ?_
        refine (tz_g_goto (t := 18) (by decide) (tz_in0 rfl)).trans ?_
        exact tz_Gm (L2 := [some (.ref 0), some (.ref 17), some (.ref 157), some (.int (z3 + 6))]) rfl rfl rfl rfl
      · skip
        refine (tz_g_iconst (v := 0) rfl (tz_in0 rfl)).trans ?_
        exact tz_g_ret4K (by decide) (tz_in0 rfl) rfl
    refine tz_swc (v := 10) (by decide) ?_ ?_
    · refine (tz_tg (t := 655) (by decide)).trans ?_
      refine (tz_g_aload_n rfl (tz_in0 rfl)).trans ?_
      refine (tz_g_aload_n rfl (tz_in0 rfl)).trans ?_
      refine (tz_g_iload_n rfl (tz_in0 rfl)).trans ?_
      refine (tz_g_iconst (v := 1) rfl (tz_in0 rfl)).trans ?_
      refine (tz_g_iadd (tz_in0 rfl)).trans ?_
      refine (tz_g_iald (n := (tz_gr A 0 0)) rfl rfl rfl (tz_in0 rfl)).trans ?_
      refine tz_cn1 ?_
      refine (tz_g_aload_n rfl (tz_in0 rfl)).trans ?_
      refine (tz_g_iload_n rfl (tz_in0 rfl)).trans ?_
      refine (tz_g_iconst (v := 2) rfl (tz_in0 rfl)).trans ?_
      refine (tz_g_iadd (tz_in0 rfl)).trans ?_
      refine (tz_g_iald (n := (tz_gr A 0 0)) rfl rfl rfl (tz_in0 rfl)).trans ?_
      refine tz_cn1 ?_
      refine (tz_g_kv2I (m2 := 54) (rc := 1) rfl rfl rfl (fun hA => tz_conok hA rfl) rfl rfl rfl rfl (by decide) (tz_in0 rfl)).trans ?_
      refine congrArg (tz_C _) ?_
      refine tz_jI (fun y1 A1 => ?_)
      refine (tz_g_aload_n rfl (tz_in0 rfl)).trans ?_
      refine (tz_g_aload_n rfl (tz_in0 rfl)).trans ?_
      refine (tz_g_iload_n rfl (tz_in0 rfl)).trans ?_
      refine (tz_g_iconst (v := 1) rfl (tz_in0 rfl)).trans ?_
      refine (tz_g_iadd (tz_in0 rfl)).trans ?_
      refine (tz_g_iald (n := (tz_gr A1 0 0)) rfl rfl rfl (tz_in0 rfl)).trans ?_
      refine tz_cn1 ?_
      refine (tz_g_aload_n rfl (tz_in0 rfl)).trans ?_
      refine (tz_g_iload_n rfl (tz_in0 rfl)).trans ?_
      refine (tz_g_iconst (v := 2) rfl (tz_in0 rfl)).trans ?_
      refine (tz_g_iadd (tz_in0 rfl)).trans ?_
      refine (tz_g_iald (n := (tz_gr A1 0 0)) rfl rfl rfl (tz_in0 rfl)).trans ?_
      refine tz_cn1 ?_
      refine (tz_g_kv2I (m2 := 188) (rc := 1) rfl rfl rfl (fun hA => tz_conok hA rfl) rfl rfl rfl rfl (by decide) (tz_in0 rfl)).trans ?_
      refine congrArg (tz_C _) ?_
      refine tz_jI (fun y2 A2 => ?_)
      refine (tz_g_ic_eq (t := 1562) (by decide) (tz_in0 rfl)).trans ?_
      refine tz_cg ?_ ?_
      · skip
        refine (tz_g_iinc (v := 6) (L2 := [some (.ref 0), some (.ref 17), some (.ref 157), some (.int (z3 + 6))]) rfl rfl rfl rfl (tz_in0 rfl)).trans ?_
        refine (tz_g_goto (t := 18) (by decide) (tz_in0 rfl)).trans ?_
        exact tz_Gm (L2 := [some (.ref 0), some (.ref 17), some (.ref 157), some (.int (z3 + 6))]) rfl rfl rfl rfl
      · skip
        refine (tz_g_iconst (v := 0) rfl (tz_in0 rfl)).trans ?_
        exact tz_g_ret4K (by decide) (tz_in0 rfl) rfl
    refine tz_swc (v := 11) (by decide) ?_ ?_
    · refine (tz_tg (t := 688) (by decide)).trans ?_
      refine (tz_g_aload_n rfl (tz_in0 rfl)).trans ?_
      refine (tz_g_aload_n rfl (tz_in0 rfl)).trans ?_
      refine (tz_g_iload_n rfl (tz_in0 rfl)).trans ?_
      refine (tz_g_iconst (v := 1) rfl (tz_in0 rfl)).trans ?_
      refine (tz_g_iadd (tz_in0 rfl)).trans ?_
      refine (tz_g_iald (n := (tz_gr A 0 0)) rfl rfl rfl (tz_in0 rfl)).trans ?_
      refine tz_cn1 ?_
      refine (tz_g_aload_n rfl (tz_in0 rfl)).trans ?_
      refine (tz_g_iload_n rfl (tz_in0 rfl)).trans ?_
      refine (tz_g_iconst (v := 2) rfl (tz_in0 rfl)).trans ?_
      refine (tz_g_iadd (tz_in0 rfl)).trans ?_
      refine (tz_g_iald (n := (tz_gr A 0 0)) rfl rfl rfl (tz_in0 rfl)).trans ?_
      refine tz_cn1 ?_
      refine (tz_g_kv2I (m2 := 58) (rc := 1) rfl rfl rfl (fun hA => tz_conok hA rfl) rfl rfl rfl rfl (by decide) (tz_in0 rfl)).trans ?_
      refine congrArg (tz_C _) ?_
      refine tz_jI (fun y1 A1 => ?_)
      refine (tz_g_aload_n rfl (tz_in0 rfl)).trans ?_
      refine (tz_g_aload_n rfl (tz_in0 rfl)).trans ?_
      refine (tz_g_iload_n rfl (tz_in0 rfl)).trans ?_
      refine (tz_g_iconst (v := 1) rfl (tz_in0 rfl)).trans ?_
      refine (tz_g_iadd (tz_in0 rfl)).trans ?_
      refine (tz_g_iald (n := (tz_gr A1 0 0)) rfl rfl rfl (tz_in0 rfl)).trans ?_
      refine tz_cn1 ?_
      refine (tz_g_aload_n rfl (tz_in0 rfl)).trans ?_
      refine (tz_g_iload_n rfl (tz_in0 rfl)).trans ?_
      refine (tz_g_iconst (v := 2) rfl (tz_in0 rfl)).trans ?_
      refine (tz_g_iadd (tz_in0 rfl)).trans ?_
      refine (tz_g_iald (n := (tz_gr A1 0 0)) rfl rfl rfl (tz_in0 rfl)).trans ?_
      refine tz_cn1 ?_
      refine (tz_g_kv2I (m2 := 190) (rc := 1) rfl rfl rfl (fun hA => tz_conok hA rfl) rfl rfl rfl rfl (by decide) (tz_in0 rfl)).trans ?_
      refine congrArg (tz_C _) ?_
      refine tz_jI (fun y2 A2 => ?_)
      refine (tz_g_ic_eq (t := 1562) (by decide) (tz_in0 rfl)).trans ?_
      refine tz_cg ?_ ?_
      · skip
        refine (tz_g_iinc (v := 6) (L2 := [some (.ref 0), some (.ref 17), some (.ref 157), some (.int (z3 + 6))]) rfl rfl rfl rfl (tz_in0 rfl)).trans ?_
        refine (tz_g_goto (t := 18) (by decide) (tz_in0 rfl)).trans ?_
        exact tz_Gm (L2 := [some (.ref 0), some (.ref 17), some (.ref 157), some (.int (z3 + 6))]) rfl rfl rfl rfl
      · skip
        refine (tz_g_iconst (v := 0) rfl (tz_in0 rfl)).trans ?_
        exact tz_g_ret4K (by decide) (tz_in0 rfl) rfl
    refine tz_swc (v := 12) (by decide) ?_ ?_
    · refine (tz_tg (t := 721) (by decide)).trans ?_
      refine (tz_g_aload_n rfl (tz_in0 rfl)).trans ?_
      refine (tz_g_aload_n rfl (tz_in0 rfl)).trans ?_
      refine (tz_g_iload_n rfl (tz_in0 rfl)).trans ?_
      refine (tz_g_iconst (v := 1) rfl (tz_in0 rfl)).trans ?_
      refine (tz_g_iadd (tz_in0 rfl)).trans ?_
      refine (tz_g_iald (n := (tz_gr A 0 0)) rfl rfl rfl (tz_in0 rfl)).trans ?_
      refine tz_cn1 ?_
      refine (tz_g_aload_n rfl (tz_in0 rfl)).trans ?_
      refine (tz_g_iload_n rfl (tz_in0 rfl)).trans ?_
      refine (tz_g_iconst (v := 2) rfl (tz_in0 rfl)).trans ?_
      refine (tz_g_iadd (tz_in0 rfl)).trans ?_
      refine (tz_g_iald (n := (tz_gr A 0 0)) rfl rfl rfl (tz_in0 rfl)).trans ?_
      refine tz_cn1 ?_
      refine (tz_g_kv2I (m2 := 61) (rc := 1) rfl rfl rfl (fun hA => tz_conok hA rfl) rfl rfl rfl rfl (by decide) (tz_in0 rfl)).trans ?_
      refine congrArg (tz_C _) ?_
      refine tz_jI (fun y1 A1 => ?_)
      refine (tz_g_aload_n rfl (tz_in0 rfl)).trans ?_
      refine (tz_g_aload_n rfl (tz_in0 rfl)).trans ?_
      refine (tz_g_iload_n rfl (tz_in0 rfl)).trans ?_
      refine (tz_g_iconst (v := 1) rfl (tz_in0 rfl)).trans ?_
      refine (tz_g_iadd (tz_in0 rfl)).trans ?_
      refine (tz_g_iald (n := (tz_gr A1 0 0)) rfl rfl rfl (tz_in0 rfl)).trans ?_
      refine tz_cn1 ?_
      refine (tz_g_aload_n rfl (tz_in0 rfl)).trans ?_
      refine (tz_g_iload_n rfl (tz_in0 rfl)).trans ?_
      refine (tz_g_iconst (v := 2) rfl (tz_in0 rfl)).trans ?_
      refine (tz_g_iadd (tz_in0 rfl)).trans ?_
      refine (tz_g_iald (n := (tz_gr A1 0 0)) rfl rfl rfl (tz_in0 rfl)).trans ?_
      refine tz_cn1 ?_
      refine (tz_g_kv2I (m2 := 192) (rc := 1) rfl rfl rfl (fun hA => tz_conok hA rfl) rfl rfl rfl rfl (by decide) (tz_in0 rfl)).trans ?_
      refine congrArg (tz_C _) ?_
      refine tz_jI (fun y2 A2 => ?_)
      refine (tz_g_ic_eq (t := 1562) (by decide) (tz_in0 rfl)).trans ?_
      refine tz_cg ?_ ?_
      · skip
        refine (tz_g_iinc (v := 6) (L2 := [some (.ref 0), some (.ref 17), some (.ref 157), some (.int (z3 + 6))]) rfl rfl rfl rfl (tz_in0 rfl)).trans ?_
        refine (tz_g_goto (t := 18) (by decide) (tz_in0 rfl)).trans ?_
        exact tz_Gm (L2 := [some (.ref 0), some (.ref 17), some (.ref 157), some (.int (z3 + 6))]) rfl rfl rfl rfl
      · skip
        refine (tz_g_iconst (v := 0) rfl (tz_in0 rfl)).trans ?_
        exact tz_g_ret4K (by decide) (tz_in0 rfl) rfl
    refine tz_swc (v := 13) (by decide) ?_ ?_
    · refine (tz_tg (t := 754) (by decide)).trans ?_
      refine (tz_g_aload_n rfl (tz_in0 rfl)).trans ?_
      refine (tz_g_aload_n rfl (tz_in0 rfl)).trans ?_
      refine (tz_g_iload_n rfl (tz_in0 rfl)).trans ?_
      refine (tz_g_iconst (v := 1) rfl (tz_in0 rfl)).trans ?_
      refine (tz_g_iadd (tz_in0 rfl)).trans ?_
      refine (tz_g_iald (n := (tz_gr A 0 0)) rfl rfl rfl (tz_in0 rfl)).trans ?_
      refine tz_cn1 ?_
      refine (tz_g_aload_n rfl (tz_in0 rfl)).trans ?_
      refine (tz_g_iload_n rfl (tz_in0 rfl)).trans ?_
      refine (tz_g_iconst (v := 2) rfl (tz_in0 rfl)).trans ?_
      refine (tz_g_iadd (tz_in0 rfl)).trans ?_
      refine (tz_g_iald (n := (tz_gr A 0 0)) rfl rfl rfl (tz_in0 rfl)).trans ?_
      refine tz_cn1 ?_
      refine (tz_g_kv2I (m2 := 63) (rc := 1) rfl rfl rfl (fun hA => tz_conok hA rfl) rfl rfl rfl rfl (by decide) (tz_in0 rfl)).trans ?_
      refine congrArg (tz_C _) ?_
      refine tz_jI (fun y1 A1 => ?_)
      refine (tz_g_aload_n rfl (tz_in0 rfl)).trans ?_
      refine (tz_g_aload_n rfl (tz_in0 rfl)).trans ?_
      refine (tz_g_iload_n rfl (tz_in0 rfl)).trans ?_
      refine (tz_g_iconst (v := 1) rfl (tz_in0 rfl)).trans ?_
      refine (tz_g_iadd (tz_in0 rfl)).trans ?_
      refine (tz_g_iald (n := (tz_gr A1 0 0)) rfl rfl rfl (tz_in0 rfl)).trans ?_
      refine tz_cn1 ?_
      refine (tz_g_aload_n rfl (tz_in0 rfl)).trans ?_
      refine (tz_g_iload_n rfl (tz_in0 rfl)).trans ?_
      refine (tz_g_iconst (v := 2) rfl (tz_in0 rfl)).trans ?_
      refine (tz_g_iadd (tz_in0 rfl)).trans ?_
      refine (tz_g_iald (n := (tz_gr A1 0 0)) rfl rfl rfl (tz_in0 rfl)).trans ?_
      refine tz_cn1 ?_
      refine (tz_g_kv2I (m2 := 194) (rc := 1) rfl rfl rfl (fun hA => tz_conok hA rfl) rfl rfl rfl rfl (by decide) (tz_in0 rfl)).trans ?_
      refine congrArg (tz_C _) ?_
      refine tz_jI (fun y2 A2 => ?_)
      refine (tz_g_ic_eq (t := 1562) (by decide) (tz_in0 rfl)).trans ?_
      refine tz_cg ?_ ?_
      · skip
        refine (tz_g_iinc (v := 6) (L2 := [some (.ref 0), some (.ref 17), some (.ref 157), some (.int (z3 + 6))]) rfl rfl rfl rfl (tz_in0 rfl)).trans ?_
        refine (tz_g_goto (t := 18) (by decide) (tz_in0 rfl)).trans ?_
        exact tz_Gm (L2 := [some (.ref 0), some (.ref 17), some (.ref 157), some (.int (z3 + 6))]) rfl rfl rfl rfl
      · skip
        refine (tz_g_iconst (v := 0) rfl (tz_in0 rfl)).trans ?_
        exact tz_g_ret4K (by decide) (tz_in0 rfl) rfl
    refine tz_swc (v := 14) (by decide) ?_ ?_
    · refine (tz_tg (t := 787) (by decide)).trans ?_
      refine (tz_g_aload_n rfl (tz_in0 rfl)).trans ?_
      refine (tz_g_aload_n rfl (tz_in0 rfl)).trans ?_
      refine (tz_g_iload_n rfl (tz_in0 rfl)).trans ?_
      refine (tz_g_iconst (v := 1) rfl (tz_in0 rfl)).trans ?_
      refine (tz_g_iadd (tz_in0 rfl)).trans ?_
      refine (tz_g_iald (n := (tz_gr A 0 0)) rfl rfl rfl (tz_in0 rfl)).trans ?_
      refine tz_cn1 ?_
      refine (tz_g_kv1I (m2 := 66) (rc := 1) rfl rfl rfl (fun hA => tz_conok hA rfl) rfl rfl rfl rfl (by decide) (tz_in0 rfl)).trans ?_
      refine congrArg (tz_C _) ?_
      refine tz_jI (fun y1 A1 => ?_)
      refine (tz_g_aload_n rfl (tz_in0 rfl)).trans ?_
      refine (tz_g_aload_n rfl (tz_in0 rfl)).trans ?_
      refine (tz_g_iload_n rfl (tz_in0 rfl)).trans ?_
      refine (tz_g_iconst (v := 1) rfl (tz_in0 rfl)).trans ?_
      refine (tz_g_iadd (tz_in0 rfl)).trans ?_
      refine (tz_g_iald (n := (tz_gr A1 0 0)) rfl rfl rfl (tz_in0 rfl)).trans ?_
      refine tz_cn1 ?_
      refine (tz_g_kv1I (m2 := 195) (rc := 1) rfl rfl rfl (fun hA => tz_conok hA rfl) rfl rfl rfl rfl (by decide) (tz_in0 rfl)).trans ?_
      refine congrArg (tz_C _) ?_
      refine tz_jI (fun y2 A2 => ?_)
      refine (tz_g_ic_eq (t := 1562) (by decide) (tz_in0 rfl)).trans ?_
      refine tz_cg ?_ ?_
      · skip
        refine (tz_g_iinc (v := 6) (L2 := [some (.ref 0), some (.ref 17), some (.ref 157), some (.int (z3 + 6))]) rfl rfl rfl rfl (tz_in0 rfl)).trans ?_
        refine (tz_g_goto (t := 18) (by decide) (tz_in0 rfl)).trans ?_
        exact tz_Gm (L2 := [some (.ref 0), some (.ref 17), some (.ref 157), some (.int (z3 + 6))]) rfl rfl rfl rfl
      · skip
        refine (tz_g_iconst (v := 0) rfl (tz_in0 rfl)).trans ?_
        exact tz_g_ret4K (by decide) (tz_in0 rfl) rfl
    refine tz_swc (v := 15) (by decide) ?_ ?_
    · refine (tz_tg (t := 810) (by decide)).trans ?_
      refine (tz_g_aload_n rfl (tz_in0 rfl)).trans ?_
      refine (tz_g_kv0I (m2 := 107) (rc := 1) rfl rfl rfl (fun hA => tz_conok hA rfl) rfl rfl rfl rfl (by decide) (tz_in0 rfl)).trans ?_
      refine congrArg (tz_C _) ?_
      refine tz_jI (fun y1 A1 => ?_)
      refine (tz_g_aload_n rfl (tz_in0 rfl)).trans ?_
      refine (tz_g_kv0I (m2 := 212) (rc := 1) rfl rfl rfl (fun hA => tz_conok hA rfl) rfl rfl rfl rfl (by decide) (tz_in0 rfl)).trans ?_
      refine congrArg (tz_C _) ?_
      refine tz_jI (fun y2 A2 => ?_)
      refine (tz_g_ic_eq (t := 1562) (by decide) (tz_in0 rfl)).trans ?_
      refine tz_cg ?_ ?_
      · skip
        refine (tz_g_iinc (v := 6) (L2 := [some (.ref 0), some (.ref 17), some (.ref 157), some (.int (z3 + 6))]) rfl rfl rfl rfl (tz_in0 rfl)).trans ?_
        refine (tz_g_goto (t := 18) (by decide) (tz_in0 rfl)).trans ?_
        exact tz_Gm (L2 := [some (.ref 0), some (.ref 17), some (.ref 157), some (.int (z3 + 6))]) rfl rfl rfl rfl
      · skip
        refine (tz_g_iconst (v := 0) rfl (tz_in0 rfl)).trans ?_
        exact tz_g_ret4K (by decide) (tz_in0 rfl) rfl
    refine tz_swc (v := 16) (by decide) ?_ ?_
    · refine (tz_tg (t := 823) (by decide)).trans ?_
      refine (tz_g_aload_n rfl (tz_in0 rfl)).trans ?_
      refine (tz_g_aload_n rfl (tz_in0 rfl)).trans ?_
      refine (tz_g_iload_n rfl (tz_in0 rfl)).trans ?_
      refine (tz_g_iconst (v := 1) rfl (tz_in0 rfl)).trans ?_
      refine (tz_g_iadd (tz_in0 rfl)).trans ?_
      refine (tz_g_iald (n := (tz_gr A 0 0)) rfl rfl rfl (tz_in0 rfl)).trans ?_
      refine tz_cn1 ?_
      refine (tz_g_aload_n rfl (tz_in0 rfl)).trans ?_
      refine (tz_g_iload_n rfl (tz_in0 rfl)).trans ?_
      refine (tz_g_iconst (v := 2) rfl (tz_in0 rfl)).trans ?_
      refine (tz_g_iadd (tz_in0 rfl)).trans ?_
      refine (tz_g_iald (n := (tz_gr A 0 0)) rfl rfl rfl (tz_in0 rfl)).trans ?_
      refine tz_cn1 ?_
      refine (tz_g_aload_n rfl (tz_in0 rfl)).trans ?_
      refine (tz_g_iload_n rfl (tz_in0 rfl)).trans ?_
      refine (tz_g_iconst (v := 3) rfl (tz_in0 rfl)).trans ?_
      refine (tz_g_iadd (tz_in0 rfl)).trans ?_
      refine (tz_g_iald (n := (tz_gr A 0 0)) rfl rfl rfl (tz_in0 rfl)).trans ?_
      refine tz_cn1 ?_
      refine (tz_g_kv3I (m2 := 108) (rc := 1) rfl rfl rfl (fun hA => tz_conok hA rfl) rfl rfl rfl rfl (by decide) (tz_in0 rfl)).trans ?_
      refine congrArg (tz_C _) ?_
      refine tz_jI (fun y1 A1 => ?_)
      refine (tz_g_aload_n rfl (tz_in0 rfl)).trans ?_
      refine (tz_g_aload_n rfl (tz_in0 rfl)).trans ?_
      refine (tz_g_iload_n rfl (tz_in0 rfl)).trans ?_
      refine (tz_g_iconst (v := 1) rfl (tz_in0 rfl)).trans ?_
      refine (tz_g_iadd (tz_in0 rfl)).trans ?_
      refine (tz_g_iald (n := (tz_gr A1 0 0)) rfl rfl rfl (tz_in0 rfl)).trans ?_
      refine tz_cn1 ?_
      refine (tz_g_aload_n rfl (tz_in0 rfl)).trans ?_
      refine (tz_g_iload_n rfl (tz_in0 rfl)).trans ?_
      refine (tz_g_iconst (v := 2) rfl (tz_in0 rfl)).trans ?_
      refine (tz_g_iadd (tz_in0 rfl)).trans ?_
      refine (tz_g_iald (n := (tz_gr A1 0 0)) rfl rfl rfl (tz_in0 rfl)).trans ?_
      refine tz_cn1 ?_
      refine (tz_g_aload_n rfl (tz_in0 rfl)).trans ?_
      refine (tz_g_iload_n rfl (tz_in0 rfl)).trans ?_
      refine (tz_g_iconst (v := 3) rfl (tz_in0 rfl)).trans ?_
      refine (tz_g_iadd (tz_in0 rfl)).trans ?_
      refine (tz_g_iald (n := (tz_gr A1 0 0)) rfl rfl rfl (tz_in0 rfl)).trans ?_
      refine tz_cn1 ?_
      refine (tz_g_kv3I (m2 := 213) (rc := 1) rfl rfl rfl (fun hA => tz_conok hA rfl) rfl rfl rfl rfl (by decide) (tz_in0 rfl)).trans ?_
      refine congrArg (tz_C _) ?_
      refine tz_jI (fun y2 A2 => ?_)
      refine (tz_g_ic_eq (t := 1562) (by decide) (tz_in0 rfl)).trans ?_
      refine tz_cg ?_ ?_
      · skip
        refine (tz_g_iinc (v := 6) (L2 := [some (.ref 0), some (.ref 17), some (.ref 157), some (.int (z3 + 6))]) rfl rfl rfl rfl (tz_in0 rfl)).trans ?_
        refine (tz_g_goto (t := 18) (by decide) (tz_in0 rfl)).trans ?_
        exact tz_Gm (L2 := [some (.ref 0), some (.ref 17), some (.ref 157), some (.int (z3 + 6))]) rfl rfl rfl rfl
      · skip
        refine (tz_g_iconst (v := 0) rfl (tz_in0 rfl)).trans ?_
        exact tz_g_ret4K (by decide) (tz_in0 rfl) rfl
    refine tz_swc (v := 17) (by decide) ?_ ?_
    · refine (tz_tg (t := 866) (by decide)).trans ?_
      refine (tz_g_aload_n rfl (tz_in0 rfl)).trans ?_
      refine (tz_g_aload_n rfl (tz_in0 rfl)).trans ?_
      refine (tz_g_iload_n rfl (tz_in0 rfl)).trans ?_
      refine (tz_g_iconst (v := 1) rfl (tz_in0 rfl)).trans ?_
      refine (tz_g_iadd (tz_in0 rfl)).trans ?_
      refine (tz_g_iald (n := (tz_gr A 0 0)) rfl rfl rfl (tz_in0 rfl)).trans ?_
      refine tz_cn1 ?_
      refine (tz_g_kv1I (m2 := 111) (rc := 1) rfl rfl rfl (fun hA => tz_conok hA rfl) rfl rfl rfl rfl (by decide) (tz_in0 rfl)).trans ?_
      refine congrArg (tz_C _) ?_
      refine tz_jI (fun y1 A1 => ?_)
      refine (tz_g_aload_n rfl (tz_in0 rfl)).trans ?_
      refine (tz_g_aload_n rfl (tz_in0 rfl)).trans ?_
      refine (tz_g_iload_n rfl (tz_in0 rfl)).trans ?_
      refine (tz_g_iconst (v := 1) rfl (tz_in0 rfl)).trans ?_
      refine (tz_g_iadd (tz_in0 rfl)).trans ?_
      refine (tz_g_iald (n := (tz_gr A1 0 0)) rfl rfl rfl (tz_in0 rfl)).trans ?_
      refine tz_cn1 ?_
      refine (tz_g_kv1I (m2 := 215) (rc := 1) rfl rfl rfl (fun hA => tz_conok hA rfl) rfl rfl rfl rfl (by decide) (tz_in0 rfl)).trans ?_
      refine congrArg (tz_C _) ?_
      refine tz_jI (fun y2 A2 => ?_)
      refine (tz_g_ic_eq (t := 1562) (by decide) (tz_in0 rfl)).trans ?_
      refine tz_cg ?_ ?_
      · skip
        refine (tz_g_iinc (v := 6) (L2 := [some (.ref 0), some (.ref 17), some (.ref 157), some (.int (z3 + 6))]) rfl rfl rfl rfl (tz_in0 rfl)).trans ?_
        refine (tz_g_goto (t := 18) (by decide) (tz_in0 rfl)).trans ?_
        exact tz_Gm (L2 := [some (.ref 0), some (.ref 17), some (.ref 157), some (.int (z3 + 6))]) rfl rfl rfl rfl
      · skip
        refine (tz_g_iconst (v := 0) rfl (tz_in0 rfl)).trans ?_
        exact tz_g_ret4K (by decide) (tz_in0 rfl) rfl
    refine tz_swc (v := 18) (by decide) ?_ ?_
    · refine (tz_tg (t := 889) (by decide)).trans ?_
      refine (tz_g_aload_n rfl (tz_in0 rfl)).trans ?_
      refine (tz_g_aload_n rfl (tz_in0 rfl)).trans ?_
      refine (tz_g_iload_n rfl (tz_in0 rfl)).trans ?_
      refine (tz_g_iconst (v := 1) rfl (tz_in0 rfl)).trans ?_
      refine (tz_g_iadd (tz_in0 rfl)).trans ?_
      refine (tz_g_iald (n := (tz_gr A 0 0)) rfl rfl rfl (tz_in0 rfl)).trans ?_
      refine tz_cn1 ?_
      refine (tz_g_aload_n rfl (tz_in0 rfl)).trans ?_
      refine (tz_g_iload_n rfl (tz_in0 rfl)).trans ?_
      refine (tz_g_iconst (v := 2) rfl (tz_in0 rfl)).trans ?_
      refine (tz_g_iadd (tz_in0 rfl)).trans ?_
      refine (tz_g_iald (n := (tz_gr A 0 0)) rfl rfl rfl (tz_in0 rfl)).trans ?_
      refine tz_cn1 ?_
      refine (tz_g_aload_n rfl (tz_in0 rfl)).trans ?_
      refine (tz_g_iload_n rfl (tz_in0 rfl)).trans ?_
      refine (tz_g_iconst (v := 3) rfl (tz_in0 rfl)).trans ?_
      refine (tz_g_iadd (tz_in0 rfl)).trans ?_
      refine (tz_g_iald (n := (tz_gr A 0 0)) rfl rfl rfl (tz_in0 rfl)).trans ?_
      refine tz_cn1 ?_
      refine (tz_g_aload_n rfl (tz_in0 rfl)).trans ?_
      refine (tz_g_iload_n rfl (tz_in0 rfl)).trans ?_
      refine (tz_g_iconst (v := 4) rfl (tz_in0 rfl)).trans ?_
      refine (tz_g_iadd (tz_in0 rfl)).trans ?_
      refine (tz_g_iald (n := (tz_gr A 0 0)) rfl rfl rfl (tz_in0 rfl)).trans ?_
      refine tz_cn1 ?_
      refine (tz_g_aload_n rfl (tz_in0 rfl)).trans ?_
      refine (tz_g_iload_n rfl (tz_in0 rfl)).trans ?_
      refine (tz_g_iconst (v := 5) rfl (tz_in0 rfl)).trans ?_
      refine (tz_g_iadd (tz_in0 rfl)).trans ?_
      refine (tz_g_iald (n := (tz_gr A 0 0)) rfl rfl rfl (tz_in0 rfl)).trans ?_
      refine tz_cn1 ?_
      refine (tz_g_kv5I (m2 := 116) (rc := 1) rfl rfl rfl (fun hA => tz_conok hA rfl) rfl rfl rfl rfl (by decide) (tz_in0 rfl)).trans ?_
      refine congrArg (tz_C _) ?_
      refine tz_jI (fun y1 A1 => ?_)
      refine (tz_g_aload_n rfl (tz_in0 rfl)).trans ?_
      refine (tz_g_aload_n rfl (tz_in0 rfl)).trans ?_
      refine (tz_g_iload_n rfl (tz_in0 rfl)).trans ?_
      refine (tz_g_iconst (v := 1) rfl (tz_in0 rfl)).trans ?_
      refine (tz_g_iadd (tz_in0 rfl)).trans ?_
      refine (tz_g_iald (n := (tz_gr A1 0 0)) rfl rfl rfl (tz_in0 rfl)).trans ?_
      refine tz_cn1 ?_
      refine (tz_g_aload_n rfl (tz_in0 rfl)).trans ?_
      refine (tz_g_iload_n rfl (tz_in0 rfl)).trans ?_
      refine (tz_g_iconst (v := 2) rfl (tz_in0 rfl)).trans ?_
      refine (tz_g_iadd (tz_in0 rfl)).trans ?_
      refine (tz_g_iald (n := (tz_gr A1 0 0)) rfl rfl rfl (tz_in0 rfl)).trans ?_
      refine tz_cn1 ?_
      refine (tz_g_aload_n rfl (tz_in0 rfl)).trans ?_
      refine (tz_g_iload_n rfl (tz_in0 rfl)).trans ?_
      refine (tz_g_iconst (v := 3) rfl (tz_in0 rfl)).trans ?_
      refine (tz_g_iadd (tz_in0 rfl)).trans ?_
      refine (tz_g_iald (n := (tz_gr A1 0 0)) rfl rfl rfl (tz_in0 rfl)).trans ?_
      refine tz_cn1 ?_
      refine (tz_g_aload_n rfl (tz_in0 rfl)).trans ?_
      refine (tz_g_iload_n rfl (tz_in0 rfl)).trans ?_
      refine (tz_g_iconst (v := 4) rfl (tz_in0 rfl)).trans ?_
      refine (tz_g_iadd (tz_in0 rfl)).trans ?_
      refine (tz_g_iald (n := (tz_gr A1 0 0)) rfl rfl rfl (tz_in0 rfl)).trans ?_
      refine tz_cn1 ?_
      refine (tz_g_aload_n rfl (tz_in0 rfl)).trans ?_
      refine (tz_g_iload_n rfl (tz_in0 rfl)).trans ?_
      refine (tz_g_iconst (v := 5) rfl (tz_in0 rfl)).trans ?_
      refine (tz_g_iadd (tz_in0 rfl)).trans ?_
      refine (tz_g_iald (n := (tz_gr A1 0 0)) rfl rfl rfl (tz_in0 rfl)).trans ?_
      refine tz_cn1 ?_
      refine (tz_g_kv5I (m2 := 219) (rc := 1) rfl rfl rfl (fun hA => tz_conok hA rfl) rfl rfl rfl rfl (by decide) (tz_in0 rfl)).trans ?_
      refine congrArg (tz_C _) ?_
      refine tz_jI (fun y2 A2 => ?_)
      refine (tz_g_ic_eq (t := 1562) (by decide) (tz_in0 rfl)).trans ?_
      refine tz_cg ?_ ?_
      · skip
        refine (tz_g_iinc (v := 6) (L2 := [some (.ref 0), some (.ref 17), some (.ref 157), some (.int (z3 + 6))]) rfl rfl rfl rfl (tz_in0 rfl)).trans ?_
        refine (tz_g_goto (t := 18) (by decide) (tz_in0 rfl)).trans ?_
        exact tz_Gm (L2 := [some (.ref 0), some (.ref 17), some (.ref 157), some (.int (z3 + 6))]) rfl rfl rfl rfl
      · skip
        refine (tz_g_iconst (v := 0) rfl (tz_in0 rfl)).trans ?_
        exact tz_g_ret4K (by decide) (tz_in0 rfl) rfl
    refine tz_swc (v := 19) (by decide) ?_ ?_
    · refine (tz_tg (t := 952) (by decide)).trans ?_
      refine (tz_g_aload_n rfl (tz_in0 rfl)).trans ?_
      refine (tz_g_aload_n rfl (tz_in0 rfl)).trans ?_
      refine (tz_g_iload_n rfl (tz_in0 rfl)).trans ?_
      refine (tz_g_iconst (v := 1) rfl (tz_in0 rfl)).trans ?_
      refine (tz_g_iadd (tz_in0 rfl)).trans ?_
      refine (tz_g_iald (n := (tz_gr A 0 0)) rfl rfl rfl (tz_in0 rfl)).trans ?_
      refine tz_cn1 ?_
      refine (tz_g_aload_n rfl (tz_in0 rfl)).trans ?_
      refine (tz_g_iload_n rfl (tz_in0 rfl)).trans ?_
      refine (tz_g_iconst (v := 2) rfl (tz_in0 rfl)).trans ?_
      refine (tz_g_iadd (tz_in0 rfl)).trans ?_
      refine (tz_g_iald (n := (tz_gr A 0 0)) rfl rfl rfl (tz_in0 rfl)).trans ?_
      refine tz_cn1 ?_
      refine (tz_g_aload_n rfl (tz_in0 rfl)).trans ?_
      refine (tz_g_iload_n rfl (tz_in0 rfl)).trans ?_
      refine (tz_g_iconst (v := 3) rfl (tz_in0 rfl)).trans ?_
      refine (tz_g_iadd (tz_in0 rfl)).trans ?_
      refine (tz_g_iald (n := (tz_gr A 0 0)) rfl rfl rfl (tz_in0 rfl)).trans ?_
      refine tz_cn1 ?_
      refine (tz_g_aload_n rfl (tz_in0 rfl)).trans ?_
      refine (tz_g_iload_n rfl (tz_in0 rfl)).trans ?_
      refine (tz_g_iconst (v := 4) rfl (tz_in0 rfl)).trans ?_
      refine (tz_g_iadd (tz_in0 rfl)).trans ?_
      refine (tz_g_iald (n := (tz_gr A 0 0)) rfl rfl rfl (tz_in0 rfl)).trans ?_
      refine tz_cn1 ?_
      refine (tz_g_kv4I (m2 := 117) (rc := 1) rfl rfl rfl (fun hA => tz_conok hA rfl) rfl rfl rfl rfl (by decide) (tz_in0 rfl)).trans ?_
      refine congrArg (tz_C _) ?_
      refine tz_jI (fun y1 A1 => ?_)
      refine (tz_g_aload_n rfl (tz_in0 rfl)).trans ?_
      refine (tz_g_aload_n rfl (tz_in0 rfl)).trans ?_
      refine (tz_g_iload_n rfl (tz_in0 rfl)).trans ?_
      refine (tz_g_iconst (v := 1) rfl (tz_in0 rfl)).trans ?_
      refine (tz_g_iadd (tz_in0 rfl)).trans ?_
      refine (tz_g_iald (n := (tz_gr A1 0 0)) rfl rfl rfl (tz_in0 rfl)).trans ?_
      refine tz_cn1 ?_
      refine (tz_g_aload_n rfl (tz_in0 rfl)).trans ?_
      refine (tz_g_iload_n rfl (tz_in0 rfl)).trans ?_
      refine (tz_g_iconst (v := 2) rfl (tz_in0 rfl)).trans ?_
      refine (tz_g_iadd (tz_in0 rfl)).trans ?_
      refine (tz_g_iald (n := (tz_gr A1 0 0)) rfl rfl rfl (tz_in0 rfl)).trans ?_
      refine tz_cn1 ?_
      refine (tz_g_aload_n rfl (tz_in0 rfl)).trans ?_
      refine (tz_g_iload_n rfl (tz_in0 rfl)).trans ?_
      refine (tz_g_iconst (v := 3) rfl (tz_in0 rfl)).trans ?_
      refine (tz_g_iadd (tz_in0 rfl)).trans ?_
      refine (tz_g_iald (n := (tz_gr A1 0 0)) rfl rfl rfl (tz_in0 rfl)).trans ?_
      refine tz_cn1 ?_
      refine (tz_g_aload_n rfl (tz_in0 rfl)).trans ?_
      refine (tz_g_iload_n rfl (tz_in0 rfl)).trans ?_
      refine (tz_g_iconst (v := 4) rfl (tz_in0 rfl)).trans ?_
      refine (tz_g_iadd (tz_in0 rfl)).trans ?_
      refine (tz_g_iald (n := (tz_gr A1 0 0)) rfl rfl rfl (tz_in0 rfl)).trans ?_
      refine tz_cn1 ?_
      refine (tz_g_kv4I (m2 := 222) (rc := 1) rfl rfl rfl (fun hA => tz_conok hA rfl) rfl rfl rfl rfl (by decide) (tz_in0 rfl)).trans ?_
      refine congrArg (tz_C _) ?_
      refine tz_jI (fun y2 A2 => ?_)
      refine (tz_g_ic_eq (t := 1562) (by decide) (tz_in0 rfl)).trans ?_
      refine tz_cg ?_ ?_
      · skip
        refine (tz_g_iinc (v := 6) (L2 := [some (.ref 0), some (.ref 17), some (.ref 157), some (.int (z3 + 6))]) rfl rfl rfl rfl (tz_in0 rfl)).trans ?_
        refine (tz_g_goto (t := 18) (by decide) (tz_in0 rfl)).trans ?_
        exact tz_Gm (L2 := [some (.ref 0), some (.ref 17), some (.ref 157), some (.int (z3 + 6))]) rfl rfl rfl rfl
      · skip
        refine (tz_g_iconst (v := 0) rfl (tz_in0 rfl)).trans ?_
        exact tz_g_ret4K (by decide) (tz_in0 rfl) rfl
    refine tz_swc (v := 20) (by decide) ?_ ?_
    · refine (tz_tg (t := 1005) (by decide)).trans ?_
      refine (tz_g_aload_n rfl (tz_in0 rfl)).trans ?_
      refine (tz_g_aload_n rfl (tz_in0 rfl)).trans ?_
      refine (tz_g_iload_n rfl (tz_in0 rfl)).trans ?_
      refine (tz_g_iconst (v := 1) rfl (tz_in0 rfl)).trans ?_
      refine (tz_g_iadd (tz_in0 rfl)).trans ?_
      refine (tz_g_iald (n := (tz_gr A 0 0)) rfl rfl rfl (tz_in0 rfl)).trans ?_
      refine tz_cn1 ?_
      refine (tz_g_aload_n rfl (tz_in0 rfl)).trans ?_
      refine (tz_g_iload_n rfl (tz_in0 rfl)).trans ?_
      refine (tz_g_iconst (v := 2) rfl (tz_in0 rfl)).trans ?_
      refine (tz_g_iadd (tz_in0 rfl)).trans ?_
      refine (tz_g_iald (n := (tz_gr A 0 0)) rfl rfl rfl (tz_in0 rfl)).trans ?_
      refine tz_cn1 ?_
      refine (tz_g_aload_n rfl (tz_in0 rfl)).trans ?_
      refine (tz_g_iload_n rfl (tz_in0 rfl)).trans ?_
      refine (tz_g_iconst (v := 3) rfl (tz_in0 rfl)).trans ?_
      refine (tz_g_iadd (tz_in0 rfl)).trans ?_
      refine (tz_g_iald (n := (tz_gr A 0 0)) rfl rfl rfl (tz_in0 rfl)).trans ?_
      refine tz_cn1 ?_
      refine (tz_g_kv3I (m2 := 118) (rc := 1) rfl rfl rfl (fun hA => tz_conok hA rfl) rfl rfl rfl rfl (by decide) (tz_in0 rfl)).trans ?_
      refine congrArg (tz_C _) ?_
      refine tz_jI (fun y1 A1 => ?_)
      refine (tz_g_aload_n rfl (tz_in0 rfl)).trans ?_
      refine (tz_g_aload_n rfl (tz_in0 rfl)).trans ?_
      refine (tz_g_iload_n rfl (tz_in0 rfl)).trans ?_
      refine (tz_g_iconst (v := 1) rfl (tz_in0 rfl)).trans ?_
      refine (tz_g_iadd (tz_in0 rfl)).trans ?_
      refine (tz_g_iald (n := (tz_gr A1 0 0)) rfl rfl rfl (tz_in0 rfl)).trans ?_
      refine tz_cn1 ?_
      refine (tz_g_aload_n rfl (tz_in0 rfl)).trans ?_
      refine (tz_g_iload_n rfl (tz_in0 rfl)).trans ?_
      refine (tz_g_iconst (v := 2) rfl (tz_in0 rfl)).trans ?_
      refine (tz_g_iadd (tz_in0 rfl)).trans ?_
      refine (tz_g_iald (n := (tz_gr A1 0 0)) rfl rfl rfl (tz_in0 rfl)).trans ?_
      refine tz_cn1 ?_
      refine (tz_g_aload_n rfl (tz_in0 rfl)).trans ?_
      refine (tz_g_iload_n rfl (tz_in0 rfl)).trans ?_
      refine (tz_g_iconst (v := 3) rfl (tz_in0 rfl)).trans ?_
      refine (tz_g_iadd (tz_in0 rfl)).trans ?_
      refine (tz_g_iald (n := (tz_gr A1 0 0)) rfl rfl rfl (tz_in0 rfl)).trans ?_
      refine tz_cn1 ?_
      refine (tz_g_kv3I (m2 := 223) (rc := 1) rfl rfl rfl (fun hA => tz_conok hA rfl) rfl rfl rfl rfl (by decide) (tz_in0 rfl)).trans ?_
      refine congrArg (tz_C _) ?_
      refine tz_jI (fun y2 A2 => ?_)
      refine (tz_g_ic_eq (t := 1562) (by decide) (tz_in0 rfl)).trans ?_
      refine tz_cg ?_ ?_
      · skip
        refine (tz_g_iinc (v := 6) (L2 := [some (.ref 0), some (.ref 17), some (.ref 157), some (.int (z3 + 6))]) rfl rfl rfl rfl (tz_in0 rfl)).trans ?_
        refine (tz_g_goto (t := 18) (by decide) (tz_in0 rfl)).trans ?_
        exact tz_Gm (L2 := [some (.ref 0), some (.ref 17), some (.ref 157), some (.int (z3 + 6))]) rfl rfl rfl rfl
      · skip
        refine (tz_g_iconst (v := 0) rfl (tz_in0 rfl)).trans ?_
        exact tz_g_ret4K (by decide) (tz_in0 rfl) rfl
    refine tz_swc (v := 21) (by decide) ?_ ?_
    · refine (tz_tg (t := 1048) (by decide)).trans ?_
      refine (tz_g_aload_n rfl (tz_in0 rfl)).trans ?_
      refine (tz_g_aload_n rfl (tz_in0 rfl)).trans ?_
      refine (tz_g_iload_n rfl (tz_in0 rfl)).trans ?_
      refine (tz_g_iconst (v := 1) rfl (tz_in0 rfl)).trans ?_
      refine (tz_g_iadd (tz_in0 rfl)).trans ?_
      refine (tz_g_iald (n := (tz_gr A 0 0)) rfl rfl rfl (tz_in0 rfl)).trans ?_
      refine tz_cn1 ?_
      refine (tz_g_aload_n rfl (tz_in0 rfl)).trans ?_
      refine (tz_g_iload_n rfl (tz_in0 rfl)).trans ?_
      refine (tz_g_iconst (v := 2) rfl (tz_in0 rfl)).trans ?_
      refine (tz_g_iadd (tz_in0 rfl)).trans ?_
      refine (tz_g_iald (n := (tz_gr A 0 0)) rfl rfl rfl (tz_in0 rfl)).trans ?_
      refine tz_cn1 ?_
      refine (tz_g_aload_n rfl (tz_in0 rfl)).trans ?_
      refine (tz_g_iload_n rfl (tz_in0 rfl)).trans ?_
      refine (tz_g_iconst (v := 3) rfl (tz_in0 rfl)).trans ?_
      refine (tz_g_iadd (tz_in0 rfl)).trans ?_
      refine (tz_g_iald (n := (tz_gr A 0 0)) rfl rfl rfl (tz_in0 rfl)).trans ?_
      refine tz_cn1 ?_
      refine (tz_g_aload_n rfl (tz_in0 rfl)).trans ?_
      refine (tz_g_iload_n rfl (tz_in0 rfl)).trans ?_
      refine (tz_g_iconst (v := 4) rfl (tz_in0 rfl)).trans ?_
      refine (tz_g_iadd (tz_in0 rfl)).trans ?_
      refine (tz_g_iald (n := (tz_gr A 0 0)) rfl rfl rfl (tz_in0 rfl)).trans ?_
      refine tz_cn1 ?_
      refine (tz_g_aload_n rfl (tz_in0 rfl)).trans ?_
      refine (tz_g_iload_n rfl (tz_in0 rfl)).trans ?_
      refine (tz_g_iconst (v := 5) rfl (tz_in0 rfl)).trans ?_
      refine (tz_g_iadd (tz_in0 rfl)).trans ?_
      refine (tz_g_iald (n := (tz_gr A 0 0)) rfl rfl rfl (tz_in0 rfl)).trans ?_
      refine tz_cn1 ?_
      refine (tz_g_kv5I (m2 := 119) (rc := 1) rfl rfl rfl (fun hA => tz_conok hA rfl) rfl rfl rfl rfl (by decide) (tz_in0 rfl)).trans ?_
      refine congrArg (tz_C _) ?_
      refine tz_jI (fun y1 A1 => ?_)
      refine (tz_g_aload_n rfl (tz_in0 rfl)).trans ?_
      refine (tz_g_aload_n rfl (tz_in0 rfl)).trans ?_
      refine (tz_g_iload_n rfl (tz_in0 rfl)).trans ?_
      refine (tz_g_iconst (v := 1) rfl (tz_in0 rfl)).trans ?_
      refine (tz_g_iadd (tz_in0 rfl)).trans ?_
      refine (tz_g_iald (n := (tz_gr A1 0 0)) rfl rfl rfl (tz_in0 rfl)).trans ?_
      refine tz_cn1 ?_
      refine (tz_g_aload_n rfl (tz_in0 rfl)).trans ?_
      refine (tz_g_iload_n rfl (tz_in0 rfl)).trans ?_
      refine (tz_g_iconst (v := 2) rfl (tz_in0 rfl)).trans ?_
      refine (tz_g_iadd (tz_in0 rfl)).trans ?_
      refine (tz_g_iald (n := (tz_gr A1 0 0)) rfl rfl rfl (tz_in0 rfl)).trans ?_
      refine tz_cn1 ?_
      refine (tz_g_aload_n rfl (tz_in0 rfl)).trans ?_
      refine (tz_g_iload_n rfl (tz_in0 rfl)).trans ?_
      refine (tz_g_iconst (v := 3) rfl (tz_in0 rfl)).trans ?_
      refine (tz_g_iadd (tz_in0 rfl)).trans ?_
      refine (tz_g_iald (n := (tz_gr A1 0 0)) rfl rfl rfl (tz_in0 rfl)).trans ?_
      refine tz_cn1 ?_
      refine (tz_g_aload_n rfl (tz_in0 rfl)).trans ?_
      refine (tz_g_iload_n rfl (tz_in0 rfl)).trans ?_
      refine (tz_g_iconst (v := 4) rfl (tz_in0 rfl)).trans ?_
      refine (tz_g_iadd (tz_in0 rfl)).trans ?_
      refine (tz_g_iald (n := (tz_gr A1 0 0)) rfl rfl rfl (tz_in0 rfl)).trans ?_
      refine tz_cn1 ?_
      refine (tz_g_aload_n rfl (tz_in0 rfl)).trans ?_
      refine (tz_g_iload_n rfl (tz_in0 rfl)).trans ?_
      refine (tz_g_iconst (v := 5) rfl (tz_in0 rfl)).trans ?_
      refine (tz_g_iadd (tz_in0 rfl)).trans ?_
      refine (tz_g_iald (n := (tz_gr A1 0 0)) rfl rfl rfl (tz_in0 rfl)).trans ?_
      refine tz_cn1 ?_
      refine (tz_g_kv5I (m2 := 224) (rc := 1) rfl rfl rfl (fun hA => tz_conok hA rfl) rfl rfl rfl rfl (by decide) (tz_in0 rfl)).trans ?_
      refine congrArg (tz_C _) ?_
      refine tz_jI (fun y2 A2 => ?_)
      refine (tz_g_ic_eq (t := 1562) (by decide) (tz_in0 rfl)).trans ?_
      refine tz_cg ?_ ?_
      · skip
        refine (tz_g_iinc (v := 6) (L2 := [some (.ref 0), some (.ref 17), some (.ref 157), some (.int (z3 + 6))]) rfl rfl rfl rfl (tz_in0 rfl)).trans ?_
        refine (tz_g_goto (t := 18) (by decide) (tz_in0 rfl)).trans ?_
        exact tz_Gm (L2 := [some (.ref 0), some (.ref 17), some (.ref 157), some (.int (z3 + 6))]) rfl rfl rfl rfl
      · skip
        refine (tz_g_iconst (v := 0) rfl (tz_in0 rfl)).trans ?_
        exact tz_g_ret4K (by decide) (tz_in0 rfl) rfl
    refine tz_swc (v := 22) (by decide) ?_ ?_
    · refine (tz_tg (t := 1111) (by decide)).trans ?_
      refine (tz_g_aload_n rfl (tz_in0 rfl)).trans ?_
      refine (tz_g_aload_n rfl (tz_in0 rfl)).trans ?_
      refine (tz_g_iload_n rfl (tz_in0 rfl)).trans ?_
      refine (tz_g_iconst (v := 1) rfl (tz_in0 rfl)).trans ?_
      refine (tz_g_iadd (tz_in0 rfl)).trans ?_
      refine (tz_g_iald (n := (tz_gr A 0 0)) rfl rfl rfl (tz_in0 rfl)).trans ?_
      refine tz_cn1 ?_
      refine (tz_g_aload_n rfl (tz_in0 rfl)).trans ?_
      refine (tz_g_iload_n rfl (tz_in0 rfl)).trans ?_
      refine (tz_g_iconst (v := 2) rfl (tz_in0 rfl)).trans ?_
      refine (tz_g_iadd (tz_in0 rfl)).trans ?_
      refine (tz_g_iald (n := (tz_gr A 0 0)) rfl rfl rfl (tz_in0 rfl)).trans ?_
      refine tz_cn1 ?_
      refine (tz_g_kv2I (m2 := 124) (rc := 1) rfl rfl rfl (fun hA => tz_conok hA rfl) rfl rfl rfl rfl (by decide) (tz_in0 rfl)).trans ?_
      refine congrArg (tz_C _) ?_
      refine tz_jI (fun y1 A1 => ?_)
      refine (tz_g_aload_n rfl (tz_in0 rfl)).trans ?_
      refine (tz_g_aload_n rfl (tz_in0 rfl)).trans ?_
      refine (tz_g_iload_n rfl (tz_in0 rfl)).trans ?_
      refine (tz_g_iconst (v := 1) rfl (tz_in0 rfl)).trans ?_
      refine (tz_g_iadd (tz_in0 rfl)).trans ?_
      refine (tz_g_iald (n := (tz_gr A1 0 0)) rfl rfl rfl (tz_in0 rfl)).trans ?_
      refine tz_cn1 ?_
      refine (tz_g_aload_n rfl (tz_in0 rfl)).trans ?_
      refine (tz_g_iload_n rfl (tz_in0 rfl)).trans ?_
      refine (tz_g_iconst (v := 2) rfl (tz_in0 rfl)).trans ?_
      refine (tz_g_iadd (tz_in0 rfl)).trans ?_
      refine (tz_g_iald (n := (tz_gr A1 0 0)) rfl rfl rfl (tz_in0 rfl)).trans ?_
      refine tz_cn1 ?_
      refine (tz_g_kv2I (m2 := 225) (rc := 1) rfl rfl rfl (fun hA => tz_conok hA rfl) rfl rfl rfl rfl (by decide) (tz_in0 rfl)).trans ?_
      refine congrArg (tz_C _) ?_
      refine tz_jI (fun y2 A2 => ?_)
      refine (tz_g_ic_eq (t := 1562) (by decide) (tz_in0 rfl)).trans ?_
      refine tz_cg ?_ ?_
      · skip
        refine (tz_g_iinc (v := 6) (L2 := [some (.ref 0), some (.ref 17), some (.ref 157), some (.int (z3 + 6))]) rfl rfl rfl rfl (tz_in0 rfl)).trans ?_
        refine (tz_g_goto (t := 18) (by decide) (tz_in0 rfl)).trans ?_
        exact tz_Gm (L2 := [some (.ref 0), some (.ref 17), some (.ref 157), some (.int (z3 + 6))]) rfl rfl rfl rfl
      · skip
        refine (tz_g_iconst (v := 0) rfl (tz_in0 rfl)).trans ?_
        exact tz_g_ret4K (by decide) (tz_in0 rfl) rfl
    refine tz_swc (v := 23) (by decide) ?_ ?_
    · refine (tz_tg (t := 1144) (by decide)).trans ?_
      refine (tz_g_aload_n rfl (tz_in0 rfl)).trans ?_
      refine (tz_g_aload_n rfl (tz_in0 rfl)).trans ?_
      refine (tz_g_iload_n rfl (tz_in0 rfl)).trans ?_
      refine (tz_g_iconst (v := 1) rfl (tz_in0 rfl)).trans ?_
      refine (tz_g_iadd (tz_in0 rfl)).trans ?_
      refine (tz_g_iald (n := (tz_gr A 0 0)) rfl rfl rfl (tz_in0 rfl)).trans ?_
      refine tz_cn1 ?_
      refine (tz_g_aload_n rfl (tz_in0 rfl)).trans ?_
      refine (tz_g_iload_n rfl (tz_in0 rfl)).trans ?_
      refine (tz_g_iconst (v := 2) rfl (tz_in0 rfl)).trans ?_
      refine (tz_g_iadd (tz_in0 rfl)).trans ?_
      refine (tz_g_iald (n := (tz_gr A 0 0)) rfl rfl rfl (tz_in0 rfl)).trans ?_
      refine tz_cn1 ?_
      refine (tz_g_kv2I (m2 := 125) (rc := 1) rfl rfl rfl (fun hA => tz_conok hA rfl) rfl rfl rfl rfl (by decide) (tz_in0 rfl)).trans ?_
      refine congrArg (tz_C _) ?_
      refine tz_jI (fun y1 A1 => ?_)
      refine (tz_g_aload_n rfl (tz_in0 rfl)).trans ?_
      refine (tz_g_aload_n rfl (tz_in0 rfl)).trans ?_
      refine (tz_g_iload_n rfl (tz_in0 rfl)).trans ?_
      refine (tz_g_iconst (v := 1) rfl (tz_in0 rfl)).trans ?_
      refine (tz_g_iadd (tz_in0 rfl)).trans ?_
      refine (tz_g_iald (n := (tz_gr A1 0 0)) rfl rfl rfl (tz_in0 rfl)).trans ?_
      refine tz_cn1 ?_
      refine (tz_g_aload_n rfl (tz_in0 rfl)).trans ?_
      refine (tz_g_iload_n rfl (tz_in0 rfl)).trans ?_
      refine (tz_g_iconst (v := 2) rfl (tz_in0 rfl)).trans ?_
      refine (tz_g_iadd (tz_in0 rfl)).trans ?_
      refine (tz_g_iald (n := (tz_gr A1 0 0)) rfl rfl rfl (tz_in0 rfl)).trans ?_
      refine tz_cn1 ?_
      refine (tz_g_kv2I (m2 := 226) (rc := 1) rfl rfl rfl (fun hA => tz_conok hA rfl) rfl rfl rfl rfl (by decide) (tz_in0 rfl)).trans ?_
      refine congrArg (tz_C _) ?_
      refine tz_jI (fun y2 A2 => ?_)
      refine (tz_g_ic_eq (t := 1562) (by decide) (tz_in0 rfl)).trans ?_
      refine tz_cg ?_ ?_
      · skip
        refine (tz_g_iinc (v := 6) (L2 := [some (.ref 0), some (.ref 17), some (.ref 157), some (.int (z3 + 6))]) rfl rfl rfl rfl (tz_in0 rfl)).trans ?_
        refine (tz_g_goto (t := 18) (by decide) (tz_in0 rfl)).trans ?_
        exact tz_Gm (L2 := [some (.ref 0), some (.ref 17), some (.ref 157), some (.int (z3 + 6))]) rfl rfl rfl rfl
      · skip
        refine (tz_g_iconst (v := 0) rfl (tz_in0 rfl)).trans ?_
        exact tz_g_ret4K (by decide) (tz_in0 rfl) rfl
    refine tz_swc (v := 24) (by decide) ?_ ?_
    · refine (tz_tg (t := 1177) (by decide)).trans ?_
      refine (tz_g_aload_n rfl (tz_in0 rfl)).trans ?_
      refine (tz_g_aload_n rfl (tz_in0 rfl)).trans ?_
      refine (tz_g_iload_n rfl (tz_in0 rfl)).trans ?_
      refine (tz_g_iconst (v := 1) rfl (tz_in0 rfl)).trans ?_
      refine (tz_g_iadd (tz_in0 rfl)).trans ?_
      refine (tz_g_iald (n := (tz_gr A 0 0)) rfl rfl rfl (tz_in0 rfl)).trans ?_
      refine tz_cn1 ?_
      refine (tz_g_aload_n rfl (tz_in0 rfl)).trans ?_
      refine (tz_g_iload_n rfl (tz_in0 rfl)).trans ?_
      refine (tz_g_iconst (v := 2) rfl (tz_in0 rfl)).trans ?_
      refine (tz_g_iadd (tz_in0 rfl)).trans ?_
      refine (tz_g_iald (n := (tz_gr A 0 0)) rfl rfl rfl (tz_in0 rfl)).trans ?_
      refine tz_cn1 ?_
      refine (tz_g_kv2I (m2 := 127) (rc := 1) rfl rfl rfl (fun hA => tz_conok hA rfl) rfl rfl rfl rfl (by decide) (tz_in0 rfl)).trans ?_
      refine congrArg (tz_C _) ?_
      refine tz_jI (fun y1 A1 => ?_)
      refine (tz_g_aload_n rfl (tz_in0 rfl)).trans ?_
      refine (tz_g_aload_n rfl (tz_in0 rfl)).trans ?_
      refine (tz_g_iload_n rfl (tz_in0 rfl)).trans ?_
      refine (tz_g_iconst (v := 1) rfl (tz_in0 rfl)).trans ?_
      refine (tz_g_iadd (tz_in0 rfl)).trans ?_
      refine (tz_g_iald (n := (tz_gr A1 0 0)) rfl rfl rfl (tz_in0 rfl)).trans ?_
      refine tz_cn1 ?_
      refine (tz_g_aload_n rfl (tz_in0 rfl)).trans ?_
      refine (tz_g_iload_n rfl (tz_in0 rfl)).trans ?_
      refine (tz_g_iconst (v := 2) rfl (tz_in0 rfl)).trans ?_
      refine (tz_g_iadd (tz_in0 rfl)).trans ?_
      refine (tz_g_iald (n := (tz_gr A1 0 0)) rfl rfl rfl (tz_in0 rfl)).trans ?_
      refine tz_cn1 ?_
      refine (tz_g_kv2I (m2 := 227) (rc := 1) rfl rfl rfl (fun hA => tz_conok hA rfl) rfl rfl rfl rfl (by decide) (tz_in0 rfl)).trans ?_
      refine congrArg (tz_C _) ?_
      refine tz_jI (fun y2 A2 => ?_)
      refine (tz_g_ic_eq (t := 1562) (by decide) (tz_in0 rfl)).trans ?_
      refine tz_cg ?_ ?_
      · skip
        refine (tz_g_iinc (v := 6) (L2 := [some (.ref 0), some (.ref 17), some (.ref 157), some (.int (z3 + 6))]) rfl rfl rfl rfl (tz_in0 rfl)).trans ?_
        refine (tz_g_goto (t := 18) (by decide) (tz_in0 rfl)).trans ?_
        exact tz_Gm (L2 := [some (.ref 0), some (.ref 17), some (.ref 157), some (.int (z3 + 6))]) rfl rfl rfl rfl
      · skip
        refine (tz_g_iconst (v := 0) rfl (tz_in0 rfl)).trans ?_
        exact tz_g_ret4K (by decide) (tz_in0 rfl) rfl
    refine tz_swc (v := 25) (by decide) ?_ ?_
    · refine (tz_tg (t := 1210) (by decide)).trans ?_
      refine (tz_g_aload_n rfl (tz_in0 rfl)).trans ?_
      refine (tz_g_aload_n rfl (tz_in0 rfl)).trans ?_
      refine (tz_g_iload_n rfl (tz_in0 rfl)).trans ?_
      refine (tz_g_iconst (v := 1) rfl (tz_in0 rfl)).trans ?_
      refine (tz_g_iadd (tz_in0 rfl)).trans ?_
      refine (tz_g_iald (n := (tz_gr A 0 0)) rfl rfl rfl (tz_in0 rfl)).trans ?_
      refine tz_cn1 ?_
      refine (tz_g_aload_n rfl (tz_in0 rfl)).trans ?_
      refine (tz_g_iload_n rfl (tz_in0 rfl)).trans ?_
      refine (tz_g_iconst (v := 2) rfl (tz_in0 rfl)).trans ?_
      refine (tz_g_iadd (tz_in0 rfl)).trans ?_
      refine (tz_g_iald (n := (tz_gr A 0 0)) rfl rfl rfl (tz_in0 rfl)).trans ?_
      refine tz_cn1 ?_
      refine (tz_g_kv2I (m2 := 128) (rc := 1) rfl rfl rfl (fun hA => tz_conok hA rfl) rfl rfl rfl rfl (by decide) (tz_in0 rfl)).trans ?_
      refine congrArg (tz_C _) ?_
      refine tz_jI (fun y1 A1 => ?_)
      refine (tz_g_aload_n rfl (tz_in0 rfl)).trans ?_
      refine (tz_g_aload_n rfl (tz_in0 rfl)).trans ?_
      refine (tz_g_iload_n rfl (tz_in0 rfl)).trans ?_
      refine (tz_g_iconst (v := 1) rfl (tz_in0 rfl)).trans ?_
      refine (tz_g_iadd (tz_in0 rfl)).trans ?_
      refine (tz_g_iald (n := (tz_gr A1 0 0)) rfl rfl rfl (tz_in0 rfl)).trans ?_
      refine tz_cn1 ?_
      refine (tz_g_aload_n rfl (tz_in0 rfl)).trans ?_
      refine (tz_g_iload_n rfl (tz_in0 rfl)).trans ?_
      refine (tz_g_iconst (v := 2) rfl (tz_in0 rfl)).trans ?_
      refine (tz_g_iadd (tz_in0 rfl)).trans ?_
      refine (tz_g_iald (n := (tz_gr A1 0 0)) rfl rfl rfl (tz_in0 rfl)).trans ?_
      refine tz_cn1 ?_
      refine (tz_g_kv2I (m2 := 228) (rc := 1) rfl rfl rfl (fun hA => tz_conok hA rfl) rfl rfl rfl rfl (by decide) (tz_in0 rfl)).trans ?_
      refine congrArg (tz_C _) ?_
      refine tz_jI (fun y2 A2 => ?_)
      refine (tz_g_ic_eq (t := 1562) (by decide) (tz_in0 rfl)).trans ?_
      refine tz_cg ?_ ?_
      · skip
        refine (tz_g_iinc (v := 6) (L2 := [some (.ref 0), some (.ref 17), some (.ref 157), some (.int (z3 + 6))]) rfl rfl rfl rfl (tz_in0 rfl)).trans ?_
        refine (tz_g_goto (t := 18) (by decide) (tz_in0 rfl)).trans ?_
        exact tz_Gm (L2 := [some (.ref 0), some (.ref 17), some (.ref 157), some (.int (z3 + 6))]) rfl rfl rfl rfl
      · skip
        refine (tz_g_iconst (v := 0) rfl (tz_in0 rfl)).trans ?_
        exact tz_g_ret4K (by decide) (tz_in0 rfl) rfl
    refine tz_swc (v := 26) (by decide) ?_ ?_
    · refine (tz_tg (t := 1243) (by decide)).trans ?_
      refine (tz_g_aload_n rfl (tz_in0 rfl)).trans ?_
      refine (tz_g_aload_n rfl (tz_in0 rfl)).trans ?_
      refine (tz_g_iload_n rfl (tz_in0 rfl)).trans ?_
      refine (tz_g_iconst (v := 1) rfl (tz_in0 rfl)).trans ?_
      refine (tz_g_iadd (tz_in0 rfl)).trans ?_
      refine (tz_g_iald (n := (tz_gr A 0 0)) rfl rfl rfl (tz_in0 rfl)).trans ?_
      refine tz_cn1 ?_
      refine (tz_g_aload_n rfl (tz_in0 rfl)).trans ?_
      refine (tz_g_iload_n rfl (tz_in0 rfl)).trans ?_
      refine (tz_g_iconst (v := 2) rfl (tz_in0 rfl)).trans ?_
      refine (tz_g_iadd (tz_in0 rfl)).trans ?_
      refine (tz_g_iald (n := (tz_gr A 0 0)) rfl rfl rfl (tz_in0 rfl)).trans ?_
      refine tz_cn1 ?_
      refine (tz_g_aload_n rfl (tz_in0 rfl)).trans ?_
      refine (tz_g_iload_n rfl (tz_in0 rfl)).trans ?_
      refine (tz_g_iconst (v := 3) rfl (tz_in0 rfl)).trans ?_
      refine (tz_g_iadd (tz_in0 rfl)).trans ?_
      refine (tz_g_iald (n := (tz_gr A 0 0)) rfl rfl rfl (tz_in0 rfl)).trans ?_
      refine tz_cn1 ?_
      refine (tz_g_kv3I (m2 := 130) (rc := 1) rfl rfl rfl (fun hA => tz_conok hA rfl) rfl rfl rfl rfl (by decide) (tz_in0 rfl)).trans ?_
      refine congrArg (tz_C _) ?_
      refine tz_jI (fun y1 A1 => ?_)
      refine (tz_g_aload_n rfl (tz_in0 rfl)).trans ?_
      refine (tz_g_aload_n rfl (tz_in0 rfl)).trans ?_
      refine (tz_g_iload_n rfl (tz_in0 rfl)).trans ?_
      refine (tz_g_iconst (v := 1) rfl (tz_in0 rfl)).trans ?_
      refine (tz_g_iadd (tz_in0 rfl)).trans ?_
      refine (tz_g_iald (n := (tz_gr A1 0 0)) rfl rfl rfl (tz_in0 rfl)).trans ?_
      refine tz_cn1 ?_
      refine (tz_g_aload_n rfl (tz_in0 rfl)).trans ?_
      refine (tz_g_iload_n rfl (tz_in0 rfl)).trans ?_
      refine (tz_g_iconst (v := 2) rfl (tz_in0 rfl)).trans ?_
      refine (tz_g_iadd (tz_in0 rfl)).trans ?_
      refine (tz_g_iald (n := (tz_gr A1 0 0)) rfl rfl rfl (tz_in0 rfl)).trans ?_
      refine tz_cn1 ?_
      refine (tz_g_aload_n rfl (tz_in0 rfl)).trans ?_
      refine (tz_g_iload_n rfl (tz_in0 rfl)).trans ?_
      refine (tz_g_iconst (v := 3) rfl (tz_in0 rfl)).trans ?_
      refine (tz_g_iadd (tz_in0 rfl)).trans ?_
      refine (tz_g_iald (n := (tz_gr A1 0 0)) rfl rfl rfl (tz_in0 rfl)).trans ?_
      refine tz_cn1 ?_
      refine (tz_g_kv3I (m2 := 229) (rc := 1) rfl rfl rfl (fun hA => tz_conok hA rfl) rfl rfl rfl rfl (by decide) (tz_in0 rfl)).trans ?_
      refine congrArg (tz_C _) ?_
      refine tz_jI (fun y2 A2 => ?_)
      refine (tz_g_ic_eq (t := 1562) (by decide) (tz_in0 rfl)).trans ?_
      refine tz_cg ?_ ?_
      · skip
        refine (tz_g_iinc (v := 6) (L2 := [some (.ref 0), some (.ref 17), some (.ref 157), some (.int (z3 + 6))]) rfl rfl rfl rfl (tz_in0 rfl)).trans ?_
        refine (tz_g_goto (t := 18) (by decide) (tz_in0 rfl)).trans ?_
        exact tz_Gm (L2 := [some (.ref 0), some (.ref 17), some (.ref 157), some (.int (z3 + 6))]) rfl rfl rfl rfl
      · skip
        refine (tz_g_iconst (v := 0) rfl (tz_in0 rfl)).trans ?_
        exact tz_g_ret4K (by decide) (tz_in0 rfl) rfl
    refine tz_swc (v := 27) (by decide) ?_ ?_
    · refine (tz_tg (t := 1286) (by decide)).trans ?_
      refine (tz_g_aload_n rfl (tz_in0 rfl)).trans ?_
      refine (tz_g_aload_n rfl (tz_in0 rfl)).trans ?_
      refine (tz_g_iload_n rfl (tz_in0 rfl)).trans ?_
      refine (tz_g_iconst (v := 1) rfl (tz_in0 rfl)).trans ?_
      refine (tz_g_iadd (tz_in0 rfl)).trans ?_
      refine (tz_g_iald (n := (tz_gr A 0 0)) rfl rfl rfl (tz_in0 rfl)).trans ?_
      refine tz_cn1 ?_
      refine (tz_g_aload_n rfl (tz_in0 rfl)).trans ?_
      refine (tz_g_iload_n rfl (tz_in0 rfl)).trans ?_
      refine (tz_g_iconst (v := 2) rfl (tz_in0 rfl)).trans ?_
      refine (tz_g_iadd (tz_in0 rfl)).trans ?_
      refine (tz_g_iald (n := (tz_gr A 0 0)) rfl rfl rfl (tz_in0 rfl)).trans ?_
      refine tz_cn1 ?_
      refine (tz_g_kv2I (m2 := 132) (rc := 1) rfl rfl rfl (fun hA => tz_conok hA rfl) rfl rfl rfl rfl (by decide) (tz_in0 rfl)).trans ?_
      refine congrArg (tz_C _) ?_
      refine tz_jI (fun y1 A1 => ?_)
      refine (tz_g_aload_n rfl (tz_in0 rfl)).trans ?_
      refine (tz_g_aload_n rfl (tz_in0 rfl)).trans ?_
      refine (tz_g_iload_n rfl (tz_in0 rfl)).trans ?_
      refine (tz_g_iconst (v := 1) rfl (tz_in0 rfl)).trans ?_
      refine (tz_g_iadd (tz_in0 rfl)).trans ?_
      refine (tz_g_iald (n := (tz_gr A1 0 0)) rfl rfl rfl (tz_in0 rfl)).trans ?_
      refine tz_cn1 ?_
      refine (tz_g_aload_n rfl (tz_in0 rfl)).trans ?_
      refine (tz_g_iload_n rfl (tz_in0 rfl)).trans ?_
      refine (tz_g_iconst (v := 2) rfl (tz_in0 rfl)).trans ?_
      refine (tz_g_iadd (tz_in0 rfl)).trans ?_
      refine (tz_g_iald (n := (tz_gr A1 0 0)) rfl rfl rfl (tz_in0 rfl)).trans ?_
      refine tz_cn1 ?_
      refine (tz_g_kv2I (m2 := 231) (rc := 1) rfl rfl rfl (fun hA => tz_conok hA rfl) rfl rfl rfl rfl (by decide) (tz_in0 rfl)).trans ?_
      refine congrArg (tz_C _) ?_
      refine tz_jI (fun y2 A2 => ?_)
      refine (tz_g_ic_eq (t := 1562) (by decide) (tz_in0 rfl)).trans ?_
      refine tz_cg ?_ ?_
      · skip
        refine (tz_g_iinc (v := 6) (L2 := [some (.ref 0), some (.ref 17), some (.ref 157), some (.int (z3 + 6))]) rfl rfl rfl rfl (tz_in0 rfl)).trans ?_
        refine (tz_g_goto (t := 18) (by decide) (tz_in0 rfl)).trans ?_
        exact tz_Gm (L2 := [some (.ref 0), some (.ref 17), some (.ref 157), some (.int (z3 + 6))]) rfl rfl rfl rfl
      · skip
        refine (tz_g_iconst (v := 0) rfl (tz_in0 rfl)).trans ?_
        exact tz_g_ret4K (by decide) (tz_in0 rfl) rfl
    refine tz_swc (v := 28) (by decide) ?_ ?_
    · refine (tz_tg (t := 1319) (by decide)).trans ?_
      refine (tz_g_aload_n rfl (tz_in0 rfl)).trans ?_
      refine (tz_g_kv0I (m2 := 133) (rc := 1) rfl rfl rfl (fun hA => tz_conok hA rfl) rfl rfl rfl rfl (by decide) (tz_in0 rfl)).trans ?_
      refine congrArg (tz_C _) ?_
      refine tz_jI (fun y1 A1 => ?_)
      refine (tz_g_aload_n rfl (tz_in0 rfl)).trans ?_
      refine (tz_g_kv0I (m2 := 232) (rc := 1) rfl rfl rfl (fun hA => tz_conok hA rfl) rfl rfl rfl rfl (by decide) (tz_in0 rfl)).trans ?_
      refine congrArg (tz_C _) ?_
      refine tz_jI (fun y2 A2 => ?_)
      refine (tz_g_ic_eq (t := 1562) (by decide) (tz_in0 rfl)).trans ?_
      refine tz_cg ?_ ?_
      · skip
        refine (tz_g_iinc (v := 6) (L2 := [some (.ref 0), some (.ref 17), some (.ref 157), some (.int (z3 + 6))]) rfl rfl rfl rfl (tz_in0 rfl)).trans ?_
        refine (tz_g_goto (t := 18) (by decide) (tz_in0 rfl)).trans ?_
        exact tz_Gm (L2 := [some (.ref 0), some (.ref 17), some (.ref 157), some (.int (z3 + 6))]) rfl rfl rfl rfl
      · skip
        refine (tz_g_iconst (v := 0) rfl (tz_in0 rfl)).trans ?_
        exact tz_g_ret4K (by decide) (tz_in0 rfl) rfl
    refine tz_swc (v := 29) (by decide) ?_ ?_
    · refine (tz_tg (t := 1332) (by decide)).trans ?_
      refine (tz_g_aload_n rfl (tz_in0 rfl)).trans ?_
      refine (tz_g_aload_n rfl (tz_in0 rfl)).trans ?_
      refine (tz_g_iload_n rfl (tz_in0 rfl)).trans ?_
      refine (tz_g_iconst (v := 1) rfl (tz_in0 rfl)).trans ?_
      refine (tz_g_iadd (tz_in0 rfl)).trans ?_
      refine (tz_g_iald (n := (tz_gr A 0 0)) rfl rfl rfl (tz_in0 rfl)).trans ?_
      refine tz_cn1 ?_
      refine (tz_g_kv1I (m2 := 134) (rc := 1) rfl rfl rfl (fun hA => tz_conok hA rfl) rfl rfl rfl rfl (by decide) (tz_in0 rfl)).trans ?_
      refine congrArg (tz_C _) ?_
      refine tz_jI (fun y1 A1 => ?_)
      refine (tz_g_aload_n rfl (tz_in0 rfl)).trans ?_
      refine (tz_g_aload_n rfl (tz_in0 rfl)).trans ?_
      refine (tz_g_iload_n rfl (tz_in0 rfl)).trans ?_
      refine (tz_g_iconst (v := 1) rfl (tz_in0 rfl)).trans ?_
      refine (tz_g_iadd (tz_in0 rfl)).trans ?_
      refine (tz_g_iald (n := (tz_gr A1 0 0)) rfl rfl rfl (tz_in0 rfl)).trans ?_
      refine tz_cn1 ?_
      refine (tz_g_kv1I (m2 := 233) (rc := 1) rfl rfl rfl (fun hA => tz_conok hA rfl) rfl rfl rfl rfl (by decide) (tz_in0 rfl)).trans ?_
      refine congrArg (tz_C _) ?_
      refine tz_jI (fun y2 A2 => ?_)
      refine (tz_g_ic_eq (t := 1562) (by decide) (tz_in0 rfl)).trans ?_
      refine tz_cg ?_ ?_
      · skip
        refine (tz_g_iinc (v := 6) (L2 := [some (.ref 0), some (.ref 17), some (.ref 157), some (.int (z3 + 6))]) rfl rfl rfl rfl (tz_in0 rfl)).trans ?_
        refine (tz_g_goto (t := 18) (by decide) (tz_in0 rfl)).trans ?_
        exact tz_Gm (L2 := [some (.ref 0), some (.ref 17), some (.ref 157), some (.int (z3 + 6))]) rfl rfl rfl rfl
      · skip
        refine (tz_g_iconst (v := 0) rfl (tz_in0 rfl)).trans ?_
        exact tz_g_ret4K (by decide) (tz_in0 rfl) rfl
    refine tz_swc (v := 30) (by decide) ?_ ?_
    · refine (tz_tg (t := 1355) (by decide)).trans ?_
      refine (tz_g_aload_n rfl (tz_in0 rfl)).trans ?_
      refine (tz_g_aload_n rfl (tz_in0 rfl)).trans ?_
      refine (tz_g_iload_n rfl (tz_in0 rfl)).trans ?_
      refine (tz_g_iconst (v := 1) rfl (tz_in0 rfl)).trans ?_
      refine (tz_g_iadd (tz_in0 rfl)).trans ?_
      refine (tz_g_iald (n := (tz_gr A 0 0)) rfl rfl rfl (tz_in0 rfl)).trans ?_
      refine tz_cn1 ?_
      refine (tz_g_kv1I (m2 := 136) (rc := 1) rfl rfl rfl (fun hA => tz_conok hA rfl) rfl rfl rfl rfl (by decide) (tz_in0 rfl)).trans ?_
      refine congrArg (tz_C _) ?_
      refine tz_jI (fun y1 A1 => ?_)
      refine (tz_g_aload_n rfl (tz_in0 rfl)).trans ?_
      refine (tz_g_aload_n rfl (tz_in0 rfl)).trans ?_
      refine (tz_g_iload_n rfl (tz_in0 rfl)).trans ?_
      refine (tz_g_iconst (v := 1) rfl (tz_in0 rfl)).trans ?_
      refine (tz_g_iadd (tz_in0 rfl)).trans ?_
      refine (tz_g_iald (n := (tz_gr A1 0 0)) rfl rfl rfl (tz_in0 rfl)).trans ?_
      refine tz_cn1 ?_
      refine (tz_g_kv1I (m2 := 235) (rc := 1) rfl rfl rfl (fun hA => tz_conok hA rfl) rfl rfl rfl rfl (by decide) (tz_in0 rfl)).trans ?_
      refine congrArg (tz_C _) ?_
      refine tz_jI (fun y2 A2 => ?_)
      refine (tz_g_ic_eq (t := 1562) (by decide) (tz_in0 rfl)).trans ?_
      refine tz_cg ?_ ?_
      · skip
        refine (tz_g_iinc (v := 6) (L2 := [some (.ref 0), some (.ref 17), some (.ref 157), some (.int (z3 + 6))]) rfl rfl rfl rfl (tz_in0 rfl)).trans ?_
        refine (tz_g_goto (t := 18) (by decide) (tz_in0 rfl)).trans ?_
        exact tz_Gm (L2 := [some (.ref 0), some (.ref 17), some (.ref 157), some (.int (z3 + 6))]) rfl rfl rfl rfl
      · skip
        refine (tz_g_iconst (v := 0) rfl (tz_in0 rfl)).trans ?_
        exact tz_g_ret4K (by decide) (tz_in0 rfl) rfl
    refine tz_swc (v := 31) (by decide) ?_ ?_
    · refine (tz_tg (t := 1378) (by decide)).trans ?_
      refine (tz_g_aload_n rfl (tz_in0 rfl)).trans ?_
      refine (tz_g_aload_n rfl (tz_in0 rfl)).trans ?_
      refine (tz_g_iload_n rfl (tz_in0 rfl)).trans ?_
      refine (tz_g_iconst (v := 1) rfl (tz_in0 rfl)).trans ?_
      refine (tz_g_iadd (tz_in0 rfl)).trans ?_
      refine (tz_g_iald (n := (tz_gr A 0 0)) rfl rfl rfl (tz_in0 rfl)).trans ?_
      refine tz_cn1 ?_
      refine (tz_g_kv1I (m2 := 137) (rc := 1) rfl rfl rfl (fun hA => tz_conok hA rfl) rfl rfl rfl rfl (by decide) (tz_in0 rfl)).trans ?_
      refine congrArg (tz_C _) ?_
      refine tz_jI (fun y1 A1 => ?_)
      refine (tz_g_aload_n rfl (tz_in0 rfl)).trans ?_
      refine (tz_g_aload_n rfl (tz_in0 rfl)).trans ?_
      refine (tz_g_iload_n rfl (tz_in0 rfl)).trans ?_
      refine (tz_g_iconst (v := 1) rfl (tz_in0 rfl)).trans ?_
      refine (tz_g_iadd (tz_in0 rfl)).trans ?_
      refine (tz_g_iald (n := (tz_gr A1 0 0)) rfl rfl rfl (tz_in0 rfl)).trans ?_
      refine tz_cn1 ?_
      refine (tz_g_kv1I (m2 := 236) (rc := 1) rfl rfl rfl (fun hA => tz_conok hA rfl) rfl rfl rfl rfl (by decide) (tz_in0 rfl)).trans ?_
      refine congrArg (tz_C _) ?_
      refine tz_jI (fun y2 A2 => ?_)
      refine (tz_g_ic_eq (t := 1562) (by decide) (tz_in0 rfl)).trans ?_
      refine tz_cg ?_ ?_
      · skip
        refine (tz_g_iinc (v := 6) (L2 := [some (.ref 0), some (.ref 17), some (.ref 157), some (.int (z3 + 6))]) rfl rfl rfl rfl (tz_in0 rfl)).trans ?_
        refine (tz_g_goto (t := 18) (by decide) (tz_in0 rfl)).trans ?_
        exact tz_Gm (L2 := [some (.ref 0), some (.ref 17), some (.ref 157), some (.int (z3 + 6))]) rfl rfl rfl rfl
      · skip
        refine (tz_g_iconst (v := 0) rfl (tz_in0 rfl)).trans ?_
        exact tz_g_ret4K (by decide) (tz_in0 rfl) rfl
    refine tz_swc (v := 32) (by decide) ?_ ?_
    · refine (tz_tg (t := 1401) (by decide)).trans ?_
      refine (tz_g_aload_n rfl (tz_in0 rfl)).trans ?_
      refine (tz_g_aload_n rfl (tz_in0 rfl)).trans ?_
      refine (tz_g_iload_n rfl (tz_in0 rfl)).trans ?_
      refine (tz_g_iconst (v := 1) rfl (tz_in0 rfl)).trans ?_
      refine (tz_g_iadd (tz_in0 rfl)).trans ?_
      refine (tz_g_iald (n := (tz_gr A 0 0)) rfl rfl rfl (tz_in0 rfl)).trans ?_
      refine tz_cn1 ?_
      refine (tz_g_kv1I (m2 := 138) (rc := 1) rfl rfl rfl (fun hA => tz_conok hA rfl) rfl rfl rfl rfl (by decide) (tz_in0 rfl)).trans ?_
      refine congrArg (tz_C _) ?_
      refine tz_jI (fun y1 A1 => ?_)
      refine (tz_g_aload_n rfl (tz_in0 rfl)).trans ?_
      refine (tz_g_aload_n rfl (tz_in0 rfl)).trans ?_
      refine (tz_g_iload_n rfl (tz_in0 rfl)).trans ?_
      refine (tz_g_iconst (v := 1) rfl (tz_in0 rfl)).trans ?_
      refine (tz_g_iadd (tz_in0 rfl)).trans ?_
      refine (tz_g_iald (n := (tz_gr A1 0 0)) rfl rfl rfl (tz_in0 rfl)).trans ?_
      refine tz_cn1 ?_
      refine (tz_g_kv1I (m2 := 237) (rc := 1) rfl rfl rfl (fun hA => tz_conok hA rfl) rfl rfl rfl rfl (by decide) (tz_in0 rfl)).trans ?_
      refine congrArg (tz_C _) ?_
      refine tz_jI (fun y2 A2 => ?_)
      refine (tz_g_ic_eq (t := 1562) (by decide) (tz_in0 rfl)).trans ?_
      refine tz_cg ?_ ?_
      · skip
        refine (tz_g_iinc (v := 6) (L2 := [some (.ref 0), some (.ref 17), some (.ref 157), some (.int (z3 + 6))]) rfl rfl rfl rfl (tz_in0 rfl)).trans ?_
        refine (tz_g_goto (t := 18) (by decide) (tz_in0 rfl)).trans ?_
        exact tz_Gm (L2 := [some (.ref 0), some (.ref 17), some (.ref 157), some (.int (z3 + 6))]) rfl rfl rfl rfl
      · skip
        refine (tz_g_iconst (v := 0) rfl (tz_in0 rfl)).trans ?_
        exact tz_g_ret4K (by decide) (tz_in0 rfl) rfl
    refine tz_swc (v := 33) (by decide) ?_ ?_
    · refine (tz_tg (t := 1424) (by decide)).trans ?_
      refine (tz_g_aload_n rfl (tz_in0 rfl)).trans ?_
      refine (tz_g_aload_n rfl (tz_in0 rfl)).trans ?_
      refine (tz_g_iload_n rfl (tz_in0 rfl)).trans ?_
      refine (tz_g_iconst (v := 1) rfl (tz_in0 rfl)).trans ?_
      refine (tz_g_iadd (tz_in0 rfl)).trans ?_
      refine (tz_g_iald (n := (tz_gr A 0 0)) rfl rfl rfl (tz_in0 rfl)).trans ?_
      refine tz_cn1 ?_
      refine (tz_g_kv1I (m2 := 141) (rc := 1) rfl rfl rfl (fun hA => tz_conok hA rfl) rfl rfl rfl rfl (by decide) (tz_in0 rfl)).trans ?_
      refine congrArg (tz_C _) ?_
      refine tz_jI (fun y1 A1 => ?_)
      refine (tz_g_aload_n rfl (tz_in0 rfl)).trans ?_
      refine (tz_g_aload_n rfl (tz_in0 rfl)).trans ?_
      refine (tz_g_iload_n rfl (tz_in0 rfl)).trans ?_
      refine (tz_g_iconst (v := 1) rfl (tz_in0 rfl)).trans ?_
      refine (tz_g_iadd (tz_in0 rfl)).trans ?_
      refine (tz_g_iald (n := (tz_gr A1 0 0)) rfl rfl rfl (tz_in0 rfl)).trans ?_
      refine tz_cn1 ?_
      refine (tz_g_kv1I (m2 := 239) (rc := 1) rfl rfl rfl (fun hA => tz_conok hA rfl) rfl rfl rfl rfl (by decide) (tz_in0 rfl)).trans ?_
      refine congrArg (tz_C _) ?_
      refine tz_jI (fun y2 A2 => ?_)
      refine (tz_g_ic_eq (t := 1562) (by decide) (tz_in0 rfl)).trans ?_
      refine tz_cg ?_ ?_
      · skip
        refine (tz_g_iinc (v := 6) (L2 := [some (.ref 0), some (.ref 17), some (.ref 157), some (.int (z3 + 6))]) rfl rfl rfl rfl (tz_in0 rfl)).trans ?_
        refine (tz_g_goto (t := 18) (by decide) (tz_in0 rfl)).trans ?_
        exact tz_Gm (L2 := [some (.ref 0), some (.ref 17), some (.ref 157), some (.int (z3 + 6))]) rfl rfl rfl rfl
      · skip
        refine (tz_g_iconst (v := 0) rfl (tz_in0 rfl)).trans ?_
        exact tz_g_ret4K (by decide) (tz_in0 rfl) rfl
    refine tz_swc (v := 34) (by decide) ?_ ?_
    · refine (tz_tg (t := 1447) (by decide)).trans ?_
      refine (tz_g_aload_n rfl (tz_in0 rfl)).trans ?_
      refine (tz_g_aload_n rfl (tz_in0 rfl)).trans ?_
      refine (tz_g_iload_n rfl (tz_in0 rfl)).trans ?_
      refine (tz_g_iconst (v := 1) rfl (tz_in0 rfl)).trans ?_
      refine (tz_g_iadd (tz_in0 rfl)).trans ?_
      refine (tz_g_iald (n := (tz_gr A 0 0)) rfl rfl rfl (tz_in0 rfl)).trans ?_
      refine tz_cn1 ?_
      refine (tz_g_aload_n rfl (tz_in0 rfl)).trans ?_
      refine (tz_g_iload_n rfl (tz_in0 rfl)).trans ?_
      refine (tz_g_iconst (v := 2) rfl (tz_in0 rfl)).trans ?_
      refine (tz_g_iadd (tz_in0 rfl)).trans ?_
      refine (tz_g_iald (n := (tz_gr A 0 0)) rfl rfl rfl (tz_in0 rfl)).trans ?_
      refine tz_cn1 ?_
      refine (tz_g_aload_n rfl (tz_in0 rfl)).trans ?_
      refine (tz_g_iload_n rfl (tz_in0 rfl)).trans ?_
      refine (tz_g_iconst (v := 3) rfl (tz_in0 rfl)).trans ?_
      refine (tz_g_iadd (tz_in0 rfl)).trans ?_
      refine (tz_g_iald (n := (tz_gr A 0 0)) rfl rfl rfl (tz_in0 rfl)).trans ?_
      refine tz_cn1 ?_
      refine (tz_g_kv3I (m2 := 142) (rc := 1) rfl rfl rfl (fun hA => tz_conok hA rfl) rfl rfl rfl rfl (by decide) (tz_in0 rfl)).trans ?_
      refine congrArg (tz_C _) ?_
      refine tz_jI (fun y1 A1 => ?_)
      refine (tz_g_aload_n rfl (tz_in0 rfl)).trans ?_
      refine (tz_g_aload_n rfl (tz_in0 rfl)).trans ?_
      refine (tz_g_iload_n rfl (tz_in0 rfl)).trans ?_
      refine (tz_g_iconst (v := 1) rfl (tz_in0 rfl)).trans ?_
      refine (tz_g_iadd (tz_in0 rfl)).trans ?_
      refine (tz_g_iald (n := (tz_gr A1 0 0)) rfl rfl rfl (tz_in0 rfl)).trans ?_
      refine tz_cn1 ?_
      refine (tz_g_aload_n rfl (tz_in0 rfl)).trans ?_
      refine (tz_g_iload_n rfl (tz_in0 rfl)).trans ?_
      refine (tz_g_iconst (v := 2) rfl (tz_in0 rfl)).trans ?_
      refine (tz_g_iadd (tz_in0 rfl)).trans ?_
      refine (tz_g_iald (n := (tz_gr A1 0 0)) rfl rfl rfl (tz_in0 rfl)).trans ?_
      refine tz_cn1 ?_
      refine (tz_g_aload_n rfl (tz_in0 rfl)).trans ?_
      refine (tz_g_iload_n rfl (tz_in0 rfl)).trans ?_
      refine (tz_g_iconst (v := 3) rfl (tz_in0 rfl)).trans ?_
      refine (tz_g_iadd (tz_in0 rfl)).trans ?_
      refine (tz_g_iald (n := (tz_gr A1 0 0)) rfl rfl rfl (tz_in0 rfl)).trans ?_
      refine tz_cn1 ?_
      refine (tz_g_kv3I (m2 := 240) (rc := 1) rfl rfl rfl (fun hA => tz_conok hA rfl) rfl rfl rfl rfl (by decide) (tz_in0 rfl)).trans ?_
      refine congrArg (tz_C _) ?_
      refine tz_jI (fun y2 A2 => ?_)
      refine (tz_g_ic_eq (t := 1562) (by decide) (tz_in0 rfl)).trans ?_
      refine tz_cg ?_ ?_
      · skip
        refine (tz_g_iinc (v := 6) (L2 := [some (.ref 0), some (.ref 17), some (.ref 157), some (.int (z3 + 6))]) rfl rfl rfl rfl (tz_in0 rfl)).trans ?_
        refine (tz_g_goto (t := 18) (by decide) (tz_in0 rfl)).trans ?_
        exact tz_Gm (L2 := [some (.ref 0), some (.ref 17), some (.ref 157), some (.int (z3 + 6))]) rfl rfl rfl rfl
      · skip
        refine (tz_g_iconst (v := 0) rfl (tz_in0 rfl)).trans ?_
        exact tz_g_ret4K (by decide) (tz_in0 rfl) rfl
    refine tz_swc (v := 35) (by decide) ?_ ?_
    · refine (tz_tg (t := 1490) (by decide)).trans ?_
      refine (tz_g_aload_n rfl (tz_in0 rfl)).trans ?_
      refine (tz_g_aload_n rfl (tz_in0 rfl)).trans ?_
      refine (tz_g_iload_n rfl (tz_in0 rfl)).trans ?_
      refine (tz_g_iconst (v := 1) rfl (tz_in0 rfl)).trans ?_
      refine (tz_g_iadd (tz_in0 rfl)).trans ?_
      refine (tz_g_iald (n := (tz_gr A 0 0)) rfl rfl rfl (tz_in0 rfl)).trans ?_
      refine tz_cn1 ?_
      refine (tz_g_kv1I (m2 := 156) (rc := 1) rfl rfl rfl (fun hA => tz_conok hA rfl) rfl rfl rfl rfl (by decide) (tz_in0 rfl)).trans ?_
      refine congrArg (tz_C _) ?_
      refine tz_jI (fun y1 A1 => ?_)
      refine (tz_g_aload_n rfl (tz_in0 rfl)).trans ?_
      refine (tz_g_aload_n rfl (tz_in0 rfl)).trans ?_
      refine (tz_g_iload_n rfl (tz_in0 rfl)).trans ?_
      refine (tz_g_iconst (v := 1) rfl (tz_in0 rfl)).trans ?_
      refine (tz_g_iadd (tz_in0 rfl)).trans ?_
      refine (tz_g_iald (n := (tz_gr A1 0 0)) rfl rfl rfl (tz_in0 rfl)).trans ?_
      refine tz_cn1 ?_
      refine (tz_g_kv1I (m2 := 245) (rc := 1) rfl rfl rfl (fun hA => tz_conok hA rfl) rfl rfl rfl rfl (by decide) (tz_in0 rfl)).trans ?_
      refine congrArg (tz_C _) ?_
      refine tz_jI (fun y2 A2 => ?_)
      refine (tz_g_ic_eq (t := 1562) (by decide) (tz_in0 rfl)).trans ?_
      refine tz_cg ?_ ?_
      · skip
        refine (tz_g_iinc (v := 6) (L2 := [some (.ref 0), some (.ref 17), some (.ref 157), some (.int (z3 + 6))]) rfl rfl rfl rfl (tz_in0 rfl)).trans ?_
        refine (tz_g_goto (t := 18) (by decide) (tz_in0 rfl)).trans ?_
        exact tz_Gm (L2 := [some (.ref 0), some (.ref 17), some (.ref 157), some (.int (z3 + 6))]) rfl rfl rfl rfl
      · skip
        refine (tz_g_iconst (v := 0) rfl (tz_in0 rfl)).trans ?_
        exact tz_g_ret4K (by decide) (tz_in0 rfl) rfl
    refine tz_swc (v := 36) (by decide) ?_ ?_
    · refine (tz_tg (t := 1513) (by decide)).trans ?_
      refine (tz_g_aload_n rfl (tz_in0 rfl)).trans ?_
      refine (tz_g_kv0I (m2 := 158) (rc := 1) rfl rfl rfl (fun hA => tz_conok hA rfl) rfl rfl rfl rfl (by decide) (tz_in0 rfl)).trans ?_
      refine congrArg (tz_C _) ?_
      refine tz_jI (fun y1 A1 => ?_)
      refine (tz_g_aload_n rfl (tz_in0 rfl)).trans ?_
      refine (tz_g_kv0I (m2 := 246) (rc := 1) rfl rfl rfl (fun hA => tz_conok hA rfl) rfl rfl rfl rfl (by decide) (tz_in0 rfl)).trans ?_
      refine congrArg (tz_C _) ?_
      refine tz_jI (fun y2 A2 => ?_)
      refine (tz_g_ic_eq (t := 1562) (by decide) (tz_in0 rfl)).trans ?_
      refine tz_cg ?_ ?_
      · skip
        refine (tz_g_iinc (v := 6) (L2 := [some (.ref 0), some (.ref 17), some (.ref 157), some (.int (z3 + 6))]) rfl rfl rfl rfl (tz_in0 rfl)).trans ?_
        refine (tz_g_goto (t := 18) (by decide) (tz_in0 rfl)).trans ?_
        exact tz_Gm (L2 := [some (.ref 0), some (.ref 17), some (.ref 157), some (.int (z3 + 6))]) rfl rfl rfl rfl
      · skip
        refine (tz_g_iconst (v := 0) rfl (tz_in0 rfl)).trans ?_
        exact tz_g_ret4K (by decide) (tz_in0 rfl) rfl
    refine tz_swc (v := 37) (by decide) ?_ ?_
    · refine (tz_tg (t := 1526) (by decide)).trans ?_
      refine (tz_g_aload_n rfl (tz_in0 rfl)).trans ?_
      refine (tz_g_kv0I (m2 := 159) (rc := 1) rfl rfl rfl (fun hA => tz_conok hA rfl) rfl rfl rfl rfl (by decide) (tz_in0 rfl)).trans ?_
      refine congrArg (tz_C _) ?_
      refine tz_jI (fun y1 A1 => ?_)
      refine (tz_g_aload_n rfl (tz_in0 rfl)).trans ?_
      refine (tz_g_kv0I (m2 := 247) (rc := 1) rfl rfl rfl (fun hA => tz_conok hA rfl) rfl rfl rfl rfl (by decide) (tz_in0 rfl)).trans ?_
      refine congrArg (tz_C _) ?_
      refine tz_jI (fun y2 A2 => ?_)
      refine (tz_g_ic_eq (t := 1562) (by decide) (tz_in0 rfl)).trans ?_
      refine tz_cg ?_ ?_
      · skip
        refine (tz_g_iinc (v := 6) (L2 := [some (.ref 0), some (.ref 17), some (.ref 157), some (.int (z3 + 6))]) rfl rfl rfl rfl (tz_in0 rfl)).trans ?_
        refine (tz_g_goto (t := 18) (by decide) (tz_in0 rfl)).trans ?_
        exact tz_Gm (L2 := [some (.ref 0), some (.ref 17), some (.ref 157), some (.int (z3 + 6))]) rfl rfl rfl rfl
      · skip
        refine (tz_g_iconst (v := 0) rfl (tz_in0 rfl)).trans ?_
        exact tz_g_ret4K (by decide) (tz_in0 rfl) rfl
    refine tz_swc (v := 38) (by decide) ?_ ?_
    · refine (tz_tg (t := 1539) (by decide)).trans ?_
      refine (tz_g_aload_n rfl (tz_in0 rfl)).trans ?_
      refine (tz_g_aload_n rfl (tz_in0 rfl)).trans ?_
      refine (tz_g_iload_n rfl (tz_in0 rfl)).trans ?_
      refine (tz_g_iconst (v := 1) rfl (tz_in0 rfl)).trans ?_
      refine (tz_g_iadd (tz_in0 rfl)).trans ?_
      refine (tz_g_iald (n := (tz_gr A 0 0)) rfl rfl rfl (tz_in0 rfl)).trans ?_
      refine tz_cn1 ?_
      refine (tz_g_kv1I (m2 := 161) (rc := 1) rfl rfl rfl (fun hA => tz_conok hA rfl) rfl rfl rfl rfl (by decide) (tz_in0 rfl)).trans ?_
      refine congrArg (tz_C _) ?_
      refine tz_jI (fun y1 A1 => ?_)
      refine (tz_g_aload_n rfl (tz_in0 rfl)).trans ?_
      refine (tz_g_aload_n rfl (tz_in0 rfl)).trans ?_
      refine (tz_g_iload_n rfl (tz_in0 rfl)).trans ?_
      refine (tz_g_iconst (v := 1) rfl (tz_in0 rfl)).trans ?_
      refine (tz_g_iadd (tz_in0 rfl)).trans ?_
      refine (tz_g_iald (n := (tz_gr A1 0 0)) rfl rfl rfl (tz_in0 rfl)).trans ?_
      refine tz_cn1 ?_
      refine (tz_g_kv1I (m2 := 248) (rc := 1) rfl rfl rfl (fun hA => tz_conok hA rfl) rfl rfl rfl rfl (by decide) (tz_in0 rfl)).trans ?_
      refine congrArg (tz_C _) ?_
      refine tz_jI (fun y2 A2 => ?_)
      refine (tz_g_ic_eq (t := 1562) (by decide) (tz_in0 rfl)).trans ?_
      refine tz_cg ?_ ?_
      · skip
        refine (tz_g_iinc (v := 6) (L2 := [some (.ref 0), some (.ref 17), some (.ref 157), some (.int (z3 + 6))]) rfl rfl rfl rfl (tz_in0 rfl)).trans ?_
        refine (tz_g_goto (t := 18) (by decide) (tz_in0 rfl)).trans ?_
        exact tz_Gm (L2 := [some (.ref 0), some (.ref 17), some (.ref 157), some (.int (z3 + 6))]) rfl rfl rfl rfl
      · skip
        refine (tz_g_iconst (v := 0) rfl (tz_in0 rfl)).trans ?_
        exact tz_g_ret4K (by decide) (tz_in0 rfl) rfl
    refine tz_swd ?_
    refine (tz_tg (t := 1562) (by decide)).trans ?_
    refine (tz_g_iinc (v := 6) (L2 := [some (.ref 0), some (.ref 17), some (.ref 157), some (.int (z3 + 6))]) rfl rfl rfl rfl (tz_in0 rfl)).trans ?_
    refine (tz_g_goto (t := 18) (by decide) (tz_in0 rfl)).trans ?_
    exact tz_Gm (L2 := [some (.ref 0), some (.ref 17), some (.ref 157), some (.int (z3 + 6))]) rfl rfl rfl rfl
set_option maxRecDepth 8192 in
theorem e_L_law (A : tz_Mem) (hA : A.1 = 17) : tz_Go 249 0 (tz_ent 249 [.ref 0]) [] A = q_L_law_18 0 (c_X12_init_k157 (tz_nw (c_X11_init_k17 (tz_nw A 1)) 1)) := by
  obtain ⟨t, M, Lg, Rf⟩ := A
  obtain rfl : t = 17 := hA
  show tz_Go 249 0 [some (.ref 0), none, none, none] [] _ = _
  refine (tz_g_newp (j := 17) rfl rfl rfl (tz_in0 rfl)).trans ?_
  refine (tz_g_dup rfl (tz_in0 rfl)).trans ?_
  refine (tz_g_cp0V (m2 := 0) (rc := 0) rfl rfl rfl rfl rfl rfl (by decide) (tz_in0 rfl)).trans ?_
  refine (tz_cc (e_X11_init_k17 _ rfl)).trans ?_
  refine tz_bV_some.trans ?_
  refine (tz_g_astore_n (L2 := [some (.ref 0), some (.ref 17), none, none]) rfl rfl (tz_in0 rfl)).trans ?_
  refine (tz_g_newp (j := 157) rfl rfl rfl (tz_in0 rfl)).trans ?_
  refine (tz_g_dup rfl (tz_in0 rfl)).trans ?_
  refine (tz_g_cp0V (m2 := 163) (rc := 0) rfl rfl rfl rfl rfl rfl (by decide) (tz_in0 rfl)).trans ?_
  refine (tz_cc (e_X12_init_k157 _ rfl)).trans ?_
  refine tz_bV_some.trans ?_
  refine (tz_g_astore_n (L2 := [some (.ref 0), some (.ref 17), some (.ref 157), none]) rfl rfl (tz_in0 rfl)).trans ?_
  refine (tz_g_iconst (v := 0) rfl (tz_in0 rfl)).trans ?_
  exact tz_g_istore_n (L2 := [some (.ref 0), some (.ref 17), some (.ref 157), some (.int 0)]) rfl rfl (tz_in0 rfl)
