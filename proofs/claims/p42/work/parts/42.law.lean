/-! the law: rows for its calls, and its equation by program (gen_l.py) -/
/-- what the law's calls ask of the memory -/
noncomputable def tz_C (A : tz_Mem) (x : tz_X) : tz_X := @ite _ (tz_con A) (Classical.propDecidable _) x none
theorem tz_C_pos {A : tz_Mem} {x : tz_X} (h : tz_con A) : tz_C A x = x := if_pos h
theorem tz_conok {A : tz_Mem} {c a : Nat} (h : tz_con A) (ha : Nat.blt a tz_N0 = true) : tz_ok c A a = true := by
  unfold tz_ok
  rw [show Nat.blt a A.1 = true from Nat.ble_eq_true_of_le (Nat.le_trans (Nat.le_of_ble_eq_true ha) h.1)]
  exact Bool.or_true _
theorem tz_call_con {call : Nat → List Value → tz_Mem → tz_X} {m m2 how : Nat} {args r : List Value} {A : tz_Mem} {f : List Value → tz_Mem → tz_X} (hh : (Nat.beq how 1 || Nat.beq how 5) = true) (hok : tz_con A → tz_okr (tz_cm m) A args = true) (hk : (Nat.blt (tz_rk m2) (tz_rk m) && Nat.ble (tz_cat r) 8 && Nat.ble (tz_lay args).length (tz_ml m2)) = true) (hc : Nat.beq (tz_cm m) (tz_cm m2) = false) (h2 : Nat.beq (tz_cm m2) tz_N0 = true) : (bif (Nat.beq how 1 || Nat.beq how 5) && tz_okr (tz_cm m) A args then tz_inv call m m2 args r A f else none) = tz_C A (tz_bd (tz_rc m2) (call m2 args A) (fun v A2 => f (v ++ r) A2)) := by
  by_cases hA : tz_con A
  · rw [hh, hok hA]
    exact (tz_inv_con hk hc h2 hA).trans (tz_C_pos hA).symm
  · have e : tz_inv call m m2 args r A f = none := by
      unfold tz_inv
      exact (tz_bt hk).trans ((tz_bf hc).trans ((tz_bt h2).trans (if_neg hA)))
    rw [e]
    have e2 : tz_C A (tz_bd (tz_rc m2) (call m2 args A) (fun v A2 => f (v ++ r) A2)) = none := if_neg hA
    rw [e2]
    cases (Nat.beq how 1 || Nat.beq how 5) && tz_okr (tz_cm m) A args <;> rfl
theorem tz_inv_C {call : Nat → List Value → tz_Mem → tz_X} {m m2 : Nat} {args r : List Value} {A : tz_Mem} {f : List Value → tz_Mem → tz_X} (hk : (Nat.blt (tz_rk m2) (tz_rk m) && Nat.ble (tz_cat r) 8 && Nat.ble (tz_lay args).length (tz_ml m2)) = true) (hc : Nat.beq (tz_cm m) (tz_cm m2) = false) (h2 : Nat.beq (tz_cm m2) tz_N0 = true) : tz_inv call m m2 args r A f = tz_C A (tz_bd (tz_rc m2) (call m2 args A) (fun v A2 => f (v ++ r) A2)) := by
  by_cases hA : tz_con A
  · exact (tz_inv_con hk hc h2 hA).trans (tz_C_pos hA).symm
  · have e2 : tz_C A (tz_bd (tz_rc m2) (call m2 args A) (fun v A2 => f (v ++ r) A2)) = none := if_neg hA
    rw [e2]
    unfold tz_inv
    exact (tz_bt hk).trans ((tz_bf hc).trans ((tz_bt h2).trans (if_neg hA)))
section TZK
variable {m pc np : Nat} {L : tz_Lo} {r : List Value} {A : tz_Mem}
theorem tz_g_kv0I {idx m2 how rc a : Nat} (hnp : tz_np (tz_pn m) idx = some 0) (hm : tz_mth (tz_pn m) idx (tz_kd a) = some (how, m2)) (hh : (Nat.beq how 1 || Nat.beq how 5) = true) (hok : tz_con A → tz_ok (tz_cm m) A a = true) (hk : (Nat.blt (tz_rk m2) (tz_rk m) && Nat.ble (tz_cat r) 8 && Nat.ble (tz_lay [.ref a]).length (tz_ml m2)) = true) (hc : Nat.beq (tz_cm m) (tz_cm m2) = false) (h2 : Nat.beq (tz_cm m2) tz_N0 = true) (hr : tz_rc m2 = rc) (hr2 : rc = 1 ∨ rc = 4 ∨ rc = 5 ∨ rc = 6) (h : tz_In m pc (.invokevirtual idx) np L) : tz_Go m pc L (.ref a :: r) A = tz_C A (tz_bI (tz_F m2 [.ref a] A) (fun x A2 => tz_Go m np L (.int x :: r) A2)) := (h _ _).trans (by show tz_m1 _ _ = _; refine (tz_m1_e hnp).trans ?_; refine (tz_pop_e (n := 1) (st := .ref a :: r) (Nat.ble_eq_true_of_le (by simp))).trans ?_; show tz_m2 (tz_mth (tz_pn m) idx (tz_kd a)) _ = _; refine (tz_m2_e hm).trans ?_; refine (tz_call_con hh hok hk hc h2).trans ?_; unfold tz_bd; rw [hr]; rcases hr2 with q | q | q | q <;> (subst q; rfl))
theorem tz_g_kv0V {idx m2 how rc a : Nat} (hnp : tz_np (tz_pn m) idx = some 0) (hm : tz_mth (tz_pn m) idx (tz_kd a) = some (how, m2)) (hh : (Nat.beq how 1 || Nat.beq how 5) = true) (hok : tz_con A → tz_ok (tz_cm m) A a = true) (hk : (Nat.blt (tz_rk m2) (tz_rk m) && Nat.ble (tz_cat r) 8 && Nat.ble (tz_lay [.ref a]).length (tz_ml m2)) = true) (hc : Nat.beq (tz_cm m) (tz_cm m2) = false) (h2 : Nat.beq (tz_cm m2) tz_N0 = true) (hr : tz_rc m2 = rc) (hr2 : rc = 0) (h : tz_In m pc (.invokevirtual idx) np L) : tz_Go m pc L (.ref a :: r) A = tz_C A (tz_bV (tz_F m2 [.ref a] A) (fun A2 => tz_Go m np L r A2)) := (h _ _).trans (by show tz_m1 _ _ = _; refine (tz_m1_e hnp).trans ?_; refine (tz_pop_e (n := 1) (st := .ref a :: r) (Nat.ble_eq_true_of_le (by simp))).trans ?_; show tz_m2 (tz_mth (tz_pn m) idx (tz_kd a)) _ = _; refine (tz_m2_e hm).trans ?_; refine (tz_call_con hh hok hk hc h2).trans ?_; unfold tz_bd; rw [hr]; (subst hr2; rfl))
theorem tz_g_kv0L {idx m2 how rc a : Nat} (hnp : tz_np (tz_pn m) idx = some 0) (hm : tz_mth (tz_pn m) idx (tz_kd a) = some (how, m2)) (hh : (Nat.beq how 1 || Nat.beq how 5) = true) (hok : tz_con A → tz_ok (tz_cm m) A a = true) (hk : (Nat.blt (tz_rk m2) (tz_rk m) && Nat.ble (tz_cat r) 8 && Nat.ble (tz_lay [.ref a]).length (tz_ml m2)) = true) (hc : Nat.beq (tz_cm m) (tz_cm m2) = false) (h2 : Nat.beq (tz_cm m2) tz_N0 = true) (hr : tz_rc m2 = rc) (hr2 : rc = 2) (h : tz_In m pc (.invokevirtual idx) np L) : tz_Go m pc L (.ref a :: r) A = tz_C A (tz_bL (tz_F m2 [.ref a] A) (fun x A2 => tz_Go m np L (.long x :: r) A2)) := (h _ _).trans (by show tz_m1 _ _ = _; refine (tz_m1_e hnp).trans ?_; refine (tz_pop_e (n := 1) (st := .ref a :: r) (Nat.ble_eq_true_of_le (by simp))).trans ?_; show tz_m2 (tz_mth (tz_pn m) idx (tz_kd a)) _ = _; refine (tz_m2_e hm).trans ?_; refine (tz_call_con hh hok hk hc h2).trans ?_; unfold tz_bd; rw [hr]; (subst hr2; rfl))
theorem tz_g_kv1I {idx m2 how rc a : Nat} {v0 : Value} (hnp : tz_np (tz_pn m) idx = some 1) (hm : tz_mth (tz_pn m) idx (tz_kd a) = some (how, m2)) (hh : (Nat.beq how 1 || Nat.beq how 5) = true) (hok : tz_con A → tz_ok (tz_cm m) A a = true) (hk : (Nat.blt (tz_rk m2) (tz_rk m) && Nat.ble (tz_cat r) 8 && Nat.ble (tz_lay [.ref a, v0]).length (tz_ml m2)) = true) (hc : Nat.beq (tz_cm m) (tz_cm m2) = false) (h2 : Nat.beq (tz_cm m2) tz_N0 = true) (hr : tz_rc m2 = rc) (hr2 : rc = 1 ∨ rc = 4 ∨ rc = 5 ∨ rc = 6) (h : tz_In m pc (.invokevirtual idx) np L) : tz_Go m pc L (v0 :: .ref a :: r) A = tz_C A (tz_bI (tz_F m2 [.ref a, v0] A) (fun x A2 => tz_Go m np L (.int x :: r) A2)) := (h _ _).trans (by show tz_m1 _ _ = _; refine (tz_m1_e hnp).trans ?_; refine (tz_pop_e (n := 2) (st := v0 :: .ref a :: r) (Nat.ble_eq_true_of_le (by simp))).trans ?_; show tz_m2 (tz_mth (tz_pn m) idx (tz_kd a)) _ = _; refine (tz_m2_e hm).trans ?_; refine (tz_call_con hh hok hk hc h2).trans ?_; unfold tz_bd; rw [hr]; rcases hr2 with q | q | q | q <;> (subst q; rfl))
theorem tz_g_kv1V {idx m2 how rc a : Nat} {v0 : Value} (hnp : tz_np (tz_pn m) idx = some 1) (hm : tz_mth (tz_pn m) idx (tz_kd a) = some (how, m2)) (hh : (Nat.beq how 1 || Nat.beq how 5) = true) (hok : tz_con A → tz_ok (tz_cm m) A a = true) (hk : (Nat.blt (tz_rk m2) (tz_rk m) && Nat.ble (tz_cat r) 8 && Nat.ble (tz_lay [.ref a, v0]).length (tz_ml m2)) = true) (hc : Nat.beq (tz_cm m) (tz_cm m2) = false) (h2 : Nat.beq (tz_cm m2) tz_N0 = true) (hr : tz_rc m2 = rc) (hr2 : rc = 0) (h : tz_In m pc (.invokevirtual idx) np L) : tz_Go m pc L (v0 :: .ref a :: r) A = tz_C A (tz_bV (tz_F m2 [.ref a, v0] A) (fun A2 => tz_Go m np L r A2)) := (h _ _).trans (by show tz_m1 _ _ = _; refine (tz_m1_e hnp).trans ?_; refine (tz_pop_e (n := 2) (st := v0 :: .ref a :: r) (Nat.ble_eq_true_of_le (by simp))).trans ?_; show tz_m2 (tz_mth (tz_pn m) idx (tz_kd a)) _ = _; refine (tz_m2_e hm).trans ?_; refine (tz_call_con hh hok hk hc h2).trans ?_; unfold tz_bd; rw [hr]; (subst hr2; rfl))
theorem tz_g_kv1L {idx m2 how rc a : Nat} {v0 : Value} (hnp : tz_np (tz_pn m) idx = some 1) (hm : tz_mth (tz_pn m) idx (tz_kd a) = some (how, m2)) (hh : (Nat.beq how 1 || Nat.beq how 5) = true) (hok : tz_con A → tz_ok (tz_cm m) A a = true) (hk : (Nat.blt (tz_rk m2) (tz_rk m) && Nat.ble (tz_cat r) 8 && Nat.ble (tz_lay [.ref a, v0]).length (tz_ml m2)) = true) (hc : Nat.beq (tz_cm m) (tz_cm m2) = false) (h2 : Nat.beq (tz_cm m2) tz_N0 = true) (hr : tz_rc m2 = rc) (hr2 : rc = 2) (h : tz_In m pc (.invokevirtual idx) np L) : tz_Go m pc L (v0 :: .ref a :: r) A = tz_C A (tz_bL (tz_F m2 [.ref a, v0] A) (fun x A2 => tz_Go m np L (.long x :: r) A2)) := (h _ _).trans (by show tz_m1 _ _ = _; refine (tz_m1_e hnp).trans ?_; refine (tz_pop_e (n := 2) (st := v0 :: .ref a :: r) (Nat.ble_eq_true_of_le (by simp))).trans ?_; show tz_m2 (tz_mth (tz_pn m) idx (tz_kd a)) _ = _; refine (tz_m2_e hm).trans ?_; refine (tz_call_con hh hok hk hc h2).trans ?_; unfold tz_bd; rw [hr]; (subst hr2; rfl))
theorem tz_g_kv2I {idx m2 how rc a : Nat} {v0 v1 : Value} (hnp : tz_np (tz_pn m) idx = some 2) (hm : tz_mth (tz_pn m) idx (tz_kd a) = some (how, m2)) (hh : (Nat.beq how 1 || Nat.beq how 5) = true) (hok : tz_con A → tz_ok (tz_cm m) A a = true) (hk : (Nat.blt (tz_rk m2) (tz_rk m) && Nat.ble (tz_cat r) 8 && Nat.ble (tz_lay [.ref a, v0, v1]).length (tz_ml m2)) = true) (hc : Nat.beq (tz_cm m) (tz_cm m2) = false) (h2 : Nat.beq (tz_cm m2) tz_N0 = true) (hr : tz_rc m2 = rc) (hr2 : rc = 1 ∨ rc = 4 ∨ rc = 5 ∨ rc = 6) (h : tz_In m pc (.invokevirtual idx) np L) : tz_Go m pc L (v1 :: v0 :: .ref a :: r) A = tz_C A (tz_bI (tz_F m2 [.ref a, v0, v1] A) (fun x A2 => tz_Go m np L (.int x :: r) A2)) := (h _ _).trans (by show tz_m1 _ _ = _; refine (tz_m1_e hnp).trans ?_; refine (tz_pop_e (n := 3) (st := v1 :: v0 :: .ref a :: r) (Nat.ble_eq_true_of_le (by simp))).trans ?_; show tz_m2 (tz_mth (tz_pn m) idx (tz_kd a)) _ = _; refine (tz_m2_e hm).trans ?_; refine (tz_call_con hh hok hk hc h2).trans ?_; unfold tz_bd; rw [hr]; rcases hr2 with q | q | q | q <;> (subst q; rfl))
theorem tz_g_kv2V {idx m2 how rc a : Nat} {v0 v1 : Value} (hnp : tz_np (tz_pn m) idx = some 2) (hm : tz_mth (tz_pn m) idx (tz_kd a) = some (how, m2)) (hh : (Nat.beq how 1 || Nat.beq how 5) = true) (hok : tz_con A → tz_ok (tz_cm m) A a = true) (hk : (Nat.blt (tz_rk m2) (tz_rk m) && Nat.ble (tz_cat r) 8 && Nat.ble (tz_lay [.ref a, v0, v1]).length (tz_ml m2)) = true) (hc : Nat.beq (tz_cm m) (tz_cm m2) = false) (h2 : Nat.beq (tz_cm m2) tz_N0 = true) (hr : tz_rc m2 = rc) (hr2 : rc = 0) (h : tz_In m pc (.invokevirtual idx) np L) : tz_Go m pc L (v1 :: v0 :: .ref a :: r) A = tz_C A (tz_bV (tz_F m2 [.ref a, v0, v1] A) (fun A2 => tz_Go m np L r A2)) := (h _ _).trans (by show tz_m1 _ _ = _; refine (tz_m1_e hnp).trans ?_; refine (tz_pop_e (n := 3) (st := v1 :: v0 :: .ref a :: r) (Nat.ble_eq_true_of_le (by simp))).trans ?_; show tz_m2 (tz_mth (tz_pn m) idx (tz_kd a)) _ = _; refine (tz_m2_e hm).trans ?_; refine (tz_call_con hh hok hk hc h2).trans ?_; unfold tz_bd; rw [hr]; (subst hr2; rfl))
theorem tz_g_kv2L {idx m2 how rc a : Nat} {v0 v1 : Value} (hnp : tz_np (tz_pn m) idx = some 2) (hm : tz_mth (tz_pn m) idx (tz_kd a) = some (how, m2)) (hh : (Nat.beq how 1 || Nat.beq how 5) = true) (hok : tz_con A → tz_ok (tz_cm m) A a = true) (hk : (Nat.blt (tz_rk m2) (tz_rk m) && Nat.ble (tz_cat r) 8 && Nat.ble (tz_lay [.ref a, v0, v1]).length (tz_ml m2)) = true) (hc : Nat.beq (tz_cm m) (tz_cm m2) = false) (h2 : Nat.beq (tz_cm m2) tz_N0 = true) (hr : tz_rc m2 = rc) (hr2 : rc = 2) (h : tz_In m pc (.invokevirtual idx) np L) : tz_Go m pc L (v1 :: v0 :: .ref a :: r) A = tz_C A (tz_bL (tz_F m2 [.ref a, v0, v1] A) (fun x A2 => tz_Go m np L (.long x :: r) A2)) := (h _ _).trans (by show tz_m1 _ _ = _; refine (tz_m1_e hnp).trans ?_; refine (tz_pop_e (n := 3) (st := v1 :: v0 :: .ref a :: r) (Nat.ble_eq_true_of_le (by simp))).trans ?_; show tz_m2 (tz_mth (tz_pn m) idx (tz_kd a)) _ = _; refine (tz_m2_e hm).trans ?_; refine (tz_call_con hh hok hk hc h2).trans ?_; unfold tz_bd; rw [hr]; (subst hr2; rfl))
theorem tz_g_kv3I {idx m2 how rc a : Nat} {v0 v1 v2 : Value} (hnp : tz_np (tz_pn m) idx = some 3) (hm : tz_mth (tz_pn m) idx (tz_kd a) = some (how, m2)) (hh : (Nat.beq how 1 || Nat.beq how 5) = true) (hok : tz_con A → tz_ok (tz_cm m) A a = true) (hk : (Nat.blt (tz_rk m2) (tz_rk m) && Nat.ble (tz_cat r) 8 && Nat.ble (tz_lay [.ref a, v0, v1, v2]).length (tz_ml m2)) = true) (hc : Nat.beq (tz_cm m) (tz_cm m2) = false) (h2 : Nat.beq (tz_cm m2) tz_N0 = true) (hr : tz_rc m2 = rc) (hr2 : rc = 1 ∨ rc = 4 ∨ rc = 5 ∨ rc = 6) (h : tz_In m pc (.invokevirtual idx) np L) : tz_Go m pc L (v2 :: v1 :: v0 :: .ref a :: r) A = tz_C A (tz_bI (tz_F m2 [.ref a, v0, v1, v2] A) (fun x A2 => tz_Go m np L (.int x :: r) A2)) := (h _ _).trans (by show tz_m1 _ _ = _; refine (tz_m1_e hnp).trans ?_; refine (tz_pop_e (n := 4) (st := v2 :: v1 :: v0 :: .ref a :: r) (Nat.ble_eq_true_of_le (by simp))).trans ?_; show tz_m2 (tz_mth (tz_pn m) idx (tz_kd a)) _ = _; refine (tz_m2_e hm).trans ?_; refine (tz_call_con hh hok hk hc h2).trans ?_; unfold tz_bd; rw [hr]; rcases hr2 with q | q | q | q <;> (subst q; rfl))
theorem tz_g_kv3V {idx m2 how rc a : Nat} {v0 v1 v2 : Value} (hnp : tz_np (tz_pn m) idx = some 3) (hm : tz_mth (tz_pn m) idx (tz_kd a) = some (how, m2)) (hh : (Nat.beq how 1 || Nat.beq how 5) = true) (hok : tz_con A → tz_ok (tz_cm m) A a = true) (hk : (Nat.blt (tz_rk m2) (tz_rk m) && Nat.ble (tz_cat r) 8 && Nat.ble (tz_lay [.ref a, v0, v1, v2]).length (tz_ml m2)) = true) (hc : Nat.beq (tz_cm m) (tz_cm m2) = false) (h2 : Nat.beq (tz_cm m2) tz_N0 = true) (hr : tz_rc m2 = rc) (hr2 : rc = 0) (h : tz_In m pc (.invokevirtual idx) np L) : tz_Go m pc L (v2 :: v1 :: v0 :: .ref a :: r) A = tz_C A (tz_bV (tz_F m2 [.ref a, v0, v1, v2] A) (fun A2 => tz_Go m np L r A2)) := (h _ _).trans (by show tz_m1 _ _ = _; refine (tz_m1_e hnp).trans ?_; refine (tz_pop_e (n := 4) (st := v2 :: v1 :: v0 :: .ref a :: r) (Nat.ble_eq_true_of_le (by simp))).trans ?_; show tz_m2 (tz_mth (tz_pn m) idx (tz_kd a)) _ = _; refine (tz_m2_e hm).trans ?_; refine (tz_call_con hh hok hk hc h2).trans ?_; unfold tz_bd; rw [hr]; (subst hr2; rfl))
theorem tz_g_kv3L {idx m2 how rc a : Nat} {v0 v1 v2 : Value} (hnp : tz_np (tz_pn m) idx = some 3) (hm : tz_mth (tz_pn m) idx (tz_kd a) = some (how, m2)) (hh : (Nat.beq how 1 || Nat.beq how 5) = true) (hok : tz_con A → tz_ok (tz_cm m) A a = true) (hk : (Nat.blt (tz_rk m2) (tz_rk m) && Nat.ble (tz_cat r) 8 && Nat.ble (tz_lay [.ref a, v0, v1, v2]).length (tz_ml m2)) = true) (hc : Nat.beq (tz_cm m) (tz_cm m2) = false) (h2 : Nat.beq (tz_cm m2) tz_N0 = true) (hr : tz_rc m2 = rc) (hr2 : rc = 2) (h : tz_In m pc (.invokevirtual idx) np L) : tz_Go m pc L (v2 :: v1 :: v0 :: .ref a :: r) A = tz_C A (tz_bL (tz_F m2 [.ref a, v0, v1, v2] A) (fun x A2 => tz_Go m np L (.long x :: r) A2)) := (h _ _).trans (by show tz_m1 _ _ = _; refine (tz_m1_e hnp).trans ?_; refine (tz_pop_e (n := 4) (st := v2 :: v1 :: v0 :: .ref a :: r) (Nat.ble_eq_true_of_le (by simp))).trans ?_; show tz_m2 (tz_mth (tz_pn m) idx (tz_kd a)) _ = _; refine (tz_m2_e hm).trans ?_; refine (tz_call_con hh hok hk hc h2).trans ?_; unfold tz_bd; rw [hr]; (subst hr2; rfl))
theorem tz_g_kv4I {idx m2 how rc a : Nat} {v0 v1 v2 v3 : Value} (hnp : tz_np (tz_pn m) idx = some 4) (hm : tz_mth (tz_pn m) idx (tz_kd a) = some (how, m2)) (hh : (Nat.beq how 1 || Nat.beq how 5) = true) (hok : tz_con A → tz_ok (tz_cm m) A a = true) (hk : (Nat.blt (tz_rk m2) (tz_rk m) && Nat.ble (tz_cat r) 8 && Nat.ble (tz_lay [.ref a, v0, v1, v2, v3]).length (tz_ml m2)) = true) (hc : Nat.beq (tz_cm m) (tz_cm m2) = false) (h2 : Nat.beq (tz_cm m2) tz_N0 = true) (hr : tz_rc m2 = rc) (hr2 : rc = 1 ∨ rc = 4 ∨ rc = 5 ∨ rc = 6) (h : tz_In m pc (.invokevirtual idx) np L) : tz_Go m pc L (v3 :: v2 :: v1 :: v0 :: .ref a :: r) A = tz_C A (tz_bI (tz_F m2 [.ref a, v0, v1, v2, v3] A) (fun x A2 => tz_Go m np L (.int x :: r) A2)) := (h _ _).trans (by show tz_m1 _ _ = _; refine (tz_m1_e hnp).trans ?_; refine (tz_pop_e (n := 5) (st := v3 :: v2 :: v1 :: v0 :: .ref a :: r) (Nat.ble_eq_true_of_le (by simp))).trans ?_; show tz_m2 (tz_mth (tz_pn m) idx (tz_kd a)) _ = _; refine (tz_m2_e hm).trans ?_; refine (tz_call_con hh hok hk hc h2).trans ?_; unfold tz_bd; rw [hr]; rcases hr2 with q | q | q | q <;> (subst q; rfl))
theorem tz_g_kv4V {idx m2 how rc a : Nat} {v0 v1 v2 v3 : Value} (hnp : tz_np (tz_pn m) idx = some 4) (hm : tz_mth (tz_pn m) idx (tz_kd a) = some (how, m2)) (hh : (Nat.beq how 1 || Nat.beq how 5) = true) (hok : tz_con A → tz_ok (tz_cm m) A a = true) (hk : (Nat.blt (tz_rk m2) (tz_rk m) && Nat.ble (tz_cat r) 8 && Nat.ble (tz_lay [.ref a, v0, v1, v2, v3]).length (tz_ml m2)) = true) (hc : Nat.beq (tz_cm m) (tz_cm m2) = false) (h2 : Nat.beq (tz_cm m2) tz_N0 = true) (hr : tz_rc m2 = rc) (hr2 : rc = 0) (h : tz_In m pc (.invokevirtual idx) np L) : tz_Go m pc L (v3 :: v2 :: v1 :: v0 :: .ref a :: r) A = tz_C A (tz_bV (tz_F m2 [.ref a, v0, v1, v2, v3] A) (fun A2 => tz_Go m np L r A2)) := (h _ _).trans (by show tz_m1 _ _ = _; refine (tz_m1_e hnp).trans ?_; refine (tz_pop_e (n := 5) (st := v3 :: v2 :: v1 :: v0 :: .ref a :: r) (Nat.ble_eq_true_of_le (by simp))).trans ?_; show tz_m2 (tz_mth (tz_pn m) idx (tz_kd a)) _ = _; refine (tz_m2_e hm).trans ?_; refine (tz_call_con hh hok hk hc h2).trans ?_; unfold tz_bd; rw [hr]; (subst hr2; rfl))
theorem tz_g_kv4L {idx m2 how rc a : Nat} {v0 v1 v2 v3 : Value} (hnp : tz_np (tz_pn m) idx = some 4) (hm : tz_mth (tz_pn m) idx (tz_kd a) = some (how, m2)) (hh : (Nat.beq how 1 || Nat.beq how 5) = true) (hok : tz_con A → tz_ok (tz_cm m) A a = true) (hk : (Nat.blt (tz_rk m2) (tz_rk m) && Nat.ble (tz_cat r) 8 && Nat.ble (tz_lay [.ref a, v0, v1, v2, v3]).length (tz_ml m2)) = true) (hc : Nat.beq (tz_cm m) (tz_cm m2) = false) (h2 : Nat.beq (tz_cm m2) tz_N0 = true) (hr : tz_rc m2 = rc) (hr2 : rc = 2) (h : tz_In m pc (.invokevirtual idx) np L) : tz_Go m pc L (v3 :: v2 :: v1 :: v0 :: .ref a :: r) A = tz_C A (tz_bL (tz_F m2 [.ref a, v0, v1, v2, v3] A) (fun x A2 => tz_Go m np L (.long x :: r) A2)) := (h _ _).trans (by show tz_m1 _ _ = _; refine (tz_m1_e hnp).trans ?_; refine (tz_pop_e (n := 5) (st := v3 :: v2 :: v1 :: v0 :: .ref a :: r) (Nat.ble_eq_true_of_le (by simp))).trans ?_; show tz_m2 (tz_mth (tz_pn m) idx (tz_kd a)) _ = _; refine (tz_m2_e hm).trans ?_; refine (tz_call_con hh hok hk hc h2).trans ?_; unfold tz_bd; rw [hr]; (subst hr2; rfl))
theorem tz_g_kv5I {idx m2 how rc a : Nat} {v0 v1 v2 v3 v4 : Value} (hnp : tz_np (tz_pn m) idx = some 5) (hm : tz_mth (tz_pn m) idx (tz_kd a) = some (how, m2)) (hh : (Nat.beq how 1 || Nat.beq how 5) = true) (hok : tz_con A → tz_ok (tz_cm m) A a = true) (hk : (Nat.blt (tz_rk m2) (tz_rk m) && Nat.ble (tz_cat r) 8 && Nat.ble (tz_lay [.ref a, v0, v1, v2, v3, v4]).length (tz_ml m2)) = true) (hc : Nat.beq (tz_cm m) (tz_cm m2) = false) (h2 : Nat.beq (tz_cm m2) tz_N0 = true) (hr : tz_rc m2 = rc) (hr2 : rc = 1 ∨ rc = 4 ∨ rc = 5 ∨ rc = 6) (h : tz_In m pc (.invokevirtual idx) np L) : tz_Go m pc L (v4 :: v3 :: v2 :: v1 :: v0 :: .ref a :: r) A = tz_C A (tz_bI (tz_F m2 [.ref a, v0, v1, v2, v3, v4] A) (fun x A2 => tz_Go m np L (.int x :: r) A2)) := (h _ _).trans (by show tz_m1 _ _ = _; refine (tz_m1_e hnp).trans ?_; refine (tz_pop_e (n := 6) (st := v4 :: v3 :: v2 :: v1 :: v0 :: .ref a :: r) (Nat.ble_eq_true_of_le (by simp))).trans ?_; show tz_m2 (tz_mth (tz_pn m) idx (tz_kd a)) _ = _; refine (tz_m2_e hm).trans ?_; refine (tz_call_con hh hok hk hc h2).trans ?_; unfold tz_bd; rw [hr]; rcases hr2 with q | q | q | q <;> (subst q; rfl))
theorem tz_g_kv5V {idx m2 how rc a : Nat} {v0 v1 v2 v3 v4 : Value} (hnp : tz_np (tz_pn m) idx = some 5) (hm : tz_mth (tz_pn m) idx (tz_kd a) = some (how, m2)) (hh : (Nat.beq how 1 || Nat.beq how 5) = true) (hok : tz_con A → tz_ok (tz_cm m) A a = true) (hk : (Nat.blt (tz_rk m2) (tz_rk m) && Nat.ble (tz_cat r) 8 && Nat.ble (tz_lay [.ref a, v0, v1, v2, v3, v4]).length (tz_ml m2)) = true) (hc : Nat.beq (tz_cm m) (tz_cm m2) = false) (h2 : Nat.beq (tz_cm m2) tz_N0 = true) (hr : tz_rc m2 = rc) (hr2 : rc = 0) (h : tz_In m pc (.invokevirtual idx) np L) : tz_Go m pc L (v4 :: v3 :: v2 :: v1 :: v0 :: .ref a :: r) A = tz_C A (tz_bV (tz_F m2 [.ref a, v0, v1, v2, v3, v4] A) (fun A2 => tz_Go m np L r A2)) := (h _ _).trans (by show tz_m1 _ _ = _; refine (tz_m1_e hnp).trans ?_; refine (tz_pop_e (n := 6) (st := v4 :: v3 :: v2 :: v1 :: v0 :: .ref a :: r) (Nat.ble_eq_true_of_le (by simp))).trans ?_; show tz_m2 (tz_mth (tz_pn m) idx (tz_kd a)) _ = _; refine (tz_m2_e hm).trans ?_; refine (tz_call_con hh hok hk hc h2).trans ?_; unfold tz_bd; rw [hr]; (subst hr2; rfl))
theorem tz_g_kv5L {idx m2 how rc a : Nat} {v0 v1 v2 v3 v4 : Value} (hnp : tz_np (tz_pn m) idx = some 5) (hm : tz_mth (tz_pn m) idx (tz_kd a) = some (how, m2)) (hh : (Nat.beq how 1 || Nat.beq how 5) = true) (hok : tz_con A → tz_ok (tz_cm m) A a = true) (hk : (Nat.blt (tz_rk m2) (tz_rk m) && Nat.ble (tz_cat r) 8 && Nat.ble (tz_lay [.ref a, v0, v1, v2, v3, v4]).length (tz_ml m2)) = true) (hc : Nat.beq (tz_cm m) (tz_cm m2) = false) (h2 : Nat.beq (tz_cm m2) tz_N0 = true) (hr : tz_rc m2 = rc) (hr2 : rc = 2) (h : tz_In m pc (.invokevirtual idx) np L) : tz_Go m pc L (v4 :: v3 :: v2 :: v1 :: v0 :: .ref a :: r) A = tz_C A (tz_bL (tz_F m2 [.ref a, v0, v1, v2, v3, v4] A) (fun x A2 => tz_Go m np L (.long x :: r) A2)) := (h _ _).trans (by show tz_m1 _ _ = _; refine (tz_m1_e hnp).trans ?_; refine (tz_pop_e (n := 6) (st := v4 :: v3 :: v2 :: v1 :: v0 :: .ref a :: r) (Nat.ble_eq_true_of_le (by simp))).trans ?_; show tz_m2 (tz_mth (tz_pn m) idx (tz_kd a)) _ = _; refine (tz_m2_e hm).trans ?_; refine (tz_call_con hh hok hk hc h2).trans ?_; unfold tz_bd; rw [hr]; (subst hr2; rfl))
theorem tz_g_ks1I {idx m2 rc : Nat} {v0 : Value} (hnp : tz_np (tz_pn m) idx = some 1) (hm : tz_mth (tz_pn m) idx 999 = some (0, m2)) (hk : (Nat.blt (tz_rk m2) (tz_rk m) && Nat.ble (tz_cat r) 8 && Nat.ble (tz_lay [v0]).length (tz_ml m2)) = true) (hc : Nat.beq (tz_cm m) (tz_cm m2) = false) (h2 : Nat.beq (tz_cm m2) tz_N0 = true) (hr : tz_rc m2 = rc) (hr2 : rc = 1 ∨ rc = 4 ∨ rc = 5 ∨ rc = 6) (h : tz_In m pc (.invokestatic idx) np L) : tz_Go m pc L (v0 :: r) A = tz_C A (tz_bI (tz_F m2 [v0] A) (fun x A2 => tz_Go m np L (.int x :: r) A2)) := (h _ _).trans (by show tz_m1 _ _ = _; refine (tz_m1_e hnp).trans ?_; refine (tz_pop_e (n := 1) (st := v0 :: r) (Nat.ble_eq_true_of_le (by simp))).trans ?_; show tz_m2 (tz_mth (tz_pn m) idx 999) _ = _; refine (tz_m2_e hm).trans ?_; refine (tz_inv_C hk hc h2).trans ?_; unfold tz_bd; rw [hr]; rcases hr2 with q | q | q | q <;> (subst q; rfl))
theorem tz_g_ks1V {idx m2 rc : Nat} {v0 : Value} (hnp : tz_np (tz_pn m) idx = some 1) (hm : tz_mth (tz_pn m) idx 999 = some (0, m2)) (hk : (Nat.blt (tz_rk m2) (tz_rk m) && Nat.ble (tz_cat r) 8 && Nat.ble (tz_lay [v0]).length (tz_ml m2)) = true) (hc : Nat.beq (tz_cm m) (tz_cm m2) = false) (h2 : Nat.beq (tz_cm m2) tz_N0 = true) (hr : tz_rc m2 = rc) (hr2 : rc = 0) (h : tz_In m pc (.invokestatic idx) np L) : tz_Go m pc L (v0 :: r) A = tz_C A (tz_bV (tz_F m2 [v0] A) (fun A2 => tz_Go m np L r A2)) := (h _ _).trans (by show tz_m1 _ _ = _; refine (tz_m1_e hnp).trans ?_; refine (tz_pop_e (n := 1) (st := v0 :: r) (Nat.ble_eq_true_of_le (by simp))).trans ?_; show tz_m2 (tz_mth (tz_pn m) idx 999) _ = _; refine (tz_m2_e hm).trans ?_; refine (tz_inv_C hk hc h2).trans ?_; unfold tz_bd; rw [hr]; (subst hr2; rfl))
theorem tz_g_ks1L {idx m2 rc : Nat} {v0 : Value} (hnp : tz_np (tz_pn m) idx = some 1) (hm : tz_mth (tz_pn m) idx 999 = some (0, m2)) (hk : (Nat.blt (tz_rk m2) (tz_rk m) && Nat.ble (tz_cat r) 8 && Nat.ble (tz_lay [v0]).length (tz_ml m2)) = true) (hc : Nat.beq (tz_cm m) (tz_cm m2) = false) (h2 : Nat.beq (tz_cm m2) tz_N0 = true) (hr : tz_rc m2 = rc) (hr2 : rc = 2) (h : tz_In m pc (.invokestatic idx) np L) : tz_Go m pc L (v0 :: r) A = tz_C A (tz_bL (tz_F m2 [v0] A) (fun x A2 => tz_Go m np L (.long x :: r) A2)) := (h _ _).trans (by show tz_m1 _ _ = _; refine (tz_m1_e hnp).trans ?_; refine (tz_pop_e (n := 1) (st := v0 :: r) (Nat.ble_eq_true_of_le (by simp))).trans ?_; show tz_m2 (tz_mth (tz_pn m) idx 999) _ = _; refine (tz_m2_e hm).trans ?_; refine (tz_inv_C hk hc h2).trans ?_; unfold tz_bd; rw [hr]; (subst hr2; rfl))
theorem tz_g_ks2I {idx m2 rc : Nat} {v0 v1 : Value} (hnp : tz_np (tz_pn m) idx = some 2) (hm : tz_mth (tz_pn m) idx 999 = some (0, m2)) (hk : (Nat.blt (tz_rk m2) (tz_rk m) && Nat.ble (tz_cat r) 8 && Nat.ble (tz_lay [v0, v1]).length (tz_ml m2)) = true) (hc : Nat.beq (tz_cm m) (tz_cm m2) = false) (h2 : Nat.beq (tz_cm m2) tz_N0 = true) (hr : tz_rc m2 = rc) (hr2 : rc = 1 ∨ rc = 4 ∨ rc = 5 ∨ rc = 6) (h : tz_In m pc (.invokestatic idx) np L) : tz_Go m pc L (v1 :: v0 :: r) A = tz_C A (tz_bI (tz_F m2 [v0, v1] A) (fun x A2 => tz_Go m np L (.int x :: r) A2)) := (h _ _).trans (by show tz_m1 _ _ = _; refine (tz_m1_e hnp).trans ?_; refine (tz_pop_e (n := 2) (st := v1 :: v0 :: r) (Nat.ble_eq_true_of_le (by simp))).trans ?_; show tz_m2 (tz_mth (tz_pn m) idx 999) _ = _; refine (tz_m2_e hm).trans ?_; refine (tz_inv_C hk hc h2).trans ?_; unfold tz_bd; rw [hr]; rcases hr2 with q | q | q | q <;> (subst q; rfl))
theorem tz_g_ks2V {idx m2 rc : Nat} {v0 v1 : Value} (hnp : tz_np (tz_pn m) idx = some 2) (hm : tz_mth (tz_pn m) idx 999 = some (0, m2)) (hk : (Nat.blt (tz_rk m2) (tz_rk m) && Nat.ble (tz_cat r) 8 && Nat.ble (tz_lay [v0, v1]).length (tz_ml m2)) = true) (hc : Nat.beq (tz_cm m) (tz_cm m2) = false) (h2 : Nat.beq (tz_cm m2) tz_N0 = true) (hr : tz_rc m2 = rc) (hr2 : rc = 0) (h : tz_In m pc (.invokestatic idx) np L) : tz_Go m pc L (v1 :: v0 :: r) A = tz_C A (tz_bV (tz_F m2 [v0, v1] A) (fun A2 => tz_Go m np L r A2)) := (h _ _).trans (by show tz_m1 _ _ = _; refine (tz_m1_e hnp).trans ?_; refine (tz_pop_e (n := 2) (st := v1 :: v0 :: r) (Nat.ble_eq_true_of_le (by simp))).trans ?_; show tz_m2 (tz_mth (tz_pn m) idx 999) _ = _; refine (tz_m2_e hm).trans ?_; refine (tz_inv_C hk hc h2).trans ?_; unfold tz_bd; rw [hr]; (subst hr2; rfl))
theorem tz_g_ks2L {idx m2 rc : Nat} {v0 v1 : Value} (hnp : tz_np (tz_pn m) idx = some 2) (hm : tz_mth (tz_pn m) idx 999 = some (0, m2)) (hk : (Nat.blt (tz_rk m2) (tz_rk m) && Nat.ble (tz_cat r) 8 && Nat.ble (tz_lay [v0, v1]).length (tz_ml m2)) = true) (hc : Nat.beq (tz_cm m) (tz_cm m2) = false) (h2 : Nat.beq (tz_cm m2) tz_N0 = true) (hr : tz_rc m2 = rc) (hr2 : rc = 2) (h : tz_In m pc (.invokestatic idx) np L) : tz_Go m pc L (v1 :: v0 :: r) A = tz_C A (tz_bL (tz_F m2 [v0, v1] A) (fun x A2 => tz_Go m np L (.long x :: r) A2)) := (h _ _).trans (by show tz_m1 _ _ = _; refine (tz_m1_e hnp).trans ?_; refine (tz_pop_e (n := 2) (st := v1 :: v0 :: r) (Nat.ble_eq_true_of_le (by simp))).trans ?_; show tz_m2 (tz_mth (tz_pn m) idx 999) _ = _; refine (tz_m2_e hm).trans ?_; refine (tz_inv_C hk hc h2).trans ?_; unfold tz_bd; rw [hr]; (subst hr2; rfl))
theorem tz_g_ks3I {idx m2 rc : Nat} {v0 v1 v2 : Value} (hnp : tz_np (tz_pn m) idx = some 3) (hm : tz_mth (tz_pn m) idx 999 = some (0, m2)) (hk : (Nat.blt (tz_rk m2) (tz_rk m) && Nat.ble (tz_cat r) 8 && Nat.ble (tz_lay [v0, v1, v2]).length (tz_ml m2)) = true) (hc : Nat.beq (tz_cm m) (tz_cm m2) = false) (h2 : Nat.beq (tz_cm m2) tz_N0 = true) (hr : tz_rc m2 = rc) (hr2 : rc = 1 ∨ rc = 4 ∨ rc = 5 ∨ rc = 6) (h : tz_In m pc (.invokestatic idx) np L) : tz_Go m pc L (v2 :: v1 :: v0 :: r) A = tz_C A (tz_bI (tz_F m2 [v0, v1, v2] A) (fun x A2 => tz_Go m np L (.int x :: r) A2)) := (h _ _).trans (by show tz_m1 _ _ = _; refine (tz_m1_e hnp).trans ?_; refine (tz_pop_e (n := 3) (st := v2 :: v1 :: v0 :: r) (Nat.ble_eq_true_of_le (by simp))).trans ?_; show tz_m2 (tz_mth (tz_pn m) idx 999) _ = _; refine (tz_m2_e hm).trans ?_; refine (tz_inv_C hk hc h2).trans ?_; unfold tz_bd; rw [hr]; rcases hr2 with q | q | q | q <;> (subst q; rfl))
theorem tz_g_ks3V {idx m2 rc : Nat} {v0 v1 v2 : Value} (hnp : tz_np (tz_pn m) idx = some 3) (hm : tz_mth (tz_pn m) idx 999 = some (0, m2)) (hk : (Nat.blt (tz_rk m2) (tz_rk m) && Nat.ble (tz_cat r) 8 && Nat.ble (tz_lay [v0, v1, v2]).length (tz_ml m2)) = true) (hc : Nat.beq (tz_cm m) (tz_cm m2) = false) (h2 : Nat.beq (tz_cm m2) tz_N0 = true) (hr : tz_rc m2 = rc) (hr2 : rc = 0) (h : tz_In m pc (.invokestatic idx) np L) : tz_Go m pc L (v2 :: v1 :: v0 :: r) A = tz_C A (tz_bV (tz_F m2 [v0, v1, v2] A) (fun A2 => tz_Go m np L r A2)) := (h _ _).trans (by show tz_m1 _ _ = _; refine (tz_m1_e hnp).trans ?_; refine (tz_pop_e (n := 3) (st := v2 :: v1 :: v0 :: r) (Nat.ble_eq_true_of_le (by simp))).trans ?_; show tz_m2 (tz_mth (tz_pn m) idx 999) _ = _; refine (tz_m2_e hm).trans ?_; refine (tz_inv_C hk hc h2).trans ?_; unfold tz_bd; rw [hr]; (subst hr2; rfl))
theorem tz_g_ks3L {idx m2 rc : Nat} {v0 v1 v2 : Value} (hnp : tz_np (tz_pn m) idx = some 3) (hm : tz_mth (tz_pn m) idx 999 = some (0, m2)) (hk : (Nat.blt (tz_rk m2) (tz_rk m) && Nat.ble (tz_cat r) 8 && Nat.ble (tz_lay [v0, v1, v2]).length (tz_ml m2)) = true) (hc : Nat.beq (tz_cm m) (tz_cm m2) = false) (h2 : Nat.beq (tz_cm m2) tz_N0 = true) (hr : tz_rc m2 = rc) (hr2 : rc = 2) (h : tz_In m pc (.invokestatic idx) np L) : tz_Go m pc L (v2 :: v1 :: v0 :: r) A = tz_C A (tz_bL (tz_F m2 [v0, v1, v2] A) (fun x A2 => tz_Go m np L (.long x :: r) A2)) := (h _ _).trans (by show tz_m1 _ _ = _; refine (tz_m1_e hnp).trans ?_; refine (tz_pop_e (n := 3) (st := v2 :: v1 :: v0 :: r) (Nat.ble_eq_true_of_le (by simp))).trans ?_; show tz_m2 (tz_mth (tz_pn m) idx 999) _ = _; refine (tz_m2_e hm).trans ?_; refine (tz_inv_C hk hc h2).trans ?_; unfold tz_bd; rw [hr]; (subst hr2; rfl))
theorem tz_g_ks4I {idx m2 rc : Nat} {v0 v1 v2 v3 : Value} (hnp : tz_np (tz_pn m) idx = some 4) (hm : tz_mth (tz_pn m) idx 999 = some (0, m2)) (hk : (Nat.blt (tz_rk m2) (tz_rk m) && Nat.ble (tz_cat r) 8 && Nat.ble (tz_lay [v0, v1, v2, v3]).length (tz_ml m2)) = true) (hc : Nat.beq (tz_cm m) (tz_cm m2) = false) (h2 : Nat.beq (tz_cm m2) tz_N0 = true) (hr : tz_rc m2 = rc) (hr2 : rc = 1 ∨ rc = 4 ∨ rc = 5 ∨ rc = 6) (h : tz_In m pc (.invokestatic idx) np L) : tz_Go m pc L (v3 :: v2 :: v1 :: v0 :: r) A = tz_C A (tz_bI (tz_F m2 [v0, v1, v2, v3] A) (fun x A2 => tz_Go m np L (.int x :: r) A2)) := (h _ _).trans (by show tz_m1 _ _ = _; refine (tz_m1_e hnp).trans ?_; refine (tz_pop_e (n := 4) (st := v3 :: v2 :: v1 :: v0 :: r) (Nat.ble_eq_true_of_le (by simp))).trans ?_; show tz_m2 (tz_mth (tz_pn m) idx 999) _ = _; refine (tz_m2_e hm).trans ?_; refine (tz_inv_C hk hc h2).trans ?_; unfold tz_bd; rw [hr]; rcases hr2 with q | q | q | q <;> (subst q; rfl))
theorem tz_g_ks4V {idx m2 rc : Nat} {v0 v1 v2 v3 : Value} (hnp : tz_np (tz_pn m) idx = some 4) (hm : tz_mth (tz_pn m) idx 999 = some (0, m2)) (hk : (Nat.blt (tz_rk m2) (tz_rk m) && Nat.ble (tz_cat r) 8 && Nat.ble (tz_lay [v0, v1, v2, v3]).length (tz_ml m2)) = true) (hc : Nat.beq (tz_cm m) (tz_cm m2) = false) (h2 : Nat.beq (tz_cm m2) tz_N0 = true) (hr : tz_rc m2 = rc) (hr2 : rc = 0) (h : tz_In m pc (.invokestatic idx) np L) : tz_Go m pc L (v3 :: v2 :: v1 :: v0 :: r) A = tz_C A (tz_bV (tz_F m2 [v0, v1, v2, v3] A) (fun A2 => tz_Go m np L r A2)) := (h _ _).trans (by show tz_m1 _ _ = _; refine (tz_m1_e hnp).trans ?_; refine (tz_pop_e (n := 4) (st := v3 :: v2 :: v1 :: v0 :: r) (Nat.ble_eq_true_of_le (by simp))).trans ?_; show tz_m2 (tz_mth (tz_pn m) idx 999) _ = _; refine (tz_m2_e hm).trans ?_; refine (tz_inv_C hk hc h2).trans ?_; unfold tz_bd; rw [hr]; (subst hr2; rfl))
theorem tz_g_ks4L {idx m2 rc : Nat} {v0 v1 v2 v3 : Value} (hnp : tz_np (tz_pn m) idx = some 4) (hm : tz_mth (tz_pn m) idx 999 = some (0, m2)) (hk : (Nat.blt (tz_rk m2) (tz_rk m) && Nat.ble (tz_cat r) 8 && Nat.ble (tz_lay [v0, v1, v2, v3]).length (tz_ml m2)) = true) (hc : Nat.beq (tz_cm m) (tz_cm m2) = false) (h2 : Nat.beq (tz_cm m2) tz_N0 = true) (hr : tz_rc m2 = rc) (hr2 : rc = 2) (h : tz_In m pc (.invokestatic idx) np L) : tz_Go m pc L (v3 :: v2 :: v1 :: v0 :: r) A = tz_C A (tz_bL (tz_F m2 [v0, v1, v2, v3] A) (fun x A2 => tz_Go m np L (.long x :: r) A2)) := (h _ _).trans (by show tz_m1 _ _ = _; refine (tz_m1_e hnp).trans ?_; refine (tz_pop_e (n := 4) (st := v3 :: v2 :: v1 :: v0 :: r) (Nat.ble_eq_true_of_le (by simp))).trans ?_; show tz_m2 (tz_mth (tz_pn m) idx 999) _ = _; refine (tz_m2_e hm).trans ?_; refine (tz_inv_C hk hc h2).trans ?_; unfold tz_bd; rw [hr]; (subst hr2; rfl))
end TZK
noncomputable def q_L_law_61 (A : tz_Mem) : tz_X := tz_Go 142 61 [some (.ref 0), some (.ref 17), some (.ref 157), some (.ref 158), none, none, none, none, none, none, none, none, none, none, none, none, none, none, none, none, none] [] A
noncomputable def q_L_law_79 (z4 : Int32) (z5 : Int64) (A : tz_Mem) : tz_X := tz_Go 142 79 [some (.ref 0), some (.ref 17), some (.ref 157), none, some (.int z4), some (.long z5), none, none, none, none, none, none, none, none, none, none, none, none, none, none, none] [] A
noncomputable def q_L_law_110 (z4 : Int32) (z5 : Int64) (A : tz_Mem) : tz_X := tz_Go 142 110 [some (.ref 0), some (.ref 17), some (.ref 157), none, some (.int z4), some (.long z5), none, none, none, none, none, none, none, none, none, none, none, none, none, none, none] [] A
noncomputable def q_L_law_213 (z4 : Int32) (z5 : Int64) (A : tz_Mem) : tz_X := tz_Go 142 213 [some (.ref 0), some (.ref 17), some (.ref 157), none, some (.int z4), some (.long z5), none, none, none, none, none, none, none, none, none, none, none, none, none, none, none] [] A
noncomputable def q_L_law_281 (z4 : Int32) (z5 : Int64) (A : tz_Mem) : tz_X := tz_Go 142 281 [some (.ref 0), some (.ref 17), some (.ref 157), none, some (.int z4), some (.long z5), none, none, none, none, none, none, none, none, none, none, none, none, none, none, none] [] A
noncomputable def q_L_law_329 (z4 : Int32) (z5 : Int64) (z7 : Int32) (z8 : Int32) (z9 : Int32) (z10 : Int32) (A : tz_Mem) : tz_X := tz_Go 142 329 [some (.ref 0), some (.ref 17), some (.ref 157), none, some (.int z4), some (.long z5), none, some (.int z7), some (.int z8), some (.int z9), some (.int z10), none, none, none, none, none, none, none, none, none, none] [] A
noncomputable def q_L_law_338 (z4 : Int32) (z5 : Int64) (z7 : Int32) (z8 : Int32) (z9 : Int32) (z10 : Int32) (z11 : Int32) (z12 : Int32) (A : tz_Mem) : tz_X := tz_Go 142 338 [some (.ref 0), some (.ref 17), some (.ref 157), none, some (.int z4), some (.long z5), none, some (.int z7), some (.int z8), some (.int z9), some (.int z10), some (.int z11), some (.int z12), none, none, none, none, none, none, none, none] [] A
noncomputable def q_L_law_685 (z4 : Int32) (z5 : Int64) (z9 : Int32) (z10 : Int32) (z11 : Int32) (A : tz_Mem) : tz_X := tz_Go 142 685 [some (.ref 0), some (.ref 17), some (.ref 157), none, some (.int z4), some (.long z5), none, none, none, some (.int z9), some (.int z10), some (.int z11), none, none, none, none, none, none, none, none, none] [] A
noncomputable def q_L_law_365 (z4 : Int32) (z5 : Int64) (z7 : Int32) (z8 : Int32) (z9 : Int32) (z10 : Int32) (z11 : Int32) (z12 : Int32) (z13 : Int32) (A : tz_Mem) : tz_X := tz_Go 142 365 [some (.ref 0), some (.ref 17), some (.ref 157), none, some (.int z4), some (.long z5), none, some (.int z7), some (.int z8), some (.int z9), some (.int z10), some (.int z11), some (.int z12), some (.int z13), none, none, none, none, none, none, none] [] A
noncomputable def q_L_law_715 (z4 : Int32) (z5 : Int64) (z9 : Int32) (z11 : Int32) (A : tz_Mem) : tz_X := tz_Go 142 715 [some (.ref 0), some (.ref 17), some (.ref 157), none, some (.int z4), some (.long z5), none, none, none, some (.int z9), none, some (.int z11), none, none, none, none, none, none, none, none, none] [] A
noncomputable def q_L_law_385 (z4 : Int32) (z5 : Int64) (z7 : Int32) (z8 : Int32) (z9 : Int32) (z10 : Int32) (z11 : Int32) (z12 : Int32) (z13 : Int32) (z14 : Int32) (A : tz_Mem) : tz_X := tz_Go 142 385 [some (.ref 0), some (.ref 17), some (.ref 157), none, some (.int z4), some (.long z5), none, some (.int z7), some (.int z8), some (.int z9), some (.int z10), some (.int z11), some (.int z12), some (.int z13), some (.int z14), none, none, none, none, none, none] [] A
noncomputable def q_L_law_729 (z4 : Int32) (z5 : Int64) (z9 : Int32) (A : tz_Mem) : tz_X := tz_Go 142 729 [some (.ref 0), some (.ref 17), some (.ref 157), none, some (.int z4), some (.long z5), none, none, none, some (.int z9), none, none, none, none, none, none, none, none, none, none, none] [] A
noncomputable def q_L_law_461 (z4 : Int32) (z5 : Int64) (z7 : Int32) (z8 : Int32) (z9 : Int32) (z10 : Int32) (z11 : Int32) (z12 : Int32) (A : tz_Mem) : tz_X := tz_Go 142 461 [some (.ref 0), some (.ref 17), some (.ref 157), none, some (.int z4), some (.long z5), none, some (.int z7), some (.int z8), some (.int z9), some (.int z10), some (.int z11), some (.int z12), none, none, none, none, none, none, none, none] [] A
noncomputable def q_L_law_750 (z4 : Int32) (z5 : Int64) (z9 : Int32) (A : tz_Mem) : tz_X := tz_Go 142 750 [some (.ref 0), some (.ref 17), some (.ref 157), none, some (.int z4), some (.long z5), none, none, none, some (.int z9), none, none, none, none, none, none, none, none, none, none, none] [] A
noncomputable def q_L_law_470 (z4 : Int32) (z5 : Int64) (z7 : Int32) (z8 : Int32) (z9 : Int32) (z10 : Int32) (z11 : Int32) (z12 : Int32) (z16 : Int32) (z17 : Int32) (z18 : Int32) (A : tz_Mem) : tz_X := tz_Go 142 470 [some (.ref 0), some (.ref 17), some (.ref 157), none, some (.int z4), some (.long z5), none, some (.int z7), some (.int z8), some (.int z9), some (.int z10), some (.int z11), some (.int z12), none, none, none, some (.int z16), some (.int z17), some (.int z18), none, none] [] A
noncomputable def q_L_law_770 (z4 : Int32) (z5 : Int64) (z9 : Int32) (A : tz_Mem) : tz_X := tz_Go 142 770 [some (.ref 0), some (.ref 17), some (.ref 157), none, some (.int z4), some (.long z5), none, none, none, some (.int z9), none, none, none, none, none, none, none, none, none, none, none] [] A
noncomputable def q_L_law_513 (z4 : Int32) (z5 : Int64) (z7 : Int32) (z8 : Int32) (z9 : Int32) (z10 : Int32) (z11 : Int32) (z12 : Int32) (z16 : Int32) (z17 : Int32) (z18 : Int32) (A : tz_Mem) : tz_X := tz_Go 142 513 [some (.ref 0), some (.ref 17), some (.ref 157), none, some (.int z4), some (.long z5), none, some (.int z7), some (.int z8), some (.int z9), some (.int z10), some (.int z11), some (.int z12), none, none, none, some (.int z16), some (.int z17), some (.int z18), none, none] [] A
noncomputable def q_L_law_791 (z4 : Int32) (z5 : Int64) (z9 : Int32) (z12 : Int32) (A : tz_Mem) : tz_X := tz_Go 142 791 [some (.ref 0), some (.ref 17), some (.ref 157), none, some (.int z4), some (.long z5), none, none, none, some (.int z9), none, none, some (.int z12), none, none, none, none, none, none, none, none] [] A
noncomputable def q_L_law_567 (z4 : Int32) (z5 : Int64) (z7 : Int32) (z8 : Int32) (z9 : Int32) (z10 : Int32) (z11 : Int32) (z12 : Int32) (z16 : Int32) (z17 : Int32) (z18 : Int32) (z19 : Int32) (z20 : Int32) (A : tz_Mem) : tz_X := tz_Go 142 567 [some (.ref 0), some (.ref 17), some (.ref 157), none, some (.int z4), some (.long z5), none, some (.int z7), some (.int z8), some (.int z9), some (.int z10), some (.int z11), some (.int z12), none, none, none, some (.int z16), some (.int z17), some (.int z18), some (.int z19), some (.int z20)] [] A
noncomputable def q_L_law_826 (z4 : Int32) (z5 : Int64) (z9 : Int32) (z12 : Int32) (A : tz_Mem) : tz_X := tz_Go 142 826 [some (.ref 0), some (.ref 17), some (.ref 157), none, some (.int z4), some (.long z5), none, none, none, some (.int z9), none, none, some (.int z12), none, none, none, none, none, none, none, none] [] A
noncomputable def q_L_law_605 (z4 : Int32) (z5 : Int64) (z7 : Int32) (z8 : Int32) (z9 : Int32) (z10 : Int32) (z11 : Int32) (z12 : Int32) (z16 : Int32) (z17 : Int32) (z18 : Int32) (z19 : Int32) (z20 : Int32) (A : tz_Mem) : tz_X := tz_Go 142 605 [some (.ref 0), some (.ref 17), some (.ref 157), none, some (.int z4), some (.long z5), none, some (.int z7), some (.int z8), some (.int z9), some (.int z10), some (.int z11), some (.int z12), none, none, none, some (.int z16), some (.int z17), some (.int z18), some (.int z19), some (.int z20)] [] A
noncomputable def q_L_law_829 (z4 : Int32) (z5 : Int64) (z9 : Int32) (z12 : Int32) (z13 : Int32) (A : tz_Mem) : tz_X := tz_Go 142 829 [some (.ref 0), some (.ref 17), some (.ref 157), none, some (.int z4), some (.long z5), none, none, none, some (.int z9), none, none, some (.int z12), some (.int z13), none, none, none, none, none, none, none] [] A
noncomputable def q_L_law_860 (z4 : Int32) (z5 : Int64) (z9 : Int32) (z12 : Int32) (A : tz_Mem) : tz_X := tz_Go 142 860 [some (.ref 0), some (.ref 17), some (.ref 157), none, some (.int z4), some (.long z5), none, none, none, some (.int z9), none, none, some (.int z12), none, none, none, none, none, none, none, none] [] A
noncomputable def q_L_law_873 (z4 : Int32) (z5 : Int64) (z12 : Int32) (A : tz_Mem) : tz_X := tz_Go 142 873 [some (.ref 0), some (.ref 17), none, none, some (.int z4), some (.long z5), none, none, none, none, none, none, some (.int z12), none, none, none, none, none, none, none, none] [] A
noncomputable def q_L_law_905 (z4 : Int32) (z5 : Int64) (z12 : Int32) (A : tz_Mem) : tz_X := tz_Go 142 905 [some (.ref 0), some (.ref 17), none, none, some (.int z4), some (.long z5), none, none, none, none, none, none, some (.int z12), none, none, none, none, none, none, none, none] [] A
noncomputable def q_L_law_924 (z4 : Int32) (z5 : Int64) (z12 : Int32) (A : tz_Mem) : tz_X := tz_Go 142 924 [some (.ref 0), some (.ref 17), none, none, some (.int z4), some (.long z5), none, none, none, none, none, none, some (.int z12), none, none, none, none, none, none, none, none] [] A
noncomputable def q_L_law_956 (z4 : Int32) (z5 : Int64) (z12 : Int32) (A : tz_Mem) : tz_X := tz_Go 142 956 [none, some (.ref 17), none, none, some (.int z4), some (.long z5), none, none, none, none, none, none, some (.int z12), none, none, none, none, none, none, none, none] [] A
noncomputable def q_L_law_977 (z4 : Int32) (z5 : Int64) (z12 : Int32) (A : tz_Mem) : tz_X := tz_Go 142 977 [none, some (.ref 17), none, none, some (.int z4), some (.long z5), none, none, none, none, none, none, some (.int z12), none, none, none, none, none, none, none, none] [] A
noncomputable def q_L_law_994 (z4 : Int32) (z5 : Int64) (z12 : Int32) (A : tz_Mem) : tz_X := tz_Go 142 994 [none, some (.ref 17), none, none, some (.int z4), some (.long z5), none, none, none, none, none, none, some (.int z12), none, none, none, none, none, none, none, none] [] A
noncomputable def q_L_law_1008 (z4 : Int32) (z5 : Int64) (A : tz_Mem) : tz_X := tz_Go 142 1008 [none, some (.ref 17), none, none, some (.int z4), some (.long z5), none, none, none, none, none, none, none, none, none, none, none, none, none, none, none] [] A
noncomputable def q_L_law_1020 (z4 : Int32) (z5 : Int64) (A : tz_Mem) : tz_X := tz_Go 142 1020 [none, some (.ref 17), none, none, some (.int z4), some (.long z5), none, none, none, none, none, none, none, none, none, none, none, none, none, none, none] [] A
theorem e_L_law_61 (A : tz_Mem) : q_L_law_61 A =
  tz_C A (tz_bV (f_L_world A) (fun A1 =>
if A1.1 ≤ 157 then none else
tz_C A1 (tz_bL (f_L_told A1) (fun y2 A2 =>
q_L_law_79 (tz_g A1 157 0) y2 A2)))) := by
  show tz_Go 142 61 [some (.ref 0), some (.ref 17), some (.ref 157), some (.ref 158), none, none, none, none, none, none, none, none, none, none, none, none, none, none, none, none, none] [] A = _
  refine (tz_g_aload_n rfl (tz_inM rfl rfl rfl)).trans ?_
  refine (tz_g_aload_n rfl (tz_in0 rfl)).trans ?_
  refine (tz_g_aload_n rfl (tz_in0 rfl)).trans ?_
  refine (tz_g_aload_n rfl (tz_in0 rfl)).trans ?_
  refine (tz_g_ks4V (m2 := 121) (rc := 0) rfl rfl rfl rfl rfl rfl (by decide) (tz_in0 rfl)).trans ?_
  refine congrArg (tz_C _) ?_
  refine tz_jV (fun A1 => ?_)
  refine (tz_g_aload_n rfl (tz_in0 rfl)).trans ?_
  refine (tz_g_iconst (v := 0) rfl (tz_in0 rfl)).trans ?_
  refine tz_gB (c := A1.1 ≤ 157) (fun q => tz_gx_iaload rfl (tz_in0 rfl) q) (fun hB0 => ?_)
  refine (tz_g_iald (n := 64) (by exact tz_okB hB0 rfl) rfl rfl (tz_in0 rfl)).trans ?_
  refine (if_neg (by decide)).trans ?_
  refine (tz_g_istore (L2 := [some (.ref 0), some (.ref 17), some (.ref 157), some (.ref 158), some (.int (tz_g A1 157 0)), none, none, none, none, none, none, none, none, none, none, none, none, none, none, none, none]) rfl rfl (tz_in0 rfl)).trans ?_
  refine (tz_g_aload_n rfl (tz_in0 rfl)).trans ?_
  refine (tz_g_ks1L (m2 := 131) (rc := 2) rfl rfl rfl rfl rfl rfl (by decide) (tz_in0 rfl)).trans ?_
  refine congrArg (tz_C _) ?_
  refine tz_jL (fun y2 A2 => ?_)
  refine (tz_g_lstore (L2 := [some (.ref 0), some (.ref 17), some (.ref 157), some (.ref 158), some (.int (tz_g A1 157 0)), some (.long y2), none, none, none, none, none, none, none, none, none, none, none, none, none, none, none]) rfl rfl (tz_in0 rfl)).trans ?_
  exact tz_Gm (L2 := [some (.ref 0), some (.ref 17), some (.ref 157), none, some (.int (tz_g A1 157 0)), some (.long y2), none, none, none, none, none, none, none, none, none, none, none, none, none, none, none]) rfl rfl rfl rfl

theorem e_L_law_79 (z4 : Int32) (z5 : Int64) (A : tz_Mem) : q_L_law_79 z4 z5 A =
  tz_C A (tz_bL (f_L_told A) (fun y1 A1 =>
if ¬ (lg_cmp y1 z5) = 0 then
  some (some (.int 0), A1)
else
  tz_C A1 (tz_bI (f_X11_image A1) (fun y2 A2 =>
  if ¬ y2 = z4 then
    some (some (.int 0), A2)
  else
    tz_C A2 (tz_bL (f_L_told A2) (fun y3 A3 =>
    if (lg_cmp y3 z5) = 0 then
      q_L_law_110 z4 z5 A3
    else
      some (some (.int 0), A3))))))) := by
  show tz_Go 142 79 [some (.ref 0), some (.ref 17), some (.ref 157), none, some (.int z4), some (.long z5), none, none, none, none, none, none, none, none, none, none, none, none, none, none, none] [] A = _
  refine (tz_g_aload_n rfl (tz_inM rfl rfl rfl)).trans ?_
  refine (tz_g_ks1L (m2 := 131) (rc := 2) rfl rfl rfl rfl rfl rfl (by decide) (tz_in0 rfl)).trans ?_
  refine congrArg (tz_C _) ?_
  refine tz_jL (fun y1 A1 => ?_)
  refine (tz_g_lload rfl (tz_in0 rfl)).trans ?_
  refine (tz_g_lcmp (tz_in0 rfl)).trans ?_
  refine (tz_g_if_ne (t := 108) (by decide) (tz_in0 rfl)).trans ?_
  refine tz_cg ?_ ?_
  · skip
    refine (tz_g_iconst (v := 0) rfl (tz_in0 rfl)).trans ?_
    exact tz_g_ret4K (by decide) (tz_in0 rfl) rfl
  · skip
    refine (tz_g_aload_n rfl (tz_in0 rfl)).trans ?_
    refine (tz_g_kv0I (m2 := 114) (rc := 1) rfl rfl rfl (fun hA => tz_conok hA rfl) rfl rfl rfl rfl (by decide) (tz_in0 rfl)).trans ?_
    refine congrArg (tz_C _) ?_
    refine tz_jI (fun y2 A2 => ?_)
    refine (tz_g_iload rfl (tz_in0 rfl)).trans ?_
    refine (tz_g_ic_ne (t := 108) (by decide) (tz_in0 rfl)).trans ?_
    refine tz_cg ?_ ?_
    · skip
      refine (tz_g_iconst (v := 0) rfl (tz_in0 rfl)).trans ?_
      exact tz_g_ret4K (by decide) (tz_in0 rfl) rfl
    · skip
      refine (tz_g_aload_n rfl (tz_in0 rfl)).trans ?_
      refine (tz_g_ks1L (m2 := 131) (rc := 2) rfl rfl rfl rfl rfl rfl (by decide) (tz_in0 rfl)).trans ?_
      refine congrArg (tz_C _) ?_
      refine tz_jL (fun y3 A3 => ?_)
      refine (tz_g_lload rfl (tz_in0 rfl)).trans ?_
      refine (tz_g_lcmp (tz_in0 rfl)).trans ?_
      refine (tz_g_if_eq (t := 110) (by decide) (tz_in0 rfl)).trans ?_
      refine tz_cg ?_ ?_
      · skip
        exact tz_Gm (L2 := [some (.ref 0), some (.ref 17), some (.ref 157), none, some (.int z4), some (.long z5), none, none, none, none, none, none, none, none, none, none, none, none, none, none, none]) rfl rfl rfl rfl
      · skip
        refine (tz_g_iconst (v := 0) rfl (tz_in0 rfl)).trans ?_
        exact tz_g_ret4K (by decide) (tz_in0 rfl) rfl

theorem e_L_law_110 (z4 : Int32) (z5 : Int64) (A : tz_Mem) : q_L_law_110 z4 z5 A =
  tz_C A (tz_bI (f_X11_hours 0 A) (fun y1 A1 =>
if ¬ y1 = (-6) then
  some (some (.int 0), A1)
else
  tz_C A1 (tz_bI (f_X11_hours 501 A1) (fun y2 A2 =>
  if ¬ y2 = (-6) then
    some (some (.int 0), A2)
  else
    if A2.1 ≤ 157 then none else
    tz_C A2 (tz_bI (f_X11_burn (tz_g A2 157 2) A2) (fun y3 A3 =>
    if ¬ y3 = (-5) then
      some (some (.int 0), A3)
    else
      tz_C A3 (tz_bI (f_X11_dry 101 A3) (fun y4 A4 =>
      if ¬ y4 = (-6) then
        some (some (.int 0), A4)
      else
        tz_C A4 (tz_bI (f_X11_drought 201 A4) (fun y5 A5 =>
        if ¬ y5 = (-6) then
          some (some (.int 0), A5)
        else
          tz_C A5 (tz_bI (f_X11_hill 7 0 A5) (fun y6 A6 =>
          if ¬ y6 = (-1) then
            some (some (.int 0), A6)
          else
            tz_C A6 (tz_bI (f_X11_letter 0 z4 0 1 A6) (fun y7 A7 =>
            if ¬ y7 = (-1) then
              some (some (.int 0), A7)
            else
              tz_C A7 (tz_bI (f_X11_sky 5 A7) (fun y8 A8 =>
              if ¬ y8 = (-3) then
                some (some (.int 0), A8)
              else
                tz_C A8 (tz_bL (f_L_told A8) (fun y9 A9 =>
                if (lg_cmp y9 z5) = 0 then
                  q_L_law_213 z4 z5 A9
                else
                  some (some (.int 0), A9))))))))))))))))))) := by
  show tz_Go 142 110 [some (.ref 0), some (.ref 17), some (.ref 157), none, some (.int z4), some (.long z5), none, none, none, none, none, none, none, none, none, none, none, none, none, none, none] [] A = _
  refine (tz_g_aload_n rfl (tz_inM rfl rfl rfl)).trans ?_
  refine (tz_g_iconst (v := 0) rfl (tz_in0 rfl)).trans ?_
  refine (tz_g_kv1I (m2 := 106) (rc := 1) rfl rfl rfl (fun hA => tz_conok hA rfl) rfl rfl rfl rfl (by decide) (tz_in0 rfl)).trans ?_
  refine congrArg (tz_C _) ?_
  refine tz_jI (fun y1 A1 => ?_)
  refine (tz_g_bipush (v := (-6)) rfl (tz_in0 rfl)).trans ?_
  refine (tz_g_ic_ne (t := 211) (by decide) (tz_in0 rfl)).trans ?_
  refine tz_cg ?_ ?_
  · skip
    refine (tz_g_iconst (v := 0) rfl (tz_in0 rfl)).trans ?_
    exact tz_g_ret4K (by decide) (tz_in0 rfl) rfl
  · skip
    refine (tz_g_aload_n rfl (tz_in0 rfl)).trans ?_
    refine (tz_g_sipush (v := 501) rfl (tz_in0 rfl)).trans ?_
    refine (tz_g_kv1I (m2 := 106) (rc := 1) rfl rfl rfl (fun hA => tz_conok hA rfl) rfl rfl rfl rfl (by decide) (tz_in0 rfl)).trans ?_
    refine congrArg (tz_C _) ?_
    refine tz_jI (fun y2 A2 => ?_)
    refine (tz_g_bipush (v := (-6)) rfl (tz_in0 rfl)).trans ?_
    refine (tz_g_ic_ne (t := 211) (by decide) (tz_in0 rfl)).trans ?_
    refine tz_cg ?_ ?_
    · skip
      refine (tz_g_iconst (v := 0) rfl (tz_in0 rfl)).trans ?_
      exact tz_g_ret4K (by decide) (tz_in0 rfl) rfl
    · skip
      refine (tz_g_aload_n rfl (tz_in0 rfl)).trans ?_
      refine (tz_g_aload_n rfl (tz_in0 rfl)).trans ?_
      refine (tz_g_iconst (v := 2) rfl (tz_in0 rfl)).trans ?_
      refine tz_gB (c := A2.1 ≤ 157) (fun q => tz_gx_iaload rfl (tz_in0 rfl) q) (fun hB1 => ?_)
      refine (tz_g_iald (n := 64) (by exact tz_okB hB1 rfl) rfl rfl (tz_in0 rfl)).trans ?_
      refine (if_neg (by decide)).trans ?_
      refine (tz_g_kv1I (m2 := 108) (rc := 1) rfl rfl rfl (fun hA => tz_conok hA rfl) rfl rfl rfl rfl (by decide) (tz_in0 rfl)).trans ?_
      refine congrArg (tz_C _) ?_
      refine tz_jI (fun y3 A3 => ?_)
      refine (tz_g_bipush (v := (-5)) rfl (tz_in0 rfl)).trans ?_
      refine (tz_g_ic_ne (t := 211) (by decide) (tz_in0 rfl)).trans ?_
      refine tz_cg ?_ ?_
      · skip
        refine (tz_g_iconst (v := 0) rfl (tz_in0 rfl)).trans ?_
        exact tz_g_ret4K (by decide) (tz_in0 rfl) rfl
      · skip
        refine (tz_g_aload_n rfl (tz_in0 rfl)).trans ?_
        refine (tz_g_bipush (v := 101) rfl (tz_in0 rfl)).trans ?_
        refine (tz_g_kv1I (m2 := 109) (rc := 1) rfl rfl rfl (fun hA => tz_conok hA rfl) rfl rfl rfl rfl (by decide) (tz_in0 rfl)).trans ?_
        refine congrArg (tz_C _) ?_
        refine tz_jI (fun y4 A4 => ?_)
        refine (tz_g_bipush (v := (-6)) rfl (tz_in0 rfl)).trans ?_
        refine (tz_g_ic_ne (t := 211) (by decide) (tz_in0 rfl)).trans ?_
        refine tz_cg ?_ ?_
        · skip
          refine (tz_g_iconst (v := 0) rfl (tz_in0 rfl)).trans ?_
          exact tz_g_ret4K (by decide) (tz_in0 rfl) rfl
        · skip
          refine (tz_g_aload_n rfl (tz_in0 rfl)).trans ?_
          refine (tz_g_sipush (v := 201) rfl (tz_in0 rfl)).trans ?_
          refine (tz_g_kv1I (m2 := 110) (rc := 1) rfl rfl rfl (fun hA => tz_conok hA rfl) rfl rfl rfl rfl (by decide) (tz_in0 rfl)).trans ?_
          refine congrArg (tz_C _) ?_
          refine tz_jI (fun y5 A5 => ?_)
          refine (tz_g_bipush (v := (-6)) rfl (tz_in0 rfl)).trans ?_
          refine (tz_g_ic_ne (t := 211) (by decide) (tz_in0 rfl)).trans ?_
          refine tz_cg ?_ ?_
          · skip
            refine (tz_g_iconst (v := 0) rfl (tz_in0 rfl)).trans ?_
            exact tz_g_ret4K (by decide) (tz_in0 rfl) rfl
          · skip
            refine (tz_g_aload_n rfl (tz_in0 rfl)).trans ?_
            refine (tz_g_bipush (v := 7) rfl (tz_in0 rfl)).trans ?_
            refine (tz_g_iconst (v := 0) rfl (tz_in0 rfl)).trans ?_
            refine (tz_g_kv2I (m2 := 26) (rc := 1) rfl rfl rfl (fun hA => tz_conok hA rfl) rfl rfl rfl rfl (by decide) (tz_in0 rfl)).trans ?_
            refine congrArg (tz_C _) ?_
            refine tz_jI (fun y6 A6 => ?_)
            refine (tz_g_iconst (v := (-1)) rfl (tz_in0 rfl)).trans ?_
            refine (tz_g_ic_ne (t := 211) (by decide) (tz_in0 rfl)).trans ?_
            refine tz_cg ?_ ?_
            · skip
              refine (tz_g_iconst (v := 0) rfl (tz_in0 rfl)).trans ?_
              exact tz_g_ret4K (by decide) (tz_in0 rfl) rfl
            · skip
              refine (tz_g_aload_n rfl (tz_in0 rfl)).trans ?_
              refine (tz_g_iconst (v := 0) rfl (tz_in0 rfl)).trans ?_
              refine (tz_g_iload rfl (tz_in0 rfl)).trans ?_
              refine (tz_g_iconst (v := 0) rfl (tz_in0 rfl)).trans ?_
              refine (tz_g_iconst (v := 1) rfl (tz_in0 rfl)).trans ?_
              refine (tz_g_kv4I (m2 := 38) (rc := 1) rfl rfl rfl (fun hA => tz_conok hA rfl) rfl rfl rfl rfl (by decide) (tz_in0 rfl)).trans ?_
              refine congrArg (tz_C _) ?_
              refine tz_jI (fun y7 A7 => ?_)
              refine (tz_g_iconst (v := (-1)) rfl (tz_in0 rfl)).trans ?_
              refine (tz_g_ic_ne (t := 211) (by decide) (tz_in0 rfl)).trans ?_
              refine tz_cg ?_ ?_
              · skip
                refine (tz_g_iconst (v := 0) rfl (tz_in0 rfl)).trans ?_
                exact tz_g_ret4K (by decide) (tz_in0 rfl) rfl
              · skip
                refine (tz_g_aload_n rfl (tz_in0 rfl)).trans ?_
                refine (tz_g_iconst (v := 5) rfl (tz_in0 rfl)).trans ?_
                refine (tz_g_kv1I (m2 := 53) (rc := 1) rfl rfl rfl (fun hA => tz_conok hA rfl) rfl rfl rfl rfl (by decide) (tz_in0 rfl)).trans ?_
                refine congrArg (tz_C _) ?_
                refine tz_jI (fun y8 A8 => ?_)
                refine (tz_g_bipush (v := (-3)) rfl (tz_in0 rfl)).trans ?_
                refine (tz_g_ic_ne (t := 211) (by decide) (tz_in0 rfl)).trans ?_
                refine tz_cg ?_ ?_
                · skip
                  refine (tz_g_iconst (v := 0) rfl (tz_in0 rfl)).trans ?_
                  exact tz_g_ret4K (by decide) (tz_in0 rfl) rfl
                · skip
                  refine (tz_g_aload_n rfl (tz_in0 rfl)).trans ?_
                  refine (tz_g_ks1L (m2 := 131) (rc := 2) rfl rfl rfl rfl rfl rfl (by decide) (tz_in0 rfl)).trans ?_
                  refine congrArg (tz_C _) ?_
                  refine tz_jL (fun y9 A9 => ?_)
                  refine (tz_g_lload rfl (tz_in0 rfl)).trans ?_
                  refine (tz_g_lcmp (tz_in0 rfl)).trans ?_
                  refine (tz_g_if_eq (t := 213) (by decide) (tz_in0 rfl)).trans ?_
                  refine tz_cg ?_ ?_
                  · skip
                    exact tz_Gm (L2 := [some (.ref 0), some (.ref 17), some (.ref 157), none, some (.int z4), some (.long z5), none, none, none, none, none, none, none, none, none, none, none, none, none, none, none]) rfl rfl rfl rfl
                  · skip
                    refine (tz_g_iconst (v := 0) rfl (tz_in0 rfl)).trans ?_
                    exact tz_g_ret4K (by decide) (tz_in0 rfl) rfl

theorem e_L_law_213 (z4 : Int32) (z5 : Int64) (A : tz_Mem) : q_L_law_213 z4 z5 A =
  tz_C A (tz_bI (f_X11_row 5 0 3 A) (fun y1 A1 =>
if ¬ y1 = 1 then
  some (some (.int 0), A1)
else
  tz_C A1 (tz_bI (f_X11_set 5 0 98 A1) (fun y2 A2 =>
  if ¬ y2 = 1 then
    some (some (.int 0), A2)
  else
    tz_C A2 (tz_bI (f_X11_sky 5 A2) (fun y3 A3 =>
    if ¬ y3 = (-6) then
      some (some (.int 0), A3)
    else
      tz_C A3 (tz_bI (f_X11_fault A3) (fun y4 A4 =>
      if ¬ y4 = 1 then
        some (some (.int 0), A4)
      else
        tz_C A4 (tz_bI (f_X11_storm 5 2 1 1 1 A4) (fun y5 A5 =>
        if ¬ y5 = (-6) then
          some (some (.int 0), A5)
        else
          tz_C A5 (tz_bL (f_L_told A5) (fun y6 A6 =>
          if (lg_cmp y6 z5) = 0 then
            q_L_law_281 z4 z5 A6
          else
            some (some (.int 0), A6))))))))))))) := by
  show tz_Go 142 213 [some (.ref 0), some (.ref 17), some (.ref 157), none, some (.int z4), some (.long z5), none, none, none, none, none, none, none, none, none, none, none, none, none, none, none] [] A = _
  refine (tz_g_aload_n rfl (tz_inM rfl rfl rfl)).trans ?_
  refine (tz_g_iconst (v := 5) rfl (tz_in0 rfl)).trans ?_
  refine (tz_g_iconst (v := 0) rfl (tz_in0 rfl)).trans ?_
  refine (tz_g_iconst (v := 3) rfl (tz_in0 rfl)).trans ?_
  refine (tz_g_kv3I (m2 := 13) (rc := 1) rfl rfl rfl (fun hA => tz_conok hA rfl) rfl rfl rfl rfl (by decide) (tz_in0 rfl)).trans ?_
  refine congrArg (tz_C _) ?_
  refine tz_jI (fun y1 A1 => ?_)
  refine (tz_g_iconst (v := 1) rfl (tz_in0 rfl)).trans ?_
  refine (tz_g_ic_ne (t := 279) (by decide) (tz_in0 rfl)).trans ?_
  refine tz_cg ?_ ?_
  · skip
    refine (tz_g_iconst (v := 0) rfl (tz_in0 rfl)).trans ?_
    exact tz_g_ret4K (by decide) (tz_in0 rfl) rfl
  · skip
    refine (tz_g_aload_n rfl (tz_in0 rfl)).trans ?_
    refine (tz_g_iconst (v := 5) rfl (tz_in0 rfl)).trans ?_
    refine (tz_g_iconst (v := 0) rfl (tz_in0 rfl)).trans ?_
    refine (tz_g_ldc2_w (v := 98) rfl rfl (tz_in0 rfl)).trans ?_
    refine (tz_g_kv3I (m2 := 18) (rc := 1) rfl rfl rfl (fun hA => tz_conok hA rfl) rfl rfl rfl rfl (by decide) (tz_in0 rfl)).trans ?_
    refine congrArg (tz_C _) ?_
    refine tz_jI (fun y2 A2 => ?_)
    refine (tz_g_iconst (v := 1) rfl (tz_in0 rfl)).trans ?_
    refine (tz_g_ic_ne (t := 279) (by decide) (tz_in0 rfl)).trans ?_
    refine tz_cg ?_ ?_
    · skip
      refine (tz_g_iconst (v := 0) rfl (tz_in0 rfl)).trans ?_
      exact tz_g_ret4K (by decide) (tz_in0 rfl) rfl
    · skip
      refine (tz_g_aload_n rfl (tz_in0 rfl)).trans ?_
      refine (tz_g_iconst (v := 5) rfl (tz_in0 rfl)).trans ?_
      refine (tz_g_kv1I (m2 := 53) (rc := 1) rfl rfl rfl (fun hA => tz_conok hA rfl) rfl rfl rfl rfl (by decide) (tz_in0 rfl)).trans ?_
      refine congrArg (tz_C _) ?_
      refine tz_jI (fun y3 A3 => ?_)
      refine (tz_g_bipush (v := (-6)) rfl (tz_in0 rfl)).trans ?_
      refine (tz_g_ic_ne (t := 279) (by decide) (tz_in0 rfl)).trans ?_
      refine tz_cg ?_ ?_
      · skip
        refine (tz_g_iconst (v := 0) rfl (tz_in0 rfl)).trans ?_
        exact tz_g_ret4K (by decide) (tz_in0 rfl) rfl
      · skip
        refine (tz_g_aload_n rfl (tz_in0 rfl)).trans ?_
        refine (tz_g_kv0I (m2 := 96) (rc := 1) rfl rfl rfl (fun hA => tz_conok hA rfl) rfl rfl rfl rfl (by decide) (tz_in0 rfl)).trans ?_
        refine congrArg (tz_C _) ?_
        refine tz_jI (fun y4 A4 => ?_)
        refine (tz_g_iconst (v := 1) rfl (tz_in0 rfl)).trans ?_
        refine (tz_g_ic_ne (t := 279) (by decide) (tz_in0 rfl)).trans ?_
        refine tz_cg ?_ ?_
        · skip
          refine (tz_g_iconst (v := 0) rfl (tz_in0 rfl)).trans ?_
          exact tz_g_ret4K (by decide) (tz_in0 rfl) rfl
        · skip
          refine (tz_g_aload_n rfl (tz_in0 rfl)).trans ?_
          refine (tz_g_iconst (v := 5) rfl (tz_in0 rfl)).trans ?_
          refine (tz_g_iconst (v := 2) rfl (tz_in0 rfl)).trans ?_
          refine (tz_g_iconst (v := 1) rfl (tz_in0 rfl)).trans ?_
          refine (tz_g_iconst (v := 1) rfl (tz_in0 rfl)).trans ?_
          refine (tz_g_iconst (v := 1) rfl (tz_in0 rfl)).trans ?_
          refine (tz_g_kv5I (m2 := 30) (rc := 1) rfl rfl rfl (fun hA => tz_conok hA rfl) rfl rfl rfl rfl (by decide) (tz_in0 rfl)).trans ?_
          refine congrArg (tz_C _) ?_
          refine tz_jI (fun y5 A5 => ?_)
          refine (tz_g_bipush (v := (-6)) rfl (tz_in0 rfl)).trans ?_
          refine (tz_g_ic_ne (t := 279) (by decide) (tz_in0 rfl)).trans ?_
          refine tz_cg ?_ ?_
          · skip
            refine (tz_g_iconst (v := 0) rfl (tz_in0 rfl)).trans ?_
            exact tz_g_ret4K (by decide) (tz_in0 rfl) rfl
          · skip
            refine (tz_g_aload_n rfl (tz_in0 rfl)).trans ?_
            refine (tz_g_ks1L (m2 := 131) (rc := 2) rfl rfl rfl rfl rfl rfl (by decide) (tz_in0 rfl)).trans ?_
            refine congrArg (tz_C _) ?_
            refine tz_jL (fun y6 A6 => ?_)
            refine (tz_g_lload rfl (tz_in0 rfl)).trans ?_
            refine (tz_g_lcmp (tz_in0 rfl)).trans ?_
            refine (tz_g_if_eq (t := 281) (by decide) (tz_in0 rfl)).trans ?_
            refine tz_cg ?_ ?_
            · skip
              exact tz_Gm (L2 := [some (.ref 0), some (.ref 17), some (.ref 157), none, some (.int z4), some (.long z5), none, none, none, none, none, none, none, none, none, none, none, none, none, none, none]) rfl rfl rfl rfl
            · skip
              refine (tz_g_iconst (v := 0) rfl (tz_in0 rfl)).trans ?_
              exact tz_g_ret4K (by decide) (tz_in0 rfl) rfl

theorem e_L_law_281 (z4 : Int32) (z5 : Int64) (A : tz_Mem) : q_L_law_281 z4 z5 A =
  if A.1 ≤ 157 then none else
tz_C A (tz_bI (f_X11_status 3 A) (fun y1 A1 =>
tz_C A1 (tz_bI (f_L_at 26 A1) (fun y2 A2 =>
if A2.1 ≤ 157 then none else
tz_C A2 (tz_bI (f_L_some y2 (if 1 < (tz_g A2 157 2) then (tz_g A2 157 2) else 1) A2) (fun y3 A3 =>
if A3.1 ≤ 157 then none else
if (tz_g A3 157 2) ≤ 0 then
  q_L_law_329 z4 z5 (tz_g A 157 3) y1 y3 (-1) A3
else
  tz_C A3 (tz_bI (f_X11_arrives y3 A3) (fun y4 A4 =>
  q_L_law_329 z4 z5 (tz_g A 157 3) y1 y3 y4 A4)))))))) := by
  show tz_Go 142 281 [some (.ref 0), some (.ref 17), some (.ref 157), none, some (.int z4), some (.long z5), none, none, none, none, none, none, none, none, none, none, none, none, none, none, none] [] A = _
  refine (tz_g_aload_n rfl (tz_inM rfl rfl rfl)).trans ?_
  refine (tz_g_iconst (v := 3) rfl (tz_in0 rfl)).trans ?_
  refine tz_gB (c := A.1 ≤ 157) (fun q => tz_gx_iaload rfl (tz_in0 rfl) q) (fun hB2 => ?_)
  refine (tz_g_iald (n := 64) (by exact tz_okB hB2 rfl) rfl rfl (tz_in0 rfl)).trans ?_
  refine (if_neg (by decide)).trans ?_
  refine (tz_g_istore (L2 := [some (.ref 0), some (.ref 17), some (.ref 157), none, some (.int z4), some (.long z5), none, some (.int (tz_g A 157 3)), none, none, none, none, none, none, none, none, none, none, none, none, none]) rfl rfl (tz_in0 rfl)).trans ?_
  refine (tz_g_aload_n rfl (tz_in0 rfl)).trans ?_
  refine (tz_g_iconst (v := 3) rfl (tz_in0 rfl)).trans ?_
  refine (tz_g_kv1I (m2 := 117) (rc := 1) rfl rfl rfl (fun hA => tz_conok hA rfl) rfl rfl rfl rfl (by decide) (tz_in0 rfl)).trans ?_
  refine congrArg (tz_C _) ?_
  refine tz_jI (fun y1 A1 => ?_)
  refine (tz_g_istore (L2 := [some (.ref 0), some (.ref 17), some (.ref 157), none, some (.int z4), some (.long z5), none, some (.int (tz_g A 157 3)), some (.int y1), none, none, none, none, none, none, none, none, none, none, none, none]) rfl rfl (tz_in0 rfl)).trans ?_
  refine (tz_g_aload_n rfl (tz_in0 rfl)).trans ?_
  refine (tz_g_bipush (v := 26) rfl (tz_in0 rfl)).trans ?_
  refine (tz_g_ks2I (m2 := 119) (rc := 1) rfl rfl rfl rfl rfl rfl (by decide) (tz_in0 rfl)).trans ?_
  refine congrArg (tz_C _) ?_
  refine tz_jI (fun y2 A2 => ?_)
  refine (tz_g_iconst (v := 1) rfl (tz_in0 rfl)).trans ?_
  refine (tz_g_aload_n rfl (tz_in0 rfl)).trans ?_
  refine (tz_g_iconst (v := 2) rfl (tz_in0 rfl)).trans ?_
  refine tz_gB (c := A2.1 ≤ 157) (fun q => tz_gx_iaload rfl (tz_in0 rfl) q) (fun hB3 => ?_)
  refine (tz_g_iald (n := 64) (by exact tz_okB hB3 rfl) rfl rfl (tz_in0 rfl)).trans ?_
  refine (if_neg (by decide)).trans ?_
  refine (tz_g_max rfl rfl rfl (tz_in0 rfl)).trans ?_
  refine (tz_g_ks2I (m2 := 120) (rc := 1) rfl rfl rfl rfl rfl rfl (by decide) (tz_in0 rfl)).trans ?_
  refine congrArg (tz_C _) ?_
  refine tz_jI (fun y3 A3 => ?_)
  refine (tz_g_istore (L2 := [some (.ref 0), some (.ref 17), some (.ref 157), none, some (.int z4), some (.long z5), none, some (.int (tz_g A 157 3)), some (.int y1), some (.int y3), none, none, none, none, none, none, none, none, none, none, none]) rfl rfl (tz_in0 rfl)).trans ?_
  refine (tz_g_aload_n rfl (tz_in0 rfl)).trans ?_
  refine (tz_g_iconst (v := 2) rfl (tz_in0 rfl)).trans ?_
  refine tz_gB (c := A3.1 ≤ 157) (fun q => tz_gx_iaload rfl (tz_in0 rfl) q) (fun hB4 => ?_)
  refine (tz_g_iald (n := 64) (by exact tz_okB hB4 rfl) rfl rfl (tz_in0 rfl)).trans ?_
  refine (if_neg (by decide)).trans ?_
  refine (tz_g_if_le (t := 326) (by decide) (tz_in0 rfl)).trans ?_
  refine tz_cg ?_ ?_
  · skip
    refine (tz_g_iconst (v := (-1)) rfl (tz_in0 rfl)).trans ?_
    refine (tz_g_istore (L2 := [some (.ref 0), some (.ref 17), some (.ref 157), none, some (.int z4), some (.long z5), none, some (.int (tz_g A 157 3)), some (.int y1), some (.int y3), some (.int (-1)), none, none, none, none, none, none, none, none, none, none]) rfl rfl (tz_in0 rfl)).trans ?_
    exact tz_Gm (L2 := [some (.ref 0), some (.ref 17), some (.ref 157), none, some (.int z4), some (.long z5), none, some (.int (tz_g A 157 3)), some (.int y1), some (.int y3), some (.int (-1)), none, none, none, none, none, none, none, none, none, none]) rfl rfl rfl rfl
  · skip
    refine (tz_g_aload_n rfl (tz_in0 rfl)).trans ?_
    refine (tz_g_iload rfl (tz_in0 rfl)).trans ?_
    refine (tz_g_kv1I (m2 := 100) (rc := 1) rfl rfl rfl (fun hA => tz_conok hA rfl) rfl rfl rfl rfl (by decide) (tz_in0 rfl)).trans ?_
    refine congrArg (tz_C _) ?_
    refine tz_jI (fun y4 A4 => ?_)
    refine (tz_g_goto (t := 327) (by decide) (tz_in0 rfl)).trans ?_
    refine (tz_g_istore (L2 := [some (.ref 0), some (.ref 17), some (.ref 157), none, some (.int z4), some (.long z5), none, some (.int (tz_g A 157 3)), some (.int y1), some (.int y3), some (.int y4), none, none, none, none, none, none, none, none, none, none]) rfl rfl (tz_in0 rfl)).trans ?_
    exact tz_Gm (L2 := [some (.ref 0), some (.ref 17), some (.ref 157), none, some (.int z4), some (.long z5), none, some (.int (tz_g A 157 3)), some (.int y1), some (.int y3), some (.int y4), none, none, none, none, none, none, none, none, none, none]) rfl rfl rfl rfl

theorem e_L_law_329 (z4 : Int32) (z5 : Int64) (z7 : Int32) (z8 : Int32) (z9 : Int32) (z10 : Int32) (A : tz_Mem) : q_L_law_329 z4 z5 z7 z8 z9 z10 A =
  tz_C A (tz_bI (f_X11_postage A) (fun y1 A1 =>
q_L_law_338 z4 z5 z7 z8 z9 z10 y1 0 A1)) := by
  show tz_Go 142 329 [some (.ref 0), some (.ref 17), some (.ref 157), none, some (.int z4), some (.long z5), none, some (.int z7), some (.int z8), some (.int z9), some (.int z10), none, none, none, none, none, none, none, none, none, none] [] A = _
  refine (tz_g_aload_n rfl (tz_inM rfl rfl rfl)).trans ?_
  refine (tz_g_kv0I (m2 := 105) (rc := 1) rfl rfl rfl (fun hA => tz_conok hA rfl) rfl rfl rfl rfl (by decide) (tz_in0 rfl)).trans ?_
  refine congrArg (tz_C _) ?_
  refine tz_jI (fun y1 A1 => ?_)
  refine (tz_g_istore (L2 := [some (.ref 0), some (.ref 17), some (.ref 157), none, some (.int z4), some (.long z5), none, some (.int z7), some (.int z8), some (.int z9), some (.int z10), some (.int y1), none, none, none, none, none, none, none, none, none]) rfl rfl (tz_in0 rfl)).trans ?_
  refine (tz_g_iconst (v := 0) rfl (tz_in0 rfl)).trans ?_
  refine (tz_g_istore (L2 := [some (.ref 0), some (.ref 17), some (.ref 157), none, some (.int z4), some (.long z5), none, some (.int z7), some (.int z8), some (.int z9), some (.int z10), some (.int y1), some (.int 0), none, none, none, none, none, none, none, none]) rfl rfl (tz_in0 rfl)).trans ?_
  exact tz_Gm (L2 := [some (.ref 0), some (.ref 17), some (.ref 157), none, some (.int z4), some (.long z5), none, some (.int z7), some (.int z8), some (.int z9), some (.int z10), some (.int y1), some (.int 0), none, none, none, none, none, none, none, none]) rfl rfl rfl rfl

theorem e_L_law_338 (z4 : Int32) (z5 : Int64) (z7 : Int32) (z8 : Int32) (z9 : Int32) (z10 : Int32) (z11 : Int32) (z12 : Int32) (A : tz_Mem) : q_L_law_338 z4 z5 z7 z8 z9 z10 z11 z12 A =
  if 25 ≤ z12 then
  if A.1 ≤ 157 then none else
  if (tz_g A 157 2) ≤ 0 then
    q_L_law_685 z4 z5 z9 z10 z11 A
  else
    if z10 < 0 then
      q_L_law_685 z4 z5 z9 z10 z11 A
    else
      if (z7 + 25) < z10 then
        q_L_law_685 z4 z5 z9 z10 z11 A
      else
        tz_C A (tz_bI (f_X11_letterOf z9 5 A) (fun y1 A1 =>
        if ¬ y1 = z10 then
          some (some (.int 0), A1)
        else
          q_L_law_685 z4 z5 z9 z10 z11 A1))
else
  if A.1 ≤ 157 then none else
  if (tz_g A 157 2) ≤ 0 then
    q_L_law_365 z4 z5 z7 z8 z9 z10 z11 z12 0 A
  else
    tz_C A (tz_bI (f_X11_behind z9 1 0 A) (fun y1 A1 =>
    q_L_law_365 z4 z5 z7 z8 z9 z10 z11 z12 y1 A1)) := by
  show tz_Go 142 338 [some (.ref 0), some (.ref 17), some (.ref 157), none, some (.int z4), some (.long z5), none, some (.int z7), some (.int z8), some (.int z9), some (.int z10), some (.int z11), some (.int z12), none, none, none, none, none, none, none, none] [] A = _
  refine (tz_g_iload rfl (tz_inM rfl rfl rfl)).trans ?_
  refine (tz_g_bipush (v := 25) rfl (tz_in0 rfl)).trans ?_
  refine (tz_g_ic_ge (t := 652) (by decide) (tz_in0 rfl)).trans ?_
  refine tz_cg ?_ ?_
  · skip
    refine (tz_g_aload_n rfl (tz_in0 rfl)).trans ?_
    refine (tz_g_iconst (v := 2) rfl (tz_in0 rfl)).trans ?_
    refine tz_gB (c := A.1 ≤ 157) (fun q => tz_gx_iaload rfl (tz_in0 rfl) q) (fun hB5 => ?_)
    refine (tz_g_iald (n := 64) (by exact tz_okB hB5 rfl) rfl rfl (tz_in0 rfl)).trans ?_
    refine (if_neg (by decide)).trans ?_
    refine (tz_g_if_le (t := 685) (by decide) (tz_in0 rfl)).trans ?_
    refine tz_cg ?_ ?_
    · skip
      exact tz_Gm (L2 := [some (.ref 0), some (.ref 17), some (.ref 157), none, some (.int z4), some (.long z5), none, none, none, some (.int z9), some (.int z10), some (.int z11), none, none, none, none, none, none, none, none, none]) rfl rfl rfl rfl
    · skip
      refine (tz_g_iload rfl (tz_in0 rfl)).trans ?_
      refine (tz_g_if_lt (t := 685) (by decide) (tz_in0 rfl)).trans ?_
      refine tz_cg ?_ ?_
      · skip
        exact tz_Gm (L2 := [some (.ref 0), some (.ref 17), some (.ref 157), none, some (.int z4), some (.long z5), none, none, none, some (.int z9), some (.int z10), some (.int z11), none, none, none, none, none, none, none, none, none]) rfl rfl rfl rfl
      · skip
        refine (tz_g_iload rfl (tz_in0 rfl)).trans ?_
        refine (tz_g_iload rfl (tz_in0 rfl)).trans ?_
        refine (tz_g_bipush (v := 25) rfl (tz_in0 rfl)).trans ?_
        refine (tz_g_iadd (tz_in0 rfl)).trans ?_
        refine (tz_g_ic_gt (t := 685) (by decide) (tz_in0 rfl)).trans ?_
        refine tz_cg ?_ ?_
        · skip
          exact tz_Gm (L2 := [some (.ref 0), some (.ref 17), some (.ref 157), none, some (.int z4), some (.long z5), none, none, none, some (.int z9), some (.int z10), some (.int z11), none, none, none, none, none, none, none, none, none]) rfl rfl rfl rfl
        · skip
          refine (tz_g_aload_n rfl (tz_in0 rfl)).trans ?_
          refine (tz_g_iload rfl (tz_in0 rfl)).trans ?_
          refine (tz_g_iconst (v := 5) rfl (tz_in0 rfl)).trans ?_
          refine (tz_g_kv2I (m2 := 51) (rc := 1) rfl rfl rfl (fun hA => tz_conok hA rfl) rfl rfl rfl rfl (by decide) (tz_in0 rfl)).trans ?_
          refine congrArg (tz_C _) ?_
          refine tz_jI (fun y1 A1 => ?_)
          refine (tz_g_iload rfl (tz_in0 rfl)).trans ?_
          refine (tz_g_ic_ne (t := 713) (by decide) (tz_in0 rfl)).trans ?_
          refine tz_cg ?_ ?_
          · skip
            refine (tz_g_iconst (v := 0) rfl (tz_in0 rfl)).trans ?_
            exact tz_g_ret4K (by decide) (tz_in0 rfl) rfl
          · skip
            exact tz_Gm (L2 := [some (.ref 0), some (.ref 17), some (.ref 157), none, some (.int z4), some (.long z5), none, none, none, some (.int z9), some (.int z10), some (.int z11), none, none, none, none, none, none, none, none, none]) rfl rfl rfl rfl
  · skip
    refine (tz_g_aload_n rfl (tz_in0 rfl)).trans ?_
    refine (tz_g_iconst (v := 2) rfl (tz_in0 rfl)).trans ?_
    refine tz_gB (c := A.1 ≤ 157) (fun q => tz_gx_iaload rfl (tz_in0 rfl) q) (fun hB6 => ?_)
    refine (tz_g_iald (n := 64) (by exact tz_okB hB6 rfl) rfl rfl (tz_in0 rfl)).trans ?_
    refine (if_neg (by decide)).trans ?_
    refine (tz_g_if_le (t := 362) (by decide) (tz_in0 rfl)).trans ?_
    refine tz_cg ?_ ?_
    · skip
      refine (tz_g_iconst (v := 0) rfl (tz_in0 rfl)).trans ?_
      refine (tz_g_istore (L2 := [some (.ref 0), some (.ref 17), some (.ref 157), none, some (.int z4), some (.long z5), none, some (.int z7), some (.int z8), some (.int z9), some (.int z10), some (.int z11), some (.int z12), some (.int 0), none, none, none, none, none, none, none]) rfl rfl (tz_in0 rfl)).trans ?_
      exact tz_Gm (L2 := [some (.ref 0), some (.ref 17), some (.ref 157), none, some (.int z4), some (.long z5), none, some (.int z7), some (.int z8), some (.int z9), some (.int z10), some (.int z11), some (.int z12), some (.int 0), none, none, none, none, none, none, none]) rfl rfl rfl rfl
    · skip
      refine (tz_g_aload_n rfl (tz_in0 rfl)).trans ?_
      refine (tz_g_iload rfl (tz_in0 rfl)).trans ?_
      refine (tz_g_iconst (v := 1) rfl (tz_in0 rfl)).trans ?_
      refine (tz_g_iconst (v := 0) rfl (tz_in0 rfl)).trans ?_
      refine (tz_g_kv3I (m2 := 97) (rc := 1) rfl rfl rfl (fun hA => tz_conok hA rfl) rfl rfl rfl rfl (by decide) (tz_in0 rfl)).trans ?_
      refine congrArg (tz_C _) ?_
      refine tz_jI (fun y1 A1 => ?_)
      refine (tz_g_goto (t := 363) (by decide) (tz_in0 rfl)).trans ?_
      refine (tz_g_istore (L2 := [some (.ref 0), some (.ref 17), some (.ref 157), none, some (.int z4), some (.long z5), none, some (.int z7), some (.int z8), some (.int z9), some (.int z10), some (.int z11), some (.int z12), some (.int y1), none, none, none, none, none, none, none]) rfl rfl (tz_in0 rfl)).trans ?_
      exact tz_Gm (L2 := [some (.ref 0), some (.ref 17), some (.ref 157), none, some (.int z4), some (.long z5), none, some (.int z7), some (.int z8), some (.int z9), some (.int z10), some (.int z11), some (.int z12), some (.int y1), none, none, none, none, none, none, none]) rfl rfl rfl rfl

theorem e_L_law_685 (z4 : Int32) (z5 : Int64) (z9 : Int32) (z10 : Int32) (z11 : Int32) (A : tz_Mem) : q_L_law_685 z4 z5 z9 z10 z11 A =
  if A.1 ≤ 157 then none else
if (tz_g A 157 2) ≤ 0 then
  q_L_law_715 z4 z5 z9 z11 A
else
  tz_C A (tz_bI (f_X11_letterOf z9 5 A) (fun y1 A1 =>
  if y1 < 0 then
    q_L_law_715 z4 z5 z9 z11 A1
  else
    tz_C A1 (tz_bI (f_X11_letterOf z9 5 A1) (fun y2 A2 =>
    if y2 = z10 then
      q_L_law_715 z4 z5 z9 z11 A2
    else
      some (some (.int 0), A2))))) := by
  show tz_Go 142 685 [some (.ref 0), some (.ref 17), some (.ref 157), none, some (.int z4), some (.long z5), none, none, none, some (.int z9), some (.int z10), some (.int z11), none, none, none, none, none, none, none, none, none] [] A = _
  refine (tz_g_aload_n rfl (tz_inM rfl rfl rfl)).trans ?_
  refine (tz_g_iconst (v := 2) rfl (tz_in0 rfl)).trans ?_
  refine tz_gB (c := A.1 ≤ 157) (fun q => tz_gx_iaload rfl (tz_in0 rfl) q) (fun hB7 => ?_)
  refine (tz_g_iald (n := 64) (by exact tz_okB hB7 rfl) rfl rfl (tz_in0 rfl)).trans ?_
  refine (if_neg (by decide)).trans ?_
  refine (tz_g_if_le (t := 715) (by decide) (tz_in0 rfl)).trans ?_
  refine tz_cg ?_ ?_
  · skip
    exact tz_Gm (L2 := [some (.ref 0), some (.ref 17), some (.ref 157), none, some (.int z4), some (.long z5), none, none, none, some (.int z9), none, some (.int z11), none, none, none, none, none, none, none, none, none]) rfl rfl rfl rfl
  · skip
    refine (tz_g_aload_n rfl (tz_in0 rfl)).trans ?_
    refine (tz_g_iload rfl (tz_in0 rfl)).trans ?_
    refine (tz_g_iconst (v := 5) rfl (tz_in0 rfl)).trans ?_
    refine (tz_g_kv2I (m2 := 51) (rc := 1) rfl rfl rfl (fun hA => tz_conok hA rfl) rfl rfl rfl rfl (by decide) (tz_in0 rfl)).trans ?_
    refine congrArg (tz_C _) ?_
    refine tz_jI (fun y1 A1 => ?_)
    refine (tz_g_if_lt (t := 715) (by decide) (tz_in0 rfl)).trans ?_
    refine tz_cg ?_ ?_
    · skip
      exact tz_Gm (L2 := [some (.ref 0), some (.ref 17), some (.ref 157), none, some (.int z4), some (.long z5), none, none, none, some (.int z9), none, some (.int z11), none, none, none, none, none, none, none, none, none]) rfl rfl rfl rfl
    · skip
      refine (tz_g_aload_n rfl (tz_in0 rfl)).trans ?_
      refine (tz_g_iload rfl (tz_in0 rfl)).trans ?_
      refine (tz_g_iconst (v := 5) rfl (tz_in0 rfl)).trans ?_
      refine (tz_g_kv2I (m2 := 51) (rc := 1) rfl rfl rfl (fun hA => tz_conok hA rfl) rfl rfl rfl rfl (by decide) (tz_in0 rfl)).trans ?_
      refine congrArg (tz_C _) ?_
      refine tz_jI (fun y2 A2 => ?_)
      refine (tz_g_iload rfl (tz_in0 rfl)).trans ?_
      refine (tz_g_ic_eq (t := 715) (by decide) (tz_in0 rfl)).trans ?_
      refine tz_cg ?_ ?_
      · skip
        exact tz_Gm (L2 := [some (.ref 0), some (.ref 17), some (.ref 157), none, some (.int z4), some (.long z5), none, none, none, some (.int z9), none, some (.int z11), none, none, none, none, none, none, none, none, none]) rfl rfl rfl rfl
      · skip
        refine (tz_g_iconst (v := 0) rfl (tz_in0 rfl)).trans ?_
        exact tz_g_ret4K (by decide) (tz_in0 rfl) rfl

theorem e_L_law_365 (z4 : Int32) (z5 : Int64) (z7 : Int32) (z8 : Int32) (z9 : Int32) (z10 : Int32) (z11 : Int32) (z12 : Int32) (z13 : Int32) (A : tz_Mem) : q_L_law_365 z4 z5 z7 z8 z9 z10 z11 z12 z13 A =
  if A.1 ≤ 157 then none else
if (tz_g A 157 2) ≤ 0 then
  q_L_law_385 z4 z5 z7 z8 z9 z10 z11 z12 z13 0 A
else
  tz_C A (tz_bI (f_X11_behind z9 1 1 A) (fun y1 A1 =>
  q_L_law_385 z4 z5 z7 z8 z9 z10 z11 z12 z13 y1 A1)) := by
  show tz_Go 142 365 [some (.ref 0), some (.ref 17), some (.ref 157), none, some (.int z4), some (.long z5), none, some (.int z7), some (.int z8), some (.int z9), some (.int z10), some (.int z11), some (.int z12), some (.int z13), none, none, none, none, none, none, none] [] A = _
  refine (tz_g_aload_n rfl (tz_inM rfl rfl rfl)).trans ?_
  refine (tz_g_iconst (v := 2) rfl (tz_in0 rfl)).trans ?_
  refine tz_gB (c := A.1 ≤ 157) (fun q => tz_gx_iaload rfl (tz_in0 rfl) q) (fun hB8 => ?_)
  refine (tz_g_iald (n := 64) (by exact tz_okB hB8 rfl) rfl rfl (tz_in0 rfl)).trans ?_
  refine (if_neg (by decide)).trans ?_
  refine (tz_g_if_le (t := 382) (by decide) (tz_in0 rfl)).trans ?_
  refine tz_cg ?_ ?_
  · skip
    refine (tz_g_iconst (v := 0) rfl (tz_in0 rfl)).trans ?_
    refine (tz_g_istore (L2 := [some (.ref 0), some (.ref 17), some (.ref 157), none, some (.int z4), some (.long z5), none, some (.int z7), some (.int z8), some (.int z9), some (.int z10), some (.int z11), some (.int z12), some (.int z13), some (.int 0), none, none, none, none, none, none]) rfl rfl (tz_in0 rfl)).trans ?_
    exact tz_Gm (L2 := [some (.ref 0), some (.ref 17), some (.ref 157), none, some (.int z4), some (.long z5), none, some (.int z7), some (.int z8), some (.int z9), some (.int z10), some (.int z11), some (.int z12), some (.int z13), some (.int 0), none, none, none, none, none, none]) rfl rfl rfl rfl
  · skip
    refine (tz_g_aload_n rfl (tz_in0 rfl)).trans ?_
    refine (tz_g_iload rfl (tz_in0 rfl)).trans ?_
    refine (tz_g_iconst (v := 1) rfl (tz_in0 rfl)).trans ?_
    refine (tz_g_iconst (v := 1) rfl (tz_in0 rfl)).trans ?_
    refine (tz_g_kv3I (m2 := 97) (rc := 1) rfl rfl rfl (fun hA => tz_conok hA rfl) rfl rfl rfl rfl (by decide) (tz_in0 rfl)).trans ?_
    refine congrArg (tz_C _) ?_
    refine tz_jI (fun y1 A1 => ?_)
    refine (tz_g_goto (t := 383) (by decide) (tz_in0 rfl)).trans ?_
    refine (tz_g_istore (L2 := [some (.ref 0), some (.ref 17), some (.ref 157), none, some (.int z4), some (.long z5), none, some (.int z7), some (.int z8), some (.int z9), some (.int z10), some (.int z11), some (.int z12), some (.int z13), some (.int y1), none, none, none, none, none, none]) rfl rfl (tz_in0 rfl)).trans ?_
    exact tz_Gm (L2 := [some (.ref 0), some (.ref 17), some (.ref 157), none, some (.int z4), some (.long z5), none, some (.int z7), some (.int z8), some (.int z9), some (.int z10), some (.int z11), some (.int z12), some (.int z13), some (.int y1), none, none, none, none, none, none]) rfl rfl rfl rfl

theorem e_L_law_715 (z4 : Int32) (z5 : Int64) (z9 : Int32) (z11 : Int32) (A : tz_Mem) : q_L_law_715 z4 z5 z9 z11 A =
  tz_C A (tz_bI (f_X11_postage A) (fun y1 A1 =>
if y1 ≤ (z11 + 594000) then
  q_L_law_729 z4 z5 z9 A1
else
  some (some (.int 0), A1))) := by
  show tz_Go 142 715 [some (.ref 0), some (.ref 17), some (.ref 157), none, some (.int z4), some (.long z5), none, none, none, some (.int z9), none, some (.int z11), none, none, none, none, none, none, none, none, none] [] A = _
  refine (tz_g_aload_n rfl (tz_inM rfl rfl rfl)).trans ?_
  refine (tz_g_kv0I (m2 := 105) (rc := 1) rfl rfl rfl (fun hA => tz_conok hA rfl) rfl rfl rfl rfl (by decide) (tz_in0 rfl)).trans ?_
  refine congrArg (tz_C _) ?_
  refine tz_jI (fun y1 A1 => ?_)
  refine (tz_g_iload rfl (tz_in0 rfl)).trans ?_
  refine (tz_g_ldc (v := 594000) rfl rfl (tz_in0 rfl)).trans ?_
  refine (tz_g_iadd (tz_in0 rfl)).trans ?_
  refine (tz_g_ic_le (t := 729) (by decide) (tz_in0 rfl)).trans ?_
  refine tz_cg ?_ ?_
  · skip
    exact tz_Gm (L2 := [some (.ref 0), some (.ref 17), some (.ref 157), none, some (.int z4), some (.long z5), none, none, none, some (.int z9), none, none, none, none, none, none, none, none, none, none, none]) rfl rfl rfl rfl
  · skip
    refine (tz_g_iconst (v := 0) rfl (tz_in0 rfl)).trans ?_
    exact tz_g_ret4K (by decide) (tz_in0 rfl) rfl

theorem e_L_law_385 (z4 : Int32) (z5 : Int64) (z7 : Int32) (z8 : Int32) (z9 : Int32) (z10 : Int32) (z11 : Int32) (z12 : Int32) (z13 : Int32) (z14 : Int32) (A : tz_Mem) : q_L_law_385 z4 z5 z7 z8 z9 z10 z11 z12 z13 z14 A =
  tz_C A (tz_bI (f_X11_hours 1 A) (fun y1 A1 =>
if y1 < 0 then
  some (some (.int 0), A1)
else
  tz_C A1 (tz_bI (f_X11_status 3 A1) (fun y2 A2 =>
  if ¬ y2 = (z8 + y1) then
    some (some (.int 0), A2)
  else
    tz_C A2 (tz_bI (f_X11_status 5 A2) (fun y3 A3 =>
    if ¬ y3 = ((z7 + z12) + 1) then
      some (some (.int 0), A3)
    else
      if A3.1 ≤ 157 then none else
      if (tz_g A3 157 2) ≤ 0 then
        q_L_law_461 z4 z5 z7 (z8 + y1) z9 z10 z11 z12 A3
      else
        tz_C A3 (tz_bI (f_X11_letterOf z9 4 A3) (fun y4 A4 =>
        if ¬ y4 = z13 then
          some (some (.int 0), A4)
        else
          tz_C A4 (tz_bI (f_X11_letterOf z9 0 A4) (fun y5 A5 =>
          if y5 = z14 then
            q_L_law_461 z4 z5 z7 (z8 + y1) z9 z10 z11 z12 A5
          else
            some (some (.int 0), A5))))))))))) := by
  show tz_Go 142 385 [some (.ref 0), some (.ref 17), some (.ref 157), none, some (.int z4), some (.long z5), none, some (.int z7), some (.int z8), some (.int z9), some (.int z10), some (.int z11), some (.int z12), some (.int z13), some (.int z14), none, none, none, none, none, none] [] A = _
  refine (tz_g_aload_n rfl (tz_inM rfl rfl rfl)).trans ?_
  refine (tz_g_iconst (v := 1) rfl (tz_in0 rfl)).trans ?_
  refine (tz_g_kv1I (m2 := 106) (rc := 1) rfl rfl rfl (fun hA => tz_conok hA rfl) rfl rfl rfl rfl (by decide) (tz_in0 rfl)).trans ?_
  refine congrArg (tz_C _) ?_
  refine tz_jI (fun y1 A1 => ?_)
  refine (tz_g_istore (L2 := [some (.ref 0), some (.ref 17), some (.ref 157), none, some (.int z4), some (.long z5), none, some (.int z7), some (.int z8), some (.int z9), some (.int z10), some (.int z11), some (.int z12), some (.int z13), some (.int z14), some (.int y1), none, none, none, none, none]) rfl rfl (tz_in0 rfl)).trans ?_
  refine (tz_g_iload rfl (tz_in0 rfl)).trans ?_
  refine (tz_g_iload rfl (tz_in0 rfl)).trans ?_
  refine (tz_g_iadd (tz_in0 rfl)).trans ?_
  refine (tz_g_istore (L2 := [some (.ref 0), some (.ref 17), some (.ref 157), none, some (.int z4), some (.long z5), none, some (.int z7), some (.int (z8 + y1)), some (.int z9), some (.int z10), some (.int z11), some (.int z12), some (.int z13), some (.int z14), some (.int y1), none, none, none, none, none]) rfl rfl (tz_in0 rfl)).trans ?_
  refine (tz_g_iload rfl (tz_in0 rfl)).trans ?_
  refine (tz_g_if_lt (t := 459) (by decide) (tz_in0 rfl)).trans ?_
  refine tz_cg ?_ ?_
  · skip
    refine (tz_g_iconst (v := 0) rfl (tz_in0 rfl)).trans ?_
    exact tz_g_ret4K (by decide) (tz_in0 rfl) rfl
  · skip
    refine (tz_g_aload_n rfl (tz_in0 rfl)).trans ?_
    refine (tz_g_iconst (v := 3) rfl (tz_in0 rfl)).trans ?_
    refine (tz_g_kv1I (m2 := 117) (rc := 1) rfl rfl rfl (fun hA => tz_conok hA rfl) rfl rfl rfl rfl (by decide) (tz_in0 rfl)).trans ?_
    refine congrArg (tz_C _) ?_
    refine tz_jI (fun y2 A2 => ?_)
    refine (tz_g_iload rfl (tz_in0 rfl)).trans ?_
    refine (tz_g_ic_ne (t := 459) (by decide) (tz_in0 rfl)).trans ?_
    refine tz_cg ?_ ?_
    · skip
      refine (tz_g_iconst (v := 0) rfl (tz_in0 rfl)).trans ?_
      exact tz_g_ret4K (by decide) (tz_in0 rfl) rfl
    · skip
      refine (tz_g_aload_n rfl (tz_in0 rfl)).trans ?_
      refine (tz_g_iconst (v := 5) rfl (tz_in0 rfl)).trans ?_
      refine (tz_g_kv1I (m2 := 117) (rc := 1) rfl rfl rfl (fun hA => tz_conok hA rfl) rfl rfl rfl rfl (by decide) (tz_in0 rfl)).trans ?_
      refine congrArg (tz_C _) ?_
      refine tz_jI (fun y3 A3 => ?_)
      refine (tz_g_iload rfl (tz_in0 rfl)).trans ?_
      refine (tz_g_iload rfl (tz_in0 rfl)).trans ?_
      refine (tz_g_iadd (tz_in0 rfl)).trans ?_
      refine (tz_g_iconst (v := 1) rfl (tz_in0 rfl)).trans ?_
      refine (tz_g_iadd (tz_in0 rfl)).trans ?_
      refine (tz_g_ic_ne (t := 459) (by decide) (tz_in0 rfl)).trans ?_
      refine tz_cg ?_ ?_
      · skip
        refine (tz_g_iconst (v := 0) rfl (tz_in0 rfl)).trans ?_
        exact tz_g_ret4K (by decide) (tz_in0 rfl) rfl
      · skip
        refine (tz_g_aload_n rfl (tz_in0 rfl)).trans ?_
        refine (tz_g_iconst (v := 2) rfl (tz_in0 rfl)).trans ?_
        refine tz_gB (c := A3.1 ≤ 157) (fun q => tz_gx_iaload rfl (tz_in0 rfl) q) (fun hB9 => ?_)
        refine (tz_g_iald (n := 64) (by exact tz_okB hB9 rfl) rfl rfl (tz_in0 rfl)).trans ?_
        refine (if_neg (by decide)).trans ?_
        refine (tz_g_if_le (t := 461) (by decide) (tz_in0 rfl)).trans ?_
        refine tz_cg ?_ ?_
        · skip
          exact tz_Gm (L2 := [some (.ref 0), some (.ref 17), some (.ref 157), none, some (.int z4), some (.long z5), none, some (.int z7), some (.int (z8 + y1)), some (.int z9), some (.int z10), some (.int z11), some (.int z12), none, none, none, none, none, none, none, none]) rfl rfl rfl rfl
        · skip
          refine (tz_g_aload_n rfl (tz_in0 rfl)).trans ?_
          refine (tz_g_iload rfl (tz_in0 rfl)).trans ?_
          refine (tz_g_iconst (v := 4) rfl (tz_in0 rfl)).trans ?_
          refine (tz_g_kv2I (m2 := 51) (rc := 1) rfl rfl rfl (fun hA => tz_conok hA rfl) rfl rfl rfl rfl (by decide) (tz_in0 rfl)).trans ?_
          refine congrArg (tz_C _) ?_
          refine tz_jI (fun y4 A4 => ?_)
          refine (tz_g_iload rfl (tz_in0 rfl)).trans ?_
          refine (tz_g_ic_ne (t := 459) (by decide) (tz_in0 rfl)).trans ?_
          refine tz_cg ?_ ?_
          · skip
            refine (tz_g_iconst (v := 0) rfl (tz_in0 rfl)).trans ?_
            exact tz_g_ret4K (by decide) (tz_in0 rfl) rfl
          · skip
            refine (tz_g_aload_n rfl (tz_in0 rfl)).trans ?_
            refine (tz_g_iload rfl (tz_in0 rfl)).trans ?_
            refine (tz_g_iconst (v := 0) rfl (tz_in0 rfl)).trans ?_
            refine (tz_g_kv2I (m2 := 51) (rc := 1) rfl rfl rfl (fun hA => tz_conok hA rfl) rfl rfl rfl rfl (by decide) (tz_in0 rfl)).trans ?_
            refine congrArg (tz_C _) ?_
            refine tz_jI (fun y5 A5 => ?_)
            refine (tz_g_iload rfl (tz_in0 rfl)).trans ?_
            refine (tz_g_ic_eq (t := 461) (by decide) (tz_in0 rfl)).trans ?_
            refine tz_cg ?_ ?_
            · skip
              exact tz_Gm (L2 := [some (.ref 0), some (.ref 17), some (.ref 157), none, some (.int z4), some (.long z5), none, some (.int z7), some (.int (z8 + y1)), some (.int z9), some (.int z10), some (.int z11), some (.int z12), none, none, none, none, none, none, none, none]) rfl rfl rfl rfl
            · skip
              refine (tz_g_iconst (v := 0) rfl (tz_in0 rfl)).trans ?_
              exact tz_g_ret4K (by decide) (tz_in0 rfl) rfl

theorem e_L_law_729 (z4 : Int32) (z5 : Int64) (z9 : Int32) (A : tz_Mem) : q_L_law_729 z4 z5 z9 A =
  tz_C A (tz_bI (f_X11_restore A) (fun y1 A1 =>
if ¬ y1 = z4 then
  some (some (.int 0), A1)
else
  tz_C A1 (tz_bL (f_L_told A1) (fun y2 A2 =>
  if (lg_cmp y2 z5) = 0 then
    q_L_law_750 z4 z5 z9 A2
  else
    some (some (.int 0), A2))))) := by
  show tz_Go 142 729 [some (.ref 0), some (.ref 17), some (.ref 157), none, some (.int z4), some (.long z5), none, none, none, some (.int z9), none, none, none, none, none, none, none, none, none, none, none] [] A = _
  refine (tz_g_aload_n rfl (tz_inM rfl rfl rfl)).trans ?_
  refine (tz_g_kv0I (m2 := 115) (rc := 1) rfl rfl rfl (fun hA => tz_conok hA rfl) rfl rfl rfl rfl (by decide) (tz_in0 rfl)).trans ?_
  refine congrArg (tz_C _) ?_
  refine tz_jI (fun y1 A1 => ?_)
  refine (tz_g_iload rfl (tz_in0 rfl)).trans ?_
  refine (tz_g_ic_ne (t := 748) (by decide) (tz_in0 rfl)).trans ?_
  refine tz_cg ?_ ?_
  · skip
    refine (tz_g_iconst (v := 0) rfl (tz_in0 rfl)).trans ?_
    exact tz_g_ret4K (by decide) (tz_in0 rfl) rfl
  · skip
    refine (tz_g_aload_n rfl (tz_in0 rfl)).trans ?_
    refine (tz_g_ks1L (m2 := 131) (rc := 2) rfl rfl rfl rfl rfl rfl (by decide) (tz_in0 rfl)).trans ?_
    refine congrArg (tz_C _) ?_
    refine tz_jL (fun y2 A2 => ?_)
    refine (tz_g_lload rfl (tz_in0 rfl)).trans ?_
    refine (tz_g_lcmp (tz_in0 rfl)).trans ?_
    refine (tz_g_if_eq (t := 750) (by decide) (tz_in0 rfl)).trans ?_
    refine tz_cg ?_ ?_
    · skip
      exact tz_Gm (L2 := [some (.ref 0), some (.ref 17), some (.ref 157), none, some (.int z4), some (.long z5), none, none, none, some (.int z9), none, none, none, none, none, none, none, none, none, none, none]) rfl rfl rfl rfl
    · skip
      refine (tz_g_iconst (v := 0) rfl (tz_in0 rfl)).trans ?_
      exact tz_g_ret4K (by decide) (tz_in0 rfl) rfl

theorem e_L_law_461 (z4 : Int32) (z5 : Int64) (z7 : Int32) (z8 : Int32) (z9 : Int32) (z10 : Int32) (z11 : Int32) (z12 : Int32) (A : tz_Mem) : q_L_law_461 z4 z5 z7 z8 z9 z10 z11 z12 A =
  q_L_law_470 z4 z5 z7 z8 z9 z10 z11 z12 0 0 0 A := by
  show tz_Go 142 461 [some (.ref 0), some (.ref 17), some (.ref 157), none, some (.int z4), some (.long z5), none, some (.int z7), some (.int z8), some (.int z9), some (.int z10), some (.int z11), some (.int z12), none, none, none, none, none, none, none, none] [] A = _
  refine (tz_g_iconst (v := 0) rfl (tz_inM rfl rfl rfl)).trans ?_
  refine (tz_g_istore (L2 := [some (.ref 0), some (.ref 17), some (.ref 157), none, some (.int z4), some (.long z5), none, some (.int z7), some (.int z8), some (.int z9), some (.int z10), some (.int z11), some (.int z12), none, none, none, some (.int 0), none, none, none, none]) rfl rfl (tz_in0 rfl)).trans ?_
  refine (tz_g_iconst (v := 0) rfl (tz_in0 rfl)).trans ?_
  refine (tz_g_istore (L2 := [some (.ref 0), some (.ref 17), some (.ref 157), none, some (.int z4), some (.long z5), none, some (.int z7), some (.int z8), some (.int z9), some (.int z10), some (.int z11), some (.int z12), none, none, none, some (.int 0), some (.int 0), none, none, none]) rfl rfl (tz_in0 rfl)).trans ?_
  refine (tz_g_iconst (v := 0) rfl (tz_in0 rfl)).trans ?_
  refine (tz_g_istore (L2 := [some (.ref 0), some (.ref 17), some (.ref 157), none, some (.int z4), some (.long z5), none, some (.int z7), some (.int z8), some (.int z9), some (.int z10), some (.int z11), some (.int z12), none, none, none, some (.int 0), some (.int 0), some (.int 0), none, none]) rfl rfl (tz_in0 rfl)).trans ?_
  exact tz_Gm (L2 := [some (.ref 0), some (.ref 17), some (.ref 157), none, some (.int z4), some (.long z5), none, some (.int z7), some (.int z8), some (.int z9), some (.int z10), some (.int z11), some (.int z12), none, none, none, some (.int 0), some (.int 0), some (.int 0), none, none]) rfl rfl rfl rfl

theorem e_L_law_750 (z4 : Int32) (z5 : Int64) (z9 : Int32) (A : tz_Mem) : q_L_law_750 z4 z5 z9 A =
  if z4 ≤ 0 then
  q_L_law_770 z4 z5 z9 A
else
  tz_C A (tz_bI (f_X11_show 1 (z4 - 1) A) (fun y1 A1 =>
  if y1 = 1 then
    q_L_law_770 z4 z5 z9 A1
  else
    some (some (.int 0), A1))) := by
  show tz_Go 142 750 [some (.ref 0), some (.ref 17), some (.ref 157), none, some (.int z4), some (.long z5), none, none, none, some (.int z9), none, none, none, none, none, none, none, none, none, none, none] [] A = _
  refine (tz_g_iload rfl (tz_inM rfl rfl rfl)).trans ?_
  refine (tz_g_if_le (t := 770) (by decide) (tz_in0 rfl)).trans ?_
  refine tz_cg ?_ ?_
  · skip
    exact tz_Gm (L2 := [some (.ref 0), some (.ref 17), some (.ref 157), none, some (.int z4), some (.long z5), none, none, none, some (.int z9), none, none, none, none, none, none, none, none, none, none, none]) rfl rfl rfl rfl
  · skip
    refine (tz_g_aload_n rfl (tz_in0 rfl)).trans ?_
    refine (tz_g_iconst (v := 1) rfl (tz_in0 rfl)).trans ?_
    refine (tz_g_iload rfl (tz_in0 rfl)).trans ?_
    refine (tz_g_iconst (v := 1) rfl (tz_in0 rfl)).trans ?_
    refine (tz_g_isub (tz_in0 rfl)).trans ?_
    refine (tz_g_kv2I (m2 := 23) (rc := 1) rfl rfl rfl (fun hA => tz_conok hA rfl) rfl rfl rfl rfl (by decide) (tz_in0 rfl)).trans ?_
    refine congrArg (tz_C _) ?_
    refine tz_jI (fun y1 A1 => ?_)
    refine (tz_g_iconst (v := 1) rfl (tz_in0 rfl)).trans ?_
    refine (tz_g_ic_eq (t := 770) (by decide) (tz_in0 rfl)).trans ?_
    refine tz_cg ?_ ?_
    · skip
      exact tz_Gm (L2 := [some (.ref 0), some (.ref 17), some (.ref 157), none, some (.int z4), some (.long z5), none, none, none, some (.int z9), none, none, none, none, none, none, none, none, none, none, none]) rfl rfl rfl rfl
    · skip
      refine (tz_g_iconst (v := 0) rfl (tz_in0 rfl)).trans ?_
      exact tz_g_ret4K (by decide) (tz_in0 rfl) rfl

theorem e_L_law_470 (z4 : Int32) (z5 : Int64) (z7 : Int32) (z8 : Int32) (z9 : Int32) (z10 : Int32) (z11 : Int32) (z12 : Int32) (z16 : Int32) (z17 : Int32) (z18 : Int32) (A : tz_Mem) : q_L_law_470 z4 z5 z7 z8 z9 z10 z11 z12 z16 z17 z18 A =
  if z4 ≤ z18 then
  q_L_law_513 z4 z5 z7 z8 z9 z10 z11 z12 z16 z17 0 A
else
  tz_C A (tz_bI (f_X11_hillOf z18 2 A) (fun y1 A1 =>
  tz_C A1 (tz_bI (f_X11_hillOf z18 2 A1) (fun y2 A2 =>
  tz_C A2 (tz_bI (f_J6_bitCount y2 A2) (fun y3 A3 =>
  q_L_law_470 z4 z5 z7 z8 z9 z10 z11 z12 (z16 + y3) (z17 ||| y1) (z18 + 1) A3)))))) := by
  show tz_Go 142 470 [some (.ref 0), some (.ref 17), some (.ref 157), none, some (.int z4), some (.long z5), none, some (.int z7), some (.int z8), some (.int z9), some (.int z10), some (.int z11), some (.int z12), none, none, none, some (.int z16), some (.int z17), some (.int z18), none, none] [] A = _
  refine (tz_g_iload rfl (tz_inM rfl rfl rfl)).trans ?_
  refine (tz_g_iload rfl (tz_in0 rfl)).trans ?_
  refine (tz_g_ic_ge (t := 510) (by decide) (tz_in0 rfl)).trans ?_
  refine tz_cg ?_ ?_
  · skip
    refine (tz_g_iconst (v := 0) rfl (tz_in0 rfl)).trans ?_
    refine (tz_g_istore (L2 := [some (.ref 0), some (.ref 17), some (.ref 157), none, some (.int z4), some (.long z5), none, some (.int z7), some (.int z8), some (.int z9), some (.int z10), some (.int z11), some (.int z12), none, none, none, some (.int z16), some (.int z17), some (.int 0), none, none]) rfl rfl (tz_in0 rfl)).trans ?_
    exact tz_Gm (L2 := [some (.ref 0), some (.ref 17), some (.ref 157), none, some (.int z4), some (.long z5), none, some (.int z7), some (.int z8), some (.int z9), some (.int z10), some (.int z11), some (.int z12), none, none, none, some (.int z16), some (.int z17), some (.int 0), none, none]) rfl rfl rfl rfl
  · skip
    refine (tz_g_iload rfl (tz_in0 rfl)).trans ?_
    refine (tz_g_aload_n rfl (tz_in0 rfl)).trans ?_
    refine (tz_g_iload rfl (tz_in0 rfl)).trans ?_
    refine (tz_g_iconst (v := 2) rfl (tz_in0 rfl)).trans ?_
    refine (tz_g_kv2I (m2 := 44) (rc := 1) rfl rfl rfl (fun hA => tz_conok hA rfl) rfl rfl rfl rfl (by decide) (tz_in0 rfl)).trans ?_
    refine congrArg (tz_C _) ?_
    refine tz_jI (fun y1 A1 => ?_)
    refine (tz_g_ior (tz_in0 rfl)).trans ?_
    refine (tz_g_istore (L2 := [some (.ref 0), some (.ref 17), some (.ref 157), none, some (.int z4), some (.long z5), none, some (.int z7), some (.int z8), some (.int z9), some (.int z10), some (.int z11), some (.int z12), none, none, none, some (.int z16), some (.int (z17 ||| y1)), some (.int z18), none, none]) rfl rfl (tz_in0 rfl)).trans ?_
    refine (tz_g_iload rfl (tz_in0 rfl)).trans ?_
    refine (tz_g_aload_n rfl (tz_in0 rfl)).trans ?_
    refine (tz_g_iload rfl (tz_in0 rfl)).trans ?_
    refine (tz_g_iconst (v := 2) rfl (tz_in0 rfl)).trans ?_
    refine (tz_g_kv2I (m2 := 44) (rc := 1) rfl rfl rfl (fun hA => tz_conok hA rfl) rfl rfl rfl rfl (by decide) (tz_in0 rfl)).trans ?_
    refine congrArg (tz_C _) ?_
    refine tz_jI (fun y2 A2 => ?_)
    refine (tz_g_ks1I (m2 := 139) (rc := 1) rfl rfl rfl rfl rfl rfl (by decide) (tz_in0 rfl)).trans ?_
    refine congrArg (tz_C _) ?_
    refine tz_jI (fun y3 A3 => ?_)
    refine (tz_g_iadd (tz_in0 rfl)).trans ?_
    refine (tz_g_istore (L2 := [some (.ref 0), some (.ref 17), some (.ref 157), none, some (.int z4), some (.long z5), none, some (.int z7), some (.int z8), some (.int z9), some (.int z10), some (.int z11), some (.int z12), none, none, none, some (.int (z16 + y3)), some (.int (z17 ||| y1)), some (.int z18), none, none]) rfl rfl (tz_in0 rfl)).trans ?_
    refine (tz_g_iinc (v := 1) (L2 := [some (.ref 0), some (.ref 17), some (.ref 157), none, some (.int z4), some (.long z5), none, some (.int z7), some (.int z8), some (.int z9), some (.int z10), some (.int z11), some (.int z12), none, none, none, some (.int (z16 + y3)), some (.int (z17 ||| y1)), some (.int (z18 + 1)), none, none]) rfl rfl rfl rfl (tz_in0 rfl)).trans ?_
    refine (tz_g_goto (t := 470) (by decide) (tz_in0 rfl)).trans ?_
    exact tz_Gm (L2 := [some (.ref 0), some (.ref 17), some (.ref 157), none, some (.int z4), some (.long z5), none, some (.int z7), some (.int z8), some (.int z9), some (.int z10), some (.int z11), some (.int z12), none, none, none, some (.int (z16 + y3)), some (.int (z17 ||| y1)), some (.int (z18 + 1)), none, none]) rfl rfl rfl rfl

theorem e_L_law_770 (z4 : Int32) (z5 : Int64) (z9 : Int32) (A : tz_Mem) : q_L_law_770 z4 z5 z9 A =
  if 8 ≤ z4 then
  q_L_law_791 z4 z5 z9 (-1) A
else
  tz_C A (tz_bI (f_X11_hill 6 9 A) (fun y1 A1 =>
  q_L_law_791 z4 z5 z9 y1 A1)) := by
  show tz_Go 142 770 [some (.ref 0), some (.ref 17), some (.ref 157), none, some (.int z4), some (.long z5), none, none, none, some (.int z9), none, none, none, none, none, none, none, none, none, none, none] [] A = _
  refine (tz_g_iload rfl (tz_inM rfl rfl rfl)).trans ?_
  refine (tz_g_bipush (v := 8) rfl (tz_in0 rfl)).trans ?_
  refine (tz_g_ic_ge (t := 788) (by decide) (tz_in0 rfl)).trans ?_
  refine tz_cg ?_ ?_
  · skip
    refine (tz_g_iconst (v := (-1)) rfl (tz_in0 rfl)).trans ?_
    refine (tz_g_istore (L2 := [some (.ref 0), some (.ref 17), some (.ref 157), none, some (.int z4), some (.long z5), none, none, none, some (.int z9), none, none, some (.int (-1)), none, none, none, none, none, none, none, none]) rfl rfl (tz_in0 rfl)).trans ?_
    exact tz_Gm (L2 := [some (.ref 0), some (.ref 17), some (.ref 157), none, some (.int z4), some (.long z5), none, none, none, some (.int z9), none, none, some (.int (-1)), none, none, none, none, none, none, none, none]) rfl rfl rfl rfl
  · skip
    refine (tz_g_aload_n rfl (tz_in0 rfl)).trans ?_
    refine (tz_g_bipush (v := 6) rfl (tz_in0 rfl)).trans ?_
    refine (tz_g_bipush (v := 9) rfl (tz_in0 rfl)).trans ?_
    refine (tz_g_kv2I (m2 := 26) (rc := 1) rfl rfl rfl (fun hA => tz_conok hA rfl) rfl rfl rfl rfl (by decide) (tz_in0 rfl)).trans ?_
    refine congrArg (tz_C _) ?_
    refine tz_jI (fun y1 A1 => ?_)
    refine (tz_g_goto (t := 789) (by decide) (tz_in0 rfl)).trans ?_
    refine (tz_g_istore (L2 := [some (.ref 0), some (.ref 17), some (.ref 157), none, some (.int z4), some (.long z5), none, none, none, some (.int z9), none, none, some (.int y1), none, none, none, none, none, none, none, none]) rfl rfl (tz_in0 rfl)).trans ?_
    exact tz_Gm (L2 := [some (.ref 0), some (.ref 17), some (.ref 157), none, some (.int z4), some (.long z5), none, none, none, some (.int z9), none, none, some (.int y1), none, none, none, none, none, none, none, none]) rfl rfl rfl rfl

theorem e_L_law_513 (z4 : Int32) (z5 : Int64) (z7 : Int32) (z8 : Int32) (z9 : Int32) (z10 : Int32) (z11 : Int32) (z12 : Int32) (z16 : Int32) (z17 : Int32) (z18 : Int32) (A : tz_Mem) : q_L_law_513 z4 z5 z7 z8 z9 z10 z11 z12 z16 z17 z18 A =
  if A.1 ≤ 157 then none else
if (tz_g A 157 1) ≤ z18 then
  tz_C A (tz_bI (f_J6_bitCount z17 A) (fun y1 A1 =>
  if ¬ y1 = z16 then
    some (some (.int 0), A1)
  else
    tz_C A1 (tz_bI (f_X11_status 4 A1) (fun y2 A2 =>
    if A2.1 ≤ 157 then none else
    if ((z16 + z8) + y2) = (tz_g A2 157 2) then
      q_L_law_338 z4 z5 z7 z8 z9 z10 z11 (z12 + 1) A2
    else
      some (some (.int 0), A2)))))
else
  tz_C A (tz_bI (f_X11_stormOf z18 4 A) (fun y1 A1 =>
  tz_C A1 (tz_bI (f_J6_bitCount y1 A1) (fun y2 A2 =>
  tz_C A2 (tz_bI (f_J6_bitCount y1 A2) (fun y3 A3 =>
  tz_C A3 (tz_bI (f_X11_stormOf z18 3 A3) (fun y4 A4 =>
  if y3 ≤ y4 then
    q_L_law_567 z4 z5 z7 z8 z9 z10 z11 z12 (z16 + y2) (z17 ||| y1) z18 y1 0 A4
  else
    some (some (.int 0), A4))))))))) := by
  show tz_Go 142 513 [some (.ref 0), some (.ref 17), some (.ref 157), none, some (.int z4), some (.long z5), none, some (.int z7), some (.int z8), some (.int z9), some (.int z10), some (.int z11), some (.int z12), none, none, none, some (.int z16), some (.int z17), some (.int z18), none, none] [] A = _
  refine (tz_g_iload rfl (tz_inM rfl rfl rfl)).trans ?_
  refine (tz_g_aload_n rfl (tz_in0 rfl)).trans ?_
  refine (tz_g_iconst (v := 1) rfl (tz_in0 rfl)).trans ?_
  refine tz_gB (c := A.1 ≤ 157) (fun q => tz_gx_iaload rfl (tz_in0 rfl) q) (fun hB10 => ?_)
  refine (tz_g_iald (n := 64) (by exact tz_okB hB10 rfl) rfl rfl (tz_in0 rfl)).trans ?_
  refine (if_neg (by decide)).trans ?_
  refine (tz_g_ic_ge (t := 617) (by decide) (tz_in0 rfl)).trans ?_
  refine tz_cg ?_ ?_
  · skip
    refine (tz_g_iload rfl (tz_in0 rfl)).trans ?_
    refine (tz_g_ks1I (m2 := 139) (rc := 1) rfl rfl rfl rfl rfl rfl (by decide) (tz_in0 rfl)).trans ?_
    refine congrArg (tz_C _) ?_
    refine tz_jI (fun y1 A1 => ?_)
    refine (tz_g_iload rfl (tz_in0 rfl)).trans ?_
    refine (tz_g_ic_ne (t := 644) (by decide) (tz_in0 rfl)).trans ?_
    refine tz_cg ?_ ?_
    · skip
      refine (tz_g_iconst (v := 0) rfl (tz_in0 rfl)).trans ?_
      exact tz_g_ret4K (by decide) (tz_in0 rfl) rfl
    · skip
      refine (tz_g_iload rfl (tz_in0 rfl)).trans ?_
      refine (tz_g_iload rfl (tz_in0 rfl)).trans ?_
      refine (tz_g_iadd (tz_in0 rfl)).trans ?_
      refine (tz_g_aload_n rfl (tz_in0 rfl)).trans ?_
      refine (tz_g_iconst (v := 4) rfl (tz_in0 rfl)).trans ?_
      refine (tz_g_kv1I (m2 := 117) (rc := 1) rfl rfl rfl (fun hA => tz_conok hA rfl) rfl rfl rfl rfl (by decide) (tz_in0 rfl)).trans ?_
      refine congrArg (tz_C _) ?_
      refine tz_jI (fun y2 A2 => ?_)
      refine (tz_g_iadd (tz_in0 rfl)).trans ?_
      refine (tz_g_aload_n rfl (tz_in0 rfl)).trans ?_
      refine (tz_g_iconst (v := 2) rfl (tz_in0 rfl)).trans ?_
      refine tz_gB (c := A2.1 ≤ 157) (fun q => tz_gx_iaload rfl (tz_in0 rfl) q) (fun hB11 => ?_)
      refine (tz_g_iald (n := 64) (by exact tz_okB hB11 rfl) rfl rfl (tz_in0 rfl)).trans ?_
      refine (if_neg (by decide)).trans ?_
      refine (tz_g_ic_eq (t := 646) (by decide) (tz_in0 rfl)).trans ?_
      refine tz_cg ?_ ?_
      · skip
        refine (tz_g_iinc (v := 1) (L2 := [some (.ref 0), some (.ref 17), some (.ref 157), none, some (.int z4), some (.long z5), none, some (.int z7), some (.int z8), some (.int z9), some (.int z10), some (.int z11), some (.int (z12 + 1)), none, none, none, some (.int z16), some (.int z17), some (.int z18), none, none]) rfl rfl rfl rfl (tz_in0 rfl)).trans ?_
        refine (tz_g_goto (t := 338) (by decide) (tz_in0 rfl)).trans ?_
        exact tz_Gm (L2 := [some (.ref 0), some (.ref 17), some (.ref 157), none, some (.int z4), some (.long z5), none, some (.int z7), some (.int z8), some (.int z9), some (.int z10), some (.int z11), some (.int (z12 + 1)), none, none, none, none, none, none, none, none]) rfl rfl rfl rfl
      · skip
        refine (tz_g_iconst (v := 0) rfl (tz_in0 rfl)).trans ?_
        exact tz_g_ret4K (by decide) (tz_in0 rfl) rfl
  · skip
    refine (tz_g_aload_n rfl (tz_in0 rfl)).trans ?_
    refine (tz_g_iload rfl (tz_in0 rfl)).trans ?_
    refine (tz_g_iconst (v := 4) rfl (tz_in0 rfl)).trans ?_
    refine (tz_g_kv2I (m2 := 48) (rc := 1) rfl rfl rfl (fun hA => tz_conok hA rfl) rfl rfl rfl rfl (by decide) (tz_in0 rfl)).trans ?_
    refine congrArg (tz_C _) ?_
    refine tz_jI (fun y1 A1 => ?_)
    refine (tz_g_istore (L2 := [some (.ref 0), some (.ref 17), some (.ref 157), none, some (.int z4), some (.long z5), none, some (.int z7), some (.int z8), some (.int z9), some (.int z10), some (.int z11), some (.int z12), none, none, none, some (.int z16), some (.int z17), some (.int z18), some (.int y1), none]) rfl rfl (tz_in0 rfl)).trans ?_
    refine (tz_g_iload rfl (tz_in0 rfl)).trans ?_
    refine (tz_g_iload rfl (tz_in0 rfl)).trans ?_
    refine (tz_g_ior (tz_in0 rfl)).trans ?_
    refine (tz_g_istore (L2 := [some (.ref 0), some (.ref 17), some (.ref 157), none, some (.int z4), some (.long z5), none, some (.int z7), some (.int z8), some (.int z9), some (.int z10), some (.int z11), some (.int z12), none, none, none, some (.int z16), some (.int (z17 ||| y1)), some (.int z18), some (.int y1), none]) rfl rfl (tz_in0 rfl)).trans ?_
    refine (tz_g_iload rfl (tz_in0 rfl)).trans ?_
    refine (tz_g_iload rfl (tz_in0 rfl)).trans ?_
    refine (tz_g_ks1I (m2 := 139) (rc := 1) rfl rfl rfl rfl rfl rfl (by decide) (tz_in0 rfl)).trans ?_
    refine congrArg (tz_C _) ?_
    refine tz_jI (fun y2 A2 => ?_)
    refine (tz_g_iadd (tz_in0 rfl)).trans ?_
    refine (tz_g_istore (L2 := [some (.ref 0), some (.ref 17), some (.ref 157), none, some (.int z4), some (.long z5), none, some (.int z7), some (.int z8), some (.int z9), some (.int z10), some (.int z11), some (.int z12), none, none, none, some (.int (z16 + y2)), some (.int (z17 ||| y1)), some (.int z18), some (.int y1), none]) rfl rfl (tz_in0 rfl)).trans ?_
    refine (tz_g_iload rfl (tz_in0 rfl)).trans ?_
    refine (tz_g_ks1I (m2 := 139) (rc := 1) rfl rfl rfl rfl rfl rfl (by decide) (tz_in0 rfl)).trans ?_
    refine congrArg (tz_C _) ?_
    refine tz_jI (fun y3 A3 => ?_)
    refine (tz_g_aload_n rfl (tz_in0 rfl)).trans ?_
    refine (tz_g_iload rfl (tz_in0 rfl)).trans ?_
    refine (tz_g_iconst (v := 3) rfl (tz_in0 rfl)).trans ?_
    refine (tz_g_kv2I (m2 := 48) (rc := 1) rfl rfl rfl (fun hA => tz_conok hA rfl) rfl rfl rfl rfl (by decide) (tz_in0 rfl)).trans ?_
    refine congrArg (tz_C _) ?_
    refine tz_jI (fun y4 A4 => ?_)
    refine (tz_g_ic_le (t := 564) (by decide) (tz_in0 rfl)).trans ?_
    refine tz_cg ?_ ?_
    · skip
      refine (tz_g_iconst (v := 0) rfl (tz_in0 rfl)).trans ?_
      refine (tz_g_istore (L2 := [some (.ref 0), some (.ref 17), some (.ref 157), none, some (.int z4), some (.long z5), none, some (.int z7), some (.int z8), some (.int z9), some (.int z10), some (.int z11), some (.int z12), none, none, none, some (.int (z16 + y2)), some (.int (z17 ||| y1)), some (.int z18), some (.int y1), some (.int 0)]) rfl rfl (tz_in0 rfl)).trans ?_
      exact tz_Gm (L2 := [some (.ref 0), some (.ref 17), some (.ref 157), none, some (.int z4), some (.long z5), none, some (.int z7), some (.int z8), some (.int z9), some (.int z10), some (.int z11), some (.int z12), none, none, none, some (.int (z16 + y2)), some (.int (z17 ||| y1)), some (.int z18), some (.int y1), some (.int 0)]) rfl rfl rfl rfl
    · skip
      refine (tz_g_iconst (v := 0) rfl (tz_in0 rfl)).trans ?_
      exact tz_g_ret4K (by decide) (tz_in0 rfl) rfl

theorem e_L_law_791 (z4 : Int32) (z5 : Int64) (z9 : Int32) (z12 : Int32) (A : tz_Mem) : q_L_law_791 z4 z5 z9 z12 A =
  if z12 < 0 then
  q_L_law_826 z4 z5 z9 z12 A
else
  if ¬ z12 = z4 then
    some (some (.int 0), A)
  else
    tz_C A (tz_bI (f_X11_show 2 z4 A) (fun y1 A1 =>
    if ¬ y1 = 1 then
      some (some (.int 0), A1)
    else
      tz_C A1 (tz_bI (f_X11_holds 2 A1) (fun y2 A2 =>
      if y2 = z4 then
        q_L_law_826 z4 z5 z9 z12 A2
      else
        some (some (.int 0), A2))))) := by
  show tz_Go 142 791 [some (.ref 0), some (.ref 17), some (.ref 157), none, some (.int z4), some (.long z5), none, none, none, some (.int z9), none, none, some (.int z12), none, none, none, none, none, none, none, none] [] A = _
  refine (tz_g_iload rfl (tz_inM rfl rfl rfl)).trans ?_
  refine (tz_g_if_lt (t := 826) (by decide) (tz_in0 rfl)).trans ?_
  refine tz_cg ?_ ?_
  · skip
    exact tz_Gm (L2 := [some (.ref 0), some (.ref 17), some (.ref 157), none, some (.int z4), some (.long z5), none, none, none, some (.int z9), none, none, some (.int z12), none, none, none, none, none, none, none, none]) rfl rfl rfl rfl
  · skip
    refine (tz_g_iload rfl (tz_in0 rfl)).trans ?_
    refine (tz_g_iload rfl (tz_in0 rfl)).trans ?_
    refine (tz_g_ic_ne (t := 824) (by decide) (tz_in0 rfl)).trans ?_
    refine tz_cg ?_ ?_
    · skip
      refine (tz_g_iconst (v := 0) rfl (tz_in0 rfl)).trans ?_
      exact tz_g_ret4K (by decide) (tz_in0 rfl) rfl
    · skip
      refine (tz_g_aload_n rfl (tz_in0 rfl)).trans ?_
      refine (tz_g_iconst (v := 2) rfl (tz_in0 rfl)).trans ?_
      refine (tz_g_iload rfl (tz_in0 rfl)).trans ?_
      refine (tz_g_kv2I (m2 := 23) (rc := 1) rfl rfl rfl (fun hA => tz_conok hA rfl) rfl rfl rfl rfl (by decide) (tz_in0 rfl)).trans ?_
      refine congrArg (tz_C _) ?_
      refine tz_jI (fun y1 A1 => ?_)
      refine (tz_g_iconst (v := 1) rfl (tz_in0 rfl)).trans ?_
      refine (tz_g_ic_ne (t := 824) (by decide) (tz_in0 rfl)).trans ?_
      refine tz_cg ?_ ?_
      · skip
        refine (tz_g_iconst (v := 0) rfl (tz_in0 rfl)).trans ?_
        exact tz_g_ret4K (by decide) (tz_in0 rfl) rfl
      · skip
        refine (tz_g_aload_n rfl (tz_in0 rfl)).trans ?_
        refine (tz_g_iconst (v := 2) rfl (tz_in0 rfl)).trans ?_
        refine (tz_g_kv1I (m2 := 25) (rc := 1) rfl rfl rfl (fun hA => tz_conok hA rfl) rfl rfl rfl rfl (by decide) (tz_in0 rfl)).trans ?_
        refine congrArg (tz_C _) ?_
        refine tz_jI (fun y2 A2 => ?_)
        refine (tz_g_iload rfl (tz_in0 rfl)).trans ?_
        refine (tz_g_ic_eq (t := 826) (by decide) (tz_in0 rfl)).trans ?_
        refine tz_cg ?_ ?_
        · skip
          exact tz_Gm (L2 := [some (.ref 0), some (.ref 17), some (.ref 157), none, some (.int z4), some (.long z5), none, none, none, some (.int z9), none, none, some (.int z12), none, none, none, none, none, none, none, none]) rfl rfl rfl rfl
        · skip
          refine (tz_g_iconst (v := 0) rfl (tz_in0 rfl)).trans ?_
          exact tz_g_ret4K (by decide) (tz_in0 rfl) rfl

theorem e_L_law_567 (z4 : Int32) (z5 : Int64) (z7 : Int32) (z8 : Int32) (z9 : Int32) (z10 : Int32) (z11 : Int32) (z12 : Int32) (z16 : Int32) (z17 : Int32) (z18 : Int32) (z19 : Int32) (z20 : Int32) (A : tz_Mem) : q_L_law_567 z4 z5 z7 z8 z9 z10 z11 z12 z16 z17 z18 z19 z20 A =
  if A.1 ≤ 157 then none else
if (tz_g A 157 2) ≤ z20 then
  q_L_law_513 z4 z5 z7 z8 z9 z10 z11 z12 z16 z17 (z18 + 1) A
else
  if ¬ ((z19 >>> (z20 &&& 31)) &&& 1) = 1 then
    q_L_law_605 z4 z5 z7 z8 z9 z10 z11 z12 z16 z17 z18 z19 z20 A
  else
    tz_C A (tz_bI (f_X11_letterOf z20 3 A) (fun y1 A1 =>
    tz_C A1 (tz_bI (f_X11_stormOf z18 2 A1) (fun y2 A2 =>
    if y1 ≤ y2 then
      q_L_law_605 z4 z5 z7 z8 z9 z10 z11 z12 z16 z17 z18 z19 z20 A2
    else
      some (some (.int 0), A2))))) := by
  show tz_Go 142 567 [some (.ref 0), some (.ref 17), some (.ref 157), none, some (.int z4), some (.long z5), none, some (.int z7), some (.int z8), some (.int z9), some (.int z10), some (.int z11), some (.int z12), none, none, none, some (.int z16), some (.int z17), some (.int z18), some (.int z19), some (.int z20)] [] A = _
  refine (tz_g_iload rfl (tz_inM rfl rfl rfl)).trans ?_
  refine (tz_g_aload_n rfl (tz_in0 rfl)).trans ?_
  refine (tz_g_iconst (v := 2) rfl (tz_in0 rfl)).trans ?_
  refine tz_gB (c := A.1 ≤ 157) (fun q => tz_gx_iaload rfl (tz_in0 rfl) q) (fun hB12 => ?_)
  refine (tz_g_iald (n := 64) (by exact tz_okB hB12 rfl) rfl rfl (tz_in0 rfl)).trans ?_
  refine (if_neg (by decide)).trans ?_
  refine (tz_g_ic_ge (t := 611) (by decide) (tz_in0 rfl)).trans ?_
  refine tz_cg ?_ ?_
  · skip
    refine (tz_g_iinc (v := 1) (L2 := [some (.ref 0), some (.ref 17), some (.ref 157), none, some (.int z4), some (.long z5), none, some (.int z7), some (.int z8), some (.int z9), some (.int z10), some (.int z11), some (.int z12), none, none, none, some (.int z16), some (.int z17), some (.int (z18 + 1)), some (.int z19), some (.int z20)]) rfl rfl rfl rfl (tz_in0 rfl)).trans ?_
    refine (tz_g_goto (t := 513) (by decide) (tz_in0 rfl)).trans ?_
    exact tz_Gm (L2 := [some (.ref 0), some (.ref 17), some (.ref 157), none, some (.int z4), some (.long z5), none, some (.int z7), some (.int z8), some (.int z9), some (.int z10), some (.int z11), some (.int z12), none, none, none, some (.int z16), some (.int z17), some (.int (z18 + 1)), none, none]) rfl rfl rfl rfl
  · skip
    refine (tz_g_iload rfl (tz_in0 rfl)).trans ?_
    refine (tz_g_iload rfl (tz_in0 rfl)).trans ?_
    refine (tz_g_ishr (tz_in0 rfl)).trans ?_
    refine (tz_g_iconst (v := 1) rfl (tz_in0 rfl)).trans ?_
    refine (tz_g_iand (tz_in0 rfl)).trans ?_
    refine (tz_g_iconst (v := 1) rfl (tz_in0 rfl)).trans ?_
    refine (tz_g_ic_ne (t := 605) (by decide) (tz_in0 rfl)).trans ?_
    refine tz_cg ?_ ?_
    · skip
      exact tz_Gm (L2 := [some (.ref 0), some (.ref 17), some (.ref 157), none, some (.int z4), some (.long z5), none, some (.int z7), some (.int z8), some (.int z9), some (.int z10), some (.int z11), some (.int z12), none, none, none, some (.int z16), some (.int z17), some (.int z18), some (.int z19), some (.int z20)]) rfl rfl rfl rfl
    · skip
      refine (tz_g_aload_n rfl (tz_in0 rfl)).trans ?_
      refine (tz_g_iload rfl (tz_in0 rfl)).trans ?_
      refine (tz_g_iconst (v := 3) rfl (tz_in0 rfl)).trans ?_
      refine (tz_g_kv2I (m2 := 51) (rc := 1) rfl rfl rfl (fun hA => tz_conok hA rfl) rfl rfl rfl rfl (by decide) (tz_in0 rfl)).trans ?_
      refine congrArg (tz_C _) ?_
      refine tz_jI (fun y1 A1 => ?_)
      refine (tz_g_aload_n rfl (tz_in0 rfl)).trans ?_
      refine (tz_g_iload rfl (tz_in0 rfl)).trans ?_
      refine (tz_g_iconst (v := 2) rfl (tz_in0 rfl)).trans ?_
      refine (tz_g_kv2I (m2 := 48) (rc := 1) rfl rfl rfl (fun hA => tz_conok hA rfl) rfl rfl rfl rfl (by decide) (tz_in0 rfl)).trans ?_
      refine congrArg (tz_C _) ?_
      refine tz_jI (fun y2 A2 => ?_)
      refine (tz_g_ic_le (t := 605) (by decide) (tz_in0 rfl)).trans ?_
      refine tz_cg ?_ ?_
      · skip
        exact tz_Gm (L2 := [some (.ref 0), some (.ref 17), some (.ref 157), none, some (.int z4), some (.long z5), none, some (.int z7), some (.int z8), some (.int z9), some (.int z10), some (.int z11), some (.int z12), none, none, none, some (.int z16), some (.int z17), some (.int z18), some (.int z19), some (.int z20)]) rfl rfl rfl rfl
      · skip
        refine (tz_g_iconst (v := 0) rfl (tz_in0 rfl)).trans ?_
        exact tz_g_ret4K (by decide) (tz_in0 rfl) rfl

theorem e_L_law_826 (z4 : Int32) (z5 : Int64) (z9 : Int32) (z12 : Int32) (A : tz_Mem) : q_L_law_826 z4 z5 z9 z12 A =
  q_L_law_829 z4 z5 z9 z12 0 A := by
  show tz_Go 142 826 [some (.ref 0), some (.ref 17), some (.ref 157), none, some (.int z4), some (.long z5), none, none, none, some (.int z9), none, none, some (.int z12), none, none, none, none, none, none, none, none] [] A = _
  refine (tz_g_iconst (v := 0) rfl (tz_inM rfl rfl rfl)).trans ?_
  refine (tz_g_istore (L2 := [some (.ref 0), some (.ref 17), some (.ref 157), none, some (.int z4), some (.long z5), none, none, none, some (.int z9), none, none, some (.int z12), some (.int 0), none, none, none, none, none, none, none]) rfl rfl (tz_in0 rfl)).trans ?_
  exact tz_Gm (L2 := [some (.ref 0), some (.ref 17), some (.ref 157), none, some (.int z4), some (.long z5), none, none, none, some (.int z9), none, none, some (.int z12), some (.int 0), none, none, none, none, none, none, none]) rfl rfl rfl rfl

theorem e_L_law_605 (z4 : Int32) (z5 : Int64) (z7 : Int32) (z8 : Int32) (z9 : Int32) (z10 : Int32) (z11 : Int32) (z12 : Int32) (z16 : Int32) (z17 : Int32) (z18 : Int32) (z19 : Int32) (z20 : Int32) (A : tz_Mem) : q_L_law_605 z4 z5 z7 z8 z9 z10 z11 z12 z16 z17 z18 z19 z20 A =
  q_L_law_567 z4 z5 z7 z8 z9 z10 z11 z12 z16 z17 z18 z19 (z20 + 1) A := by
  show tz_Go 142 605 [some (.ref 0), some (.ref 17), some (.ref 157), none, some (.int z4), some (.long z5), none, some (.int z7), some (.int z8), some (.int z9), some (.int z10), some (.int z11), some (.int z12), none, none, none, some (.int z16), some (.int z17), some (.int z18), some (.int z19), some (.int z20)] [] A = _
  refine (tz_g_iinc (v := 1) (L2 := [some (.ref 0), some (.ref 17), some (.ref 157), none, some (.int z4), some (.long z5), none, some (.int z7), some (.int z8), some (.int z9), some (.int z10), some (.int z11), some (.int z12), none, none, none, some (.int z16), some (.int z17), some (.int z18), some (.int z19), some (.int (z20 + 1))]) rfl rfl rfl rfl (tz_inM rfl rfl rfl)).trans ?_
  refine (tz_g_goto (t := 567) (by decide) (tz_in0 rfl)).trans ?_
  exact tz_Gm (L2 := [some (.ref 0), some (.ref 17), some (.ref 157), none, some (.int z4), some (.long z5), none, some (.int z7), some (.int z8), some (.int z9), some (.int z10), some (.int z11), some (.int z12), none, none, none, some (.int z16), some (.int z17), some (.int z18), some (.int z19), some (.int (z20 + 1))]) rfl rfl rfl rfl

theorem e_L_law_829 (z4 : Int32) (z5 : Int64) (z9 : Int32) (z12 : Int32) (z13 : Int32) (A : tz_Mem) : q_L_law_829 z4 z5 z9 z12 z13 A =
  if 3 ≤ z13 then
  q_L_law_860 z4 z5 z9 z12 A
else
  if z4 ≤ 1 then
    q_L_law_860 z4 z5 z9 z12 A
  else
    tz_C A (tz_bI (f_X11_letter z13 0 1 (5 + z13) A) (fun y1 A1 =>
    q_L_law_829 z4 z5 z9 z12 (z13 + 1) A1)) := by
  show tz_Go 142 829 [some (.ref 0), some (.ref 17), some (.ref 157), none, some (.int z4), some (.long z5), none, none, none, some (.int z9), none, none, some (.int z12), some (.int z13), none, none, none, none, none, none, none] [] A = _
  refine (tz_g_iload rfl (tz_inM rfl rfl rfl)).trans ?_
  refine (tz_g_iconst (v := 3) rfl (tz_in0 rfl)).trans ?_
  refine (tz_g_ic_ge (t := 860) (by decide) (tz_in0 rfl)).trans ?_
  refine tz_cg ?_ ?_
  · skip
    exact tz_Gm (L2 := [some (.ref 0), some (.ref 17), some (.ref 157), none, some (.int z4), some (.long z5), none, none, none, some (.int z9), none, none, some (.int z12), none, none, none, none, none, none, none, none]) rfl rfl rfl rfl
  · skip
    refine (tz_g_iload rfl (tz_in0 rfl)).trans ?_
    refine (tz_g_iconst (v := 1) rfl (tz_in0 rfl)).trans ?_
    refine (tz_g_ic_le (t := 860) (by decide) (tz_in0 rfl)).trans ?_
    refine tz_cg ?_ ?_
    · skip
      exact tz_Gm (L2 := [some (.ref 0), some (.ref 17), some (.ref 157), none, some (.int z4), some (.long z5), none, none, none, some (.int z9), none, none, some (.int z12), none, none, none, none, none, none, none, none]) rfl rfl rfl rfl
    · skip
      refine (tz_g_aload_n rfl (tz_in0 rfl)).trans ?_
      refine (tz_g_iload rfl (tz_in0 rfl)).trans ?_
      refine (tz_g_iconst (v := 0) rfl (tz_in0 rfl)).trans ?_
      refine (tz_g_iconst (v := 1) rfl (tz_in0 rfl)).trans ?_
      refine (tz_g_iconst (v := 5) rfl (tz_in0 rfl)).trans ?_
      refine (tz_g_iload rfl (tz_in0 rfl)).trans ?_
      refine (tz_g_iadd (tz_in0 rfl)).trans ?_
      refine (tz_g_kv4I (m2 := 38) (rc := 1) rfl rfl rfl (fun hA => tz_conok hA rfl) rfl rfl rfl rfl (by decide) (tz_in0 rfl)).trans ?_
      refine congrArg (tz_C _) ?_
      refine tz_jI (fun y1 A1 => ?_)
      refine (tz_g_pop rfl (tz_in0 rfl)).trans ?_
      refine (tz_g_iinc (v := 1) (L2 := [some (.ref 0), some (.ref 17), some (.ref 157), none, some (.int z4), some (.long z5), none, none, none, some (.int z9), none, none, some (.int z12), some (.int (z13 + 1)), none, none, none, none, none, none, none]) rfl rfl rfl rfl (tz_in0 rfl)).trans ?_
      refine (tz_g_goto (t := 829) (by decide) (tz_in0 rfl)).trans ?_
      exact tz_Gm (L2 := [some (.ref 0), some (.ref 17), some (.ref 157), none, some (.int z4), some (.long z5), none, none, none, some (.int z9), none, none, some (.int z12), some (.int (z13 + 1)), none, none, none, none, none, none, none]) rfl rfl rfl rfl

theorem e_L_law_860 (z4 : Int32) (z5 : Int64) (z9 : Int32) (z12 : Int32) (A : tz_Mem) : q_L_law_860 z4 z5 z9 z12 A =
  if A.1 ≤ 157 then none else
if (tz_g A 157 2) ≤ 0 then
  q_L_law_873 z4 z5 z12 A
else
  tz_C A (tz_bI (f_X11_burn z9 A) (fun y1 A1 =>
  q_L_law_873 z4 z5 z12 A1)) := by
  show tz_Go 142 860 [some (.ref 0), some (.ref 17), some (.ref 157), none, some (.int z4), some (.long z5), none, none, none, some (.int z9), none, none, some (.int z12), none, none, none, none, none, none, none, none] [] A = _
  refine (tz_g_aload_n rfl (tz_inM rfl rfl rfl)).trans ?_
  refine (tz_g_iconst (v := 2) rfl (tz_in0 rfl)).trans ?_
  refine tz_gB (c := A.1 ≤ 157) (fun q => tz_gx_iaload rfl (tz_in0 rfl) q) (fun hB13 => ?_)
  refine (tz_g_iald (n := 64) (by exact tz_okB hB13 rfl) rfl rfl (tz_in0 rfl)).trans ?_
  refine (if_neg (by decide)).trans ?_
  refine (tz_g_if_le (t := 873) (by decide) (tz_in0 rfl)).trans ?_
  refine tz_cg ?_ ?_
  · skip
    exact tz_Gm (L2 := [some (.ref 0), some (.ref 17), none, none, some (.int z4), some (.long z5), none, none, none, none, none, none, some (.int z12), none, none, none, none, none, none, none, none]) rfl rfl rfl rfl
  · skip
    refine (tz_g_aload_n rfl (tz_in0 rfl)).trans ?_
    refine (tz_g_iload rfl (tz_in0 rfl)).trans ?_
    refine (tz_g_kv1I (m2 := 108) (rc := 1) rfl rfl rfl (fun hA => tz_conok hA rfl) rfl rfl rfl rfl (by decide) (tz_in0 rfl)).trans ?_
    refine congrArg (tz_C _) ?_
    refine tz_jI (fun y1 A1 => ?_)
    refine (tz_g_pop rfl (tz_in0 rfl)).trans ?_
    exact tz_Gm (L2 := [some (.ref 0), some (.ref 17), none, none, some (.int z4), some (.long z5), none, none, none, none, none, none, some (.int z12), none, none, none, none, none, none, none, none]) rfl rfl rfl rfl

theorem e_L_law_873 (z4 : Int32) (z5 : Int64) (z12 : Int32) (A : tz_Mem) : q_L_law_873 z4 z5 z12 A =
  if z4 ≤ 1 then
  q_L_law_905 z4 z5 z12 A
else
  tz_C A (tz_bI (f_X11_row 6 2 2 A) (fun y1 A1 =>
  if ¬ y1 = 1 then
    some (some (.int 0), A1)
  else
    tz_C A1 (tz_bI (f_X11_set 6 1 1 A1) (fun y2 A2 =>
    if y2 = 1 then
      q_L_law_905 z4 z5 z12 A2
    else
      some (some (.int 0), A2))))) := by
  show tz_Go 142 873 [some (.ref 0), some (.ref 17), none, none, some (.int z4), some (.long z5), none, none, none, none, none, none, some (.int z12), none, none, none, none, none, none, none, none] [] A = _
  refine (tz_g_iload rfl (tz_inM rfl rfl rfl)).trans ?_
  refine (tz_g_iconst (v := 1) rfl (tz_in0 rfl)).trans ?_
  refine (tz_g_ic_le (t := 905) (by decide) (tz_in0 rfl)).trans ?_
  refine tz_cg ?_ ?_
  · skip
    exact tz_Gm (L2 := [some (.ref 0), some (.ref 17), none, none, some (.int z4), some (.long z5), none, none, none, none, none, none, some (.int z12), none, none, none, none, none, none, none, none]) rfl rfl rfl rfl
  · skip
    refine (tz_g_aload_n rfl (tz_in0 rfl)).trans ?_
    refine (tz_g_bipush (v := 6) rfl (tz_in0 rfl)).trans ?_
    refine (tz_g_iconst (v := 2) rfl (tz_in0 rfl)).trans ?_
    refine (tz_g_iconst (v := 2) rfl (tz_in0 rfl)).trans ?_
    refine (tz_g_kv3I (m2 := 13) (rc := 1) rfl rfl rfl (fun hA => tz_conok hA rfl) rfl rfl rfl rfl (by decide) (tz_in0 rfl)).trans ?_
    refine congrArg (tz_C _) ?_
    refine tz_jI (fun y1 A1 => ?_)
    refine (tz_g_iconst (v := 1) rfl (tz_in0 rfl)).trans ?_
    refine (tz_g_ic_ne (t := 903) (by decide) (tz_in0 rfl)).trans ?_
    refine tz_cg ?_ ?_
    · skip
      refine (tz_g_iconst (v := 0) rfl (tz_in0 rfl)).trans ?_
      exact tz_g_ret4K (by decide) (tz_in0 rfl) rfl
    · skip
      refine (tz_g_aload_n rfl (tz_in0 rfl)).trans ?_
      refine (tz_g_bipush (v := 6) rfl (tz_in0 rfl)).trans ?_
      refine (tz_g_iconst (v := 1) rfl (tz_in0 rfl)).trans ?_
      refine (tz_g_lconst (v := 1) rfl (tz_in0 rfl)).trans ?_
      refine (tz_g_kv3I (m2 := 18) (rc := 1) rfl rfl rfl (fun hA => tz_conok hA rfl) rfl rfl rfl rfl (by decide) (tz_in0 rfl)).trans ?_
      refine congrArg (tz_C _) ?_
      refine tz_jI (fun y2 A2 => ?_)
      refine (tz_g_iconst (v := 1) rfl (tz_in0 rfl)).trans ?_
      refine (tz_g_ic_eq (t := 905) (by decide) (tz_in0 rfl)).trans ?_
      refine tz_cg ?_ ?_
      · skip
        exact tz_Gm (L2 := [some (.ref 0), some (.ref 17), none, none, some (.int z4), some (.long z5), none, none, none, none, none, none, some (.int z12), none, none, none, none, none, none, none, none]) rfl rfl rfl rfl
      · skip
        refine (tz_g_iconst (v := 0) rfl (tz_in0 rfl)).trans ?_
        exact tz_g_ret4K (by decide) (tz_in0 rfl) rfl

theorem e_L_law_905 (z4 : Int32) (z5 : Int64) (z12 : Int32) (A : tz_Mem) : q_L_law_905 z4 z5 z12 A =
  if z4 ≤ 1 then
  q_L_law_924 z4 z5 z12 A
else
  tz_C A (tz_bI (f_X11_storm 6 2 1 50 9 A) (fun y1 A1 =>
  q_L_law_924 z4 z5 z12 A1)) := by
  show tz_Go 142 905 [some (.ref 0), some (.ref 17), none, none, some (.int z4), some (.long z5), none, none, none, none, none, none, some (.int z12), none, none, none, none, none, none, none, none] [] A = _
  refine (tz_g_iload rfl (tz_inM rfl rfl rfl)).trans ?_
  refine (tz_g_iconst (v := 1) rfl (tz_in0 rfl)).trans ?_
  refine (tz_g_ic_le (t := 924) (by decide) (tz_in0 rfl)).trans ?_
  refine tz_cg ?_ ?_
  · skip
    exact tz_Gm (L2 := [some (.ref 0), some (.ref 17), none, none, some (.int z4), some (.long z5), none, none, none, none, none, none, some (.int z12), none, none, none, none, none, none, none, none]) rfl rfl rfl rfl
  · skip
    refine (tz_g_aload_n rfl (tz_in0 rfl)).trans ?_
    refine (tz_g_bipush (v := 6) rfl (tz_in0 rfl)).trans ?_
    refine (tz_g_iconst (v := 2) rfl (tz_in0 rfl)).trans ?_
    refine (tz_g_iconst (v := 1) rfl (tz_in0 rfl)).trans ?_
    refine (tz_g_bipush (v := 50) rfl (tz_in0 rfl)).trans ?_
    refine (tz_g_bipush (v := 9) rfl (tz_in0 rfl)).trans ?_
    refine (tz_g_kv5I (m2 := 30) (rc := 1) rfl rfl rfl (fun hA => tz_conok hA rfl) rfl rfl rfl rfl (by decide) (tz_in0 rfl)).trans ?_
    refine congrArg (tz_C _) ?_
    refine tz_jI (fun y1 A1 => ?_)
    refine (tz_g_pop rfl (tz_in0 rfl)).trans ?_
    exact tz_Gm (L2 := [some (.ref 0), some (.ref 17), none, none, some (.int z4), some (.long z5), none, none, none, none, none, none, some (.int z12), none, none, none, none, none, none, none, none]) rfl rfl rfl rfl

theorem e_L_law_924 (z4 : Int32) (z5 : Int64) (z12 : Int32) (A : tz_Mem) : q_L_law_924 z4 z5 z12 A =
  tz_C A (tz_bI (f_X11_hours 30 A) (fun y1 A1 =>
tz_C A1 (tz_bI (f_X11_dry 60 A1) (fun y2 A2 =>
tz_C A2 (tz_bI (f_X11_drought 20 A2) (fun y3 A3 =>
tz_C A3 (tz_bI (f_L_at 27 A3) (fun y4 A4 =>
tz_C A4 (tz_bI (f_X11_seed y4 A4) (fun y5 A5 =>
q_L_law_956 z4 z5 z12 A5)))))))))) := by
  show tz_Go 142 924 [some (.ref 0), some (.ref 17), none, none, some (.int z4), some (.long z5), none, none, none, none, none, none, some (.int z12), none, none, none, none, none, none, none, none] [] A = _
  refine (tz_g_aload_n rfl (tz_inM rfl rfl rfl)).trans ?_
  refine (tz_g_bipush (v := 30) rfl (tz_in0 rfl)).trans ?_
  refine (tz_g_kv1I (m2 := 106) (rc := 1) rfl rfl rfl (fun hA => tz_conok hA rfl) rfl rfl rfl rfl (by decide) (tz_in0 rfl)).trans ?_
  refine congrArg (tz_C _) ?_
  refine tz_jI (fun y1 A1 => ?_)
  refine (tz_g_pop rfl (tz_in0 rfl)).trans ?_
  refine (tz_g_aload_n rfl (tz_in0 rfl)).trans ?_
  refine (tz_g_bipush (v := 60) rfl (tz_in0 rfl)).trans ?_
  refine (tz_g_kv1I (m2 := 109) (rc := 1) rfl rfl rfl (fun hA => tz_conok hA rfl) rfl rfl rfl rfl (by decide) (tz_in0 rfl)).trans ?_
  refine congrArg (tz_C _) ?_
  refine tz_jI (fun y2 A2 => ?_)
  refine (tz_g_pop rfl (tz_in0 rfl)).trans ?_
  refine (tz_g_aload_n rfl (tz_in0 rfl)).trans ?_
  refine (tz_g_bipush (v := 20) rfl (tz_in0 rfl)).trans ?_
  refine (tz_g_kv1I (m2 := 110) (rc := 1) rfl rfl rfl (fun hA => tz_conok hA rfl) rfl rfl rfl rfl (by decide) (tz_in0 rfl)).trans ?_
  refine congrArg (tz_C _) ?_
  refine tz_jI (fun y3 A3 => ?_)
  refine (tz_g_pop rfl (tz_in0 rfl)).trans ?_
  refine (tz_g_aload_n rfl (tz_in0 rfl)).trans ?_
  refine (tz_g_aload_n rfl (tz_in0 rfl)).trans ?_
  refine (tz_g_bipush (v := 27) rfl (tz_in0 rfl)).trans ?_
  refine (tz_g_ks2I (m2 := 119) (rc := 1) rfl rfl rfl rfl rfl rfl (by decide) (tz_in0 rfl)).trans ?_
  refine congrArg (tz_C _) ?_
  refine tz_jI (fun y4 A4 => ?_)
  refine (tz_g_kv1I (m2 := 113) (rc := 1) rfl rfl rfl (fun hA => tz_conok hA rfl) rfl rfl rfl rfl (by decide) (tz_in0 rfl)).trans ?_
  refine congrArg (tz_C _) ?_
  refine tz_jI (fun y5 A5 => ?_)
  refine (tz_g_pop rfl (tz_in0 rfl)).trans ?_
  exact tz_Gm (L2 := [none, some (.ref 17), none, none, some (.int z4), some (.long z5), none, none, none, none, none, none, some (.int z12), none, none, none, none, none, none, none, none]) rfl rfl rfl rfl

theorem e_L_law_956 (z4 : Int32) (z5 : Int64) (z12 : Int32) (A : tz_Mem) : q_L_law_956 z4 z5 z12 A =
  tz_C A (tz_bI (f_X11_restore A) (fun y1 A1 =>
if ¬ y1 = z4 then
  some (some (.int 0), A1)
else
  tz_C A1 (tz_bL (f_L_told A1) (fun y2 A2 =>
  if (lg_cmp y2 z5) = 0 then
    q_L_law_977 z4 z5 z12 A2
  else
    some (some (.int 0), A2))))) := by
  show tz_Go 142 956 [none, some (.ref 17), none, none, some (.int z4), some (.long z5), none, none, none, none, none, none, some (.int z12), none, none, none, none, none, none, none, none] [] A = _
  refine (tz_g_aload_n rfl (tz_inM rfl rfl rfl)).trans ?_
  refine (tz_g_kv0I (m2 := 115) (rc := 1) rfl rfl rfl (fun hA => tz_conok hA rfl) rfl rfl rfl rfl (by decide) (tz_in0 rfl)).trans ?_
  refine congrArg (tz_C _) ?_
  refine tz_jI (fun y1 A1 => ?_)
  refine (tz_g_iload rfl (tz_in0 rfl)).trans ?_
  refine (tz_g_ic_ne (t := 975) (by decide) (tz_in0 rfl)).trans ?_
  refine tz_cg ?_ ?_
  · skip
    refine (tz_g_iconst (v := 0) rfl (tz_in0 rfl)).trans ?_
    exact tz_g_ret4K (by decide) (tz_in0 rfl) rfl
  · skip
    refine (tz_g_aload_n rfl (tz_in0 rfl)).trans ?_
    refine (tz_g_ks1L (m2 := 131) (rc := 2) rfl rfl rfl rfl rfl rfl (by decide) (tz_in0 rfl)).trans ?_
    refine congrArg (tz_C _) ?_
    refine tz_jL (fun y2 A2 => ?_)
    refine (tz_g_lload rfl (tz_in0 rfl)).trans ?_
    refine (tz_g_lcmp (tz_in0 rfl)).trans ?_
    refine (tz_g_if_eq (t := 977) (by decide) (tz_in0 rfl)).trans ?_
    refine tz_cg ?_ ?_
    · skip
      exact tz_Gm (L2 := [none, some (.ref 17), none, none, some (.int z4), some (.long z5), none, none, none, none, none, none, some (.int z12), none, none, none, none, none, none, none, none]) rfl rfl rfl rfl
    · skip
      refine (tz_g_iconst (v := 0) rfl (tz_in0 rfl)).trans ?_
      exact tz_g_ret4K (by decide) (tz_in0 rfl) rfl

theorem e_L_law_977 (z4 : Int32) (z5 : Int64) (z12 : Int32) (A : tz_Mem) : q_L_law_977 z4 z5 z12 A =
  if z4 ≤ 0 then
  q_L_law_994 z4 z5 z12 A
else
  tz_C A (tz_bI (f_X11_holds 1 A) (fun y1 A1 =>
  if ¬ y1 = (z4 - 1) then
    some (some (.int 0), A1)
  else
    q_L_law_994 z4 z5 z12 A1)) := by
  show tz_Go 142 977 [none, some (.ref 17), none, none, some (.int z4), some (.long z5), none, none, none, none, none, none, some (.int z12), none, none, none, none, none, none, none, none] [] A = _
  refine (tz_g_iload rfl (tz_inM rfl rfl rfl)).trans ?_
  refine (tz_g_if_le (t := 994) (by decide) (tz_in0 rfl)).trans ?_
  refine tz_cg ?_ ?_
  · skip
    exact tz_Gm (L2 := [none, some (.ref 17), none, none, some (.int z4), some (.long z5), none, none, none, none, none, none, some (.int z12), none, none, none, none, none, none, none, none]) rfl rfl rfl rfl
  · skip
    refine (tz_g_aload_n rfl (tz_in0 rfl)).trans ?_
    refine (tz_g_iconst (v := 1) rfl (tz_in0 rfl)).trans ?_
    refine (tz_g_kv1I (m2 := 25) (rc := 1) rfl rfl rfl (fun hA => tz_conok hA rfl) rfl rfl rfl rfl (by decide) (tz_in0 rfl)).trans ?_
    refine congrArg (tz_C _) ?_
    refine tz_jI (fun y1 A1 => ?_)
    refine (tz_g_iload rfl (tz_in0 rfl)).trans ?_
    refine (tz_g_iconst (v := 1) rfl (tz_in0 rfl)).trans ?_
    refine (tz_g_isub (tz_in0 rfl)).trans ?_
    refine (tz_g_ic_ne (t := 1018) (by decide) (tz_in0 rfl)).trans ?_
    refine tz_cg ?_ ?_
    · skip
      refine (tz_g_iconst (v := 0) rfl (tz_in0 rfl)).trans ?_
      exact tz_g_ret4K (by decide) (tz_in0 rfl) rfl
    · skip
      exact tz_Gm (L2 := [none, some (.ref 17), none, none, some (.int z4), some (.long z5), none, none, none, none, none, none, some (.int z12), none, none, none, none, none, none, none, none]) rfl rfl rfl rfl

theorem e_L_law_994 (z4 : Int32) (z5 : Int64) (z12 : Int32) (A : tz_Mem) : q_L_law_994 z4 z5 z12 A =
  if z12 < 0 then
  q_L_law_1008 z4 z5 A
else
  tz_C A (tz_bI (f_X11_holds 2 A) (fun y1 A1 =>
  if ¬ y1 = (-1) then
    some (some (.int 0), A1)
  else
    q_L_law_1008 z4 z5 A1)) := by
  show tz_Go 142 994 [none, some (.ref 17), none, none, some (.int z4), some (.long z5), none, none, none, none, none, none, some (.int z12), none, none, none, none, none, none, none, none] [] A = _
  refine (tz_g_iload rfl (tz_inM rfl rfl rfl)).trans ?_
  refine (tz_g_if_lt (t := 1008) (by decide) (tz_in0 rfl)).trans ?_
  refine tz_cg ?_ ?_
  · skip
    exact tz_Gm (L2 := [none, some (.ref 17), none, none, some (.int z4), some (.long z5), none, none, none, none, none, none, none, none, none, none, none, none, none, none, none]) rfl rfl rfl rfl
  · skip
    refine (tz_g_aload_n rfl (tz_in0 rfl)).trans ?_
    refine (tz_g_iconst (v := 2) rfl (tz_in0 rfl)).trans ?_
    refine (tz_g_kv1I (m2 := 25) (rc := 1) rfl rfl rfl (fun hA => tz_conok hA rfl) rfl rfl rfl rfl (by decide) (tz_in0 rfl)).trans ?_
    refine congrArg (tz_C _) ?_
    refine tz_jI (fun y1 A1 => ?_)
    refine (tz_g_iconst (v := (-1)) rfl (tz_in0 rfl)).trans ?_
    refine (tz_g_ic_ne (t := 1018) (by decide) (tz_in0 rfl)).trans ?_
    refine tz_cg ?_ ?_
    · skip
      refine (tz_g_iconst (v := 0) rfl (tz_in0 rfl)).trans ?_
      exact tz_g_ret4K (by decide) (tz_in0 rfl) rfl
    · skip
      exact tz_Gm (L2 := [none, some (.ref 17), none, none, some (.int z4), some (.long z5), none, none, none, none, none, none, none, none, none, none, none, none, none, none, none]) rfl rfl rfl rfl

theorem e_L_law_1008 (z4 : Int32) (z5 : Int64) (A : tz_Mem) : q_L_law_1008 z4 z5 A =
  tz_C A (tz_bI (f_X11_holds 5 A) (fun y1 A1 =>
if y1 = 100 then
  q_L_law_1020 z4 z5 A1
else
  some (some (.int 0), A1))) := by
  show tz_Go 142 1008 [none, some (.ref 17), none, none, some (.int z4), some (.long z5), none, none, none, none, none, none, none, none, none, none, none, none, none, none, none] [] A = _
  refine (tz_g_aload_n rfl (tz_inM rfl rfl rfl)).trans ?_
  refine (tz_g_iconst (v := 5) rfl (tz_in0 rfl)).trans ?_
  refine (tz_g_kv1I (m2 := 25) (rc := 1) rfl rfl rfl (fun hA => tz_conok hA rfl) rfl rfl rfl rfl (by decide) (tz_in0 rfl)).trans ?_
  refine congrArg (tz_C _) ?_
  refine tz_jI (fun y1 A1 => ?_)
  refine (tz_g_bipush (v := 100) rfl (tz_in0 rfl)).trans ?_
  refine (tz_g_ic_eq (t := 1020) (by decide) (tz_in0 rfl)).trans ?_
  refine tz_cg ?_ ?_
  · skip
    exact tz_Gm (L2 := [none, some (.ref 17), none, none, some (.int z4), some (.long z5), none, none, none, none, none, none, none, none, none, none, none, none, none, none, none]) rfl rfl rfl rfl
  · skip
    refine (tz_g_iconst (v := 0) rfl (tz_in0 rfl)).trans ?_
    exact tz_g_ret4K (by decide) (tz_in0 rfl) rfl

theorem e_L_law_1020 (z4 : Int32) (z5 : Int64) (A : tz_Mem) : q_L_law_1020 z4 z5 A =
  tz_C A (tz_bI (f_X11_restore A) (fun y1 A1 =>
if ¬ y1 = z4 then
  some (some (.int 0), A1)
else
  tz_C A1 (tz_bL (f_L_told A1) (fun y2 A2 =>
  if ¬ (lg_cmp y2 z5) = 0 then
    some (some (.int 0), A2)
  else
    some (some (.int 1), A2))))) := by
  show tz_Go 142 1020 [none, some (.ref 17), none, none, some (.int z4), some (.long z5), none, none, none, none, none, none, none, none, none, none, none, none, none, none, none] [] A = _
  refine (tz_g_aload_n rfl (tz_inM rfl rfl rfl)).trans ?_
  refine (tz_g_kv0I (m2 := 115) (rc := 1) rfl rfl rfl (fun hA => tz_conok hA rfl) rfl rfl rfl rfl (by decide) (tz_in0 rfl)).trans ?_
  refine congrArg (tz_C _) ?_
  refine tz_jI (fun y1 A1 => ?_)
  refine (tz_g_iload rfl (tz_in0 rfl)).trans ?_
  refine (tz_g_ic_ne (t := 1043) (by decide) (tz_in0 rfl)).trans ?_
  refine tz_cg ?_ ?_
  · skip
    refine (tz_g_iconst (v := 0) rfl (tz_in0 rfl)).trans ?_
    exact tz_g_ret4K (by decide) (tz_in0 rfl) rfl
  · skip
    refine (tz_g_aload_n rfl (tz_in0 rfl)).trans ?_
    refine (tz_g_ks1L (m2 := 131) (rc := 2) rfl rfl rfl rfl rfl rfl (by decide) (tz_in0 rfl)).trans ?_
    refine congrArg (tz_C _) ?_
    refine tz_jL (fun y2 A2 => ?_)
    refine (tz_g_lload rfl (tz_in0 rfl)).trans ?_
    refine (tz_g_lcmp (tz_in0 rfl)).trans ?_
    refine (tz_g_if_ne (t := 1043) (by decide) (tz_in0 rfl)).trans ?_
    refine tz_cg ?_ ?_
    · skip
      refine (tz_g_iconst (v := 0) rfl (tz_in0 rfl)).trans ?_
      exact tz_g_ret4K (by decide) (tz_in0 rfl) rfl
    · skip
      refine (tz_g_iconst (v := 1) rfl (tz_in0 rfl)).trans ?_
      refine (tz_g_goto (t := 1044) (by decide) (tz_in0 rfl)).trans ?_
      exact tz_g_ret4K (by decide) (tz_in0 rfl) rfl

set_option maxRecDepth 8192 in
theorem e_L_law_43 (A : tz_Mem) (hA : A.1 = 17) : tz_Go 142 43 [some (.ref 0), none, none, none, none, none, none, none, none, none, none, none, none, none, none, none, none, none, none, none, none] [] A = q_L_law_61 (tz_nw (tz_nw (c_X11_init_k17 (tz_nw A 1)) 1) 1) := by
  obtain ⟨t, M, Lg, Rf⟩ := A
  obtain rfl : t = 17 := hA
  refine (tz_g_newp (j := 17) rfl rfl rfl (tz_in0 rfl)).trans ?_
  refine (tz_g_dup rfl (tz_in0 rfl)).trans ?_
  refine (tz_g_cp0V (m2 := 0) (rc := 0) rfl rfl rfl rfl rfl rfl (by decide) (tz_in0 rfl)).trans ?_
  refine (tz_cc (e_X11_init_k17 _ rfl)).trans ?_
  refine tz_bV_some.trans ?_
  refine (tz_g_astore_n (L2 := [some (.ref 0), some (.ref 17), none, none, none, none, none, none, none, none, none, none, none, none, none, none, none, none, none, none, none]) rfl rfl (tz_in0 rfl)).trans ?_
  refine (tz_g_bipush (v := 64) rfl (tz_in0 rfl)).trans ?_
  refine (tz_g_newpi (j := 157) rfl (by decide) rfl rfl (tz_in0 rfl)).trans ?_
  refine (tz_g_astore_n (L2 := [some (.ref 0), some (.ref 17), some (.ref 157), none, none, none, none, none, none, none, none, none, none, none, none, none, none, none, none, none, none]) rfl rfl (tz_in0 rfl)).trans ?_
  refine (tz_g_bipush (v := 40) rfl (tz_in0 rfl)).trans ?_
  refine (tz_g_newpj (j := 158) rfl (by decide) rfl rfl (tz_in0 rfl)).trans ?_
  refine (tz_g_astore_n (L2 := [some (.ref 0), some (.ref 17), some (.ref 157), some (.ref 158), none, none, none, none, none, none, none, none, none, none, none, none, none, none, none, none, none]) rfl rfl (tz_in0 rfl)).trans ?_
  exact tz_Gm (L2 := [some (.ref 0), some (.ref 17), some (.ref 157), some (.ref 158), none, none, none, none, none, none, none, none, none, none, none, none, none, none, none, none, none]) rfl rfl rfl rfl
