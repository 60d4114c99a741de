/-! the law's first three objects: a run that stops ahead of the next one -/
def tz_L0 : tz_Lo := [some (.ref 0), none, none, none, none, none, none, none, none, none, none, none, none, none, none, none, none, none, none, none, none]
noncomputable def tz_to (n stop : Nat) : Nat → Nat → tz_Lo → List Value → tz_Mem → tz_X
  | 0, pc, L, st, A => @ite _ (pc = stop ∧ L = tz_L0 ∧ st = []) (Classical.propDecidable _) (some (none, A)) none
  | j + 1, pc, L, st, A => tz_stp (fun m2 as A2 => tz_go n m2 0 (tz_ent m2 as) [] A2) (fun pc2 L2 st2 A2 => tz_to n stop j pc2 L2 st2 A2) 142 pc L st A
theorem tz_to_sound {l : Launch} (hM : tz_RowM l) {G : tz_Gh} (hV : (tz_vS G).category = 1) {p : Program} {e : Env} {R : Room} {s : State} {ma : MethodId} {args : Array Value} {below : List Frame} {meth : Method} {c : Code} {Q : State → Prop} {a0 : Nat} {dd : Nat × Nat} (F : tz_Fr p l R s ma args meth c G 142 a0 dd) (hca : tz_cm 142 ≤ a0) {n stop : Nat} {A2 : tz_Mem} (hrC : A2.1 - a0 + dd.1 ≤ R.cells) (hrS : tz_ss A2.1 - tz_ss a0 + dd.2 ≤ R.slots) (hk : tz_K p l e R s ma args below meth c Q G 142 a0 dd stop tz_L0 [] A2) : ∀ j pc L st A, tz_to n stop j pc L st A = some (none, A2) → A.1 ≤ A2.1 ∧ (a0 ≤ A.1 → tz_K p l e R s ma args below meth c Q G 142 a0 dd pc L st A) := by
  have hX : tz_Xt p l e R s ma args below meth c Q G 142 a0 dd none A2 := fun pc ls H locs _ _ hrd => absurd hrd.2 (by decide +kernel)
  intro j
  induction j with
  | zero =>
    intro pc L st A h
    by_cases z : pc = stop ∧ L = tz_L0 ∧ st = []
    · have h2 : some ((none : Option Value), A) = some (none, A2) := (if_pos z).symm.trans h
      cases h2
      obtain ⟨rfl, rfl, rfl⟩ := z
      exact ⟨Nat.le_refl _, fun _ => hk⟩
    · have h2 : (none : tz_X) = some (none, A2) := (if_neg z).symm.trans h
      cases h2
  | succ j ih =>
    intro pc L st A h
    have h9 : tz_stp (fun m2 as A2 => tz_go n m2 0 (tz_ent m2 as) [] A2) (fun pc2 L2 st2 A2 => tz_to n stop j pc2 L2 st2 A2) 142 pc L st A = some (none, A2) := h
    unfold tz_stp at h9
    split at h9
    · rename_i i np mq hcode
      have q := tz_ins_sound hM F hca hrC hrS hX (fun pc2 L2 st2 A3 hk => ih pc2 L2 st2 A3 hk) (fun m2 as A3 r2 A4 hm2 hc hlay => ⟨tz_go_top hc, (tz_sound hM hV n).1 m2 as A3 r2 A4 hm2 hc hlay⟩) (tz_code_A _ _ _ hcode) _ _ _ h9
      exact ⟨q.1, fun ha => tz_K.mask (q.2 ha)⟩
    · cases h9
theorem to_step {n stop j pc : Nat} {st : List Value} {A : tz_Mem} {i : Instr} {np mq : Nat} (hc : tz_code 142 pc = some (i, np, mq)) (hm : tz_mk mq tz_L0 = tz_L0) : tz_to n stop (j + 1) pc tz_L0 st A = tz_ins (fun m2 as A2 => tz_go n m2 0 (tz_ent m2 as) [] A2) (fun pc2 L2 st2 A2 => tz_to n stop j pc2 L2 st2 A2) 142 pc i np tz_L0 st A := by
  show tz_stp _ _ 142 pc tz_L0 st A = _
  unfold tz_stp
  rw [hc]
  show tz_ins _ _ 142 pc i np (tz_mk mq tz_L0) st A = _
  rw [hm]
theorem ti_new {call : Nat → List Value → tz_Mem → tz_X} {k : Nat → tz_Lo → List Value → tz_Mem → tz_X} {m pc np : Nat} {L : tz_Lo} {r : List Value} {A : tz_Mem} {idx ci : Nat} (hc : tz_cls (tz_pn m) idx = some ci) (hk : (Nat.beq (tz_kd A.1) ci && Nat.ble tz_E0 A.1) = true) : tz_ins call k m pc (.new idx) np L r A = k np L (.ref A.1 :: r) (tz_nw A 1) := by
  show tz_m1 _ _ = _
  rw [hc]
  show (bif _ then _ else _) = _
  rw [hk]
  rfl
theorem ti_dup {call : Nat → List Value → tz_Mem → tz_X} {k : Nat → tz_Lo → List Value → tz_Mem → tz_X} {m pc np : Nat} {L : tz_Lo} {r : List Value} {A : tz_Mem} {v : Value} (h1 : Nat.beq v.category 1 = true) : tz_ins call k m pc .dup np L (v :: r) A = k np L (v :: v :: r) A := by
  show (bif _ then _ else _) = _
  rw [h1]
  rfl
theorem ti_ic_ne {call : Nat → List Value → tz_Mem → tz_X} {k : Nat → tz_Lo → List Value → tz_Mem → tz_X} {m pc np : Nat} {L : tz_Lo} {r : List Value} {A : tz_Mem} {x y : Int32} {off : Int} {t : Nat} (ht : (pc : Int) + off = (t : Int)) : tz_ins call k m pc (.if_icmp .ne off) np L (.int y :: .int x :: r) A = if ¬ x = y then k t L r A else k np L r A := tz_tg ht
theorem ti_if_ne {call : Nat → List Value → tz_Mem → tz_X} {k : Nat → tz_Lo → List Value → tz_Mem → tz_X} {m pc np : Nat} {L : tz_Lo} {r : List Value} {A : tz_Mem} {x : Int32} {off : Int} {t : Nat} (ht : (pc : Int) + off = (t : Int)) : tz_ins call k m pc (.ifCond .ne off) np L (.int x :: r) A = if ¬ x = 0 then k t L r A else k np L r A := tz_tg ht
theorem ti_if_eq {call : Nat → List Value → tz_Mem → tz_X} {k : Nat → tz_Lo → List Value → tz_Mem → tz_X} {m pc np : Nat} {L : tz_Lo} {r : List Value} {A : tz_Mem} {x : Int32} {off : Int} {t : Nat} (ht : (pc : Int) + off = (t : Int)) : tz_ins call k m pc (.ifCond .eq off) np L (.int x :: r) A = if x = 0 then k t L r A else k np L r A := tz_tg ht
theorem ti_cp {call : Nat → List Value → tz_Mem → tz_X} {k : Nat → tz_Lo → List Value → tz_Mem → tz_X} {m pc np : Nat} {L : tz_Lo} {r : List Value} {A A2 : tz_Mem} {idx m2 how a : Nat} (hnp : tz_np (tz_pn m) idx = some 0) (hm : tz_mth (tz_pn m) idx 999 = some (how, m2)) (hh : ((Nat.beq how 2 || Nat.beq how 3) && tz_ok (tz_cm m) A a) = true) (hk : (Nat.blt (tz_rk m2) (tz_rk m) && Nat.ble (tz_cat r) 8 && Nat.ble (tz_lay [.ref a]).length (tz_ml m2)) = true) (hc : Nat.beq (tz_cm m) (tz_cm m2) = true) (hr : tz_rc m2 = 0) (hf : call m2 [.ref a] A = some (none, A2)) : tz_ins call k m pc (.invokespecial idx) np L (.ref a :: r) A = k np L r A2 := by
  show tz_m1 _ _ = _
  refine (tz_m1_e hnp).trans ?_
  refine (tz_pop_e (n := 1) (st := .ref a :: r) (Nat.ble_eq_true_of_le (by simp))).trans ?_
  show tz_m2 (tz_mth (tz_pn m) idx 999) _ = _
  refine (tz_m2_e hm).trans ?_
  refine (tz_bt hh).trans ?_
  refine (tz_inv_eq hk hc).trans ?_
  unfold tz_bd
  rw [hr]
  show tz_bV (call m2 [.ref a] A) _ = _
  rw [hf]
  rfl
theorem ti_kv {call : Nat → List Value → tz_Mem → tz_X} {k : Nat → tz_Lo → List Value → tz_Mem → tz_X} {m pc np : Nat} {L : tz_Lo} {r : List Value} {A A2 : tz_Mem} {idx m2 how a : Nat} {x : Int32} (hnp : tz_np (tz_pn m) idx = some 0) (hm : tz_mth (tz_pn m) idx (tz_kd a) = some (how, m2)) (hh : (Nat.beq how 1 || Nat.beq how 5) = true) (hok : tz_con A → tz_ok (tz_cm m) A a = true) (hk : (Nat.blt (tz_rk m2) (tz_rk m) && Nat.ble (tz_cat r) 8 && Nat.ble (tz_lay [.ref a]).length (tz_ml m2)) = true) (hc : Nat.beq (tz_cm m) (tz_cm m2) = false) (h2 : Nat.beq (tz_cm m2) tz_N0 = true) (hr : tz_rc m2 = 1) (hA : tz_con A) (hf : call m2 [.ref a] A = some (some (.int x), A2)) : tz_ins call k m pc (.invokevirtual idx) np L (.ref a :: r) A = k np L (.int x :: r) A2 := by
  show tz_m1 _ _ = _
  refine (tz_m1_e hnp).trans ?_
  refine (tz_pop_e (n := 1) (st := .ref a :: r) (Nat.ble_eq_true_of_le (by simp))).trans ?_
  show tz_m2 (tz_mth (tz_pn m) idx (tz_kd a)) _ = _
  refine (tz_m2_e hm).trans ?_
  refine (tz_call_con hh hok hk hc h2).trans ?_
  refine (tz_C_pos hA).trans ?_
  unfold tz_bd
  rw [hr]
  show tz_bI (call m2 [.ref a] A) _ = _
  rw [hf]
  rfl
theorem to_end {n stop : Nat} {A : tz_Mem} : tz_to n stop 0 stop tz_L0 [] A = some (none, A) := if_pos ⟨rfl, rfl, rfl⟩
theorem seg_0 {n : Nat} {xs : Nat → Int32} {L : Nat} {A' : tz_Mem} (h1 : tz_go n 0 0 (tz_ent 0 [.ref 17]) [] (tz_nw (tz_A0 xs L) 1) = some (none, tz_B (tz_A0 xs L))) (h2 : tz_go n 115 0 (tz_ent 115 [.ref 17]) [] (tz_B (tz_A0 xs L)) = some (some (.int (tz_j 4294967290)), A')) (hcon : tz_con (tz_B (tz_A0 xs L))) : tz_to n 15 6 0 tz_L0 [] (tz_A0 xs L) = some (none, A') := by
  refine (to_step rfl rfl).trans ?_
  refine (ti_new rfl rfl).trans ?_
  refine (to_step (pc := 3) rfl rfl).trans ?_
  refine (ti_dup rfl).trans ?_
  refine (to_step (pc := 4) rfl rfl).trans ?_
  refine (ti_cp (m2 := 0) (a := 17) (r := [.ref 17]) rfl rfl rfl rfl rfl rfl h1).trans ?_
  refine (to_step (pc := 7) rfl rfl).trans ?_
  refine (ti_kv (m2 := 115) (a := 17) (r := []) rfl rfl rfl (fun hA => tz_conok hA rfl) rfl rfl rfl rfl hcon h2).trans ?_
  show tz_to n 15 2 10 tz_L0 [.int (tz_j 4294967290)] A' = _
  refine (to_step rfl rfl).trans ?_
  show tz_to n 15 1 12 tz_L0 [.int ((Int8.ofInt (-6)).toInt32), .int (tz_j 4294967290)] A' = _
  refine (to_step rfl rfl).trans ?_
  refine (ti_ic_ne (t := 41) (by decide)).trans ?_
  refine (if_neg (show ¬ ¬ tz_j 4294967290 = (Int8.ofInt (-6)).toInt32 from fun y => y (by decide))).trans ?_
  exact to_end
theorem seg_15 {n : Nat} {xs : Nat → Int32} {L : Nat} {A' : tz_Mem} (h1 : tz_go n 0 0 (tz_ent 0 [.ref 17]) [] (tz_nw (tz_A0 xs L) 1) = some (none, tz_B (tz_A0 xs L))) (h2 : tz_go n 114 0 (tz_ent 114 [.ref 17]) [] (tz_B (tz_A0 xs L)) = some (some (.int (tz_j 0)), A')) (hcon : tz_con (tz_B (tz_A0 xs L))) : tz_to n 28 5 15 tz_L0 [] (tz_A0 xs L) = some (none, A') := by
  refine (to_step rfl rfl).trans ?_
  refine (ti_new rfl rfl).trans ?_
  refine (to_step (pc := 18) rfl rfl).trans ?_
  refine (ti_dup rfl).trans ?_
  refine (to_step (pc := 19) rfl rfl).trans ?_
  refine (ti_cp (m2 := 0) (a := 17) (r := [.ref 17]) rfl rfl rfl rfl rfl rfl h1).trans ?_
  refine (to_step (pc := 22) rfl rfl).trans ?_
  refine (ti_kv (m2 := 114) (a := 17) (r := []) rfl rfl rfl (fun hA => tz_conok hA rfl) rfl rfl rfl rfl hcon h2).trans ?_
  show tz_to n 28 1 25 tz_L0 [.int (tz_j 0)] A' = _
  refine (to_step rfl rfl).trans ?_
  refine (ti_if_ne (t := 41) (by decide)).trans ?_
  refine (if_neg (show ¬ ¬ tz_j 0 = 0 from fun y => y rfl)).trans ?_
  exact to_end
theorem seg_28 {n : Nat} {xs : Nat → Int32} {L : Nat} {A' : tz_Mem} (h1 : tz_go n 0 0 (tz_ent 0 [.ref 17]) [] (tz_nw (tz_A0 xs L) 1) = some (none, tz_B (tz_A0 xs L))) (h2 : tz_go n 105 0 (tz_ent 105 [.ref 17]) [] (tz_B (tz_A0 xs L)) = some (some (.int (tz_j 0)), A')) (hcon : tz_con (tz_B (tz_A0 xs L))) : tz_to n 43 5 28 tz_L0 [] (tz_A0 xs L) = some (none, A') := by
  refine (to_step rfl rfl).trans ?_
  refine (ti_new rfl rfl).trans ?_
  refine (to_step (pc := 31) rfl rfl).trans ?_
  refine (ti_dup rfl).trans ?_
  refine (to_step (pc := 32) rfl rfl).trans ?_
  refine (ti_cp (m2 := 0) (a := 17) (r := [.ref 17]) rfl rfl rfl rfl rfl rfl h1).trans ?_
  refine (to_step (pc := 35) rfl rfl).trans ?_
  refine (ti_kv (m2 := 105) (a := 17) (r := []) rfl rfl rfl (fun hA => tz_conok hA rfl) rfl rfl rfl rfl hcon h2).trans ?_
  show tz_to n 43 1 38 tz_L0 [.int (tz_j 0)] A' = _
  refine (to_step rfl rfl).trans ?_
  refine (ti_if_eq (t := 43) (by decide)).trans ?_
  refine (if_pos (show tz_j 0 = 0 from rfl)).trans ?_
  exact to_end
/-- a run long enough for the object's making and its one call -/
theorem to_n {mc : Nat} {v : Int32} {xs : Nat → Int32} {L : Nat} {A' : tz_Mem} (h : tz_F mc [.ref 17] (tz_B (tz_A0 xs L)) = some (some (.int v), A')) : ∃ n, tz_go n 0 0 (tz_ent 0 [.ref 17]) [] (tz_nw (tz_A0 xs L) 1) = some (none, tz_B (tz_A0 xs L)) ∧ tz_go n mc 0 (tz_ent mc [.ref 17]) [] (tz_B (tz_A0 xs L)) = some (some (.int v), A') := by
  obtain ⟨n1, a⟩ := tz_Go_to (e_X11_init_k17 (tz_nw (tz_A0 xs L) 1) rfl)
  obtain ⟨n2, b⟩ := tz_Go_to h
  exact ⟨max n1 n2, tz_go_le a (Nat.le_max_left _ _), tz_go_le b (Nat.le_max_right _ _)⟩
/-- what was made is left behind: the same place in the law, with nothing known of it any more -/
theorem tz_reset {l : Launch} {G G2 : tz_Gh} {p : Program} {e : Env} {R : Room} {s : State} {ma : MethodId} {args : Array Value} {below : List Frame} {meth : Method} {c : Code} {Q : State → Prop} {dd dd2 : Nat × Nat} {stop sl : Nat} {A B : tz_Mem} (hsl : sl = tz_ss 157 - tz_ss 17) (F : tz_Fr p l R s ma args meth c G 142 17 dd) (F2 : tz_Fr p l R s ma args meth c G2 142 17 dd2) (hd1 : dd2.1 = dd.1 + 140) (hd2 : dd2.2 = dd.2 + sl) (hb : B.1 = 157) (ha : A.1 = 17) (hg : A.2.1 0 = tz_gs G2 ∧ A.2.2.2 0 0 = tz_gn G2) (hx : tz_xt G2 0 = tz_xt G 0) (k : tz_K p l e R s ma args below meth c Q G2 142 17 dd2 stop tz_L0 [] A) : tz_K p l e R s ma args below meth c Q G 142 17 dd stop tz_L0 [] B := by
  have hs : s.heap.size + dd.1 = tz_bs G := by
    have := F.2.2.2.2.1.1
    rw [Nat.sub_self (17 : Nat)] at this
    exact this
  have hs2 : s.heap.size + dd2.1 = tz_bs G2 := by
    have := F2.2.2.2.2.1.1
    rw [Nat.sub_self (17 : Nat)] at this
    exact this
  intro H locs ls hSt
  obtain ⟨hR, hS, hL⟩ := hSt
  have ab : ∀ q, q < s.heap.size → ¬ tz_Ab G q := fun q h1 h2 => by
    have h3 : tz_bs G ≤ q := h2
    omega
  refine tz_W_size F (by rw [hb]; omega) hR hS (fun hsz => ?_)
  have hsz2 : H.size = tz_bs G + 140 := by
    rw [hsz, hb]
    rfl
  have q := k H [] ls ⟨⟨by rw [ha]; exact Nat.le_refl _, fun h => absurd h (by decide +kernel), hg, fun i x hi => ?_, by omega⟩, ⟨hS.1, fun q h1 h2 => hS.2.1 q h1 (ab q h1), fun _ h => by cases h⟩, ⟨hL.1, hL.2.1, hL.2.2.1, fun i v hv => ?_⟩⟩
  · refine va_forget (fun q hq => ?_) ?_
    · have h3 : tz_bs G ≤ q.base := hS.2.2 q hq
      omega
    · rw [ha, hd1, hd2, hsl] at q
      rw [hb, show 157 - 17 + dd.1 = 17 - 17 + (dd.1 + 140) by omega, show tz_ss 157 - tz_ss 17 + dd.2 = tz_ss 17 - tz_ss 17 + (dd.2 + (tz_ss 157 - tz_ss 17)) by omega]
      exact q
  · have e0 : tz_ws G2 A = [] := by
      unfold tz_ws
      rw [ha]
      rfl
    rw [e0] at hi
    simp at hi
  · have hv2 := hL.2.2.2 i v hv
    have e1 : tz_cv G2 v = tz_cv G v := by
      have hc : v = .ref 0 := by
        have hi : i < 21 := by
          have := (List.getElem?_eq_some_iff.mp hv).1
          exact this
        have all : ∀ i, i < 21 → ∀ v, tz_L0[i]? = some (some v) → v = .ref 0 := by
          intro i hi v h
          rcases i with _ | i
          · simp [tz_L0] at h
            exact h.symm
          · have : ∀ i, i < 20 → tz_L0[i + 1]? = some none := by decide +kernel
            rw [this i (by omega)] at h
            cases h
        exact all i hi v hv
      rw [hc]
      show Value.ref (tz_ad G2 0) = Value.ref (tz_ad G 0)
      have a1 : tz_ad G2 0 = tz_xt G2 0 := if_pos (by decide)
      have a2 : tz_ad G 0 = tz_xt G 0 := if_pos (by decide)
      rw [a1, a2, hx]
    rw [e1]
    exact hv2
