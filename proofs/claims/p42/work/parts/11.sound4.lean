/-! calls and ends; the small machine is sound -/
theorem tz_rk_pos : ∀ m, m < 143 → 1 ≤ tz_rk m := by decide +kernel
theorem tz_cat_map {G : tz_Gh} (hS : (tz_vS G).category = 1) (r : List Value) : ((r.map (tz_cv G)).map fun v => v.category).sum = tz_cat r := by
  unfold tz_cat
  rw [List.map_map]
  congr 1
  apply List.map_congr_left
  intro v _
  exact tz_cat_cv hS v
section TZC
variable {p : Program} {l : Launch} {e : Env} {R : Room} {s : State} {ma : MethodId} {args : Array Value} {below : List Frame} {meth : Method} {c : Code} {Q : State → Prop} {G : tz_Gh} {m a0 : Nat} {dd : Nat × Nat}
variable {pc : Nat} {L : tz_Lo} {r : List Value} {A : tz_Mem}
/-- behind a call -/
theorem tz_after (F : tz_Fr p l R s ma args meth c G m a0 dd) (ha : a0 ≤ A.1) {A1 : tz_Mem} (h1 : A.1 ≤ A1.1) {c2 : Nat} {r2 : Option Value} {st0 : List Value} {arr : Array Value} {H : Heap} {locs : List Loc} {ls : Array Slot} (hSt : tz_St G m A s H locs ls L) (hc : tz_cm m = c2 ∨ c2 = tz_N0)
    (hr : va_Run p l e R s ma args below meth c H locs (A.1 - a0 + dd.1) (tz_ss A.1 - tz_ss a0 + dd.2) (A1.1 - A.1) (tz_ss A1.1 - tz_ss A.1) (F0 ma pc ls st0) (r.map (tz_cv G)) (tz_Pst c2 G r2 A1 arr) (tz_Ab G))
    (hk : tz_K p l e R s ma args below meth c Q G m a0 dd (pc + 3) L (r2.toList ++ r) A1) : W p l e R s ma args below meth c H locs (A.1 - a0 + dd.1) (tz_ss A.1 - tz_ss a0 + dd.2) Q (F0 ma pc ls st0) := by
  have hss1 := tz_ss_le ha
  have hss2 := tz_ss_le h1
  intro T hT X
  obtain ⟨v, st₀, t, T', L9, h0, X', hL, e1, e2, ⟨hv, hR, hfr⟩, st⟩ := hr T hT X
  cases hv
  have hsz : H.size ≤ T'.heap.size := by
    have f1 := X'.heapSize
    obtain ⟨z1, z2, z3, hP, hB⟩ := hR
    rw [e1]
    have f2 := X.heapSize
    rw [hT] at f2
    obtain ⟨g1, g2, -, -⟩ := F.2.2.2.2.1
    by_cases h : A1.1 = tz_E0
    · -- nothing is there: the heap is the old one
      have hA : A.1 = tz_E0 := by have := hSt.1.1; omega
      omega
    · have hat := hP _ _ (tz_ws_at (G := G) (A := A1) (k := A1.1 - 1) (by omega) (by omega))
      have h5 := hat.lt
      rw [tz_ad_hi (by omega)] at h5
      have h6 : tz_bs G + (A1.1 - 1 - tz_E0) < t.heap.size := h5
      omega
  have hS1 : va_S (tz_Ab G) s.heap T'.heap (locs ++ L9) := by
    refine ⟨Nat.le_trans hSt.2.1.1 hsz, fun q q1 q2 => ?_, fun q hq => ?_⟩
    · have q3 : q < tz_bs G := Nat.not_le.mp q2
      rw [e1, hfr q q3, h0]
      exact hSt.2.1.2.1 q q1 q2
    · rcases List.mem_append.mp hq with h | h
      · exact hSt.2.1.2.2 q h
      · exact hL q h
  have hR1 : tz_REP (tz_cm m) G A1 T'.heap := by
    rw [e1]
    refine ⟨hR.1, fun hN => ?_, hR.2.2.1, hR.2.2.2.1, hR.2.2.2.2⟩
    rcases hc with h | h
    · exact hR.2.1 (by rw [← h]; exact hN)
    · exact hR.2.1 h
  have k := hk T'.heap (locs ++ L9) ls ⟨hR1, hS1, hSt.2.2⟩
  have k2 := W.cs (cells := A.1 - a0 + dd.1 + (A1.1 - A.1)) (slots := tz_ss A.1 - tz_ss a0 + dd.2 + (tz_ss A1.1 - tz_ss A.1)) (by omega) (by omega) k
  obtain ⟨t2, a1, b1⟩ := k2 T' rfl X'
  refine ⟨t2, st t2 ?_, b1⟩
  have hlist : (r2.map (tz_cv G)).toList ++ r.map (tz_cv G) = (r2.toList ++ r).map (tz_cv G) := by
    cases r2 <;> rfl
  rw [hlist]
  exact a1
/-- what a callee finds -/
theorem tz_pre (F : tz_Fr p l R s ma args meth c G m a0 dd) {H : Heap} {locs : List Loc} {ls : Array Slot} (hSt : tz_St G m A s H locs ls L) (hsz : H.size = tz_bs G + (A.1 - tz_E0)) {c2 : Nat} (hc : c2 = tz_cm m ∨ (c2 = tz_N0 ∧ tz_con A)) (as : List Value) (U : State) (hU : U.heap = H) (hW : s.WarmedH U.vm) : tz_Pre c2 G as A (as.map (tz_cv G)).toArray U := by
  refine ⟨rfl, ?_, by rw [hU]; exact hsz, ?_, F.2.2.2.2.2.2.warm hW⟩
  · rw [hU]
    refine ⟨hSt.1.1, fun hN => ?_, hSt.1.2.2⟩
    rcases hc with h | h
    · exact hSt.1.2.1 (by rw [← h]; exact hN)
    · exact h.2
  · rw [hU]
    exact (F.2.2.2.2.2.1.moved hW.alike).kept (fun a h1 h2 => hSt.2.1.2.1 a h1 h2)
theorem tz_cfix (F : tz_Fr p l R s ma args meth c G m a0 dd) : CallFix p ma c (tz_by m) (tz_ml m) s args tz_WS (tz_own (tz_pn m)) := ⟨F.1.1, F.1.2.1, F.1.2.2.1, F.1.2.2.2, F.2.1⟩
/-- a call: whatever the way, the callee's contract gives the rest -/
theorem tz_k_call (F : tz_Fr p l R s ma args meth c G m a0 dd) (ha : a0 ≤ A.1) {A1 : tz_Mem} (h1 : A.1 ≤ A1.1) {m2 n idx kc how : Nat} {r2 : Option Value} {as : List Value} {op : Instr} (hm2 : m2 < 142) (hd : decode (tz_by m) pc = .ok (op, 3))
    (hop : (op = .invokestatic idx ∧ how = 0) ∨ (op = .invokevirtual idx ∧ (how = 1 ∨ how = 5) ∧ as.length = n + 1 ∧ kc = tz_kof as) ∨ (op = .invokespecial idx ∧ (how = 2 ∨ how = 3) ∧ as.length = n + 1))
    (hq : tz_Pq (tz_pn m) idx kc (how, m2)) (hnp : tz_np (tz_pn m) idx = some n) (hstat : how = 0 → as.length = n) (hrk : tz_rk m2 < tz_rk m) (hcat : tz_cat r ≤ 8) (hok : how = 0 ∨ ∃ a t, as = .ref a :: t ∧ a < A.1)
    (hc : tz_cm m2 = tz_cm m ∨ (tz_cm m2 = tz_N0 ∧ tz_con A)) (hc9 : A1.1 - a0 + dd.1 ≤ R.cells) (hs9 : tz_ss A1.1 - tz_ss a0 + dd.2 ≤ R.slots)
    (hM : Met l (tz_y m2) (tz_wm m2) (tz_rm m2 (A1.1 - A.1) (tz_ss A1.1 - tz_ss A.1)) (tz_Pre (tz_cm m2) G as A) (tz_Pst (tz_cm m2) G r2 A1) (A1.1 - A.1) (tz_ss A1.1 - tz_ss A.1) (tz_Ab G))
    (hk : tz_K p l e R s ma args below meth c Q G m a0 dd (pc + 3) L (r2.toList ++ r) A1) : tz_K p l e R s ma args below meth c Q G m a0 dd pc L (as.reverse ++ r) A := by
  intro H locs ls hSt
  have hss1 := tz_ss_le ha
  have hss2 := tz_ss_le h1
  have hS := F.2.2.2.2.1.2.2.2
  have hR := F.2.2.2.1
  obtain ⟨pm1, pm2, pm3, pm4, pm5, pm6, pm7, -⟩ := tz_pm hm2
  have hfx := tz_cfix F
  have hroom : (tz_rm m2 (A1.1 - A.1) (tz_ss A1.1 - tz_ss A.1)).frames + 1 ≤ R.frames ∧ 8 + (tz_ml m2 + 11) + (tz_rm m2 (A1.1 - A.1) (tz_ss A1.1 - tz_ss A.1)).locals ≤ R.locals := by
    show tz_rk m2 + 1 ≤ R.frames ∧ 8 + (tz_ml m2 + 11) + (38 * tz_rk m2 + 40) ≤ R.locals
    omega
  have hin2 : (Cond.initialized (tz_y m2).cls).before args s = true := F.2.1 _ (tz_in_WS pm2)
  have hgood := tz_wm_good hm2
  have hcs : A.1 - a0 + dd.1 + (A1.1 - A.1) ≤ R.cells ∧ tz_ss A.1 - tz_ss a0 + dd.2 + (tz_ss A1.1 - tz_ss A.1) ≤ R.slots := by omega
  have hcc : tz_cm m = tz_cm m2 ∨ tz_cm m2 = tz_N0 := hc.imp Eq.symm And.left
  refine tz_W_size F ha hSt.1 hSt.2.1 fun hsz => ?_
  have hpre := tz_pre F hSt hsz hc as
  have hW8 : 2 * (F0 ma pc ls ((as.reverse ++ r).map (tz_cv G))).monitorRoom + ((r.map (tz_cv G)).map fun v => v.category).sum ≤ 8 := lv_room (by rw [tz_cat_map hS]; exact hcat)
  rcases hop with ⟨rfl, rfl⟩ | ⟨rfl, hh, hlen, hkc⟩ | ⟨rfl, hh, hlen⟩
  · -- static
    rcases hq with ⟨-, w1, w2, -, w4⟩ | ⟨h, _⟩ | ⟨h, _⟩ | ⟨h, _⟩ | ⟨h, _⟩ | ⟨h, _⟩ | ⟨h, _⟩ | ⟨h, _⟩
    · have hlen := hstat rfl
      refine tz_after F ha h1 hSt hcc (va_runS (As := as.map (tz_cv G)) (rest := r.map (tz_cv G)) hfx hM ⟨callB_of n F.2.1 hgood rfl rfl rfl hin2 (F.2.1 _ (tz_in_WS w1)) ⟨pm5, pm6, w4.trans hnp⟩ hroom, F.2.1 _ (tz_in_WS w2)⟩ ⟨tz_Pre.blind, hpre⟩ rfl (by simp [hlen]) (by rw [hSt.2.2.1]) (by simp [List.map_append, List.map_reverse]) hW8 hd hcs) hk
    all_goals first | exact absurd h (by simp)
  · obtain ⟨a, t, rfl, hlt⟩ := hok.resolve_left (by omega)
    have hlen2 : t.length = n := by simpa using hlen
    rcases hh with rfl | rfl
    · rcases hq with ⟨h, _⟩ | ⟨-, w1, w2, w3, -, w5, w6, w7⟩ | ⟨h, _⟩ | ⟨h, _⟩ | ⟨h, _⟩ | ⟨h, _⟩ | ⟨h, _⟩ | ⟨h, _⟩
      · exact absurd h (by simp)
      · have hrecv : ∃ cellB : Cell, H[tz_ad G a]? = some cellB ∧ cellB.vm.isStatics = false ∧ s.vm.findClass (tz_hk kc) = some cellB.cls := by
          rcases w7 with w7 | w7
          · have hka : tz_kd a = kc := hkc.symm
            have he : tz_E0 ≤ a := by
              rcases Nat.lt_or_ge a tz_E0 with h9 | h9
              · exfalso
                have : ∀ a, a < tz_E0 → 11 ≤ tz_kd a := by decide +kernel
                have := this a h9
                omega
              · exact h9
            have e9 : tz_hk kc = tz_cn kc := by
              unfold tz_hk
              cases e8 : Nat.beq kc 103
              · rfl
              · have := Nat.eq_of_beq_eq_true e8; omega
            rw [e9]
            exact va_recv F.2.2.2.2.2.2.2.2.1 hSt.1.2.2.2.1 (ci := kc) (q0 := a - tz_E0) (tz_cl_at w7) (by rw [tz_ws_at he hlt, tz_en_obj hka w7])
          · subst w7
            have hka : tz_kd a = 103 := hkc.symm
            have hr : 5 ≤ a ∧ a < 10 := by
              have h7 : a < tz_N1 := by
                rcases Nat.lt_or_ge a tz_N1 with h9 | h9
                · exact h9
                · exfalso
                  unfold tz_kd at hka
                  rw [tz_SH_hi h9] at hka
                  exact absurd hka (by decide)
              have : ∀ a, a < tz_N1 → tz_kd a = 103 → 5 ≤ a ∧ a < 10 := by decide +kernel
              exact this a h7 hka
            obtain ⟨cell, g1, g2, g3, -⟩ := (F.2.2.2.2.2.1.2.1 a hr.1 hr.2).1.kept hSt.2.1.2.1
            refine ⟨cell, ?_, g2, g3⟩
            unfold tz_ad
            rw [if_pos (show a < tz_E0 from tz_e0 (Nat.lt_trans hr.2 (by decide)))]
            exact g1
        refine tz_after F ha h1 hSt hcc (va_runV (As := t.map (tz_cv G)) (rest := r.map (tz_cv G)) (b := tz_ad G a) (C := tz_hk kc) hfx hM ⟨callB_of n F.2.1 hgood rfl rfl rfl hin2 (F.2.1 _ (tz_in_WS w1)) ⟨pm5, pm6, w5.trans hnp⟩ hroom, F.2.1 _ (tz_in_WS w2), F.2.1 _ (tz_in_WS w3)⟩ ⟨tz_Pre.blind, hrecv, hpre⟩ rfl (by simp [hlen2]) (by rw [hSt.2.2.1]) (by simp [List.map_append, List.map_reverse, tz_cv]) hW8 hd hcs) hk
      all_goals first | exact absurd h (by simp)
    · rcases hq with ⟨h, _⟩ | ⟨h, _⟩ | ⟨h, _⟩ | ⟨h, _⟩ | ⟨-, w1, w2, w3, w4, w5, -, w7, w8⟩ | ⟨h, _⟩ | ⟨h, _⟩ | ⟨h, _⟩
      · exact absurd h (by simp)
      · exact absurd h (by simp)
      · exact absurd h (by simp)
      · exact absurd h (by simp)
      · have hka : tz_kd a = kc := hkc.symm
        have he : tz_E0 ≤ a := by
          rcases Nat.lt_or_ge a tz_E0 with h9 | h9
          · exfalso
            have : ∀ a, a < tz_E0 → 11 ≤ tz_kd a := by decide +kernel
            have := this a h9
            omega
          · exact h9
        have e9 : tz_hk kc = tz_cn kc := by
          unfold tz_hk
          cases e8 : Nat.beq kc 103
          · rfl
          · have := Nat.eq_of_beq_eq_true e8; omega
        have hrecv : ∃ cellB : Cell, H[tz_ad G a]? = some cellB ∧ cellB.vm.isStatics = false ∧ s.vm.findClass (tz_hk kc) = some cellB.cls := by
          rw [e9]
          exact va_recv F.2.2.2.2.2.2.2.2.1 hSt.1.2.2.2.1 (ci := kc) (q0 := a - tz_E0) (tz_cl_at w8) (by rw [tz_ws_at he hlt, tz_en_obj hka w8])
        have hcw : va_CU R s args (tz_own (tz_pn m)) (tz_hk kc) tz_xe.cls idx tz_xe (tz_y m2) (tz_by m2) (tz_ml m2) (tz_rtt (tz_rc m2)) (tz_wm m2) (tz_rm m2 (A1.1 - A.1) (tz_ss A1.1 - tz_ss A.1)) (A1.1 - A.1) (tz_ss A1.1 - tz_ss A.1) n := by
          refine va_cwA n F.2.1 (fun w hw => ?_) rfl rfl rfl (F.2.2.2.2.2.2.1 _ w5 rfl) ⟨by decide, by decide, w7.trans hnp⟩ hroom
          rcases List.mem_append.mp hw with hw | hw
          · have hz : w = Cond.methodLink (tz_own (tz_pn m)) idx tz_xe ∨ w = Cond.sameMethod tz_xe.cls tz_xe.cls tz_xe.name tz_xe.desc ∨ w = Cond.selects (tz_hk kc) tz_xe (tz_y m2) ∨ w = Cond.instanceMethod (tz_y m2) ∨ w = Cond.initialized (tz_y m2).cls := by simpa using hw
            rcases hz with rfl | rfl | rfl | rfl | rfl
            · exact ⟨tz_in_WS w1, good_of_word w1.2⟩
            · exact ⟨tz_in_WS w2, good_of_word w2.2⟩
            · exact ⟨tz_in_WS w3, good_of_word w3.2⟩
            · exact ⟨tz_in_WS w4, good_of_word w4.2⟩
            · exact ⟨tz_in_WS pm2, good_of_word pm2.2⟩
          · exact hgood w hw
        refine tz_after F ha h1 hSt hcc (va_runU (As := t.map (tz_cv G)) (rest := r.map (tz_cv G)) (b := tz_ad G a) (C := tz_hk kc) hfx hM hcw ⟨tz_Pre.blind, hrecv, hpre⟩ rfl (by simp [hlen2]) (by rw [hSt.2.2.1]) (by simp [List.map_append, List.map_reverse, tz_cv]) hW8 hd hcs) hk
      all_goals first | exact absurd h (by simp)
  · obtain ⟨a, t, rfl, hlt⟩ := hok.resolve_left (by omega)
    have hlen2 : t.length = n := by simpa using hlen
    rcases hh with rfl | rfl
    · rcases hq with ⟨h, _⟩ | ⟨h, _⟩ | ⟨-, w1, w2, w3, -, w5, w6⟩ | ⟨h, _⟩ | ⟨h, _⟩ | ⟨h, _⟩ | ⟨h, _⟩ | ⟨h, _⟩
      · exact absurd h (by simp)
      · exact absurd h (by simp)
      · have hrt : tz_rtt (tz_rc m2) = none := by rw [w6]; rfl
        refine tz_after F ha h1 hSt hcc (va_runI (bytes := tz_by m2) (maxL := tz_ml m2) (As := t.map (tz_cv G)) (rest := r.map (tz_cv G)) (b := tz_ad G a) hfx hM ⟨callB_of n F.2.1 hgood (by rw [← hrt]; rfl) rfl rfl hin2 (F.2.1 _ (tz_in_WS w1)) ⟨pm5, pm6, w5.trans hnp⟩ hroom, w3, F.2.1 _ (tz_in_WS w2)⟩ ⟨tz_Pre.blind, hpre⟩ rfl (by simp [hlen2]) (by rw [hSt.2.2.1]) (by simp [List.map_append, List.map_reverse, tz_cv]) hW8 hd hcs) hk
      all_goals first | exact absurd h (by simp)
    · rcases hq with ⟨h, _⟩ | ⟨h, _⟩ | ⟨h, _⟩ | ⟨-, w1, w2, w3, -, w5, w6⟩ | ⟨h, _⟩ | ⟨h, _⟩ | ⟨h, _⟩ | ⟨h, _⟩
      · exact absurd h (by simp)
      · exact absurd h (by simp)
      · exact absurd h (by simp)
      · have hrt : tz_rtt (tz_rc m2) = none := by rw [w6]; rfl
        refine tz_after F ha h1 hSt hcc (va_runIN (bytes := tz_by m2) (maxL := tz_ml m2) (As := t.map (tz_cv G)) (rest := r.map (tz_cv G)) (b := tz_ad G a) hfx hM ⟨va_cnB n F.2.1 hgood (by rw [← hrt]; rfl) rfl rfl (F.2.2.2.2.2.2.1 _ w1 rfl) hin2 ⟨pm5, pm6, w5.trans hnp⟩ hroom, w3, F.2.1 _ (tz_in_WS w2)⟩ ⟨tz_Pre.blind, hpre⟩ rfl (by simp [hlen2]) (by rw [hSt.2.2.1]) (by simp [List.map_append, List.map_reverse, tz_cv]) hW8 hd hcs) hk
      all_goals first | exact absurd h (by simp)
theorem tz_k_obj (F : tz_Fr p l R s ma args meth c G m a0 dd) {idx a : Nat} (hd : decode (tz_by m) pc = .ok (.invokespecial idx, 3)) (w1 : tz_W (Cond.methodLink (tz_own (tz_pn m)) idx objectInit)) (w2 : tz_W (Cond.instanceMethod objectInit)) (w3 : tz_W (Cond.code objectInit ⟨#[0xb1]⟩ 1 none)) (hcat : tz_cat r ≤ 8)
    (hk : tz_K p l e R s ma args below meth c Q G m a0 dd (pc + 3) L r A) : tz_K p l e R s ma args below meth c Q G m a0 dd pc L (.ref a :: r) A := by
  intro H locs ls hSt
  have hR := F.2.2.2.1
  have hrp := tz_rk_pos m F.2.2.2.2.1.2.2.1
  have hW8 : 2 * (F0 ma pc ls ((Value.ref a :: r).map (tz_cv G))).monitorRoom + ((r.map (tz_cv G)).map fun v => v.category).sum ≤ 8 := lv_room (by rw [tz_cat_map F.2.2.2.2.1.2.2.2]; exact hcat)
  refine W.objInit F.1.1 F.1.2.1 F.1.2.2.2 (F.2.1 _ (tz_in_WS w1)) (F.2.1 _ (tz_in_WS w2)) (F.2.1 _ (tz_in_WS w3)) rfl (by rw [F.1.2.2.1]; exact hSt.2.2.1) rfl hd (by omega) (by omega) ?_
  exact hk H locs ls hSt
end TZC
