/-! WHAT TIES THE SMALL MACHINE TO THE REAL ONE: the heap that a memory stands for, what lies outside of it, what a frame knows -/
abbrev tz_Gh : Type := Nat × (Nat → Nat) × Value × va_G × (ClassId × ClassId × ClassId) × (Nat → Int32) × Nat
def tz_bs (G : tz_Gh) : Nat := G.1
def tz_xt (G : tz_Gh) : Nat → Nat := G.2.1
def tz_vS (G : tz_Gh) : Value := G.2.2.1
def tz_D (G : tz_Gh) : va_G := G.2.2.2.1
def tz_cI (G : tz_Gh) : ClassId := G.2.2.2.2.1.1
def tz_cJ (G : tz_Gh) : ClassId := G.2.2.2.2.1.2.1
def tz_cM (G : tz_Gh) : ClassId := G.2.2.2.2.1.2.2
def tz_gs (G : tz_Gh) : Nat → Int32 := G.2.2.2.2.2.1
def tz_gn (G : tz_Gh) : Nat := G.2.2.2.2.2.2
def tz_ad (G : tz_Gh) (k : Nat) : Nat := if k < tz_E0 then tz_xt G k else tz_bs G + (k - tz_E0)
def tz_cv (G : tz_Gh) (v : Value) : Value := match v with
  | .ref k => .ref (tz_ad G k)
  | .retAddr _ => tz_vS G
  | v => v
def tz_dr (G : tz_Gh) (n : Nat) : Value := match n with
  | 0 => .null
  | j + 1 => .ref (tz_ad G j)
def tz_fv (G : tz_Gh) (A : tz_Mem) (k ci f : Nat) : Value := bif Nat.beq (tz_ft ci f) 1 || Nat.beq (tz_ft ci f) 2 then tz_dr G (A.2.2.2 k f) else .int (A.2.1 k f)
def tz_en (G : tz_Gh) (A : tz_Mem) (k : Nat) : va_E :=
  if tz_kd k < 100 then .inr (tz_kd k, (List.range (tz_nf (tz_kd k))).map (fun f => tz_fv G A k (tz_kd k) f))
  else if tz_kd k = 100 then .inl (tz_cI G, (tz_SH k).2, .inl (fun i => A.2.1 k i))
  else if tz_kd k = 101 then .inl (tz_cJ G, (tz_SH k).2, .inr (.inl (fun i => A.2.2.1 k i)))
  else .inl (tz_cM G, (tz_SH k).2, .inr (.inr (.inr (.inr (fun i => if i < (tz_SH k).2 then some (tz_ad G (k + 1 + i)) else none)))))
def tz_ws (G : tz_Gh) (A : tz_Mem) : va_W := (List.range (A.1 - tz_E0)).map (fun j => (tz_ad G (tz_E0 + j), tz_en G A (tz_E0 + j)))
def tz_cl : List vw_C := (List.range 11).map (fun ci => (tz_cn ci, tz_T ci, tz_nf ci))
def tz_tys (G : tz_Gh) : List (ClassId × FieldType) := [(tz_cI G, .int), (tz_cJ G, .long), (tz_cM G, .array .long)]
def tz_Ab (G : tz_Gh) : Nat → Prop := fun q => tz_bs G ≤ q
theorem tz_cl_at {ci : Nat} (h : ci < 11) : tz_cl[ci]? = some (tz_cn ci, tz_T ci, tz_nf ci) := by
  unfold tz_cl
  rw [List.getElem?_map, List.getElem?_range h]
  rfl
theorem tz_ad_hi {G : tz_Gh} {k : Nat} (h : tz_E0 ≤ k) : tz_ad G k = tz_bs G + (k - tz_E0) := if_neg (Nat.not_lt.mpr h)
theorem tz_ws_len (G : tz_Gh) (A : tz_Mem) : (tz_ws G A).length = A.1 - tz_E0 := by simp [tz_ws]
theorem tz_ws_at {G : tz_Gh} {A : tz_Mem} {k : Nat} (h1 : tz_E0 ≤ k) (h2 : k < A.1) : (tz_ws G A)[k - tz_E0]? = some (tz_ad G k, tz_en G A k) := by
  unfold tz_ws
  rw [List.getElem?_map, List.getElem?_range (by omega)]
  show some (tz_ad G (tz_E0 + (k - tz_E0)), tz_en G A (tz_E0 + (k - tz_E0))) = _
  rw [Nat.add_sub_cancel' h1]
theorem tz_ws_set {G : tz_Gh} {A B : tz_Mem} {k : Nat} (h1 : tz_E0 ≤ k) (hB : B.1 = A.1) (he : ∀ j, j ≠ k → tz_en G B j = tz_en G A j) : (tz_ws G A).set (k - tz_E0) (tz_ad G k, tz_en G B k) = tz_ws G B := by
  apply List.ext_getElem?
  intro i
  by_cases hi : i < A.1 - tz_E0
  · have e1 := tz_ws_at (G := G) (A := B) (k := tz_E0 + i) (by omega) (by omega)
    have e2 := tz_ws_at (G := G) (A := A) (k := tz_E0 + i) (by omega) (by omega)
    rw [Nat.add_sub_cancel_left] at e1 e2
    rw [e1]
    by_cases e : k - tz_E0 = i
    · subst e
      rw [Nat.add_sub_cancel' h1, List.getElem?_set_self (by rw [tz_ws_len]; exact hi)]
    · rw [List.getElem?_set_ne e, e2, he _ (by omega)]
  · rw [List.getElem?_eq_none (by rw [List.length_set, tz_ws_len]; omega), List.getElem?_eq_none (by rw [tz_ws_len]; omega)]
theorem tz_ws_push {G : tz_Gh} {A B : tz_Mem} (h1 : tz_E0 ≤ A.1) (hB : B.1 = A.1 + 1) (he : ∀ j, j < A.1 → tz_en G B j = tz_en G A j) : tz_ws G A ++ [(tz_ad G A.1, tz_en G B A.1)] = tz_ws G B := by
  apply List.ext_getElem?
  intro i
  have e1 : ∀ i, i < A.1 - tz_E0 → (tz_ws G A)[i]? = some (tz_ad G (tz_E0 + i), tz_en G A (tz_E0 + i)) := fun i hi => by
    have e := tz_ws_at (G := G) (A := A) (k := tz_E0 + i) (by omega) (by omega)
    rwa [Nat.add_sub_cancel_left] at e
  have e2 : ∀ i, i < A.1 + 1 - tz_E0 → (tz_ws G B)[i]? = some (tz_ad G (tz_E0 + i), tz_en G B (tz_E0 + i)) := fun i hi => by
    have e := tz_ws_at (G := G) (A := B) (k := tz_E0 + i) (by omega) (by omega)
    rwa [Nat.add_sub_cancel_left] at e
  by_cases hi : i < A.1 - tz_E0
  · rw [List.getElem?_append_left (by rw [tz_ws_len]; exact hi), e1 i hi, e2 i (by omega), he _ (by omega)]
  · by_cases hj : i = A.1 - tz_E0
    · subst hj
      rw [List.getElem?_append_right (by rw [tz_ws_len]; exact Nat.le_refl _), tz_ws_len, Nat.sub_self, e2 _ (by omega), Nat.add_sub_cancel' h1]
      rfl
    · rw [List.getElem?_eq_none (by rw [List.length_append, tz_ws_len, List.length_singleton]; omega), List.getElem?_eq_none (by rw [tz_ws_len]; omega)]
/-- the cells of the memory -/
def tz_REP (c : Nat) (G : tz_Gh) (A : tz_Mem) (H : Heap) : Prop :=
  tz_E0 ≤ A.1 ∧ (c = tz_N0 → tz_con A) ∧ (A.2.1 0 = tz_gs G ∧ A.2.2.2 0 0 = tz_gn G) ∧ va_P (tz_D G) tz_cl (tz_ws G A) H ∧ tz_bs G ≤ H.size
/-- what lies outside: the script, the constant rows, the texts, the statics -/
def tz_EX (G : tz_Gh) (U : State) (H : Heap) : Prop :=
  va_T .int (tz_xt G 0) (tz_gn G) (fun j => .int (tz_gs G j)) (tz_Ab G) U H ∧
  (∀ k, 5 ≤ k → k < 10 → va_O "java/lang/String" (tz_xt G k) (tz_Ab G) U H ∧ va_OF "java/lang/String" "coder" "B" (.int 0) (tz_xt G k) (tz_Ab G) U H ∧ va_OF "java/lang/String" "value" "[B" (.ref (tz_xt G (k + 6))) (tz_xt G k) (tz_Ab G) U H ∧ va_T .byte (tz_xt G (k + 6)) (tz_SH (k + 6)).2 (fun j => .int (tz_XT (k + 6) j)) (tz_Ab G) U H) ∧
  va_Z (tz_sn (1, 1)).1 (tz_sn (1, 1)).2.1 (tz_sn (1, 1)).2.2 (.int 1) (tz_Ab G) U H ∧ va_Z (tz_sn (2, 0)).1 (tz_sn (2, 0)).2.1 (tz_sn (2, 0)).2.2 (tz_vS G) (tz_Ab G) U H
def tz_nest (w : Jvm.Cond) : Bool := match w with
  | .fieldLinkNest _ _ _ _ _ _ => true
  | .methodLinkNest _ _ _ _ => true
  | .declares _ => true
  | _ => false
def tz_TAB (G : tz_Gh) (U : State) : Prop :=
  (∀ w, w ∈ lw_tbl → tz_nest w = true → va_Nw w U) ∧ (∀ own k j, Cond.stringRef own k (tz_tx j) ∈ lw_tbl → 5 ≤ j → j < 10 → vk_R own k (tz_tx j) (tz_xt G j) U) ∧ va_K (tz_D G) tz_cl (tz_tys G) U ∧ (Cond.arrayOver (.array .long)).before #[] U = true
theorem tz_EX.moved {G : tz_Gh} {u U : State} {H : Heap} (hvm : u.vm.Alike U.vm) (h : tz_EX G u H) : tz_EX G U H :=
  ⟨h.1.moved hvm, fun k h1 h2 => ⟨(h.2.1 k h1 h2).1.moved hvm, (h.2.1 k h1 h2).2.1.moved hvm, (h.2.1 k h1 h2).2.2.1.moved hvm, (h.2.1 k h1 h2).2.2.2.moved hvm⟩, h.2.2.1.moved hvm, h.2.2.2.moved hvm⟩
theorem tz_EX.kept {G : tz_Gh} {U : State} {H H1 : Heap} (h : tz_EX G U H) (hq : ∀ a : Nat, a < H.size → ¬ tz_Ab G a → H1[a]? = H[a]?) : tz_EX G U H1 :=
  ⟨h.1.kept hq, fun k h1 h2 => ⟨(h.2.1 k h1 h2).1.kept hq, (h.2.1 k h1 h2).2.1.kept hq, (h.2.1 k h1 h2).2.2.1.kept hq, (h.2.1 k h1 h2).2.2.2.kept hq⟩, h.2.2.1.kept hq, h.2.2.2.kept hq⟩
theorem tz_over {s U : State} {args : Array Value} (hvm : s.vm.Alike U.vm) (h : (Cond.arrayOver (.array .long)).before args s = true) : (Cond.arrayOver (.array .long)).before #[] U = true := by
  have z : (Cond.arrayOver (.array .long)).before args (s.setVm U.vm) = true := by rw [Cond.arrayOver_setVmC hvm]; exact h
  exact z
theorem tz_TAB.warm {G : tz_Gh} {s U : State} (hW : s.WarmedH U.vm) (h : tz_TAB G s) : tz_TAB G U := by
  refine ⟨fun w hw hn => ?_, fun own k j h1 h2 h3 => (h.2.1 own k j h1 h2 h3).warm hW, h.2.2.1.moved hW.alike, tz_over hW.alike h.2.2.2⟩
  have z := h.1 w hw hn
  cases w <;> first | exact z.warmF hW | exact z.warmM hW | exact z.warmD hW | exact (Bool.noConfusion hn)
def tz_WS : List Jvm.Cond := lw_tbl.filter goodWord
theorem tz_in_WS {w : Jvm.Cond} (h : tz_W w) : w ∈ tz_WS := List.mem_filter.mpr ⟨h.1, h.2⟩
def tz_wm (m : Nat) : List Jvm.Cond := Cond.code (tz_y m) (tz_by m) (tz_ml m) (tz_rtt (tz_rc m)) :: tz_WS
theorem tz_wm_good {m : Nat} (h : m < 142) : GoodIn tz_WS (tz_wm m) := by
  intro w hw
  rcases List.mem_cons.mp hw with rfl | h1
  · exact ⟨tz_in_WS (tz_pm h).1, good_of_word (tz_pm h).1.2⟩
  · exact ⟨h1, good_of_word (List.mem_filter.mp h1).2⟩
/-- slots up to a place -/
def tz_ss : Nat → Nat
  | 0 => 0
  | k + 1 => tz_ss k + (tz_SH k).2
theorem tz_ss_le {a b : Nat} (h : a ≤ b) : tz_ss a ≤ tz_ss b := by
  induction h with
  | refl => exact Nat.le_refl _
  | step _ ih => exact Nat.le_trans ih (Nat.le_add_right _ _)
def tz_has (G : tz_Gh) (ls : Array Slot) (n : Nat) (L : tz_Lo) : Prop := ls.size = n ∧ L.length = n ∧ lv_wf ls ∧ ∀ (i : Nat) (v : Value), L[i]? = some (some v) → ls[i]? = some (.val (tz_cv G v))
/-- what a frame of method m knows all along -/
def tz_Fr (p : Program) (l : Launch) (R : Room) (s : State) (ma : MethodId) (args : Array Value) (meth : Method) (c : Code) (G : tz_Gh) (m a0 : Nat) (dd : Nat × Nat) : Prop :=
  (p.tables.exec = Jvm.exec ∧ c.code = tz_by m ∧ c.maxLocals = tz_ml m ∧ s.vm.findClass (tz_own (tz_pn m)) = some ma.cls) ∧ (∀ w, w ∈ tz_WS → w.before args s = true) ∧ (tz_ini m ≠ 0 → meth.name = "<init>" ∧ tz_cn (tz_ini m - 1) = tz_own (tz_pn m)) ∧ (tz_rk m ≤ R.frames ∧ 38 * tz_rk m + 40 ≤ R.locals) ∧ (s.heap.size + dd.1 = tz_bs G + (a0 - tz_E0) ∧ tz_E0 ≤ a0 ∧ m < 143 ∧ (tz_vS G).category = 1) ∧ tz_EX G s s.heap ∧ tz_TAB G s
def tz_St (G : tz_Gh) (m : Nat) (A : tz_Mem) (s : State) (H : Heap) (locs : List Loc) (ls : Array Slot) (L : tz_Lo) : Prop := tz_REP (tz_cm m) G A H ∧ va_S (tz_Ab G) s.heap H locs ∧ tz_has G ls (tz_ml m) L
def tz_K (p : Program) (l : Launch) (e : Env) (R : Room) (s : State) (ma : MethodId) (args : Array Value) (below : List Frame) (meth : Method) (c : Code) (Q : State → Prop) (G : tz_Gh) (m a0 : Nat) (dd : Nat × Nat) (pc : Nat) (L : tz_Lo) (st : List Value) (A : tz_Mem) : Prop :=
  ∀ (H : Heap) (locs : List Loc) (ls : Array Slot), tz_St G m A s H locs ls L → W p l e R s ma args below meth c H locs (A.1 - a0 + dd.1) (tz_ss A.1 - tz_ss a0 + dd.2) Q (F0 ma pc ls (st.map (tz_cv G)))
def tz_rty (rc : Nat) : FieldType := match rc with
  | 4 => .boolean
  | 5 => .char
  | 6 => .byte
  | _ => .int
/-- at pc stands the return that gives r -/
def tz_rd (m pc : Nat) (r : Option Value) : Prop := match r with
  | none => decode (tz_by m) pc = .ok (.return_, 1) ∧ tz_rc m = 0
  | some (.int x) => decode (tz_by m) pc = .ok (.ireturn, 1) ∧ (tz_rc m = 1 ∨ tz_rc m = 4 ∨ tz_rc m = 5 ∨ tz_rc m = 6) ∧ narrow (tz_rty (tz_rc m)) (.int x) = .int x
  | some (.long _) => decode (tz_by m) pc = .ok (.lreturn, 1) ∧ tz_rc m = 2
  | some (.ref _) => decode (tz_by m) pc = .ok (.areturn, 1) ∧ tz_rc m = 3
  | _ => False
def tz_Xt (p : Program) (l : Launch) (e : Env) (R : Room) (s : State) (ma : MethodId) (args : Array Value) (below : List Frame) (meth : Method) (c : Code) (Q : State → Prop) (G : tz_Gh) (m a0 : Nat) (dd : Nat × Nat) (r : Option Value) (A : tz_Mem) : Prop :=
  ∀ (pc : Nat) (ls : Array Slot) (H : Heap) (locs : List Loc), tz_REP (tz_cm m) G A H → va_S (tz_Ab G) s.heap H locs → tz_rd m pc r → W p l e R s ma args below meth c H locs (A.1 - a0 + dd.1) (tz_ss A.1 - tz_ss a0 + dd.2) Q (F0 ma pc ls (r.toList.map (tz_cv G)))
def tz_Pre (c : Nat) (G : tz_Gh) (args : List Value) (A : tz_Mem) : Array Value → State → Prop := fun v U => v = (args.map (tz_cv G)).toArray ∧ tz_REP c G A U.heap ∧ U.heap.size = tz_bs G + (A.1 - tz_E0) ∧ tz_EX G U U.heap ∧ tz_TAB G U
def tz_Pst (c : Nat) (G : tz_Gh) (r : Option Value) (A : tz_Mem) : Array Value → State → Outcome → State → Prop := fun _ st o t => o = .returned (r.map (tz_cv G)) ∧ tz_REP c G A t.heap ∧ ∀ q, q < tz_bs G → t.heap[q]? = st.heap[q]?
theorem tz_Pre.blind {c : Nat} {G : tz_Gh} {args : List Value} {A : tz_Mem} : FrameBlind (tz_Pre c G args A) := by
  intro a U g mk h
  obtain ⟨h1, h2, h2b, h3, h4, h5, h6, h7⟩ := h
  exact ⟨h1, h2, h2b, tz_EX.moved (u := U) (U := U.calling g mk a) (Vm.Alike.refl U.vm) h3, fun w hw hn => va_Nw.same (u := U) (U := U.calling g mk a) (by cases w <;> first | rfl | exact (Bool.noConfusion hn)) rfl (h4 w hw hn), fun own k j z1 z2 z3 => (h5 own k j z1 z2 z3).same (u := U) (U := U.calling g mk a) rfl, va_K.moved (u := U) (U := U.calling g mk a) (Vm.Alike.refl U.vm) h6, h7⟩
def tz_rm (m mc ms : Nat) : Room := { frames := tz_rk m, cells := mc, slots := ms, locals := 38 * tz_rk m + 40 }
theorem tz_wsD {G : tz_Gh} {A : tz_Mem} : va_D (tz_Ab G) (tz_ws G A) := by
  have hk : ∀ (i : Nat) (q : Nat × va_E), (tz_ws G A)[i]? = some q → q.1 = tz_bs G + i := by
    intro i q h
    have hi : i < A.1 - tz_E0 := by
      have := (List.getElem?_eq_some_iff.mp h).1
      rwa [tz_ws_len] at this
    have e := tz_ws_at (G := G) (A := A) (k := tz_E0 + i) (by omega) (by omega)
    rw [Nat.add_sub_cancel_left] at e
    rw [e] at h
    cases h
    show tz_ad G (tz_E0 + i) = _
    rw [tz_ad_hi (Nat.le_add_right _ _), Nat.add_sub_cancel_left]
  refine ⟨fun i j p q h1 h2 h3 => ?_, fun k q h => ?_⟩
  · have a := hk i p h1
    have b := hk j q h2
    omega
  · show tz_bs G ≤ q.1
    rw [hk k q h]
    exact Nat.le_add_right _ _
