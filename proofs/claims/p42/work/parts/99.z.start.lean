/-! THE CLAIM OUT OF ONE WALK OF THE LAW'S BODY. Your part is whole_start (and what it stands on); all else here is the same for every law, but numbers. -/
def R_law : String := "ThunderIsThePostLaw"
def lw_P (b : Addr) (xs : List Int32) (args : Array Value) (s : State) : Prop := args = #[.ref b] ∧ s.IntsAt b xs ∧ xs.length ≤ 260 ∧ (Jvm.Cond.and given_1 narrow_1).before args s = true
def lw_Q (_ : Array Value) (s : State) (o : Outcome) (t : State) : Prop := o = .returned (some (.int 1)) ∧ Framed s o t [] 600000 7302250
def lw_Z (below : List Frame) (a : Array Value) (s : State) : State → Prop := fun t => ∃ o, t.status = .running ∧ Ended t below o ∧ lw_Q a s o t
/-- the law's own end, with 1 on the stack, nothing written that was there before, its room as the claim has it -/
theorem lw_ret {p : Program} {l : Launch} {e : Env} {s : State} {m : MethodId} {below : List Frame} {meth : Method} {c : Code} {b : Nat} (hx : p.tables.exec = Jvm.exec) (hb : c.code = code) (hr : meth.sig.returnType = ret) (hlocks : meth.locks = false) {pc : Nat} {H : Heap} {ls : Array Slot} (hdg : decode code pc = .ok (.ireturn, 1)) : W p l e room_1 s m #[Value.ref b] below meth c H [] 600000 7302250 (lw_Z below #[Value.ref b] s) (F0 m pc ls [.int 1]) := by
  intro T hT X
  obtain ⟨fs, hret, hrun, hended, hW, hframe⟩ := X.leave (v := some (.int 1)) (hlocks := hlocks) (fun h => by rw [hr] at h; cases h)
  have hmeth' : T.vm.method? m = some meth := X.method'
  refine ⟨T.setFrames fs, ?_, .returned (some (.int 1)), hrun, hended, rfl, ⟨_, rfl⟩, hW, hframe⟩
  jvm_step X.here [X.here.top, hx, hb, hdg, hmeth', hr, ret, narrow_b1]
  (try refine ⟨rfl, ?_⟩); (try refine ⟨rfl, ?_⟩)
  first | (intro acts; rw [hret _ acts rfl rfl rfl]) | rw [hret _ _ rfl rfl rfl]
  exact Steps.refl _
/-- what holds at the law's entry: the machine, the code, the tables' words (any of lw_tbl by 'hts w (by decide +kernel)'), the script of L ints xs at the cell b, what the Statement gives of the start (any of its parts by flat_of_before) -/
def lw_At (p : Program) (s : State) (m : MethodId) (meth : Method) (c : Code) (b L : Nat) (xs : Nat → Int32) : Prop :=
  p.tables.exec = Jvm.exec ∧ c.code = code ∧ meth.sig.returnType = ret ∧ c.maxLocals = 21 ∧ s.vm.findClass R_law = some m.cls ∧ (∀ w ∈ lw_tbl, w.before #[Value.ref b] s = true) ∧ va_X b L xs s s.heap ∧ b < s.heap.size ∧ meth.locks = false ∧ (Jvm.Cond.and given_1 narrow_1).before #[Value.ref b] s = true
-- ===== YOUR PART BEGINS =====
theorem tz_rowM (l : Launch) : tz_RowM l := by
  intro p e R s m args below meth c H locs cells slots Q cc pc ls rest own index n k hx hb hown hcl hov har hn hk hn9 hk9 hc hs hd kk
  intro T hT Xs
  have hcl2 : (Cond.classLink own index ("[" ++ (FieldType.array .long).toString)).before args s = true := by
    rw [show "[" ++ (FieldType.array .long).toString = "[[J" by decide]
    exact hcl
  obtain ⟨vm₁, cA, comp, -, fA, fC, hO, -, X', step⟩ := Xs.multianewarray2F hx (ty := .long) hown hcl2 hov har (g := F0 m pc ls (.int k :: .int n :: rest)) rfl (by rw [hb]; exact hd) rfl hn hk (by omega) (by show k.toNatClampNeg * 8 ≤ _; omega) (by omega) rfl rfl hc hs
  obtain ⟨f1, f2, -, -⟩ := Jvm.Free.Multi.fill_facts (T.setVm vm₁) cA comp n.toNatClampNeg k.toNatClampNeg (defaultValue .long) n.toNatClampNeg
  have f3 := fun (a : Nat) (ha : a < (T.setVm vm₁).heap.size) => Jvm.Free.Multi.fill_old (T.setVm vm₁) cA comp n.toNatClampNeg k.toNatClampNeg (defaultValue .long) (a := a) ha n.toNatClampNeg
  have f4 := Jvm.Free.Multi.fill_inner (T.setVm vm₁) cA comp n.toNatClampNeg k.toNatClampNeg (defaultValue .long) n.toNatClampNeg
  generalize hF : Jvm.Free.Multi.fill (T.setVm vm₁) cA comp n.toNatClampNeg k.toNatClampNeg (defaultValue .long) n.toNatClampNeg = F at X' step f1 f2 f3 f4
  have hTh : (T.setVm vm₁).heap = H := hT
  rw [hTh] at f1 f2 f3 f4
  have hout : ∀ i : Nat, Jvm.Free.Multi.outerC cA n.toNatClampNeg H.size i = arrV cA n.toNatClampNeg (fun j => if j < i then .ref (H.size + 1 + j) else .null) := by
    intro i
    induction i with
    | zero =>
      show ({ cls := cA, slots := Array.replicate n.toNatClampNeg .null, vm := .none } : Cell) = _
      rw [arrV_new]
      exact congrArg (arrV cA n.toNatClampNeg) (funext fun j => by simp)
    | succ i ih =>
      show (Jvm.Free.Multi.outerC cA n.toNatClampNeg H.size i).setSlot i (.ref (H.size + 1 + i)) = _
      rw [ih, arrV_store]
      refine congrArg (arrV cA n.toNatClampNeg) (funext fun j => ?_)
      by_cases e : j = i
      · subst e
        simp [updV]
      · by_cases h : j < i
        · simp [updV, e, h, Nat.lt_succ_of_lt h]
        · simp [updV, e, h, show ¬ j < i + 1 by omega]
  have hq : "[" ++ FieldType.long.toString = (FieldType.array .long).toString := by decide
  obtain ⟨t, a1, b1⟩ := kk cA comp F.heap fA (by rw [hq]; exact fC) (by rw [f1]; omega) (fun x hx2 => f3 x hx2) (by
      rw [f2, hout]
      refine congrArg some ?_
      unfold arrV
      congr 1
      apply congrArg
      funext j
      show (if j.1 < n.toNatClampNeg then Value.ref (H.size + 1 + j.1) else .null) = _
      rw [if_pos j.2]) (fun j hj => by
      rw [f4 j hj]
      refine congrArg some ?_
      unfold Jvm.Free.Multi.innerC
      rw [arrV_new]
      rfl) F rfl X'
  exact ⟨t, step t (by rw [hT]; exact a1), b1⟩
theorem tz_arrT {s : State} {args : Array Value} {ty : FieldType} (h : (Cond.arrayClass ty).before args s = true) : ∃ c : ClassId, ArrOfT s c ty ∧ s.vm.findClass ("[" ++ ty.toString) = some c := by
  obtain ⟨c, k, comp, h1, h2, h3⟩ := Cond.arrayClass_spec h
  exact ⟨c, fun n z => ⟨fun k h => (by cases h), k, h2, comp, h3⟩, h1⟩
/-! THE START: what the Statement gives of it, in the words of the small machine -/
def tz_tm (i : Nat) : Term := match i with
  | 0 => .string "ThunderIsThePost$Reader" 83
  | 1 => .string "ThunderIsThePost$Reader" 85
  | 2 => .string "ThunderIsThePost$Reader" 87
  | 3 => .string "ThunderIsThePost$Reader" 89
  | _ => .string "ThunderIsThePost$Reader" 91
def tz_sl9 : List Nat := [4, 5, 6, 4, 4]
def tz_sb9 : List (List Int32) := [[104, 105, 108, 108], [115, 116, 111, 114, 109], [108, 101, 116, 116, 101, 114], [104, 111, 117, 114], [98, 117, 114, 110]]
theorem tz_st_len : ∀ i, i < 5 → tz_sl9.getD i 0 = (tz_SH (11 + i)).2 := by decide +kernel
theorem tz_st_byt : ∀ i, i < 5 → ∀ j, j < tz_sl9.getD i 0 → (tz_sb9.getD i []).getD j 0 = tz_XT (11 + i) j := by decide +kernel
theorem tz_sn_own : ∀ own k j, Cond.stringRef own k (tz_tx j) ∈ lw_tbl → 5 ≤ j → j < 10 → (own = "ThunderIsThePost$Reader" ∧ k = 83 ∧ j = 5) ∨ (own = "ThunderIsThePost$Reader" ∧ k = 85 ∧ j = 6) ∨ (own = "ThunderIsThePost$Reader" ∧ k = 87 ∧ j = 7) ∨ (own = "ThunderIsThePost$Reader" ∧ k = 89 ∧ j = 8) ∨ (own = "ThunderIsThePost$Reader" ∧ k = 91 ∧ j = 9) := by
  intro own k j h h1 h2
  have hz : (lw_tbl.filterMap (fun w => match w with
    | .stringRef o i t => some (o, i, t)
    | _ => none)) = [("ThunderIsThePost$Reader", 83, "hill"), ("ThunderIsThePost$Reader", 85, "storm"), ("ThunderIsThePost$Reader", 87, "letter"), ("ThunderIsThePost$Reader", 89, "hour"), ("ThunderIsThePost$Reader", 91, "burn")] := by decide +kernel
  have hm : (own, k, tz_tx j) ∈ lw_tbl.filterMap (fun w => match w with
    | .stringRef o i t => some (o, i, t)
    | _ => none) := List.mem_filterMap.mpr ⟨_, h, rfl⟩
  rw [hz] at hm
  simp only [List.mem_cons, Prod.mk.injEq, List.not_mem_nil, or_false] at hm
  rcases hm with ⟨rfl, rfl, h9⟩ | ⟨rfl, rfl, h9⟩ | ⟨rfl, rfl, h9⟩ | ⟨rfl, rfl, h9⟩ | ⟨rfl, rfl, h9⟩
  · exact Or.inl ⟨rfl, rfl, (by decide +kernel : ∀ j, j < 10 → 5 ≤ j → tz_tx j = "hill" → j = 5) j h2 h1 h9⟩
  · exact Or.inr (Or.inl ⟨rfl, rfl, (by decide +kernel : ∀ j, j < 10 → 5 ≤ j → tz_tx j = "storm" → j = 6) j h2 h1 h9⟩)
  · exact Or.inr (Or.inr (Or.inl ⟨rfl, rfl, (by decide +kernel : ∀ j, j < 10 → 5 ≤ j → tz_tx j = "letter" → j = 7) j h2 h1 h9⟩))
  · exact Or.inr (Or.inr (Or.inr (Or.inl ⟨rfl, rfl, (by decide +kernel : ∀ j, j < 10 → 5 ≤ j → tz_tx j = "hour" → j = 8) j h2 h1 h9⟩)))
  · exact Or.inr (Or.inr (Or.inr (Or.inr ⟨rfl, rfl, (by decide +kernel : ∀ j, j < 10 → 5 ≤ j → tz_tx j = "burn" → j = 9) j h2 h1 h9⟩)))
set_option maxHeartbeats 4000000 in
/-- what lies outside, told from any place on behind which nothing lay -/
theorem tz_start {p : Program} {s : State} {m : MethodId} {meth : Method} {c : Code} {b L : Nat} {xs : Nat → Int32} (C0 : lw_At p s m meth c b L xs) (bs : Nat) (hbs : s.heap.size ≤ bs) : ∃ G : tz_Gh, tz_bs G = bs ∧ tz_xt G 0 = b ∧ tz_gs G = xs ∧ tz_gn G = L ∧ (tz_vS G).category = 1 ∧ tz_EX G s s.heap ∧ tz_TAB G s := by
  obtain ⟨hx, hb, hr, hml, hown, hts, hX, hbl, hlocks, hgv⟩ := id C0
  have hfl := flat_of_before _ hgv
  have hAb : ∀ a : Nat, a < s.heap.size → ¬ bs ≤ a := fun a h => by omega
  -- the classes
  have hcls : ∀ ci, ∃ q : ClassId × (Nat → Nat), ci < 11 → u_Kn s (tz_cn ci) (tz_T ci) (tz_nf ci) q.1 q.2 := by
    intro ci
    by_cases h : ci < 11
    · have hins : (Cond.instantiable (tz_cn ci) (tz_nf ci)).before #[Value.ref b] s = true := hts _ ((by decide +kernel : ∀ ci, ci < 11 → Cond.instantiable (tz_cn ci) (tz_nf ci) ∈ lw_tbl) ci h)
      obtain ⟨cC, iS, hk⟩ := u_known (C := tz_cn ci) (T := tz_T ci) (N := tz_nf ci) hts (fun w hw => (List.mem_filter.mp (tz_hin h w hw)).1) hins
      exact ⟨(cC, iS), fun _ => hk⟩
    · exact ⟨(0, fun _ => 0), fun q => absurd q h⟩
  obtain ⟨dd, hdd⟩ := Classical.axiomOfChoice hcls
  obtain ⟨cI, hcI1, hcI2⟩ := tz_arrT (hts _ tz_wI.1)
  obtain ⟨cJ, hcJ1, hcJ2⟩ := tz_arrT (hts _ tz_wJ.1)
  obtain ⟨compM, cM, kM, -, hcM1, hcM2, hcM3⟩ := Cond.arrayOver_specA (hts _ tz_wO)
  -- the texts
  obtain ⟨adK, adV, hS9, hev⟩ := vk_Sof (args := #[Value.ref b]) (s := s) (N := 5) (tm := tz_tm) (len := tz_sl9) (byt := tz_sb9) (A := fun q => bs ≤ q) (by decide +kernel)
    (fun i hi => hfl _ ((by decide +kernel : ∀ i, i < 5 → Cond.exactly (tz_tm i) "java/lang/String" ∈ flatC (Jvm.Cond.and given_1 narrow_1)) i hi))
    (fun i hi => hfl _ ((by decide +kernel : ∀ i, i < 5 → Cond.eq (.field (tz_tm i) "java/lang/String" "coder" "B") (.int 0) ∈ flatC (Jvm.Cond.and given_1 narrow_1)) i hi))
    (fun i hi => hfl _ ((by decide +kernel : ∀ i, i < 5 → Cond.arrayOf (.field (tz_tm i) "java/lang/String" "value" "[B") .byte ∈ flatC (Jvm.Cond.and given_1 narrow_1)) i hi))
    (fun i hi => hfl _ ((by decide +kernel : ∀ i, i < 5 → Cond.eq (.length (.field (tz_tm i) "java/lang/String" "value" "[B")) (.int (Int32.ofNat (tz_sl9.getD i 0))) ∈ flatC (Jvm.Cond.and given_1 narrow_1)) i hi))
    (fun i hi j hj => hfl _ ((by decide +kernel : ∀ i, i < 5 → ∀ j, j < tz_sl9.getD i 0 → Cond.eq (.elem (.field (tz_tm i) "java/lang/String" "value" "[B") (.int (Int32.ofNat j))) (.int ((tz_sb9.getD i []).getD j 0)) ∈ flatC (Jvm.Cond.and given_1 narrow_1)) i hi j hj))
    (fun i j hi hj hne => by
      have z := (by decide +kernel : ∀ i, i < 5 → ∀ j, j < 5 → i ≠ j → Cond.not (Cond.eq (tz_tm i) (tz_tm j)) ∈ flatC (Jvm.Cond.and given_1 narrow_1) ∨ Cond.not (Cond.eq (tz_tm j) (tz_tm i)) ∈ flatC (Jvm.Cond.and given_1 narrow_1)) i hi j hj hne
      exact z.imp (fun q => hfl _ q) (fun q => hfl _ q)) hAb
  obtain ⟨vS, hv1, hv2⟩ := Cond.isRef_spec (hfl (Cond.isRef (.static "jdk/internal/util/Preconditions" "SIOOBE_FORMATTER" "Ljava/util/function/BiFunction;")) (by decide +kernel))
  let G : tz_Gh := (bs, fun k => if k = 0 then b else if k < 11 then adK (k - 5) else adV (k - 11), vS, (fun ci => (dd ci).1, fun ci => (dd ci).2), (cI, cJ, cM), xs, L)
  refine ⟨G, rfl, rfl, rfl, rfl, ?_, ?_, ?_⟩
  · show vS.category = 1
    cases vS <;> first | rfl | exact absurd hv2 (by simp [Value.isRef])
  · refine ⟨?_, ?_, ?_, ?_⟩
    · obtain ⟨scr, q1, q2, q3, q4, q5⟩ := hX
      exact ⟨scr, q1, q2, q3, by rw [q4]; exact Nat.le_refl _, by rw [q4]; rfl, q5, hAb _ hbl⟩
    · intro k h1 h2
      have e1 : tz_xt G k = adK (k - 5) := by
        show (if k = 0 then b else if k < 11 then adK (k - 5) else _) = _
        rw [if_neg (by omega), if_pos (by omega)]
      have e2 : tz_xt G (k + 6) = adV (k - 5) := by
        show (if k + 6 = 0 then b else if k + 6 < 11 then adK (k + 6 - 5) else adV (k + 6 - 11)) = _
        rw [if_neg (by omega), if_neg (by omega), show k + 6 - 11 = k - 5 by omega]
      obtain ⟨s1, s2, s3, s4⟩ := hS9.1 (k - 5) (by omega)
      rw [e1, e2]
      refine ⟨s1, s2, s3, ?_⟩
      have l1 := tz_st_len (k - 5) (by omega)
      have l2 := tz_st_byt (k - 5) (by omega)
      rw [show 11 + (k - 5) = k + 6 by omega] at l1 l2
      obtain ⟨cell, t1, t2, t3, t4, t5, t6, t7⟩ := s4
      rw [l1] at t4 t5 t6
      exact ⟨cell, t1, t2, t3, t4, t5, fun j hj => by rw [t6 j hj]; exact congrArg (fun z => some (Value.int z)) (l2 j (by rw [l1]; exact hj)), t7⟩
    · exact va_Zof (hts _ (by decide +kernel)) (hts _ (by decide +kernel)) (va_eqi (hfl _ (by decide +kernel))) hAb
    · exact va_Zof (hts _ (by decide +kernel)) (hts _ (by decide +kernel)) hv1 hAb
  · refine ⟨fun w hw hn => va_Nw.of (by cases w <;> first | rfl | exact (Bool.noConfusion hn)) (hts w hw), ?_, ⟨?_, ?_⟩, hts _ tz_wO⟩
    · intro own k j h1 h2 h3
      have e1 : tz_xt G j = adK (j - 5) := by
        show (if j = 0 then b else if j < 11 then adK (j - 5) else _) = _
        rw [if_neg (by omega), if_pos (by omega)]
      rw [e1]
      refine vk_R.of (hts _ h1) ?_
      have ev : ∀ i, i < 5 → (tz_tm i).eval #[Value.ref b] s none [] s = some (.ref (adK i)) := hev
      rcases tz_sn_own own k j h1 h2 h3 with ⟨rfl, rfl, rfl⟩ | ⟨rfl, rfl, rfl⟩ | ⟨rfl, rfl, rfl⟩ | ⟨rfl, rfl, rfl⟩ | ⟨rfl, rfl, rfl⟩
      · exact ev 0 (by decide)
      · exact ev 1 (by decide)
      · exact ev 2 (by decide)
      · exact ev 3 (by decide)
      · exact ev 4 (by decide)
    · intro ci q hq
      have h11 : ci < 11 := by
        have := (List.getElem?_eq_some_iff.mp hq).1
        simpa [tz_cl] using this
      rw [tz_cl_at h11] at hq
      cases hq
      exact hdd ci h11
    · intro k q hq
      match k, hq with
      | 0, hq => cases hq; exact ⟨hcI1, hcI2⟩
      | 1, hq => cases hq; exact ⟨hcJ1, hcJ2⟩
      | 2, hq => cases hq; exact ⟨fun n z => ⟨fun k h => (by cases h), kM, hcM1, _, hcM2⟩, hcM3⟩
      | k + 3, hq => simp [tz_tys] at hq
theorem tz_ss_all : tz_ss 159 ≤ 20000 := by decide +kernel
set_option maxHeartbeats 4000000 in
/-- YOUR PART: from the entry, for every script of at most 260 ints, the law comes to its end with true ('hflags': the launch's flags, for a law that throws: no stack traces) -/
theorem whole_start {p : Program} {e : Env} {s : State} {m : MethodId} {below : List Frame} {meth : Method} {c : Code} (l : Launch) (hflags : l.flags = flags0) {b L : Nat} {xs : Nat → Int32} (hL : L ≤ 260) (C0 : lw_At p s m meth c b L xs) : W p l e room_1 s m #[Value.ref b] below meth c s.heap [] 0 0 (lw_Z below #[Value.ref b] s) (entryFrame m ([Value.ref b] : List Value).toArray 21) := by
  obtain ⟨hx, hb, hr, hml, hown, hts, hX, hbl, hlocks, hgv⟩ := id C0
  have hFr : ∀ (d d2 : Nat), ∃ G : tz_Gh, tz_xt G 0 = b ∧ tz_gs G = xs ∧ tz_gn G = L ∧ (tz_vS G).category = 1 ∧ tz_Fr p l room_1 s m #[Value.ref b] meth c G 142 17 (d, d2) := by
    intro d d2
    obtain ⟨G, g1, g2, g3, g4, g5, g6, g7⟩ := tz_start C0 (s.heap.size + d) (Nat.le_add_right _ _)
    refine ⟨G, g2, g3, g4, g5, ⟨hx, hb, hml, ?_⟩, fun w hw => hts w (List.mem_filter.mp hw).1, fun h => absurd (by decide +kernel : tz_ini 142 = 0) h, ⟨by decide +kernel, by decide +kernel⟩, ⟨by rw [g1]; rfl, Nat.le_refl _, by decide, g5⟩, g6, g7⟩
    rw [tz_pn_law]
    exact hown
  have hM := tz_rowM l
  have hca : tz_cm 142 ≤ 17 := by decide +kernel
  have hall := tz_ss_all
  have h157 : tz_ss 157 ≤ tz_ss 159 := tz_ss_le (by decide)
  obtain ⟨sl, hsl⟩ : ∃ sl, sl = tz_ss 157 - tz_ss 17 := ⟨_, rfl⟩
  obtain ⟨G0, x0, s0, n0, v0, F0'⟩ := hFr 0 0
  obtain ⟨G1, x1, s1, n1, v1, F1⟩ := hFr 140 sl
  obtain ⟨G2, x2, s2, n2, v2, F2⟩ := hFr 280 (sl + sl)
  obtain ⟨G3, x3, s3, n3, v3, F3⟩ := hFr 420 (sl + sl + sl)
  have hcon := (st_B xs L).1.2.2.2
  have hg : ∀ G : tz_Gh, tz_gs G = xs → tz_gn G = L → (tz_A0 xs L).2.1 0 = tz_gs G ∧ (tz_A0 xs L).2.2.2 0 0 = tz_gn G := fun G a b => ⟨by rw [a]; rfl, by rw [b]; rfl⟩
  -- the fourth object and all behind it
  have k3 : tz_K p l e room_1 s m #[Value.ref b] below meth c (lw_Z below #[Value.ref b] s) G3 142 17 (420, sl + sl + sl) 43 tz_L0 [] (tz_A0 xs L) := by
    obtain ⟨A2, hgo, hA2⟩ := st_main xs hL
    obtain ⟨n, hn⟩ := tz_Go_to hgo
    have hss : tz_ss A2.1 ≤ tz_ss 159 := tz_ss_le hA2
    have hcc : A2.1 - 17 + 420 ≤ 600000 := by omega
    have hsl2 : tz_ss A2.1 - tz_ss 17 + (sl + sl + sl) ≤ 7302250 := by omega
    refine (tz_sound hM v3 n).2 F3 hca (rv := some (.int 1)) hcc hsl2 ?_ 43 tz_L0 [] (tz_A0 xs L) hn (Nat.le_refl _)
    intro pc ls H locs hR hS hrd
    obtain ⟨d1, -, -⟩ := hrd
    refine va_forget (fun q hq => ?_) ?_
    · have h3 : tz_bs G3 ≤ q.base := hS.2.2 q hq
      have h4 := F3.2.2.2.2.1.1
      omega
    · refine W.widen (k := 600000) (n := 7302250) hcc hsl2 ?_
      exact lw_ret hx hb hr hlocks d1
  -- the three ahead of it
  have k2 : tz_K p l e room_1 s m #[Value.ref b] below meth c (lw_Z below #[Value.ref b] s) G2 142 17 (280, sl + sl) 28 tz_L0 [] (tz_A0 xs L) := by
    obtain ⟨A', h, hA⟩ := st_postage xs L
    obtain ⟨n, h1, h2⟩ := to_n h
    refine (tz_to_sound hM v2 F2 hca (A2 := A') ?_ ?_ (tz_reset (l := l) hsl F2 F3 rfl rfl hA rfl (hg G3 s3 n3) (by rw [x3, x2]) k3) 5 28 tz_L0 [] (tz_A0 xs L) (seg_28 h1 h2 hcon)).2 (Nat.le_refl _)
    · rw [hA]
      show 157 - 17 + 280 ≤ 600000
      omega
    · rw [hA, ← hsl]
      show sl + (sl + sl) ≤ 7302250
      omega
  have k1 : tz_K p l e room_1 s m #[Value.ref b] below meth c (lw_Z below #[Value.ref b] s) G1 142 17 (140, sl) 15 tz_L0 [] (tz_A0 xs L) := by
    obtain ⟨A', h, hA⟩ := st_image xs L
    obtain ⟨n, h1, h2⟩ := to_n h
    refine (tz_to_sound hM v1 F1 hca (A2 := A') ?_ ?_ (tz_reset (l := l) hsl F1 F2 rfl rfl hA rfl (hg G2 s2 n2) (by rw [x2, x1]) k2) 5 15 tz_L0 [] (tz_A0 xs L) (seg_15 h1 h2 hcon)).2 (Nat.le_refl _)
    · rw [hA]
      show 157 - 17 + 140 ≤ 600000
      omega
    · rw [hA, ← hsl]
      show sl + sl ≤ 7302250
      omega
  have k0 : tz_K p l e room_1 s m #[Value.ref b] below meth c (lw_Z below #[Value.ref b] s) G0 142 17 (0, 0) 0 tz_L0 [] (tz_A0 xs L) := by
    obtain ⟨A', h, hA⟩ := st_restore xs L
    obtain ⟨n, h1, h2⟩ := to_n h
    refine (tz_to_sound hM v0 F0' hca (A2 := A') ?_ ?_ (tz_reset (l := l) hsl F0' F1 rfl (Nat.zero_add sl).symm hA rfl (hg G1 s1 n1) (by rw [x1, x0]) k1) 6 0 tz_L0 [] (tz_A0 xs L) (seg_0 h1 h2 hcon)).2 (Nat.le_refl _)
    · rw [hA]
      show 157 - 17 + 0 ≤ 600000
      omega
    · rw [hA, ← hsl]
      show sl + 0 ≤ 7302250
      omega
  have hbs : tz_bs G0 = s.heap.size := by
    have h4 := F0'.2.2.2.2.1.1
    rw [Nat.sub_self (17 : Nat)] at h4
    exact h4.symm
  have hcv : tz_cv G0 (.ref 0) = .ref b := by
    show Value.ref (tz_ad G0 0) = _
    rw [show tz_ad G0 0 = tz_xt G0 0 from if_pos (by decide), x0]
  rw [lg_entry_eq]
  have k := k0 s.heap [] _ ⟨⟨Nat.le_refl _, fun h => absurd h (by decide +kernel), hg G0 s0 n0, fun k q h => by simp [tz_ws, tz_A0] at h, by rw [hbs]; exact Nat.le_refl _⟩, va_S.rf, tz_ent_has v0 (m := 142) (as := [.ref 0]) (by decide +kernel)⟩
  have e1 : (tz_A0 xs L).1 - 17 + 0 = 0 := by
    show 17 - 17 + 0 = 0
    rfl
  have e2 : tz_ss (tz_A0 xs L).1 - tz_ss 17 + 0 = 0 := by
    show tz_ss 17 - tz_ss 17 + 0 = 0
    omega
  rw [e1, e2] at k
  have e3 : ([.ref 0] : List Value).map (tz_cv G0) = [.ref b] := by
    show [tz_cv G0 (.ref 0)] = _
    rw [hcv]
  rw [e3] at k
  exact k
-- ===== YOUR PART ENDS =====
set_option maxHeartbeats 4000000 in
theorem lw_walk (l : Launch) (hflags : l.flags = flags0) (b : Addr) (xs : List Int32) : MetFree l x (headSpec (Jvm.Cond.code x code maxLocals ret :: tables_1) room_1) (lw_P b xs) (fun _ _ _ _ _ => True) lw_Q := by
  refine MetFree.of_bodyS (code := code) (maxLocals := maxLocals) (ret := ret) (by decide) ?_ ?_
  · intro args s m h hn
    obtain ⟨meth, c, h1, h2, h3, h4, h5, h6, -, -⟩ := Cond.code_spec hn (atoms_spec (ws := Jvm.Cond.code x code maxLocals ret :: tables_1) h _ List.mem_cons_self)
    exact ⟨meth, c, h1, h2, h3, h4, h5, h6⟩
  · intro p e s m args below meth c s₁ B hml0 hP _
    obtain ⟨rfl, hx, hbd, hgv⟩ := hP
    obtain ⟨scr, harrAt, hlist, hof, hsmall⟩ := hx
    obtain ⟨hcb, hkn, -, -⟩ := State.arrayAt?_spec harrAt
    have hown : s.vm.findClass R_law = some m.cls := findClass_of_methodNamed B.named
    have hts0 : ∀ c ∈ (Jvm.Cond.code x code maxLocals ret :: tables_1), c.before #[Value.ref b] s = true := atoms_spec (ws := Jvm.Cond.code x code maxLocals ret :: tables_1) B.pre
    have hts : ∀ w ∈ lw_tbl, w.before #[Value.ref b] s = true := k2_hts_sels lw_privs (fun w hw => hts0 w (List.mem_cons_of_mem _ hw)) lw_privs_ok
    have hml : c.maxLocals = 21 := B.maxLocals_eq (hts0 _ List.mem_cons_self)
    have X₀ : Stand p l e room_1 s m #[Value.ref b] below meth c s₁ [] 0 0 := Stand.of_body B
    have hh0 : s₁.heap = s.heap := by rw [B.state]; rfl
    have hsz : scr.slots.size = xs.length := by rw [← Array.length_toList, hlist, List.length_map]
    have hval : ∀ j : Nat, j < xs.length → scr.slots[j]? = some (.int (xs.getD j 0)) := fun j hj => by
      rw [← Array.getElem?_toList, hlist]
      simp [hj]
    have hbl : b < s.heap.size := (Array.getElem?_eq_some_iff.mp hcb).1
    have hX : va_X b xs.length (fun j => xs.getD j 0) s s.heap := ⟨scr, hcb, hof, hkn, hsz, hval⟩
    have K : W p l e room_1 s m #[Value.ref b] below meth c s₁.heap [] 0 0 (lw_Z below #[Value.ref b] s) (entryFrame m ([Value.ref b] : List Value).toArray 21) := by
      rw [hh0]
      exact whole_start l hflags hbd ⟨B.exec, B.bytes, B.returns, hml, hown, hts, hX, hbl, B.notSynchronized, hgv⟩
    obtain ⟨t, a1, o, b1, b2, b3⟩ := K s₁ rfl X₀
    exact ⟨t, o, a1, b1, b2, b3⟩
theorem lw_pre_spec {args : Array Value} {s : State} (h : (Jvm.Cond.and given_1 narrow_1).before args s = true) (hr : rest_1_c.before args s = true) : ∃ (b : Addr) (xs : List Int32), lw_P b xs args s := by
  have hs := flat_of_before _ h
  have hq := flat_of_before _ hr
  have hc : (Cond.count 1).before args s = true := hs _ (by decide +kernel)
  have harr : (Cond.arrayOf (.arg 0) .int).before args s = true := hs _ (by decide +kernel)
  have hle : (Cond.le (.length (.arg 0)) (.int 260)).before args s = true := hs _ (by decide +kernel)
  have hlen : (Cond.isInt (.length (.arg 0))).before args s = true := hq _ (by decide +kernel)
  have hall : (Cond.all (.arg 0) (.isInt (.elem (.arg 0) (.index 0)))).before args s = true := hq _ (by decide +kernel)
  obtain ⟨b, xs, hb, hx⟩ := State.ints_of_pre rfl harr hlen hall
  have hsm : xs.length < 2 ^ 31 := hx.choose_spec.2.2.2
  have hev : (Term.length (.arg 0)).eval args s none [] s = some (.int xs.length.toInt32) := hx.length_eval hb
  have hv := Cond.le_ints hev (show (Term.int 260).eval args s none [] s = some (.int 260) from rfl)
  have hd : xs.length.toInt32 ≤ 260 := by
    simpa [Cond.before, Cond.holds, hv] using hle
  have hN : xs.length ≤ 260 := (Int32.ofNat_le_ofNat hsm (by decide)).mp (show Int32.ofNat xs.length ≤ Int32.ofNat 260 from hd)
  exact ⟨b, xs, Cond.one_arg hc (show args[0]? = some (.ref b) from hb), hx, hN, h⟩
theorem lw_comes (l : Launch) (hflags : l.flags = flags0) : Comes l x (Jvm.Cond.code x code maxLocals ret :: tables_1) room_1 (fun tb e args s => Calls_1 tb e args s ∧ rest_1 tb e args s ∧ Pre_1 tb e args s)
    (fun _ _ args s o t => lw_Q args s o t) := by
  intro p e ha hc hk s m args below hf hfit hheap happ hpre
  obtain ⟨b, xs, hP⟩ := lw_pre_spec hpre.2.2 hpre.2.1
  obtain ⟨k, o, h1, h2, h3, hQ⟩ := lw_walk l hflags b xs p e ha hc hk s m args below hf ((Spec.applies_iff_loose hf).mp happ).1 hP trivial
  exact ⟨k, o, h1, h2, h3, hQ⟩
theorem lw_frame {s t : State} {o : Outcome} {args : Array Value} (h : Framed s o t [] 600000 7302250) :
    Framed s o t (fieldLocs frame_1_writes args s ++ arrayLocs frame_1_arrays args s ++ staticLocs frame_1_statics s) 600000 7302250 := h
theorem lw_limb (L : Cond) (hL : ∀ (args : Array Value) (s t : State), L.after args s (.returned (some (.int 1))) t = true) :
    ArmFor flags0 classFile x code maxLocals ret World_1 tables_1 room_1 Calls_1 rest_1 Pre_1
      (fun tb e a s o t => postC L tb e a s o t ∧ Framed s o t (fieldLocs frame_1_writes a s ++ arrayLocs frame_1_arrays a s ++ staticLocs frame_1_statics s) 600000 7302250) := by
  intro l hflags _ _ p e ha hc hk s m args below hf hfit hheap happ hpre
  obtain ⟨k, o, h1, h2, h3, rfl, hF⟩ := lw_comes l hflags p e ha hc hk s m args below hf hfit hheap happ hpre
  exact ⟨k, _, h1, h2, h3, hL args s _, lw_frame hF⟩
theorem i_vc : Claimed_1_1 ∧ Claimed_1_2 := ⟨lw_limb limb_1_1 (fun args s t => by simp [limb_1_1, Cond.after, Cond.holds, Cond.value]), lw_limb limb_1_2 (fun args s t => Cond.after_iff.mpr (by
  first | (rw [show limb_1_2 = Cond.eq .result (.int 1) from rfl, Cond.eq_ints (x := 1) (y := 1) rfl rfl]; simp; done) | (simp [limb_1_2, Cond.value, Term.eval]; done)))⟩
