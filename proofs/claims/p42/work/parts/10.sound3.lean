/-! new cells, calls, ends -/
theorem tz_SH_hi {k : Nat} (h : tz_N1 ≤ k) : tz_SH k = (50, 0) := by
  have hb : ∀ t, t ≤ tz_N1 → Nat.blt k t = false := by
    intro t ht
    cases e : Nat.blt k t
    · rfl
    · exact absurd (Nat.le_of_ble_eq_true e) (by omega)
  unfold tz_SH
  simp (discharger := decide) only [hb, cond_false]
theorem tz_SH_nf {k : Nat} (h : tz_kd k < 11) : (tz_SH k).2 = tz_nf (tz_kd k) := by
  by_cases hk : k < tz_N1
  · have : ∀ k, k < tz_N1 → tz_kd k < 11 → (tz_SH k).2 = tz_nf (tz_kd k) := by decide +kernel
    exact this k hk h
  · exfalso
    have e : tz_kd k = 50 := by unfold tz_kd; rw [tz_SH_hi (Nat.not_lt.mp hk)]
    omega
theorem tz_ws_pushn {G : tz_Gh} {A B : tz_Mem} {n : Nat} (h1 : tz_E0 ≤ A.1) (hB : B.1 = A.1 + n) (he : ∀ j, j < A.1 → tz_en G B j = tz_en G A j) : tz_ws G B = tz_ws G A ++ (List.range n).map (fun i => (tz_bs G + (A.1 - tz_E0) + i, tz_en G B (A.1 + i))) := by
  apply List.ext_getElem?
  intro i
  by_cases hi : i < A.1 - tz_E0
  · have e1 := tz_ws_at (G := G) (A := A) (k := tz_E0 + i) (by omega) (by omega)
    have e2 := tz_ws_at (G := G) (A := B) (k := tz_E0 + i) (by omega) (by omega)
    rw [Nat.add_sub_cancel_left] at e1 e2
    rw [List.getElem?_append_left (by rw [tz_ws_len]; exact hi), e1, e2, he _ (by omega)]
  · rw [List.getElem?_append_right (by rw [tz_ws_len]; omega), tz_ws_len]
    by_cases hj : i < A.1 + n - tz_E0
    · have e2 := tz_ws_at (G := G) (A := B) (k := tz_E0 + i) (by omega) (by omega)
      rw [Nat.add_sub_cancel_left] at e2
      rw [e2, List.getElem?_map, List.getElem?_range (by omega), tz_ad_hi (Nat.le_add_right _ _)]
      show some (_, _) = some (_, _)
      rw [show tz_E0 + i - tz_E0 = tz_bs G + (A.1 - tz_E0) + (i - (A.1 - tz_E0)) - tz_bs G by omega, show A.1 + (i - (A.1 - tz_E0)) = tz_E0 + i by omega, show tz_bs G + (tz_bs G + (A.1 - tz_E0) + (i - (A.1 - tz_E0)) - tz_bs G) = tz_bs G + (A.1 - tz_E0) + (i - (A.1 - tz_E0)) by omega]
    · rw [List.getElem?_eq_none (by rw [tz_ws_len]; omega), List.getElem?_eq_none (by simp; omega)]
theorem tz_nw_old {A : tz_Mem} {n j : Nat} {G : tz_Gh} (h : j < A.1) : tz_en G (tz_nw A n) j = tz_en G A j := by
  have h2 : ¬ A.1 ≤ j := Nat.not_le.mpr h
  exact tz_en_congr (funext fun i => by simp [tz_nw, h2]) (funext fun i => by simp [tz_nw, h2]) (funext fun i => by simp [tz_nw, h2])
theorem tz_REP.push {A : tz_Mem} {G : tz_Gh} {cm n : Nat} {H H1 : Heap} (h : tz_REP cm G A H) (hsz : H.size = tz_bs G + (A.1 - tz_E0)) (ho : ∀ q, q < H.size → H1[q]? = H[q]?)
    (hn : ∀ i, i < n → va_at (tz_D G) tz_cl (tz_bs G + (A.1 - tz_E0) + i, tz_en G (tz_nw A n) (A.1 + i)) H1) : tz_REP cm G (tz_nw A n) H1 := by
  obtain ⟨z1, z2, z3, hP, hB⟩ := h
  have he := tz_ws_pushn (G := G) (A := A) (B := tz_nw A n) (n := n) z1 rfl (fun j hj => tz_nw_old hj)
  have hA1 : 17 ≤ A.1 := z1
  have h0 : ¬ A.1 ≤ 0 := by omega
  refine ⟨Nat.le_trans z1 (Nat.le_add_right _ _), fun hc => ?_, ⟨?_, ?_⟩, ?_, ?_⟩
  · obtain ⟨y1, y2⟩ := z2 hc
    refine ⟨Nat.le_trans y1 (Nat.le_add_right _ _), fun k f h1 h2 h3 => ?_⟩
    rw [← y2 k f h1 h2 h3]
    have : ¬ A.1 ≤ k := by omega
    simp [tz_gr, tz_nw, this]
  · rw [← z3.1]
    funext i
    simp [tz_nw, h0]
  · rw [← z3.2]
    simp [tz_nw, h0]
  · rw [he]
    refine (hP.kept (fun k x hx => ho _ ((hP k x hx).lt))).app (fun k x hx => ?_)
    rw [List.getElem?_map] at hx
    by_cases hk : k < n
    · rw [List.getElem?_range hk] at hx
      cases hx
      exact hn k hk
    · rw [List.getElem?_eq_none (by simp; omega)] at hx
      cases hx
  · rcases Nat.eq_zero_or_pos (tz_bs G) with q | q
    · omega
    · have q1 := ho (tz_bs G - 1) (by omega)
      rw [Array.getElem?_eq_getElem (show tz_bs G - 1 < H.size by omega)] at q1
      have := (Array.getElem?_eq_some_iff.mp q1).1
      omega
section TZN
variable {p : Program} {l : Launch} {e : Env} {R : Room} {s : State} {ma : MethodId} {args : Array Value} {below : List Frame} {meth : Method} {c : Code} {Q : State → Prop} {G : tz_Gh} {m a0 : Nat} {dd : Nat × Nat}
variable {pc : Nat} {L : tz_Lo} {r : List Value} {A : tz_Mem}
theorem tz_W_size (F : tz_Fr p l R s ma args meth c G m a0 dd) (ha : a0 ≤ A.1) {H : Heap} {locs : List Loc} {slots : Nat} {g : JFrame} {cm : Nat} (hR : tz_REP cm G A H) (hS : va_S (tz_Ab G) s.heap H locs) (k : H.size = tz_bs G + (A.1 - tz_E0) → W p l e R s ma args below meth c H locs (A.1 - a0 + dd.1) slots Q g) : W p l e R s ma args below meth c H locs (A.1 - a0 + dd.1) slots Q g := by
  intro T hT X
  have h1 := X.heapSize
  rw [hT] at h1
  obtain ⟨z1, z2, z3, hP, hB⟩ := hR
  obtain ⟨f1, f2, -, -⟩ := F.2.2.2.2.1
  have h3 := hS.1
  have h2 : tz_bs G + (A.1 - tz_E0) ≤ H.size := by
    by_cases h : A.1 = tz_E0
    · omega
    · have hat := hP _ _ (tz_ws_at (G := G) (A := A) (k := A.1 - 1) (by omega) (by omega))
      have := hat.lt
      rw [tz_ad_hi (by omega)] at this
      have h5 : tz_bs G + (A.1 - 1 - tz_E0) < H.size := this
      omega
  exact k (by omega) T hT X
theorem tz_k_new (F : tz_Fr p l R s ma args meth c G m a0 dd) (ha : a0 ≤ A.1) {idx ci : Nat} (hd : decode (tz_by m) pc = .ok (.new idx, 3)) (w1 : tz_W (Cond.classLink (tz_own (tz_pn m)) idx (tz_cn ci))) (w2 : tz_W (Cond.instantiable (tz_cn ci) (tz_nf ci))) (w3 : tz_W (Cond.initialized (tz_cn ci))) (hci : ci < 11) (hkd : tz_kd A.1 = ci) (hc9 : A.1 + 1 - a0 + dd.1 ≤ R.cells) (hs9 : tz_ss (A.1 + 1) - tz_ss a0 + dd.2 ≤ R.slots)
    (hk : tz_K p l e R s ma args below meth c Q G m a0 dd (pc + 3) L (.ref A.1 :: r) (tz_nw A 1)) : tz_K p l e R s ma args below meth c Q G m a0 dd pc L r A := by
  intro H locs ls hSt
  have hK := F.2.2.2.2.2.2.2.2.1
  have hKn := hK.1 ci _ (tz_cl_at hci)
  have hss : tz_ss (A.1 + 1) = tz_ss A.1 + tz_nf ci := by
    show tz_ss A.1 + (tz_SH A.1).2 = _
    rw [tz_SH_nf (by omega), hkd]
  have hss2 := tz_ss_le ha
  refine tz_W_size F ha hSt.1 hSt.2.1 fun hsz => ?_
  refine W.newcK F.1.1 F.1.2.1 F.1.2.2.2 (F.2.1 _ (tz_in_WS w1)) (F.2.1 _ (tz_in_WS w2)) (F.2.1 _ (tz_in_WS w3)) rfl hd (by omega) (by omega) hKn.2.1 hsz fun H1 kC hkC e1 z1 o1 => ?_
  refine W.cs (cells' := (tz_nw A 1).1 - a0 + dd.1) (slots' := tz_ss (tz_nw A 1).1 - tz_ss a0 + dd.2) (by show A.1 - a0 + dd.1 + 1 = A.1 + 1 - a0 + dd.1; omega) (by show _ = tz_ss (A.1 + 1) - tz_ss a0 + dd.2; omega) ?_
  have k := hk H1 locs ls ⟨hSt.1.push hsz (fun q hq => o1 q (by omega)) (fun i hi => ?_), ⟨Nat.le_trans hSt.2.1.1 (by omega), fun x h1 h2 => (o1 x (by have := hSt.2.1.1; omega)).trans (hSt.2.1.2.1 x h1 h2), hSt.2.1.2.2⟩, hSt.2.2⟩
  · rw [show tz_bs G + (A.1 - tz_E0) = tz_ad G A.1 from (tz_ad_hi hSt.1.1).symm]
    exact k
  · obtain rfl : i = 0 := by omega
    rw [show A.1 + 0 = A.1 from rfl, tz_en_obj hkd hci]
    refine ⟨_, tz_cl_at hci, (u_born (tz_ty ci) F.2.1 (tz_hin hci) hKn hkC e1 (tz_ty_ok ci hci)).to (fun j hj => ?_)⟩
    show defaultValue (tz_ty ci j) = vp_V ((List.range (tz_nf ci)).map (fun f => tz_fv G (tz_nw A 1) A.1 ci f)) j
    unfold vp_V
    rw [List.getD_eq_getElem?_getD, tz_flds_at hj]
    show _ = tz_fv G (tz_nw A 1) A.1 ci j
    by_cases h : tz_ft ci j = 1 ∨ tz_ft ci j = 2
    · rw [tz_fv_ref h, (tz_fr_ok ci hci j hj h).2]
      simp [tz_nw, tz_dr]
    · have h4 := (tz_fi_ok ci hci j hj).2
      have h5 : tz_ft ci j = 0 ∨ tz_ft ci j = 3 := by omega
      rw [tz_fv_int h5, (tz_fi_ok ci hci j hj).1 h5]
      simp [tz_nw]
theorem tz_k_newi (F : tz_Fr p l R s ma args meth c G m a0 dd) (ha : a0 ≤ A.1) {n : Int32} (hd : decode (tz_by m) pc = .ok (.newarray .int, 2)) (hn : ¬ n < 0) (hsl : (tz_SH A.1).2 = n.toNatClampNeg) (hb9 : n.toNatClampNeg ≤ 65535) (hkd : tz_kd A.1 = 100) (hc9 : A.1 + 1 - a0 + dd.1 ≤ R.cells) (hs9 : tz_ss (A.1 + 1) - tz_ss a0 + dd.2 ≤ R.slots)
    (hk : tz_K p l e R s ma args below meth c Q G m a0 dd (pc + 2) L (.ref A.1 :: r) (tz_nw A 1)) : tz_K p l e R s ma args below meth c Q G m a0 dd pc L (.int n :: r) A := by
  intro H locs ls hSt
  have hK := F.2.2.2.2.2.2.2.2.1
  have hss : tz_ss (A.1 + 1) = tz_ss A.1 + (tz_SH A.1).2 := rfl
  have hss2 := tz_ss_le ha
  refine tz_W_size F ha hSt.1 hSt.2.1 fun hsz => ?_
  refine va_newaK F.1.1 F.1.2.1 (atype := .int) (F.2.1 _ (tz_in_WS tz_wI)) rfl hd rfl hn hsl.symm (by rw [hsl]; show n.toNatClampNeg * 4 ≤ _; omega) (by omega) (by omega) hsz fun H1 cA e1 z1 o1 hAr hNm => ?_
  refine W.cs (cells' := (tz_nw A 1).1 - a0 + dd.1) (slots' := tz_ss (tz_nw A 1).1 - tz_ss a0 + dd.2) (by show A.1 - a0 + dd.1 + 1 = A.1 + 1 - a0 + dd.1; omega) (by show _ = tz_ss (A.1 + 1) - tz_ss a0 + dd.2; omega) ?_
  have hcA : cA = tz_cI G := by
    have h2 : s.vm.findClass ("[" ++ FieldType.int.toString) = some (tz_cI G) := (hK.2 0 _ rfl).2
    exact Option.some.inj (hNm.symm.trans h2)
  subst hcA
  have k := hk H1 locs ls ⟨hSt.1.push hsz (fun q hq => o1 q (by omega)) (fun i hi => ?_), ⟨Nat.le_trans hSt.2.1.1 (by omega), fun x h1 h2 => (o1 x (by have := hSt.2.1.1; omega)).trans (hSt.2.1.2.1 x h1 h2), hSt.2.1.2.2⟩, hSt.2.2⟩
  · rw [show tz_bs G + (A.1 - tz_E0) = tz_ad G A.1 from (tz_ad_hi hSt.1.1).symm]
    exact k
  · obtain rfl : i = 0 := by omega
    rw [show A.1 + 0 = A.1 from rfl, tz_en_int hkd]
    show H1[tz_bs G + (A.1 - tz_E0)]? = some (arrV (tz_cI G) (tz_SH A.1).2 (fun j => .int ((tz_nw A 1).2.1 A.1 j)))
    rw [e1]
    simp [tz_nw, defaultValue, newarray.typeOf]
theorem tz_k_newj (F : tz_Fr p l R s ma args meth c G m a0 dd) (ha : a0 ≤ A.1) {n : Int32} (hd : decode (tz_by m) pc = .ok (.newarray .long, 2)) (hn : ¬ n < 0) (hsl : (tz_SH A.1).2 = n.toNatClampNeg) (hb9 : n.toNatClampNeg ≤ 65535) (hkd : tz_kd A.1 = 101) (hc9 : A.1 + 1 - a0 + dd.1 ≤ R.cells) (hs9 : tz_ss (A.1 + 1) - tz_ss a0 + dd.2 ≤ R.slots)
    (hk : tz_K p l e R s ma args below meth c Q G m a0 dd (pc + 2) L (.ref A.1 :: r) (tz_nw A 1)) : tz_K p l e R s ma args below meth c Q G m a0 dd pc L (.int n :: r) A := by
  intro H locs ls hSt
  have hK := F.2.2.2.2.2.2.2.2.1
  have hss : tz_ss (A.1 + 1) = tz_ss A.1 + (tz_SH A.1).2 := rfl
  have hss2 := tz_ss_le ha
  refine tz_W_size F ha hSt.1 hSt.2.1 fun hsz => ?_
  refine va_newaK F.1.1 F.1.2.1 (atype := .long) (F.2.1 _ (tz_in_WS tz_wJ)) rfl hd rfl hn hsl.symm (by rw [hsl]; show n.toNatClampNeg * 8 ≤ _; omega) (by omega) (by omega) hsz fun H1 cA e1 z1 o1 hAr hNm => ?_
  refine W.cs (cells' := (tz_nw A 1).1 - a0 + dd.1) (slots' := tz_ss (tz_nw A 1).1 - tz_ss a0 + dd.2) (by show A.1 - a0 + dd.1 + 1 = A.1 + 1 - a0 + dd.1; omega) (by show _ = tz_ss (A.1 + 1) - tz_ss a0 + dd.2; omega) ?_
  have hcA : cA = tz_cJ G := by
    have h2 : s.vm.findClass ("[" ++ FieldType.long.toString) = some (tz_cJ G) := (hK.2 1 _ rfl).2
    exact Option.some.inj (hNm.symm.trans h2)
  subst hcA
  have k := hk H1 locs ls ⟨hSt.1.push hsz (fun q hq => o1 q (by omega)) (fun i hi => ?_), ⟨Nat.le_trans hSt.2.1.1 (by omega), fun x h1 h2 => (o1 x (by have := hSt.2.1.1; omega)).trans (hSt.2.1.2.1 x h1 h2), hSt.2.1.2.2⟩, hSt.2.2⟩
  · rw [show tz_bs G + (A.1 - tz_E0) = tz_ad G A.1 from (tz_ad_hi hSt.1.1).symm]
    exact k
  · obtain rfl : i = 0 := by omega
    rw [show A.1 + 0 = A.1 from rfl, tz_en_lng hkd]
    show H1[tz_bs G + (A.1 - tz_E0)]? = some (arrV (tz_cJ G) (tz_SH A.1).2 (fun j => .long ((tz_nw A 1).2.2.1 A.1 j)))
    rw [e1]
    simp [tz_nw, defaultValue, newarray.typeOf]
end TZN
/-- the row of new long[n][k], closed in the last part -/
def tz_RowM (l : Launch) : Prop := ∀ (p : Program) (e : Env) (R : Room) (s : State) (m : MethodId) (args : Array Value) (below : List Frame) (meth : Method) (c : Code) (H : Heap) (locs : List Loc) (cells slots : Nat) (Q : State → Prop) (cc : ByteArray) (pc : Nat) (ls : Array Slot) (rest : List Value) (own : String) (index : Nat) (n k : Int32), p.tables.exec = Jvm.exec → c.code = cc → s.vm.findClass own = some m.cls → (Cond.classLink own index "[[J").before args s = true → (Cond.arrayOver (.array .long)).before #[] s = true → (Cond.arrayClass .long).before args s = true → ¬ n < 0 → ¬ k < 0 → n.toNatClampNeg ≤ 65535 → k.toNatClampNeg ≤ 65535 → cells + (1 + n.toNatClampNeg) ≤ R.cells → slots + (n.toNatClampNeg + n.toNatClampNeg * k.toNatClampNeg) ≤ R.slots → decode cc pc = .ok (.multianewarray index 2, 4) →
  (∀ (cA cy : ClassId) (H1 : Heap), s.vm.findClass ("[" ++ (FieldType.array .long).toString) = some cA → s.vm.findClass ("[" ++ FieldType.long.toString) = some cy → H1.size = H.size + (1 + n.toNatClampNeg) → (∀ x, x < H.size → H1[x]? = H[x]?) → H1[H.size]? = some (arrV cA n.toNatClampNeg (fun j => .ref (H.size + 1 + j))) → (∀ j, j < n.toNatClampNeg → H1[H.size + 1 + j]? = some (arrV cy k.toNatClampNeg (fun _ => .long 0))) → W p l e R s m args below meth c H1 locs (cells + 1 + n.toNatClampNeg) (slots + n.toNatClampNeg + n.toNatClampNeg * k.toNatClampNeg) Q (F0 m (pc + 4) ls (.ref H.size :: rest))) →
  W p l e R s m args below meth c H locs cells slots Q (F0 m pc ls (.int k :: .int n :: rest))
theorem tz_ss_many {a K : Nat} : ∀ n : Nat, (∀ i, i < n → (tz_SH (a + i)).2 = K) → tz_ss (a + n) = tz_ss a + n * K
  | 0, _ => by simp
  | n + 1, h => by
    show tz_ss (a + n) + (tz_SH (a + n)).2 = _
    rw [tz_ss_many n (fun i hi => h i (by omega)), h n (by omega), Nat.succ_mul, Nat.add_assoc]
theorem tz_k_multi {p : Program} {l : Launch} {e : Env} {R : Room} {s : State} {ma : MethodId} {args : Array Value} {below : List Frame} {meth : Method} {c : Code} {Q : State → Prop} {G : tz_Gh} {m a0 pc : Nat} {dd : Nat × Nat} {L : tz_Lo} {r : List Value} {A : tz_Mem} (hM : tz_RowM l) (F : tz_Fr p l R s ma args meth c G m a0 dd) (ha : a0 ≤ A.1) {n k : Int32} (hown : tz_own (tz_pn m) = "ThunderIsThePost$Shelves") (hd : decode (tz_by m) pc = .ok (.multianewarray 18 2, 4)) (hn : ¬ n < 0) (hk9 : ¬ k < 0) (hsl : (tz_SH A.1).2 = n.toNatClampNeg) (hb9 : n.toNatClampNeg ≤ 65535) (hb8 : k.toNatClampNeg ≤ 65535) (hkd : tz_kd A.1 = 102) (hin : ∀ i, i < n.toNatClampNeg → tz_kd (A.1 + 1 + i) = 101 ∧ (tz_SH (A.1 + 1 + i)).2 = k.toNatClampNeg) (hc9 : A.1 + (1 + n.toNatClampNeg) - a0 + dd.1 ≤ R.cells) (hs9 : tz_ss (A.1 + (1 + n.toNatClampNeg)) - tz_ss a0 + dd.2 ≤ R.slots)
    (hk : tz_K p l e R s ma args below meth c Q G m a0 dd (pc + 4) L (.ref A.1 :: r) (tz_nw A (1 + n.toNatClampNeg))) : tz_K p l e R s ma args below meth c Q G m a0 dd pc L (.int k :: .int n :: r) A := by
  intro H locs ls hSt
  have hK := F.2.2.2.2.2.2.2.2.1
  have hss : tz_ss (A.1 + (1 + n.toNatClampNeg)) = tz_ss A.1 + (n.toNatClampNeg + n.toNatClampNeg * k.toNatClampNeg) := by
    rw [show A.1 + (1 + n.toNatClampNeg) = (A.1 + 1) + n.toNatClampNeg by omega, tz_ss_many (K := k.toNatClampNeg) _ (fun i hi => (hin i hi).2)]
    show tz_ss A.1 + (tz_SH A.1).2 + _ = _
    rw [hsl, Nat.add_assoc]
  have hss2 := tz_ss_le ha
  refine tz_W_size F ha hSt.1 hSt.2.1 fun hsz => ?_
  refine hM _ _ _ _ _ _ _ _ _ _ _ _ _ _ _ _ _ _ _ 18 n k F.1.1 F.1.2.1 F.1.2.2.2 (by rw [hown]; exact F.2.1 _ (tz_in_WS tz_wM)) F.2.2.2.2.2.2.2.2.2 (F.2.1 _ (tz_in_WS tz_wJ)) hn hk9 hb9 hb8 (by omega) (by omega) hd fun cA cy H1 q1 q2 z1 o1 e1 e2 => ?_
  refine W.cs (cells' := (tz_nw A (1 + n.toNatClampNeg)).1 - a0 + dd.1) (slots' := tz_ss (tz_nw A (1 + n.toNatClampNeg)).1 - tz_ss a0 + dd.2) (by show A.1 - a0 + dd.1 + 1 + n.toNatClampNeg = A.1 + (1 + n.toNatClampNeg) - a0 + dd.1; omega) (by show _ = tz_ss (A.1 + (1 + n.toNatClampNeg)) - tz_ss a0 + dd.2; omega) ?_
  have hcA : cA = tz_cM G := Option.some.inj (q1.symm.trans (hK.2 2 _ rfl).2)
  have hcy : cy = tz_cJ G := Option.some.inj (q2.symm.trans (hK.2 1 _ rfl).2)
  subst hcA
  subst hcy
  have k := hk H1 locs ls ⟨hSt.1.push hsz o1 (fun i hi => ?_), ⟨Nat.le_trans hSt.2.1.1 (by omega), fun x h1 h2 => (o1 x (by have := hSt.2.1.1; omega)).trans (hSt.2.1.2.1 x h1 h2), hSt.2.1.2.2⟩, hSt.2.2⟩
  · rw [hsz, show tz_bs G + (A.1 - tz_E0) = tz_ad G A.1 from (tz_ad_hi hSt.1.1).symm]
    exact k
  · cases i with
    | zero =>
      rw [show A.1 + 0 = A.1 from rfl, tz_en_row hkd]
      show H1[tz_bs G + (A.1 - tz_E0)]? = some (arrV (tz_cM G) (tz_SH A.1).2 (fun j => va_rf (if j < (tz_SH A.1).2 then some (tz_ad G (A.1 + 1 + j)) else none)))
      rw [← hsz, e1, hsl]
      refine congrArg some ?_
      unfold arrV
      congr 1
      apply congrArg
      funext j
      have hE := hSt.1.1
      show Value.ref (H.size + 1 + j.1) = va_rf (if j.1 < n.toNatClampNeg then some (tz_ad G (A.1 + 1 + j.1)) else none)
      rw [if_pos j.2, tz_ad_hi (by omega), hsz]
      exact congrArg Value.ref (show (tz_bs G + (A.1 - tz_E0) + 1 + j.1 : Nat) = tz_bs G + (A.1 + 1 + j.1 - tz_E0) by omega)
    | succ i =>
      have hi2 : i < n.toNatClampNeg := by omega
      rw [show A.1 + (i + 1) = A.1 + 1 + i by omega, tz_en_lng (hin i hi2).1]
      show H1[tz_bs G + (A.1 - tz_E0) + (i + 1)]? = some (arrV (tz_cJ G) (tz_SH (A.1 + 1 + i)).2 (fun j => .long ((tz_nw A (1 + n.toNatClampNeg)).2.2.1 (A.1 + 1 + i) j)))
      rw [← hsz, show H.size + (i + 1) = H.size + 1 + i by omega, e2 i hi2, (hin i hi2).2]
      have : A.1 ≤ A.1 + 1 + i := by omega
      simp [tz_nw, this]
