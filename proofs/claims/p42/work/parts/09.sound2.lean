/-! fields, arrays, new cells, calls -/
theorem tz_hin {ci : Nat} (h : ci < 11) : ∀ w ∈ u_ws (tz_cn ci) (tz_T ci) (tz_nf ci), w ∈ tz_WS := by
  intro w hw
  unfold u_ws at hw
  obtain ⟨f, hf, rfl⟩ := List.mem_map.mp hw
  refine List.mem_filter.mpr ⟨tz_lay_ok ci h f (List.mem_range.mp hf), ?_⟩
  unfold u_lay
  split <;> rfl
theorem tz_en_obj {G : tz_Gh} {A : tz_Mem} {k ci : Nat} (h : tz_kd k = ci) (hc : ci < 11) : tz_en G A k = .inr (ci, (List.range (tz_nf ci)).map (fun f => tz_fv G A k ci f)) := by
  unfold tz_en
  rw [if_pos (by omega), h]
theorem tz_en_int {G : tz_Gh} {A : tz_Mem} {k : Nat} (h : tz_kd k = 100) : tz_en G A k = .inl (tz_cI G, (tz_SH k).2, .inl (fun i => A.2.1 k i)) := by
  unfold tz_en
  rw [if_neg (by omega), if_pos h]
theorem tz_en_lng {G : tz_Gh} {A : tz_Mem} {k : Nat} (h : tz_kd k = 101) : tz_en G A k = .inl (tz_cJ G, (tz_SH k).2, .inr (.inl (fun i => A.2.2.1 k i))) := by
  unfold tz_en
  rw [if_neg (by omega), if_neg (by omega), if_pos h]
theorem tz_en_row {G : tz_Gh} {A : tz_Mem} {k : Nat} (h : tz_kd k = 102) : tz_en G A k = .inl (tz_cM G, (tz_SH k).2, .inr (.inr (.inr (.inr (fun i => if i < (tz_SH k).2 then some (tz_ad G (k + 1 + i)) else none))))) := by
  unfold tz_en
  rw [if_neg (by omega), if_neg (by omega), if_neg (by omega)]
theorem tz_en_congr {G : tz_Gh} {A B : tz_Mem} {k : Nat} (h1 : B.2.1 k = A.2.1 k) (h2 : B.2.2.1 k = A.2.2.1 k) (h3 : B.2.2.2 k = A.2.2.2 k) : tz_en G B k = tz_en G A k := by
  unfold tz_en tz_fv
  rw [h1, h2, h3]
theorem tz_flds_at {G : tz_Gh} {A : tz_Mem} {k ci f : Nat} (hf : f < tz_nf ci) : ((List.range (tz_nf ci)).map (fun f => tz_fv G A k ci f))[f]? = some (tz_fv G A k ci f) := by
  rw [List.getElem?_map, List.getElem?_range hf]
  rfl
theorem tz_flds_set {G : tz_Gh} {A B : tz_Mem} {k ci f : Nat} {v : Value} (hf : f < tz_nf ci) (h : ∀ j, j ≠ f → tz_fv G B k ci j = tz_fv G A k ci j) (hv : tz_fv G B k ci f = v) : ((List.range (tz_nf ci)).map (fun f => tz_fv G A k ci f)).set f v = (List.range (tz_nf ci)).map (fun f => tz_fv G B k ci f) := by
  apply List.ext_getElem?
  intro i
  by_cases hi : i < tz_nf ci
  · by_cases e : f = i
    · subst e
      rw [List.getElem?_set_self (by simp [hi]), tz_flds_at hi, hv]
    · rw [List.getElem?_set_ne e, tz_flds_at hi, tz_flds_at hi, h i (Ne.symm e)]
  · rw [List.getElem?_eq_none (by simp; omega), List.getElem?_eq_none (by simp; omega)]
section TZH
variable {p : Program} {l : Launch} {e : Env} {R : Room} {s : State} {ma : MethodId} {args : Array Value} {below : List Frame} {meth : Method} {c : Code} {Q : State → Prop} {G : tz_Gh} {m a0 : Nat} {dd : Nat × Nat}
variable {pc : Nat} {L : tz_Lo} {r : List Value} {A : tz_Mem}
theorem tz_k_getf (F : tz_Fr p l R s ma args meth c G m a0 dd) {idx ci f a : Nat} {v : Value} (hd : decode (tz_by m) pc = .ok (.getfield idx, 3)) (hw : tz_W (Cond.fieldLink (tz_own (tz_pn m)) idx (tz_T ci f).1 (tz_T ci f).2.1 (tz_T ci f).2.2.1)) (hci : ci < 11) (hf : f < tz_nf ci) (ha : tz_kd a = ci) (he : tz_E0 ≤ a) (hlt : a < A.1) (hv : tz_fv G A a ci f = tz_cv G v)
    (hk : tz_K p l e R s ma args below meth c Q G m a0 dd (pc + 3) L (v :: r) A) : tz_K p l e R s ma args below meth c Q G m a0 dd pc L (.ref a :: r) A := by
  intro H locs ls hSt
  obtain ⟨z1, z2, z3, hP, -⟩ := hSt.1
  have hD := tz_wsD (G := G) (A := A)
  exact va_get (D := tz_D G) (cl := tz_cl) (tys := tz_tys G) (C := tz_cn ci) (T := tz_T ci) (N := tz_nf ci) (ci := ci) F.1.1 F.1.2.1 F.2.1 (tz_hin hci) F.1.2.2.2 F.2.2.2.2.2.2.2.2.1 hP (a - tz_E0) (by rw [tz_ws_at he hlt, tz_en_obj ha hci]) (tz_cl_at hci) f hf (F.2.1 _ (tz_in_WS hw)) (fun _ h => h) (v := tz_cv G v) (by rw [tz_flds_at hf, hv]) hd (hk H locs ls hSt)
theorem tz_k_getv (F : tz_Fr p l R s ma args meth c G m a0 dd) {idx a : Nat} (hd : decode (tz_by m) pc = .ok (.getfield idx, 3)) (hw : tz_W (Cond.fieldLink (tz_own (tz_pn m)) idx (tz_T 103 0).1 (tz_T 103 0).2.1 (tz_T 103 0).2.2.1)) (h1 : 5 ≤ a) (h2 : a < 10)
    (hk : tz_K p l e R s ma args below meth c Q G m a0 dd (pc + 3) L (.ref (a + 6) :: r) A) : tz_K p l e R s ma args below meth c Q G m a0 dd pc L (.ref a :: r) A := by
  intro H locs ls hSt
  have k := hk H locs ls hSt
  simp only [List.map_cons, tz_cv, tz_ad, if_pos (tz_e0 (show a < 17 by omega)), if_pos (tz_e0 (show a + 6 < 17 by omega))] at k ⊢
  exact vk_getf F.1.1 F.1.2.1 (F.2.2.2.2.2.1.2.1 a h1 h2).2.2.1 hSt.2.1 F.1.2.2.2 (F.2.1 _ (tz_in_WS hw)) (fun _ h => h) hd k
theorem tz_k_getc (F : tz_Fr p l R s ma args meth c G m a0 dd) {idx a : Nat} (hd : decode (tz_by m) pc = .ok (.getfield idx, 3)) (hw : tz_W (Cond.fieldLink (tz_own (tz_pn m)) idx (tz_T 103 1).1 (tz_T 103 1).2.1 (tz_T 103 1).2.2.1)) (h1 : 5 ≤ a) (h2 : a < 10)
    (hk : tz_K p l e R s ma args below meth c Q G m a0 dd (pc + 3) L (.int 0 :: r) A) : tz_K p l e R s ma args below meth c Q G m a0 dd pc L (.ref a :: r) A := by
  intro H locs ls hSt
  have k := hk H locs ls hSt
  simp only [List.map_cons, tz_cv, tz_ad, if_pos (tz_e0 (show a < 17 by omega))] at k ⊢
  exact vk_getf F.1.1 F.1.2.1 (F.2.2.2.2.2.1.2.1 a h1 h2).2.1 hSt.2.1 F.1.2.2.2 (F.2.1 _ (tz_in_WS hw)) (fun _ h => h) hd k
/-- what a write keeps -/
theorem tz_REP.put {A B : tz_Mem} {cm k : Nat} {H1 : Heap} (h1 : tz_E0 ≤ A.1) (hc : cm = tz_N0 → tz_con B) (hg : A.2.1 0 = tz_gs G ∧ A.2.2.2 0 0 = tz_gn G) (hk : tz_E0 ≤ k) (hB : B.1 = A.1) (e1 : ∀ j, j ≠ k → B.2.1 j = A.2.1 j) (e2 : ∀ j, j ≠ k → B.2.2.1 j = A.2.2.1 j) (e3 : ∀ j, j ≠ k → B.2.2.2 j = A.2.2.2 j)
    (hP : va_P (tz_D G) tz_cl ((tz_ws G A).set (k - tz_E0) (tz_ad G k, tz_en G B k)) H1) (hlt : k < A.1) : tz_REP cm G B H1 := by
  have hk9 := tz_e17 hk
  have he := tz_ws_set (G := G) (A := A) (B := B) hk hB (fun j hj => tz_en_congr (e1 j hj) (e2 j hj) (e3 j hj))
  rw [he] at hP
  have hat := (hP _ _ (tz_ws_at (G := G) (A := B) hk (by rw [hB]; exact hlt))).lt
  rw [tz_ad_hi hk] at hat
  have hat2 : tz_bs G + (k - tz_E0) < H1.size := hat
  exact ⟨by rw [hB]; exact h1, hc, ⟨by rw [e1 0 (by omega)]; exact hg.1, by rw [e3 0 (by omega)]; exact hg.2⟩, hP, by omega⟩
theorem tz_fv_int {A : tz_Mem} {k ci f : Nat} (h : tz_ft ci f = 0 ∨ tz_ft ci f = 3) : tz_fv G A k ci f = .int (A.2.1 k f) := by
  unfold tz_fv
  rcases h with h | h <;> rw [h] <;> rfl
theorem tz_fv_ref {A : tz_Mem} {k ci f : Nat} (h : tz_ft ci f = 1 ∨ tz_ft ci f = 2) : tz_fv G A k ci f = tz_dr G (A.2.2.2 k f) := by
  unfold tz_fv
  rcases h with h | h <;> rw [h] <;> rfl
theorem tz_fv_at {A B : tz_Mem} {k ci f : Nat} (h1 : B.2.1 k f = A.2.1 k f) (h2 : B.2.2.2 k f = A.2.2.2 k f) : tz_fv G B k ci f = tz_fv G A k ci f := by
  unfold tz_fv
  rw [h1, h2]
theorem tz_k_puti (F : tz_Fr p l R s ma args meth c G m a0 dd) {idx ci f a : Nat} {x : Int32} (hd : decode (tz_by m) pc = .ok (.putfield idx, 3)) (hw : tz_W (Cond.fieldLink (tz_own (tz_pn m)) idx (tz_T ci f).1 (tz_T ci f).2.1 (tz_T ci f).2.2.1)) (hci : ci < 11) (hf : f < tz_nf ci) (ha : tz_kd a = ci) (he : tz_E0 ≤ a) (hlt : a < A.1) (hx : tz_ft ci f = 0 ∨ (tz_ft ci f = 3 ∧ (x = 0 ∨ x = 1)))
    (hk : tz_K p l e R s ma args below meth c Q G m a0 dd (pc + 3) L r (tz_s A a f x)) : tz_K p l e R s ma args below meth c Q G m a0 dd pc L (.int x :: .ref a :: r) A := by
  intro H locs ls hSt
  obtain ⟨z1, z2, z3, hP, -⟩ := hSt.1
  have hD := tz_wsD (G := G) (A := A)
  have hft : tz_ft ci f = 0 ∨ tz_ft ci f = 3 := hx.imp id And.left
  obtain ⟨f1, f2, f3, f4⟩ := tz_fn_ok ci hci f hf
  have hfin : (tz_T ci f).2.2.2 = false := by
    cases e9 : (tz_T ci f).2.2.2 with
    | false => rfl
    | true =>
      have z9 := f1.mpr e9
      rcases hft with h | h <;> omega
  have hen : tz_en G (tz_s A a f x) a = .inr (ci, ((List.range (tz_nf ci)).map (fun f => tz_fv G A a ci f)).set f (.int x)) := by
    rw [tz_en_obj ha hci, ← tz_flds_set (G := G) (A := A) (B := tz_s A a f x) (k := a) (v := .int x) hf (fun j hj => tz_fv_at (by simp [tz_s, hj]) rfl) (by rw [tz_fv_int hft]; simp [tz_s])]
  refine va_put (D := tz_D G) (cl := tz_cl) (tys := tz_tys G) (C := tz_cn ci) (T := tz_T ci) (N := tz_nf ci) (ci := ci) F.1.1 F.1.2.1 F.2.1 (tz_hin hci) (tz_ty ci) (tz_ty_ok ci hci) (tz_nm_ok ci hci) F.1.2.2.2 F.2.2.2.2.2.2.2.2.1 hP hD hSt.2.1 (a - tz_E0) (by rw [tz_ws_at he hlt, tz_en_obj ha hci]) (tz_cl_at hci) f hf (F.2.1 _ (tz_in_WS hw)) (fun _ h => h) hfin (ty := tz_ty ci f) (v := .int x) (tz_ty_ok ci hci f hf) ?_ ?_ (by simpa using hf) hd (fun H1 locs1 hP1 hD1 hS1 => ?_)
  · rcases hx with h | ⟨h, rfl | rfl⟩
    · rw [f3 h]; rfl
    · rw [f4 h]; rfl
    · rw [f4 h]; rfl
  · rcases hx with h | ⟨h, rfl | rfl⟩
    · rw [f3 h]; rfl
    · rw [f4 h]; rfl
    · rw [f4 h]; rfl
  · rw [← hen] at hP1 hD1
    exact hk H1 locs1 ls ⟨tz_REP.put (k := a) (A := A) z1 z2 z3 he rfl (fun j hj => funext fun i => by simp [tz_s, hj]) (fun _ _ => rfl) (fun _ _ => rfl) hP1 hlt, hS1, hSt.2.2⟩
theorem tz_k_putr (F : tz_Fr p l R s ma args meth c G m a0 dd) {idx ci f a n : Nat} {v : Value} (hd : decode (tz_by m) pc = .ok (.putfield idx, 3)) (hw : tz_W (Cond.fieldLink (tz_own (tz_pn m)) idx (tz_T ci f).1 (tz_T ci f).2.1 (tz_T ci f).2.2.1)) (hci : ci < 11) (hf : f < tz_nf ci) (ha : tz_kd a = ci) (he : tz_E0 ≤ a) (hlt : a < A.1) (hv : tz_cv G v = tz_dr G n) (hx : tz_ft ci f = 2 ∨ (tz_ft ci f = 1 ∧ tz_cm m = tz_E0 ∧ tz_ini m = ci + 1))
    (hk : tz_K p l e R s ma args below meth c Q G m a0 dd (pc + 3) L r (tz_sr A a f n)) : tz_K p l e R s ma args below meth c Q G m a0 dd pc L (v :: .ref a :: r) A := by
  intro H locs ls hSt
  obtain ⟨z1, z2, z3, hP, -⟩ := hSt.1
  have hD := tz_wsD (G := G) (A := A)
  have hft : tz_ft ci f = 1 ∨ tz_ft ci f = 2 := by rcases hx with h | h; exact Or.inr h; exact Or.inl h.1
  obtain ⟨f1, f2, f3, f4⟩ := tz_fn_ok ci hci f hf
  obtain ⟨f5, -⟩ := tz_fr_ok ci hci f hf hft
  have hen : tz_en G (tz_sr A a f n) a = .inr (ci, ((List.range (tz_nf ci)).map (fun f => tz_fv G A a ci f)).set f (tz_cv G v)) := by
    rw [tz_en_obj ha hci, ← tz_flds_set (G := G) (A := A) (B := tz_sr A a f n) (k := a) (v := tz_cv G v) hf (fun j hj => tz_fv_at rfl (by simp [tz_sr, hj])) (by rw [tz_fv_ref hft, hv]; simp [tz_sr])]
  have hnar : ∀ ty : FieldType, fits ty (.ref 0) = true → narrow ty (tz_cv G v) = tz_cv G v ∧ fits ty (tz_cv G v) = true := by
    intro ty hty
    rw [hv]
    cases n <;> cases ty <;> first | exact ⟨rfl, rfl⟩ | exact absurd hty (by simp [fits])
  have hcon : tz_cm m = tz_N0 → tz_con (tz_sr A a f n) := by
    intro h
    obtain ⟨y1, y2⟩ := z2 h
    refine ⟨y1, fun k f9 h1 h2 h3 => ?_⟩
    rw [← y2 k f9 h1 h2 h3]
    unfold tz_gr tz_sr
    by_cases e9 : k = a ∧ f9 = f
    · obtain ⟨rfl, rfl⟩ := e9
      rw [ha] at h3
      rcases hx with h | h
      · omega
      · exact absurd (h.2.1.symm.trans ‹tz_cm m = tz_N0›) (by decide)
    · show (if k = a ∧ f9 = f then n else A.2.2.2 k f9) = _
      rw [if_neg e9]
  have hfit : fits (tz_ty ci f) (.ref 0) = true := f5
  have go : ∀ (H1 : Heap) (locs1 : List Loc), va_P (tz_D G) tz_cl ((tz_ws G A).set (a - tz_E0) (tz_ad G a, .inr (ci, ((List.range (tz_nf ci)).map (fun f => tz_fv G A a ci f)).set f (tz_cv G v)))) H1 → va_D (tz_Ab G) ((tz_ws G A).set (a - tz_E0) (tz_ad G a, .inr (ci, ((List.range (tz_nf ci)).map (fun f => tz_fv G A a ci f)).set f (tz_cv G v)))) → va_S (tz_Ab G) s.heap H1 locs1 → W p l e R s ma args below meth c H1 locs1 (A.1 - a0 + dd.1) (tz_ss A.1 - tz_ss a0 + dd.2) Q (F0 ma (pc + 3) ls (r.map (tz_cv G))) := by
    intro H1 locs1 hP1 hD1 hS1
    rw [← hen] at hP1 hD1
    exact hk H1 locs1 ls ⟨tz_REP.put (k := a) (A := A) z1 hcon z3 he rfl (fun _ _ => rfl) (fun _ _ => rfl) (fun j hj => funext fun i => by simp [tz_sr, hj]) hP1 hlt, hS1, hSt.2.2⟩
  by_cases hf1 : tz_ft ci f = 1
  · obtain ⟨-, -, hi⟩ := hx.resolve_left (by omega)
    have hin := F.2.2.1 (by omega)
    rw [hi, Nat.add_sub_cancel] at hin
    exact va_putF (D := tz_D G) (cl := tz_cl) (tys := tz_tys G) (C := tz_cn ci) (T := tz_T ci) (N := tz_nf ci) (ci := ci) F.1.1 F.1.2.1 F.2.1 (tz_hin hci) (tz_ty ci) (tz_ty_ok ci hci) (tz_nm_ok ci hci) F.1.2.2.2 F.2.2.2.2.2.2.2.2.1 hP hD hSt.2.1 (a - tz_E0) (by rw [tz_ws_at he hlt, tz_en_obj ha hci]) (tz_cl_at hci) f hf (F.2.1 _ (tz_in_WS hw)) (fun _ h => h) (f1.mp hf1) hin.1 (by rw [f2]; exact hin.2) (ty := tz_ty ci f) (v := tz_cv G v) (tz_ty_ok ci hci f hf) (hnar _ hfit).1 (hnar _ hfit).2 (by simpa using hf) hd go
  · have hfin : (tz_T ci f).2.2.2 = false := by
      cases e9 : (tz_T ci f).2.2.2 with
      | false => rfl
      | true => exact absurd (f1.mpr e9) hf1
    exact va_put (D := tz_D G) (cl := tz_cl) (tys := tz_tys G) (C := tz_cn ci) (T := tz_T ci) (N := tz_nf ci) (ci := ci) F.1.1 F.1.2.1 F.2.1 (tz_hin hci) (tz_ty ci) (tz_ty_ok ci hci) (tz_nm_ok ci hci) F.1.2.2.2 F.2.2.2.2.2.2.2.2.1 hP hD hSt.2.1 (a - tz_E0) (by rw [tz_ws_at he hlt, tz_en_obj ha hci]) (tz_cl_at hci) f hf (F.2.1 _ (tz_in_WS hw)) (fun _ h => h) hfin (ty := tz_ty ci f) (v := tz_cv G v) (tz_ty_ok ci hci f hf) (hnar _ hfit).1 (hnar _ hfit).2 (by simpa using hf) hd go
theorem tz_k_gets (F : tz_Fr p l R s ma args meth c G m a0 dd) {idx : Nat} {q : Nat × Nat} {v : Value} (hd : decode (tz_by m) pc = .ok (.getstatic idx, 3)) (hw : tz_W (Cond.fieldLink (tz_own (tz_pn m)) idx (tz_sn q).1 (tz_sn q).2.1 (tz_sn q).2.2) ∨ Cond.fieldLinkNest (tz_own (tz_pn m)) idx (tz_sn q).1 (tz_sn q).2.1 (tz_sn q).2.2 "ThunderIsThePost" ∈ lw_tbl) (hZ : va_Z (tz_sn q).1 (tz_sn q).2.1 (tz_sn q).2.2 (tz_cv G v) (tz_Ab G) s s.heap)
    (hk : tz_K p l e R s ma args below meth c Q G m a0 dd (pc + 3) L (v :: r) A) : tz_K p l e R s ma args below meth c Q G m a0 dd pc L r A := by
  intro H locs ls hSt
  rcases hw with hw | hw
  · exact va_gets F.1.1 F.1.2.1 hZ hSt.2.1 F.1.2.2.2 (F.2.1 _ (tz_in_WS hw)) (fun _ h => h) hd (hk H locs ls hSt)
  · exact va_getsN F.1.1 F.1.2.1 hZ hSt.2.1 F.1.2.2.2 ((F.2.2.2.2.2.2.1 _ hw rfl).use rfl) (fun _ h => h) hd (hk H locs ls hSt)
/-! arrays -/
theorem tz_k_iald (F : tz_Fr p l R s ma args meth c G m a0 dd) {a : Nat} {i : Int32} (hd : decode (tz_by m) pc = .ok (.iaload, 1)) (ha : tz_kd a = 100) (hlt : a < A.1) (hi : ¬ (i < 0 ∨ tz_ln A a ≤ i.toNatClampNeg))
    (hk : tz_K p l e R s ma args below meth c Q G m a0 dd (pc + 1) L (.int (tz_av A a i.toNatClampNeg) :: r) A) : tz_K p l e R s ma args below meth c Q G m a0 dd pc L (.int i :: .ref a :: r) A := by
  intro H locs ls hSt
  obtain ⟨z1, z2, z3, hP, -⟩ := hSt.1
  have hD := tz_wsD (G := G) (A := A)
  have k := hk H locs ls hSt
  by_cases h0 : a = 0
  · subst h0
    simp only [List.map_cons, tz_cv, tz_ad, if_pos (tz_e0 (show (0 : Nat) < 17 by omega))] at k ⊢
    have hi2 : vp_in i (tz_gn G) := by
      rw [← z3.2]
      exact hi
    refine va_ti F.1.1 F.1.2.1 F.2.2.2.2.2.1.1 hSt.2.1 hi2 (v := .int (tz_av A 0 i.toNatClampNeg)) ?_ hd k
    show Value.int (tz_gs G i.toNatClampNeg) = .int (A.2.1 0 i.toNatClampNeg)
    rw [z3.1]
  · have hln : tz_ln A a = (tz_SH a).2 := by
      unfold tz_ln
      cases e9 : Nat.beq a 0
      · rfl
      · exact absurd (Nat.eq_of_beq_eq_true e9) h0
    rw [hln] at hi
    have he : tz_E0 ≤ a := by
      rcases Nat.lt_or_ge a tz_E0 with h9 | h9
      · exfalso
        have : ∀ a, a < tz_E0 → a ≠ 0 → tz_kd a ≠ 100 := by decide +kernel
        exact this a h9 h0 ha
      · exact h9
    have hav : tz_av A a i.toNatClampNeg = A.2.1 a i.toNatClampNeg := by
      unfold tz_av
      have e2 : Nat.blt a 5 = false := by
        cases e9 : Nat.blt a 5
        · rfl
        · exact absurd (Nat.le_of_ble_eq_true e9) (by have := tz_e17 he; omega)
      rw [e2, Bool.and_false]
      rfl
    rw [hav] at k
    exact va_iald (D := tz_D G) (cl := tz_cl) F.1.1 F.1.2.1 F.2.2.2.2.2.2.2.2.1 hP (a - tz_E0) 0 (by rw [tz_ws_at he hlt, tz_en_int ha]) rfl hi hd k
theorem tz_k_iast (F : tz_Fr p l R s ma args meth c G m a0 dd) {a : Nat} {i x : Int32} (hd : decode (tz_by m) pc = .ok (.iastore, 1)) (ha : tz_kd a = 100) (he : tz_E0 ≤ a) (hlt : a < A.1) (hi : ¬ (i < 0 ∨ tz_ln A a ≤ i.toNatClampNeg))
    (hk : tz_K p l e R s ma args below meth c Q G m a0 dd (pc + 1) L r (tz_s A a i.toNatClampNeg x)) : tz_K p l e R s ma args below meth c Q G m a0 dd pc L (.int x :: .int i :: .ref a :: r) A := by
  intro H locs ls hSt
  obtain ⟨z1, z2, z3, hP, -⟩ := hSt.1
  have hD := tz_wsD (G := G) (A := A)
  have hln : tz_ln A a = (tz_SH a).2 := by
    unfold tz_ln
    cases e9 : Nat.beq a 0
    · rfl
    · exact absurd (Nat.eq_of_beq_eq_true e9) (by have := tz_e17 he; omega)
  rw [hln] at hi
  have hen : tz_en G (tz_s A a i.toNatClampNeg x) a = .inl (tz_cI G, (tz_SH a).2, .inl (upd (fun i => A.2.1 a i) i.toNatClampNeg x)) := by
    rw [tz_en_int ha]
    have : (fun j => (tz_s A a i.toNatClampNeg x).2.1 a j) = upd (fun i => A.2.1 a i) i.toNatClampNeg x := by
      funext j
      simp [tz_s, upd]
    rw [this]
  refine va_iast (D := tz_D G) (cl := tz_cl) F.1.1 F.1.2.1 F.2.2.2.2.2.2.2.2.1 hP hD hSt.2.1 (a - tz_E0) 0 (by rw [tz_ws_at he hlt, tz_en_int ha]) rfl hi hd (fun H1 locs1 hP1 hD1 hS1 => ?_)
  rw [← hen] at hP1 hD1
  exact hk H1 locs1 ls ⟨tz_REP.put (k := a) (A := A) z1 z2 z3 he rfl (fun j hj => funext fun i => by simp [tz_s, hj]) (fun _ _ => rfl) (fun _ _ => rfl) hP1 hlt, hS1, hSt.2.2⟩
theorem tz_ln_hi {a : Nat} (he : tz_E0 ≤ a) : tz_ln A a = (tz_SH a).2 := by
  unfold tz_ln
  cases e9 : Nat.beq a 0
  · rfl
  · exact absurd (Nat.eq_of_beq_eq_true e9) (by have := tz_e17 he; omega)
theorem tz_k_lald (F : tz_Fr p l R s ma args meth c G m a0 dd) {a : Nat} {i : Int32} (hd : decode (tz_by m) pc = .ok (.laload, 1)) (ha : tz_kd a = 101) (he : tz_E0 ≤ a) (hlt : a < A.1) (hi : ¬ (i < 0 ∨ tz_ln A a ≤ i.toNatClampNeg))
    (hk : tz_K p l e R s ma args below meth c Q G m a0 dd (pc + 1) L (.long (tz_gl A a i.toNatClampNeg) :: r) A) : tz_K p l e R s ma args below meth c Q G m a0 dd pc L (.int i :: .ref a :: r) A := by
  intro H locs ls hSt
  obtain ⟨z1, z2, z3, hP, -⟩ := hSt.1
  have hD := tz_wsD (G := G) (A := A)
  rw [tz_ln_hi he] at hi
  exact va_lald (D := tz_D G) (cl := tz_cl) (f := fun i => A.2.2.1 a i) F.1.1 F.1.2.1 F.2.2.2.2.2.2.2.2.1 hP (a - tz_E0) 1 (by rw [tz_ws_at he hlt, tz_en_lng ha]) rfl hi hd (hk H locs ls hSt)
theorem tz_k_last (F : tz_Fr p l R s ma args meth c G m a0 dd) {a : Nat} {i : Int32} {x : Int64} (hd : decode (tz_by m) pc = .ok (.lastore, 1)) (ha : tz_kd a = 101) (he : tz_E0 ≤ a) (hlt : a < A.1) (hi : ¬ (i < 0 ∨ tz_ln A a ≤ i.toNatClampNeg))
    (hk : tz_K p l e R s ma args below meth c Q G m a0 dd (pc + 1) L r (tz_sl A a i.toNatClampNeg x)) : tz_K p l e R s ma args below meth c Q G m a0 dd pc L (.long x :: .int i :: .ref a :: r) A := by
  intro H locs ls hSt
  obtain ⟨z1, z2, z3, hP, -⟩ := hSt.1
  have hD := tz_wsD (G := G) (A := A)
  rw [tz_ln_hi he] at hi
  have hen : tz_en G (tz_sl A a i.toNatClampNeg x) a = .inl (tz_cJ G, (tz_SH a).2, .inr (.inl (vp_updL (fun i => A.2.2.1 a i) i.toNatClampNeg x))) := by
    rw [tz_en_lng ha]
    have : (fun j => (tz_sl A a i.toNatClampNeg x).2.2.1 a j) = vp_updL (fun i => A.2.2.1 a i) i.toNatClampNeg x := by
      funext j
      simp [tz_sl, vp_updL]
    rw [this]
  refine va_last (D := tz_D G) (cl := tz_cl) F.1.1 F.1.2.1 F.2.2.2.2.2.2.2.2.1 hP hD hSt.2.1 (a - tz_E0) 1 (by rw [tz_ws_at he hlt, tz_en_lng ha]) rfl hi hd (fun H1 locs1 hP1 hD1 hS1 => ?_)
  rw [← hen] at hP1 hD1
  exact hk H1 locs1 ls ⟨tz_REP.put (k := a) (A := A) z1 z2 z3 he rfl (fun _ _ => rfl) (fun j hj => funext fun i => by simp [tz_sl, hj]) (fun _ _ => rfl) hP1 hlt, hS1, hSt.2.2⟩
theorem tz_k_aald (F : tz_Fr p l R s ma args meth c G m a0 dd) {a : Nat} {i : Int32} (hd : decode (tz_by m) pc = .ok (.aaload, 1)) (ha : tz_kd a = 102) (he : tz_E0 ≤ a) (hlt : a < A.1) (hi : ¬ (i < 0 ∨ tz_ln A a ≤ i.toNatClampNeg))
    (hk : tz_K p l e R s ma args below meth c Q G m a0 dd (pc + 1) L (.ref (a + 1 + i.toNatClampNeg) :: r) A) : tz_K p l e R s ma args below meth c Q G m a0 dd pc L (.int i :: .ref a :: r) A := by
  intro H locs ls hSt
  obtain ⟨z1, z2, z3, hP, -⟩ := hSt.1
  have hD := tz_wsD (G := G) (A := A)
  rw [tz_ln_hi he] at hi
  have hat := hP _ _ (tz_ws_at (G := G) (A := A) he hlt)
  rw [tz_en_row ha] at hat
  have hcell : H[tz_ad G a]? = some (arrV (tz_cM G) (tz_SH a).2 (fun j => va_rf (if j < (tz_SH a).2 then some (tz_ad G (a + 1 + j)) else none))) := hat
  have hlt2 : i.toNatClampNeg < (tz_SH a).2 := by
    rcases Nat.lt_or_ge i.toNatClampNeg (tz_SH a).2 with h | h
    · exact h
    · exact absurd (Or.inr h) hi
  refine W.aald F.1.1 F.1.2.1 hcell ((F.2.2.2.2.2.2.2.2.1.2 2 _ rfl).1 _ _) rfl (by simp [arrV]) (by rw [arrV_size]; exact hi) (v := .ref (tz_ad G (a + 1 + i.toNatClampNeg))) ?_ rfl rfl hd (hk H locs ls hSt)
  simp [arrV, hlt2, va_rf]
theorem tz_k_bald (F : tz_Fr p l R s ma args meth c G m a0 dd) {a : Nat} {i : Int32} (hd : decode (tz_by m) pc = .ok (.baload, 1)) (h1 : 11 ≤ a) (h2 : a < 16) (hi : ¬ (i < 0 ∨ tz_ln A a ≤ i.toNatClampNeg))
    (hk : tz_K p l e R s ma args below meth c Q G m a0 dd (pc + 1) L (.int (tz_XT a i.toNatClampNeg) :: r) A) : tz_K p l e R s ma args below meth c Q G m a0 dd pc L (.int i :: .ref a :: r) A := by
  intro H locs ls hSt
  have k := hk H locs ls hSt
  have hln : tz_ln A a = (tz_SH a).2 := by
    unfold tz_ln
    cases e9 : Nat.beq a 0
    · rfl
    · exact absurd (Nat.eq_of_beq_eq_true e9) (by omega)
  rw [hln] at hi
  simp only [List.map_cons, tz_cv, tz_ad, if_pos (tz_e0 (show a < 17 by omega))] at k ⊢
  have hT := (F.2.2.2.2.2.1.2.1 (a - 6) (by omega) (by omega)).2.2.2
  rw [show a - 6 + 6 = a by omega] at hT
  exact va_tb F.1.1 F.1.2.1 hT hSt.2.1 hi rfl hd k
theorem tz_k_alen (F : tz_Fr p l R s ma args meth c G m a0 dd) {a : Nat} (hd : decode (tz_by m) pc = .ok (.arraylength, 1)) (ha : 100 ≤ tz_kd a) (hb : tz_kd a ≠ 103) (hlt : a < A.1)
    (hk : tz_K p l e R s ma args below meth c Q G m a0 dd (pc + 1) L (.int (Int32.ofNat (tz_ln A a)) :: r) A) : tz_K p l e R s ma args below meth c Q G m a0 dd pc L (.ref a :: r) A := by
  intro H locs ls hSt
  obtain ⟨z1, z2, z3, hP, -⟩ := hSt.1
  have hD := tz_wsD (G := G) (A := A)
  have k := hk H locs ls hSt
  by_cases h0 : a = 0
  · subst h0
    simp only [List.map_cons, tz_cv, tz_ad, if_pos (tz_e0 (show (0 : Nat) < 17 by omega))] at k ⊢
    refine va_tlen F.1.1 F.1.2.1 F.2.2.2.2.2.1.1 hSt.2.1 (v := Int32.ofNat (tz_ln A 0)) ?_ hd k
    show Int32.ofNat (tz_gn G) = Int32.ofNat (A.2.2.2 0 0)
    rw [z3.2]
  · have hln : tz_ln A a = (tz_SH a).2 := by
      unfold tz_ln
      cases e9 : Nat.beq a 0
      · rfl
      · exact absurd (Nat.eq_of_beq_eq_true e9) h0
    rw [hln] at k
    by_cases he : a < tz_E0
    · have he9 : a < 17 := he
      simp only [List.map_cons, tz_cv, tz_ad, if_pos he] at k ⊢
      by_cases h5 : 11 ≤ a ∧ a < 16
      · obtain ⟨h5, h6⟩ := h5
        have hT := (F.2.2.2.2.2.1.2.1 (a - 6) (by omega) (by omega)).2.2.2
        rw [show a - 6 + 6 = a by omega] at hT
        exact va_tlen F.1.1 F.1.2.1 hT hSt.2.1 rfl hd k
      · exfalso
        have : ∀ a, a < tz_E0 → a ≠ 0 → ¬ (11 ≤ a ∧ a < 16) → 100 ≤ tz_kd a → tz_kd a = 103 := by decide +kernel
        exact hb (this a he h0 h5 ha)
    · have he : tz_E0 ≤ a := Nat.not_lt.mp he
      have hat := tz_ws_at (G := G) (A := A) he hlt
      by_cases k1 : tz_kd a = 100
      · rw [tz_en_int k1] at hat
        exact va_alen (D := tz_D G) (cl := tz_cl) (tys := tz_tys G) F.1.1 F.1.2.1 F.2.2.2.2.2.2.2.2.1 hP (a - tz_E0) 0 hat rfl rfl hd k
      · by_cases k2 : tz_kd a = 101
        · rw [tz_en_lng k2] at hat
          exact va_alen (D := tz_D G) (cl := tz_cl) (tys := tz_tys G) F.1.1 F.1.2.1 F.2.2.2.2.2.2.2.2.1 hP (a - tz_E0) 1 hat rfl rfl hd k
        · have hat2 : (tz_ws G A)[a - tz_E0]? = some (tz_ad G a, .inl (tz_cM G, (tz_SH a).2, .inr (.inr (.inr (.inr (fun i => if i < (tz_SH a).2 then some (tz_ad G (a + 1 + i)) else none)))))) := by
            rw [hat]
            unfold tz_en
            rw [if_neg (by omega), if_neg k1, if_neg k2]
          exact va_alen (D := tz_D G) (cl := tz_cl) (tys := tz_tys G) F.1.1 F.1.2.1 F.2.2.2.2.2.2.2.2.1 hP (a - tz_E0) 2 hat2 rfl rfl hd k
theorem tz_k_cpyi (F : tz_Fr p l R s ma args meth c G m a0 dd) {idx k1 k2 : Nat} {i1 i2 n : Int32} (hr1 : 1 ≤ tz_rk m) (hd : decode (tz_by m) pc = .ok (.invokestatic idx, 3)) (w1 : tz_W (Cond.methodLink (tz_own (tz_pn m)) idx arraycopyName)) (w2 : tz_W (Cond.native arraycopyName)) (w3 : tz_W (Cond.static arraycopyName)) (w4 : tz_W (Cond.initialized "java/lang/System"))
    (e1 : tz_E0 ≤ k1) (e2 : tz_E0 ≤ k2) (l1 : k1 < A.1) (l2 : k2 < A.1) (d1 : tz_kd k1 = 100) (d2 : tz_kd k2 = 100) (hneg : ¬ (i1 < 0 ∨ i2 < 0 ∨ n < 0)) (hlen : ¬ (tz_ln A k1 < i1.toNatClampNeg + n.toNatClampNeg ∨ tz_ln A k2 < i2.toNatClampNeg + n.toNatClampNeg)) (hcat : ((r.map (tz_cv G)).map fun v => v.category).sum ≤ 8)
    (hk : tz_K p l e R s ma args below meth c Q G m a0 dd (pc + 3) L r (tz_cp A k1 i1.toNatClampNeg k2 i2.toNatClampNeg n.toNatClampNeg)) : tz_K p l e R s ma args below meth c Q G m a0 dd pc L (.int n :: .int i2 :: .ref k2 :: .int i1 :: .ref k1 :: r) A := by
  intro H locs ls hSt
  obtain ⟨z1, z2, z3, hP, -⟩ := hSt.1
  have hD := tz_wsD (G := G) (A := A)
  rw [tz_ln_hi e1, tz_ln_hi e2] at hlen
  have hn : nativeFrameWords "java/lang/System" "arraycopy" 5 = 7 := by decide
  have hR := F.2.2.2.1
  have hen : tz_en G (tz_cp A k1 i1.toNatClampNeg k2 i2.toNatClampNeg n.toNatClampNeg) k2 = .inl (tz_cI G, (tz_SH k2).2, .inl (va_cpy (fun i => A.2.1 k1 i) (fun i => A.2.1 k2 i) i1.toNatClampNeg i2.toNatClampNeg n.toNatClampNeg)) := by
    rw [tz_en_int d2]
    have : (fun j => (tz_cp A k1 i1.toNatClampNeg k2 i2.toNatClampNeg n.toNatClampNeg).2.1 k2 j) = va_cpy (fun i => A.2.1 k1 i) (fun i => A.2.1 k2 i) i1.toNatClampNeg i2.toNatClampNeg n.toNatClampNeg := by
      funext j
      simp [tz_cp, va_cpy]
    rw [this]
  refine va_copyi (D := tz_D G) (cl := tz_cl) F.1.1 F.1.2.1 (by rw [F.1.2.2.1]; exact hSt.2.2.1.symm) F.1.2.2.2 (F.2.1 _ (tz_in_WS w1)) (F.2.1 _ (tz_in_WS w2)) (F.2.1 _ (tz_in_WS w3)) (F.2.1 _ (tz_in_WS w4)) F.2.2.2.2.2.2.2.2.1 hP hD hSt.2.1 (k1 - tz_E0) (k2 - tz_E0) 0 0 (by rw [tz_ws_at e1 l1, tz_en_int d1]) (by rw [tz_ws_at e2 l2, tz_en_int d2]) rfl rfl rfl (fun h => hneg (Or.inl h)) (fun h => hneg (Or.inr (Or.inl h))) (fun h => hneg (Or.inr (Or.inr h))) (by omega) (by omega) (fun _ _ => rfl) (by omega) (by rw [hn]; omega) hd (fun H1 locs1 hP1 hD1 hS1 => ?_)
  rw [← hen] at hP1 hD1
  exact hk H1 locs1 ls ⟨tz_REP.put (k := k2) (A := A) z1 z2 z3 e2 rfl (fun j hj => funext fun i => by simp [tz_cp, hj]) (fun _ _ => rfl) (fun _ _ => rfl) hP1 l2, hS1, hSt.2.2⟩
theorem tz_k_cpyl (F : tz_Fr p l R s ma args meth c G m a0 dd) {idx k1 k2 : Nat} {i1 i2 n : Int32} (hr1 : 1 ≤ tz_rk m) (hd : decode (tz_by m) pc = .ok (.invokestatic idx, 3)) (w1 : tz_W (Cond.methodLink (tz_own (tz_pn m)) idx arraycopyName)) (w2 : tz_W (Cond.native arraycopyName)) (w3 : tz_W (Cond.static arraycopyName)) (w4 : tz_W (Cond.initialized "java/lang/System"))
    (e1 : tz_E0 ≤ k1) (e2 : tz_E0 ≤ k2) (l1 : k1 < A.1) (l2 : k2 < A.1) (d1 : tz_kd k1 = 101) (d2 : tz_kd k2 = 101) (hneg : ¬ (i1 < 0 ∨ i2 < 0 ∨ n < 0)) (hlen : ¬ (tz_ln A k1 < i1.toNatClampNeg + n.toNatClampNeg ∨ tz_ln A k2 < i2.toNatClampNeg + n.toNatClampNeg)) (hcat : ((r.map (tz_cv G)).map fun v => v.category).sum ≤ 8)
    (hk : tz_K p l e R s ma args below meth c Q G m a0 dd (pc + 3) L r (tz_cpl A k1 i1.toNatClampNeg k2 i2.toNatClampNeg n.toNatClampNeg)) : tz_K p l e R s ma args below meth c Q G m a0 dd pc L (.int n :: .int i2 :: .ref k2 :: .int i1 :: .ref k1 :: r) A := by
  intro H locs ls hSt
  obtain ⟨z1, z2, z3, hP, -⟩ := hSt.1
  have hD := tz_wsD (G := G) (A := A)
  rw [tz_ln_hi e1, tz_ln_hi e2] at hlen
  have hn : nativeFrameWords "java/lang/System" "arraycopy" 5 = 7 := by decide
  have hR := F.2.2.2.1
  have hen : tz_en G (tz_cpl A k1 i1.toNatClampNeg k2 i2.toNatClampNeg n.toNatClampNeg) k2 = .inl (tz_cJ G, (tz_SH k2).2, .inr (.inl (va_cpy (fun i => A.2.2.1 k1 i) (fun i => A.2.2.1 k2 i) i1.toNatClampNeg i2.toNatClampNeg n.toNatClampNeg))) := by
    rw [tz_en_lng d2]
    have : (fun j => (tz_cpl A k1 i1.toNatClampNeg k2 i2.toNatClampNeg n.toNatClampNeg).2.2.1 k2 j) = va_cpy (fun i => A.2.2.1 k1 i) (fun i => A.2.2.1 k2 i) i1.toNatClampNeg i2.toNatClampNeg n.toNatClampNeg := by
      funext j
      simp [tz_cpl, va_cpy]
    rw [this]
  refine va_copyl (D := tz_D G) (cl := tz_cl) F.1.1 F.1.2.1 (by rw [F.1.2.2.1]; exact hSt.2.2.1.symm) F.1.2.2.2 (F.2.1 _ (tz_in_WS w1)) (F.2.1 _ (tz_in_WS w2)) (F.2.1 _ (tz_in_WS w3)) (F.2.1 _ (tz_in_WS w4)) F.2.2.2.2.2.2.2.2.1 hP hD hSt.2.1 (k1 - tz_E0) (k2 - tz_E0) 1 1 (by rw [tz_ws_at e1 l1, tz_en_lng d1]) (by rw [tz_ws_at e2 l2, tz_en_lng d2]) rfl rfl rfl (fun h => hneg (Or.inl h)) (fun h => hneg (Or.inr (Or.inl h))) (fun h => hneg (Or.inr (Or.inr h))) (by omega) (by omega) (fun _ _ => rfl) (by omega) (by rw [hn]; omega) hd (fun H1 locs1 hP1 hD1 hS1 => ?_)
  rw [← hen] at hP1 hD1
  exact hk H1 locs1 ls ⟨tz_REP.put (k := k2) (A := A) z1 z2 z3 e2 rfl (fun _ _ => rfl) (fun j hj => funext fun i => by simp [tz_cpl, hj]) (fun _ _ => rfl) hP1 l2, hS1, hSt.2.2⟩
theorem tz_k_mm (F : tz_Fr p l R s ma args meth c G m a0 dd) {idx h : Nat} {x y : Int32} (hr1 : 1 ≤ tz_rk m) (hc9 : A.1 - a0 + dd.1 ≤ R.cells) (hs9 : tz_ss A.1 - tz_ss a0 + dd.2 ≤ R.slots) (hd : decode (tz_by m) pc = .ok (.invokestatic idx, 3)) (w1 : tz_W (Cond.methodLink (tz_own (tz_pn m)) idx (tz_mm h))) (w3 : tz_W (Cond.static (tz_mm h))) (w4 : tz_W (Cond.initialized "java/lang/Math")) (w5 : tz_W (Cond.code (tz_mm h) (tz_mc h) 2 (some .int))) (hcat : ((r.map (tz_cv G)).map fun v => v.category).sum ≤ 8) (hh : h = 8 ∨ h = 9)
    (hk : tz_K p l e R s ma args below meth c Q G m a0 dd (pc + 3) L (.int (if h = 8 then (if x < y then y else x) else (if y < x then y else x)) :: r) A) : tz_K p l e R s ma args below meth c Q G m a0 dd pc L (.int y :: .int x :: r) A := by
  intro H locs ls hSt
  have hR := F.2.2.2.1
  rcases hh with rfl | rfl
  · exact va_mmax F.1.1 F.1.2.1 (by rw [F.1.2.2.1]; exact hSt.2.2.1.symm) F.1.2.2.2 (F.2.1 _ (tz_in_WS w1)) (F.2.1 _ (tz_in_WS w3)) (F.2.1 _ (tz_in_WS w4)) (F.2.1 _ (tz_in_WS w5)) (by omega) (by omega) hc9 hs9 hd (hk H locs ls hSt)
  · exact va_mmin F.1.1 F.1.2.1 (by rw [F.1.2.2.1]; exact hSt.2.2.1.symm) F.1.2.2.2 (F.2.1 _ (tz_in_WS w1)) (F.2.1 _ (tz_in_WS w3)) (F.2.1 _ (tz_in_WS w4)) (F.2.1 _ (tz_in_WS w5)) (by omega) (by omega) hc9 hs9 hd (hk H locs ls hSt)
end TZH
