/-! all that is held: the class's side, the model's side; one turn of both out of what each does -/
theorem kd_161 {i : Nat} (h : i < 8) : kp_d 161 i := Or.inl ⟨rfl, h⟩
theorem kd_162 {i : Nat} (h : i < 8) : kp_d 162 i := Or.inr (Or.inl ⟨rfl, h⟩)
theorem kd_163 {i : Nat} (h : i < 8) : kp_d 163 i := Or.inr (Or.inr (Or.inl ⟨rfl, h⟩))
theorem kd_164 {i : Nat} (h : i < 64) : kp_d 164 i := Or.inr (Or.inr (Or.inr (Or.inl ⟨rfl, h⟩)))
theorem kd_165 {i : Nat} (h : i < 4) : kp_d 165 i := Or.inr (Or.inr (Or.inr (Or.inr (Or.inl ⟨rfl, h⟩))))
theorem kd_167 {i : Nat} (h : i < 4) : kp_d 167 i := Or.inr (Or.inr (Or.inr (Or.inr (Or.inr (Or.inl ⟨rfl, h⟩)))))
theorem kd_168 {i : Nat} (h : i < 4) : kp_d 168 i := Or.inr (Or.inr (Or.inr (Or.inr (Or.inr (Or.inr (Or.inl ⟨rfl, h⟩))))))
theorem kd_169 {i : Nat} (h : i < 4) : kp_d 169 i := Or.inr (Or.inr (Or.inr (Or.inr (Or.inr (Or.inr (Or.inr (Or.inl ⟨rfl, h⟩)))))))
theorem kd_170 {i : Nat} (h : i < 4) : kp_d 170 i := Or.inr (Or.inr (Or.inr (Or.inr (Or.inr (Or.inr (Or.inr (Or.inr (Or.inl ⟨rfl, h⟩))))))))
theorem kd_166 {i : Nat} (h : i < 24) : kp_d 166 i := Or.inr (Or.inr (Or.inr (Or.inr (Or.inr (Or.inr (Or.inr (Or.inr (Or.inr (Or.inl ⟨rfl, h⟩)))))))))
theorem kd_171 {i : Nat} (h : i < 12) : kp_d 171 i := Or.inr (Or.inr (Or.inr (Or.inr (Or.inr (Or.inr (Or.inr (Or.inr (Or.inr (Or.inr (Or.inl ⟨rfl, h⟩))))))))))
theorem kd_172 {i : Nat} (h : i < 12) : kp_d 172 i := Or.inr (Or.inr (Or.inr (Or.inr (Or.inr (Or.inr (Or.inr (Or.inr (Or.inr (Or.inr (Or.inr (Or.inl ⟨rfl, h⟩)))))))))))
theorem kd_173 {i : Nat} (h : i < 12) : kp_d 173 i := Or.inr (Or.inr (Or.inr (Or.inr (Or.inr (Or.inr (Or.inr (Or.inr (Or.inr (Or.inr (Or.inr (Or.inr (Or.inl ⟨rfl, h⟩))))))))))))
theorem kd_174 {i : Nat} (h : i < 12) : kp_d 174 i := Or.inr (Or.inr (Or.inr (Or.inr (Or.inr (Or.inr (Or.inr (Or.inr (Or.inr (Or.inr (Or.inr (Or.inr (Or.inr (Or.inl ⟨rfl, h⟩)))))))))))))
theorem kd_175 {i : Nat} (h : i < 12) : kp_d 175 i := Or.inr (Or.inr (Or.inr (Or.inr (Or.inr (Or.inr (Or.inr (Or.inr (Or.inr (Or.inr (Or.inr (Or.inr (Or.inr (Or.inr (Or.inl ⟨rfl, h⟩))))))))))))))
theorem kd_176 {i : Nat} (h : i < 12) : kp_d 176 i := Or.inr (Or.inr (Or.inr (Or.inr (Or.inr (Or.inr (Or.inr (Or.inr (Or.inr (Or.inr (Or.inr (Or.inr (Or.inr (Or.inr (Or.inr (Or.inl ⟨rfl, h⟩)))))))))))))))
theorem kd_157 {i : Nat} (h : i = 3 ∨ i = 8 ∨ i = 15 ∨ (22 ≤ i ∧ i ≤ 25)) : kp_d 157 i := Or.inr (Or.inr (Or.inr (Or.inr (Or.inr (Or.inr (Or.inr (Or.inr (Or.inr (Or.inr (Or.inr (Or.inr (Or.inr (Or.inr (Or.inr (Or.inr ⟨rfl, h⟩)))))))))))))))
theorem kr_161 {i : Nat} (h : i < 8) : kp_r 161 i (0 + i) := Or.inl ⟨rfl, h, rfl⟩
theorem kr_162 {i : Nat} (h : i < 8) : kp_r 162 i (8 + i) := Or.inr (Or.inl ⟨rfl, h, rfl⟩)
theorem kr_163 {i : Nat} (h : i < 8) : kp_r 163 i (16 + i) := Or.inr (Or.inr (Or.inl ⟨rfl, h, rfl⟩))
theorem kr_164 {i : Nat} (h : i < 64) : kp_r 164 i (24 + i) := Or.inr (Or.inr (Or.inr (Or.inl ⟨rfl, h, rfl⟩)))
theorem kr_165 {i : Nat} (h : i < 4) : kp_r 165 i (88 + i) := Or.inr (Or.inr (Or.inr (Or.inr (Or.inl ⟨rfl, h, rfl⟩))))
theorem kr_167 {i : Nat} (h : i < 4) : kp_r 167 i (92 + i) := Or.inr (Or.inr (Or.inr (Or.inr (Or.inr (Or.inl ⟨rfl, h, rfl⟩)))))
theorem kr_168 {i : Nat} (h : i < 4) : kp_r 168 i (96 + i) := Or.inr (Or.inr (Or.inr (Or.inr (Or.inr (Or.inr (Or.inl ⟨rfl, h, rfl⟩))))))
theorem kr_169 {i : Nat} (h : i < 4) : kp_r 169 i (100 + i) := Or.inr (Or.inr (Or.inr (Or.inr (Or.inr (Or.inr (Or.inr (Or.inl ⟨rfl, h, rfl⟩)))))))
theorem kr_170 {i : Nat} (h : i < 4) : kp_r 170 i (104 + i) := Or.inr (Or.inr (Or.inr (Or.inr (Or.inr (Or.inr (Or.inr (Or.inr (Or.inl ⟨rfl, h, rfl⟩))))))))
theorem kr_166 {i : Nat} (h : i < 24) : kp_r 166 i (108 + i) := Or.inr (Or.inr (Or.inr (Or.inr (Or.inr (Or.inr (Or.inr (Or.inr (Or.inr (Or.inl ⟨rfl, h, rfl⟩)))))))))
theorem kr_171 {i : Nat} (h : i < 12) : kp_r 171 i (132 + i) := Or.inr (Or.inr (Or.inr (Or.inr (Or.inr (Or.inr (Or.inr (Or.inr (Or.inr (Or.inr (Or.inl ⟨rfl, h, rfl⟩))))))))))
theorem kr_172 {i : Nat} (h : i < 12) : kp_r 172 i (144 + i) := Or.inr (Or.inr (Or.inr (Or.inr (Or.inr (Or.inr (Or.inr (Or.inr (Or.inr (Or.inr (Or.inr (Or.inl ⟨rfl, h, rfl⟩)))))))))))
theorem kr_173 {i : Nat} (h : i < 12) : kp_r 173 i (156 + i) := Or.inr (Or.inr (Or.inr (Or.inr (Or.inr (Or.inr (Or.inr (Or.inr (Or.inr (Or.inr (Or.inr (Or.inr (Or.inl ⟨rfl, h, rfl⟩))))))))))))
theorem kr_174 {i : Nat} (h : i < 12) : kp_r 174 i (168 + i) := Or.inr (Or.inr (Or.inr (Or.inr (Or.inr (Or.inr (Or.inr (Or.inr (Or.inr (Or.inr (Or.inr (Or.inr (Or.inr (Or.inl ⟨rfl, h, rfl⟩)))))))))))))
theorem kr_175 {i : Nat} (h : i < 12) : kp_r 175 i (180 + i) := Or.inr (Or.inr (Or.inr (Or.inr (Or.inr (Or.inr (Or.inr (Or.inr (Or.inr (Or.inr (Or.inr (Or.inr (Or.inr (Or.inr (Or.inl ⟨rfl, h, rfl⟩))))))))))))))
theorem kr_176 {i : Nat} (h : i < 12) : kp_r 176 i (192 + i) := Or.inr (Or.inr (Or.inr (Or.inr (Or.inr (Or.inr (Or.inr (Or.inr (Or.inr (Or.inr (Or.inr (Or.inr (Or.inr (Or.inr (Or.inr (Or.inl ⟨rfl, h, rfl⟩)))))))))))))))
theorem kr_157_3 : kp_r 157 3 204 := Or.inr (Or.inr (Or.inr (Or.inr (Or.inr (Or.inr (Or.inr (Or.inr (Or.inr (Or.inr (Or.inr (Or.inr (Or.inr (Or.inr (Or.inr (Or.inr (Or.inl ⟨rfl, rfl, rfl⟩))))))))))))))))
theorem kr_157_8 : kp_r 157 8 205 := Or.inr (Or.inr (Or.inr (Or.inr (Or.inr (Or.inr (Or.inr (Or.inr (Or.inr (Or.inr (Or.inr (Or.inr (Or.inr (Or.inr (Or.inr (Or.inr (Or.inr (Or.inl ⟨rfl, rfl, rfl⟩)))))))))))))))))
theorem kr_157_15 : kp_r 157 15 206 := Or.inr (Or.inr (Or.inr (Or.inr (Or.inr (Or.inr (Or.inr (Or.inr (Or.inr (Or.inr (Or.inr (Or.inr (Or.inr (Or.inr (Or.inr (Or.inr (Or.inr (Or.inr (Or.inl ⟨rfl, rfl, rfl⟩))))))))))))))))))
theorem kr_157_22 : kp_r 157 22 207 := Or.inr (Or.inr (Or.inr (Or.inr (Or.inr (Or.inr (Or.inr (Or.inr (Or.inr (Or.inr (Or.inr (Or.inr (Or.inr (Or.inr (Or.inr (Or.inr (Or.inr (Or.inr (Or.inr (Or.inl ⟨rfl, rfl, rfl⟩)))))))))))))))))))
theorem kr_157_23 : kp_r 157 23 208 := Or.inr (Or.inr (Or.inr (Or.inr (Or.inr (Or.inr (Or.inr (Or.inr (Or.inr (Or.inr (Or.inr (Or.inr (Or.inr (Or.inr (Or.inr (Or.inr (Or.inr (Or.inr (Or.inr (Or.inr (Or.inl ⟨rfl, rfl, rfl⟩))))))))))))))))))))
theorem kr_157_24 : kp_r 157 24 209 := Or.inr (Or.inr (Or.inr (Or.inr (Or.inr (Or.inr (Or.inr (Or.inr (Or.inr (Or.inr (Or.inr (Or.inr (Or.inr (Or.inr (Or.inr (Or.inr (Or.inr (Or.inr (Or.inr (Or.inr (Or.inr (Or.inl ⟨rfl, rfl, rfl⟩)))))))))))))))))))))
theorem kr_157_25 : kp_r 157 25 210 := Or.inr (Or.inr (Or.inr (Or.inr (Or.inr (Or.inr (Or.inr (Or.inr (Or.inr (Or.inr (Or.inr (Or.inr (Or.inr (Or.inr (Or.inr (Or.inr (Or.inr (Or.inr (Or.inr (Or.inr (Or.inr (Or.inr ⟨rfl, rfl, rfl⟩)))))))))))))))))))))
theorem kp_j {q i j : Nat} (h : kp_r q i j) : j < 211 ∧ kp_d q i := by
  unfold kp_r at h
  rcases h with ⟨rfl, hi, rfl⟩ | ⟨rfl, hi, rfl⟩ | ⟨rfl, hi, rfl⟩ | ⟨rfl, hi, rfl⟩ | ⟨rfl, hi, rfl⟩ | ⟨rfl, hi, rfl⟩ | ⟨rfl, hi, rfl⟩ | ⟨rfl, hi, rfl⟩ | ⟨rfl, hi, rfl⟩ | ⟨rfl, hi, rfl⟩ | ⟨rfl, hi, rfl⟩ | ⟨rfl, hi, rfl⟩ | ⟨rfl, hi, rfl⟩ | ⟨rfl, hi, rfl⟩ | ⟨rfl, hi, rfl⟩ | ⟨rfl, hi, rfl⟩ | ⟨rfl, rfl, rfl⟩ | ⟨rfl, rfl, rfl⟩ | ⟨rfl, rfl, rfl⟩ | ⟨rfl, rfl, rfl⟩ | ⟨rfl, rfl, rfl⟩ | ⟨rfl, rfl, rfl⟩ | ⟨rfl, rfl, rfl⟩
  · exact ⟨by omega, kd_161 hi⟩
  · exact ⟨by omega, kd_162 hi⟩
  · exact ⟨by omega, kd_163 hi⟩
  · exact ⟨by omega, kd_164 hi⟩
  · exact ⟨by omega, kd_165 hi⟩
  · exact ⟨by omega, kd_167 hi⟩
  · exact ⟨by omega, kd_168 hi⟩
  · exact ⟨by omega, kd_169 hi⟩
  · exact ⟨by omega, kd_170 hi⟩
  · exact ⟨by omega, kd_166 hi⟩
  · exact ⟨by omega, kd_171 hi⟩
  · exact ⟨by omega, kd_172 hi⟩
  · exact ⟨by omega, kd_173 hi⟩
  · exact ⟨by omega, kd_174 hi⟩
  · exact ⟨by omega, kd_175 hi⟩
  · exact ⟨by omega, kd_176 hi⟩
  · exact ⟨by omega, kd_157 (by omega)⟩
  · exact ⟨by omega, kd_157 (by omega)⟩
  · exact ⟨by omega, kd_157 (by omega)⟩
  · exact ⟨by omega, kd_157 (by omega)⟩
  · exact ⟨by omega, kd_157 (by omega)⟩
  · exact ⟨by omega, kd_157 (by omega)⟩
  · exact ⟨by omega, kd_157 (by omega)⟩
theorem kp_of {q i : Nat} (h : kp_d q i) : ∃ j, kp_r q i j := by
  unfold kp_d at h
  rcases h with ⟨rfl, hi⟩ | ⟨rfl, hi⟩ | ⟨rfl, hi⟩ | ⟨rfl, hi⟩ | ⟨rfl, hi⟩ | ⟨rfl, hi⟩ | ⟨rfl, hi⟩ | ⟨rfl, hi⟩ | ⟨rfl, hi⟩ | ⟨rfl, hi⟩ | ⟨rfl, hi⟩ | ⟨rfl, hi⟩ | ⟨rfl, hi⟩ | ⟨rfl, hi⟩ | ⟨rfl, hi⟩ | ⟨rfl, hi⟩ | ⟨rfl, rfl | rfl | rfl | hi⟩
  · exact ⟨_, kr_161 hi⟩
  · exact ⟨_, kr_162 hi⟩
  · exact ⟨_, kr_163 hi⟩
  · exact ⟨_, kr_164 hi⟩
  · exact ⟨_, kr_165 hi⟩
  · exact ⟨_, kr_167 hi⟩
  · exact ⟨_, kr_168 hi⟩
  · exact ⟨_, kr_169 hi⟩
  · exact ⟨_, kr_170 hi⟩
  · exact ⟨_, kr_166 hi⟩
  · exact ⟨_, kr_171 hi⟩
  · exact ⟨_, kr_172 hi⟩
  · exact ⟨_, kr_173 hi⟩
  · exact ⟨_, kr_174 hi⟩
  · exact ⟨_, kr_175 hi⟩
  · exact ⟨_, kr_176 hi⟩
  · exact ⟨_, kr_157_3⟩
  · exact ⟨_, kr_157_8⟩
  · exact ⟨_, kr_157_15⟩
  · rcases (show i = 22 ∨ i = 23 ∨ i = 24 ∨ i = 25 by omega) with rfl | rfl | rfl | rfl
    · exact ⟨_, kr_157_22⟩
    · exact ⟨_, kr_157_23⟩
    · exact ⟨_, kr_157_24⟩
    · exact ⟨_, kr_157_25⟩
theorem rel_kp {S : tz_S} (W : sp_W1 S) {p q k i : Nat} (h : rm_rel S p q k i) : kp_d p q := by
  have h8 := W.1
  have h4 := W.2.1
  have h12 := W.2.2.1
  unfold rm_rel at h
  rcases h with ⟨rfl, rfl, ⟨rfl, rfl⟩ | ⟨rfl, rfl⟩ | ⟨rfl, rfl⟩⟩ | ⟨rfl, rfl, ⟨rfl, rfl⟩ | ⟨rfl, rfl⟩ | ⟨rfl, rfl⟩ | ⟨rfl, rfl⟩⟩ | ⟨rfl, hi, ⟨rfl, rfl⟩ | ⟨rfl, rfl⟩⟩ | ⟨rfl, hi, ⟨rfl, rfl⟩ | ⟨rfl, rfl⟩ | ⟨rfl, rfl⟩ | ⟨rfl, rfl⟩ | ⟨rfl, rfl⟩⟩ | ⟨rfl, rfl, rfl, t, j, ht, hj, e⟩ | ⟨rfl, hi, rfl, hk1, hk2⟩
  · exact kd_157 (by omega)
  · exact kd_157 (by omega)
  · exact kd_157 (by omega)
  · exact kd_157 (by omega)
  · exact kd_157 (by omega)
  · exact kd_157 (by omega)
  · exact kd_157 (by omega)
  · exact kd_161 (by omega)
  · exact kd_162 (by omega)
  · exact kd_168 (by omega)
  · exact kd_169 (by omega)
  · exact kd_170 (by omega)
  · exact kd_165 (by omega)
  · exact kd_167 (by omega)
  · have := (W.2.2.2.2.1 t ht).2.2.2.2.2.2.2.1
    exact kd_166 (by omega)
  · rcases (show k = 16 ∨ k = 17 ∨ k = 18 ∨ k = 19 ∨ k = 20 ∨ k = 21 by omega) with rfl | rfl | rfl | rfl | rfl | rfl
    · exact kd_171 (by omega)
    · exact kd_172 (by omega)
    · exact kd_173 (by omega)
    · exact kd_174 (by omega)
    · exact kd_175 (by omega)
    · exact kd_176 (by omega)
/-- the sky's cells alike: alike told -/
theorem rm_c_kp {S : tz_S} {A A' : tz_Mem} (W : sp_W1 S) (c : rm_c S A) (e : ∀ k i, kp_d k i → tz_g A' k i = tz_g A k i) : rm_c S A' := fun p q k i hr => by rw [e p q (rel_kp W hr)]; exact c p q k i hr
theorem rm_w_kp {S : tz_S} {A A' : tz_Mem} (W : sp_W1 S) (c : rm_w S A) (e : ∀ k i, kp_d k i → tz_g A' k i = tz_g A k i) : rm_w S A' := by
  have h8 := W.1
  intro h hh
  have hk : sp_kept S h ≤ 8 := by unfold sp_kept; split <;> omega
  obtain ⟨a, b⟩ := c h hh
  refine ⟨?_, fun i hi => ?_⟩
  · rw [e 163 h (kd_163 (by omega))]
    exact a
  · rw [e 164 _ (kd_164 (by omega))]
    exact b i hi
theorem rm_kp {D : Nat → Int32} {S : tz_S} {A A' : tz_Mem} (W : sp_W1 S) (r : rm D S A) (e : ∀ k i, kp_d k i → tz_g A' k i = tz_g A k i) (e34 : tz_g A' 157 34 = tz_g A 157 34) (e36 : tz_g A' 157 36 = tz_g A 157 36) (e37 : S 200 0 ≠ 1 ∨ tz_g A' 157 37 = tz_g A 157 37) : ∃ D', rm D' S A' := by
  obtain ⟨c, ww, o, s, ee⟩ := r
  refine ⟨fun h => tz_g A' 182 h - tz_j (S 5 h), rm_c_kp W c e, rm_w_kp W ww e, fun h _ => ?_, rm_s_mv s rfl e34, ?_⟩
  · show tz_g A' 182 h = tz_g A' 182 h - tz_j (S 5 h) + tz_j (S 5 h)
    rw [Int32.sub_add_cancel]
  · refine ⟨fun q => ?_, fun q => ?_⟩
    · rw [e36, e37.resolve_left (fun z => z q)]
      exact ee.1 q
    · rw [e36]
      exact ee.2 q
/-- a sky kept in a row of the model -/
def rmk (p : Nat) (S : tz_S) (A : tz_Mem) : Prop := ∃ B, rm_c S B ∧ rm_w S B ∧ ∀ q i j, kp_r q i j → tz_g A p j = tz_g B q i
theorem rmk_mv {p : Nat} {S : tz_S} {A A' : tz_Mem} (h : rmk p S A) (e : ∀ j, j < 211 → tz_g A' p j = tz_g A p j) : rmk p S A' := by
  obtain ⟨B, b1, b2, b3⟩ := h
  exact ⟨B, b1, b2, fun q i j hq => by rw [e j (kp_j hq).1]; exact b3 q i j hq⟩
abbrev tz_U : Type := Nat → Nat → Int32
abbrev tz_V : Type := Nat → Nat → Int64
def tz_u (U : tz_U) (k i : Nat) (v : Int32) : tz_U := fun k' i' => if k' = k ∧ i' = i then v else U k' i'
theorem tz_ua {U : tz_U} {k i k' i' : Nat} {v : Int32} : tz_u U k i v k' i' = if k' = k ∧ i' = i then v else U k' i' := rfl
theorem tz_u1 {U : tz_U} {k i : Nat} {v : Int32} : tz_u U k i v k i = v := if_pos ⟨rfl, rfl⟩
theorem tz_uk {U : tz_U} {k i k' i' : Nat} {v : Int32} (h : k' ≠ k) : tz_u U k i v k' i' = U k' i' := if_neg (fun q => h q.1)
theorem tz_ui {U : tz_U} {k i i' : Nat} {v : Int32} (h : i' ≠ i) : tz_u U k i v k i' = U k i' := if_neg (fun q => h q.2)
/-- shelves: 0 what they hold, 1 how long, V the elements; 2 refusals; 3 the fault, whether there is an image; 4 bodies that ran; 5 the trace -/
def cu (U : tz_U) (V : tz_V) (A : tz_Mem) : Prop := (∀ s, s < 8 → tz_g A 19 s = U 0 s ∧ tz_g A 20 s = U 1 s ∧ ∀ i, i < 160 → tz_gl A (22 + s) i = V s i) ∧ (∀ i, i < 8 → tz_g A 156 i = U 2 i) ∧ tz_g A 17 13 = U 3 0 ∧ tz_g A 17 12 = U 3 1 ∧ tz_g A 148 0 = U 4 0 ∧ ∀ i, i < 20 → tz_g A 149 i = U 5 i
def mu (U : tz_U) (V : tz_V) (A : tz_Mem) : Prop := (∀ s, s < 8 → tz_g A 158 s = U 0 s ∧ tz_g A 159 s = U 1 s ∧ ∀ i, i < 160 → tz_gl A 160 (160 * s + i) = V s i) ∧ (∀ i, i < 8 → tz_g A 177 i = U 2 i) ∧ tz_g A 157 26 = U 3 0 ∧ tz_g A 157 30 = U 3 1 ∧ tz_g A 157 28 = U 4 0 ∧ ∀ i, i < 20 → tz_g A 178 i = U 5 i
def wu (S : tz_S) (U : tz_U) : Prop := (∀ s, s < 8 → (U 0 s = tz_j 4294967295 ∨ (∃ h, h < S 1 0 ∧ U 0 s = tz_j h) ∨ (∃ t, t < 4 ∧ U 0 s = tz_j (100 + t))) ∧ ∃ l, l ≤ 160 ∧ U 1 s = tz_j l) ∧ (U 3 1 = tz_j 0 ∨ U 3 1 = tz_j 1) ∧ ∃ n, n ≤ 60 ∧ U 4 0 = tz_j n
def CX (S K : tz_S) (U : tz_U) (V : tz_V) (A : tz_Mem) : Prop := rx 30 99 S A ∧ (U 3 1 = tz_j 1 → rx 53 99 K A) ∧ cu U V A ∧ tz_con A
def MX (D : Nat → Int32) (S K : tz_S) (U : tz_U) (V : tz_V) (A : tz_Mem) : Prop := rm D S A ∧ (U 3 1 = tz_j 1 → rmk 179 K A) ∧ mu U V A ∧ tz_N0 ≤ A.1
def WX (N : Nat) (S K : tz_S) (U : tz_U) : Prop := sp_H N S ∧ sp_st S ∧ sp_H N K ∧ sp_st K ∧ wu S U
/-- what the class's calls don't touch; what the model's don't -/
def cf (A A' : tz_Mem) : Prop := A'.1 = A.1 ∧ (∀ k i, k < 17 ∨ 157 ≤ k → tz_g A' k i = tz_g A k i ∧ tz_gl A' k i = tz_gl A k i) ∧ tz_gr A' 0 0 = tz_gr A 0 0
def mf (A A' : tz_Mem) : Prop := A.1 ≤ A'.1 ∧ A'.1 ≤ A.1 + 1 ∧ (∀ k i, k < 157 → tz_g A' k i = tz_g A k i ∧ tz_gl A' k i = tz_gl A k i) ∧ ∀ k i, k < 184 → tz_gr A' k i = tz_gr A k i
theorem cf_rfl {A : tz_Mem} : cf A A := ⟨rfl, fun _ _ _ => ⟨rfl, rfl⟩, rfl⟩
theorem mf_rfl {A : tz_Mem} : mf A A := ⟨Nat.le_refl _, Nat.le_succ _, fun _ _ _ => ⟨rfl, rfl⟩, fun _ _ _ => rfl⟩
theorem cf_tr {A B C : tz_Mem} (h1 : cf A B) (h2 : cf B C) : cf A C := ⟨h2.1.trans h1.1, fun k i h => ⟨(h2.2.1 k i h).1.trans (h1.2.1 k i h).1, (h2.2.1 k i h).2.trans (h1.2.1 k i h).2⟩, h2.2.2.trans h1.2.2⟩
theorem cf_s {A : tz_Mem} {k i : Nat} {v : Int32} (h : 17 ≤ k ∧ k < 157) : cf A (tz_s A k i v) := ⟨rfl, fun k' i' hk => ⟨tz_gsk (by omega), rfl⟩, rfl⟩
theorem mf_s {A : tz_Mem} {k i : Nat} {v : Int32} (h : 157 ≤ k) : mf A (tz_s A k i v) := ⟨Nat.le_refl _, Nat.le_succ _, fun k' i' hk => ⟨tz_gsk (by omega), rfl⟩, fun _ _ _ => rfl⟩
theorem cf_fx {P : Nat → Nat → Prop} {A B : tz_Mem} (f : tz_fx P A B) (hP : ∀ k i, P k i → 17 ≤ k ∧ k < 157) : cf A B := ⟨f.1, fun k i hk => ⟨f.2.2.1 k i (fun q => by have := hP k i q; omega), by show B.2.2.1 k i = A.2.2.1 k i; rw [f.2.1]⟩, f.2.2.2 0 0 (fun q => by have := hP 0 0 q.1; omega)⟩
theorem mf_fr {P : Nat → Nat → Prop} {A B : tz_Mem} (f : tz_fr P A B) (hP : ∀ k i, P k i → 157 ≤ k) : mf A B := ⟨Nat.le_of_eq f.1.symm, by rw [f.1]; exact Nat.le_succ _, fun k i hk => ⟨f.2.2 k i (fun q => by have := hP k i q; omega), fr_gl f⟩, fun _ _ _ => fr_gr f⟩
/-- both move in place: A.1 stays -/
def mg (A A' : tz_Mem) : Prop := A'.1 = A.1 ∧ (∀ k i, k < 157 → tz_g A' k i = tz_g A k i ∧ tz_gl A' k i = tz_gl A k i) ∧ ∀ k i, tz_gr A' k i = tz_gr A k i
theorem mg_tr {A B C : tz_Mem} (h1 : mg A B) (h2 : mg B C) : mg A C := ⟨h2.1.trans h1.1, fun k i h => ⟨(h2.2.1 k i h).1.trans (h1.2.1 k i h).1, (h2.2.1 k i h).2.trans (h1.2.1 k i h).2⟩, fun k i => (h2.2.2 k i).trans (h1.2.2 k i)⟩
theorem mg_s {A : tz_Mem} {k i : Nat} {v : Int32} (h : 157 ≤ k) : mg A (tz_s A k i v) := ⟨rfl, fun k' i' hk => ⟨tz_gsk (by omega), rfl⟩, fun _ _ => rfl⟩
theorem mg_fr {P : Nat → Nat → Prop} {A B : tz_Mem} (f : tz_fr P A B) (hP : ∀ k i, P k i → 157 ≤ k) : mg A B := ⟨f.1, fun k i hk => ⟨f.2.2 k i (fun q => by have := hP k i q; omega), fr_gl f⟩, fun _ _ => fr_gr f⟩
theorem mf_mg {A B : tz_Mem} (h : mg A B) : mf A B := ⟨Nat.le_of_eq h.1.symm, by rw [h.1]; exact Nat.le_succ _, h.2.1, fun k i _ => h.2.2 k i⟩
theorem MX_cf {D : Nat → Int32} {S K : tz_S} {U : tz_U} {V : tz_V} {A B : tz_Mem} (f : cf A B) (m : MX D S K U V A) : MX D S K U V B := by
  obtain ⟨r, k, ⟨u1, u2, u3, u4, u5, u6⟩, hN⟩ := m
  have g : ∀ k i, 157 ≤ k → tz_g B k i = tz_g A k i := fun k i h => (f.2.1 k i (Or.inr h)).1
  refine ⟨rm_A r (fun k i h => g k i (by omega)), fun q => rmk_mv (k q) (fun j _ => g _ _ (by omega)), ⟨fun s hs => ?_, fun i hi => ?_, ?_, ?_, ?_, fun i hi => ?_⟩, by rw [f.1]; exact hN⟩
  · obtain ⟨a, b, c⟩ := u1 s hs
    refine ⟨by rw [g _ _ (by omega)]; exact a, by rw [g _ _ (by omega)]; exact b, fun i hi => ?_⟩
    rw [(f.2.1 160 _ (by omega)).2]
    exact c i hi
  · rw [g _ _ (by omega)]
    exact u2 i hi
  · rw [g _ _ (by omega)]
    exact u3
  · rw [g _ _ (by omega)]
    exact u4
  · rw [g _ _ (by omega)]
    exact u5
  · rw [g _ _ (by omega)]
    exact u6 i hi
theorem CX_mf {S K : tz_S} {U : tz_U} {V : tz_V} {A B : tz_Mem} (f : mf A B) (m : CX S K U V A) : CX S K U V B := by
  obtain ⟨r, k, ⟨u1, u2, u3, u4, u5, u6⟩, hc⟩ := m
  have g : ∀ k i, k < 157 → tz_g B k i = tz_g A k i := fun k i h => (f.2.2.1 k i h).1
  refine ⟨rx_mv r (fun k i h1 h2 => g k i (by omega)) (f.2.2.2 _ _ (by omega)) (Or.inr (fun k i h1 h2 => g k i (by omega))), fun q => rx_mv (k q) (fun k i h1 h2 => g k i (by omega)) (f.2.2.2 _ _ (by omega)) (Or.inr (fun k i h1 h2 => g k i (by omega))), ⟨fun s hs => ?_, fun i hi => ?_, ?_, ?_, ?_, fun i hi => ?_⟩, ⟨Nat.le_trans hc.1 f.1, fun k i a b c => ?_⟩⟩
  · obtain ⟨a, b, c⟩ := u1 s hs
    refine ⟨by rw [g _ _ (by omega)]; exact a, by rw [g _ _ (by omega)]; exact b, fun i hi => ?_⟩
    rw [(f.2.2.1 (22 + s) i (by omega)).2]
    exact c i hi
  · rw [g _ _ (by omega)]
    exact u2 i hi
  · rw [g _ _ (by omega)]
    exact u3
  · rw [g _ _ (by omega)]
    exact u4
  · rw [g _ _ (by omega)]
    exact u5
  · rw [g _ _ (by omega)]
    exact u6 i hi
  · rw [f.2.2.2 k i a]
    exact hc.2 k i a b c
/-- one turn: what the class does, what the model does; the same answer, the same told -/
def two_R (N : Nat) (S K : tz_S) (U : tz_U) (V : tz_V) (F G : tz_Mem → tz_X) (A : tz_Mem) : Prop := ∃ v S' K' U' V', (∃ A1, F A = some (some (.int v), A1) ∧ CX S' K' U' V' A1 ∧ cf A A1) ∧ WX (N + 2000) S' K' U' ∧ ∀ A D, MX D S K U V A → ∃ A2 D', G A = some (some (.int v), A2) ∧ MX D' S' K' U' V' A2 ∧ mf A A2
def tz_J (n : Nat) (A : tz_Mem) : Prop := A.1 ≤ tz_N0 + n ∧ ∃ S K U V D, CX S K U V A ∧ MX D S K U V A ∧ WX (2000 * n) S K U
theorem two_of {F G : tz_Mem → tz_X} (h : ∀ N S K U V A, N ≤ 1100000 → CX S K U V A → WX N S K U → two_R N S K U V F G A) : tz_twoI tz_J F G := by
  intro n A hn hJ
  obtain ⟨hA, S, K, U, V, D, c, m, ww⟩ := hJ
  obtain ⟨v, S', K', U', V', ⟨A1, e1, c1, f1⟩, w1, hM⟩ := h (2000 * n) S K U V A (by omega) c ww
  obtain ⟨A2, D', e2, m2, f2⟩ := hM A1 D (MX_cf f1 m)
  refine ⟨v, A1, A2, e1, c1.2.2.2, ⟨f1.2.2, fun i => (f1.2.1 0 i (by omega)).1⟩, e2, ⟨(f2.2.2.2 0 0 (by omega)).trans f1.2.2, fun i => ((f2.2.2.1 0 i (by omega)).1).trans (f1.2.1 0 i (by omega)).1⟩, ?_, S', K', U', V', D', CX_mf f2 c1, m2, w1⟩
  have := f2.2.1
  have := f1.1
  omega
theorem sp_H_mo {N M : Nat} {S : tz_S} (h : sp_H N S) (hM : N ≤ M) : sp_H M S := ⟨h.1, h.2.1, h.2.2.1, Nat.le_trans h.2.2.2.1 hM, h.2.2.2.2⟩
theorem WX_mo {N M : Nat} {S K : tz_S} {U : tz_U} (h : WX N S K U) (hM : N ≤ M) : WX M S K U := ⟨sp_H_mo h.1 hM, h.2.1, sp_H_mo h.2.2.1 hM, h.2.2.2⟩
/-- nothing changed -/
theorem out_pure {N : Nat} {S K : tz_S} {U : tz_U} {V : tz_V} {F G : tz_Mem → tz_X} {A : tz_Mem} {v : Int32} (c : CX S K U V A) (ww : WX N S K U) (hF : F A = some (some (.int v), A)) (hG : ∀ A D, MX D S K U V A → G A = some (some (.int v), A)) : two_R N S K U V F G A := ⟨v, S, K, U, V, ⟨A, hF, c, cf_rfl⟩, WX_mo ww (by omega), fun A D m => ⟨A, D, hG A D m, m, mf_rfl⟩⟩
/-- a refusal -/
def ur (U : tz_U) (r : Nat) : tz_U := tz_u U 2 r (U 2 r + tz_j 1)
theorem CX_ref {S K : tz_S} {U : tz_U} {V : tz_V} {A : tz_Mem} {r : Nat} (hr : r < 8) (c : CX S K U V A) : CX S K (ur U r) V (tz_s A 156 r (tz_g A 156 r + tz_j 1)) := by
  obtain ⟨r1, k, ⟨u1, u2, u3, u4, u5, u6⟩, hc⟩ := c
  unfold ur
  refine ⟨rx_mv r1 (fun k i h1 h2 => tz_gsk (by omega)) rfl (Or.inr (fun k i h1 h2 => tz_gsk (by omega))), fun q => rx_mv (k (by rw [tz_uk (by omega)] at q; exact q)) (fun k i h1 h2 => tz_gsk (by omega)) rfl (Or.inr (fun k i h1 h2 => tz_gsk (by omega))), ⟨fun s hs => ?_, fun i hi => ?_, ?_, ?_, ?_, fun i hi => ?_⟩, hc⟩
  · obtain ⟨a, b, d⟩ := u1 s hs
    rw [tz_gsk (by omega), tz_gsk (by omega), tz_uk (by omega), tz_uk (by omega)]
    exact ⟨a, b, d⟩
  · rw [tz_gS, tz_ua, u2 r hr]
    by_cases z : i = r
    · rw [if_pos ⟨rfl, z⟩, if_pos ⟨rfl, z⟩]
    · rw [if_neg (fun q => z q.2), if_neg (fun q => z q.2)]
      exact u2 i hi
  · rw [tz_gsk (by omega), tz_uk (by omega)]
    exact u3
  · rw [tz_gsk (by omega), tz_uk (by omega)]
    exact u4
  · rw [tz_gsk (by omega), tz_uk (by omega)]
    exact u5
  · rw [tz_gsk (by omega), tz_uk (by omega)]
    exact u6 i hi
theorem MX_ref {D : Nat → Int32} {S K : tz_S} {U : tz_U} {V : tz_V} {A : tz_Mem} {r : Nat} (hr : r < 8) (c : MX D S K U V A) : MX D S K (ur U r) V (tz_s A 177 r (tz_g A 177 r + tz_j 1)) := by
  obtain ⟨r1, k, ⟨u1, u2, u3, u4, u5, u6⟩, hc⟩ := c
  unfold ur
  refine ⟨rm_A r1 (fun k i h => tz_gsk (by omega)), fun q => rmk_mv (k (by rw [tz_uk (by omega)] at q; exact q)) (fun j _ => tz_gsk (by omega)), ⟨fun s hs => ?_, fun i hi => ?_, ?_, ?_, ?_, fun i hi => ?_⟩, hc⟩
  · obtain ⟨a, b, d⟩ := u1 s hs
    rw [tz_gsk (by omega), tz_gsk (by omega), tz_uk (by omega), tz_uk (by omega)]
    exact ⟨a, b, d⟩
  · rw [tz_gS, tz_ua, u2 r hr]
    by_cases z : i = r
    · rw [if_pos ⟨rfl, z⟩, if_pos ⟨rfl, z⟩]
    · rw [if_neg (fun q => z q.2), if_neg (fun q => z q.2)]
      exact u2 i hi
  · rw [tz_gsk (by omega), tz_uk (by omega)]
    exact u3
  · rw [tz_gsk (by omega), tz_uk (by omega)]
    exact u4
  · rw [tz_gsk (by omega), tz_uk (by omega)]
    exact u5
  · rw [tz_gsk (by omega), tz_uk (by omega)]
    exact u6 i hi
theorem wu_mv {S S' : tz_S} {U U' : tz_U} (h : wu S U) (e1 : S 1 0 ≤ S' 1 0) (e : ∀ k i, k ≠ 2 → k ≠ 5 → k ≠ 3 ∨ i ≠ 0 → U' k i = U k i) : wu S' U' := by
  obtain ⟨a, b, d⟩ := h
  refine ⟨fun s hs => ?_, ?_, ?_⟩
  · rw [e 0 s (by omega) (by omega) (by omega), e 1 s (by omega) (by omega) (by omega)]
    obtain ⟨a1, a2⟩ := a s hs
    refine ⟨?_, a2⟩
    rcases a1 with q | ⟨q, q1, q2⟩ | q
    · exact Or.inl q
    · exact Or.inr (Or.inl ⟨q, by omega, q2⟩)
    · exact Or.inr (Or.inr q)
  · rw [e 3 1 (by omega) (by omega) (by omega)]
    exact b
  · rw [e 4 0 (by omega) (by omega) (by omega)]
    exact d
theorem out_ref {N : Nat} {S K : tz_S} {U : tz_U} {V : tz_V} {F G : tz_Mem → tz_X} {A : tz_Mem} {v : Int32} (r : Nat) (hr : r < 8) (c : CX S K U V A) (ww : WX N S K U) (hF : F A = some (some (.int v), tz_s A 156 r (tz_g A 156 r + tz_j 1))) (hG : ∀ A D, MX D S K U V A → G A = some (some (.int v), tz_s A 177 r (tz_g A 177 r + tz_j 1))) : two_R N S K U V F G A :=
  ⟨v, S, K, ur U r, V, ⟨_, hF, CX_ref hr c, cf_s (by omega)⟩, ⟨(WX_mo (M := N + 2000) ww (by omega)).1, ww.2.1, (WX_mo (M := N + 2000) ww (by omega)).2.2.1, ww.2.2.2.1, wu_mv ww.2.2.2.2 (Nat.le_refl _) (fun k i h1 h2 h3 => tz_uk h1)⟩, fun A D m => ⟨_, D, hG A D m, MX_ref hr m, mf_s (by omega)⟩⟩
/-- thought: the class's guesses and ears may change -/
def th_p (k _i : Nat) : Prop := (76 ≤ k ∧ k < 122) ∨ (150 ≤ k ∧ k < 156)
theorem CX_th {S K : tz_S} {U : tz_U} {V : tz_V} {A B : tz_Mem} (hst : sp_st S) (hk : sp_st K) (f : tz_fx th_p A B) (c : CX S K U V A) : CX S K U V B := by
  obtain ⟨r1, k, ⟨u1, u2, u3, u4, u5, u6⟩, hc⟩ := c
  have g : ∀ k i, ¬ ((76 ≤ k ∧ k < 122) ∨ (150 ≤ k ∧ k < 156)) → tz_g B k i = tz_g A k i := fun k i h => f.2.2.1 k i h
  have gl : ∀ k i, tz_gl B k i = tz_gl A k i := fun k i => by show B.2.2.1 k i = A.2.2.1 k i; rw [f.2.1]
  refine ⟨rx_mv r1 (fun k i h1 h2 => g k i (by omega)) (f.2.2.2 _ _ (fun q => by have := q.1; unfold th_p at this; omega)) (Or.inl hst.2), fun q => rx_mv (k q) (fun k i h1 h2 => g k i (by omega)) (f.2.2.2 _ _ (fun q => by have := q.1; unfold th_p at this; omega)) (Or.inl hk.2), ⟨fun s hs => ?_, fun i hi => ?_, ?_, ?_, ?_, fun i hi => ?_⟩, fx_con f hc⟩
  · obtain ⟨a, b, d⟩ := u1 s hs
    rw [g _ _ (by omega), g _ _ (by omega)]
    refine ⟨a, b, fun i hi => ?_⟩
    rw [gl]
    exact d i hi
  · rw [g _ _ (by omega)]
    exact u2 i hi
  · rw [g _ _ (by omega)]
    exact u3
  · rw [g _ _ (by omega)]
    exact u4
  · rw [g _ _ (by omega)]
    exact u5
  · rw [g _ _ (by omega)]
    exact u6 i hi
theorem out_th {N : Nat} {S K : tz_S} {U : tz_U} {V : tz_V} {F G : tz_Mem → tz_X} {A : tz_Mem} {v : Int32} (c : CX S K U V A) (ww : WX N S K U) (hF : ∃ A1, F A = some (some (.int v), A1) ∧ tz_fx th_p A A1) (hG : ∀ A D, MX D S K U V A → ∃ A2 D', G A = some (some (.int v), A2) ∧ MX D' S K U V A2 ∧ mf A A2) : two_R N S K U V F G A := by
  obtain ⟨A1, e, f⟩ := hF
  exact ⟨v, S, K, U, V, ⟨A1, e, CX_th ww.2.1 ww.2.2.2.1 f c, cf_fx f (fun k i h => by unfold th_p at h; omega)⟩, WX_mo ww (by omega), hG⟩
/-- what the model's thoughts touch; and it has all again -/
def mt_p (k i : Nat) : Prop := mo_p k i ∨ (k = 157 ∧ (i = 34 ∨ i = 35)) ∨ k = 180 ∨ k = 181 ∨ k = 183
theorem MX_back {D : Nat → Int32} {S K : tz_S} {U : tz_U} {V : tz_V} {A B : tz_Mem} (W : sp_W1 S) (hst : sp_st S) (m : MX D S K U V A) (f : tz_fr mt_p A B) (e : ∀ k i, kp_d k i → tz_g B k i = tz_g A k i) (e34 : tz_g B 157 34 = tz_g A 157 34) (e36 : tz_g B 157 36 = tz_g A 157 36) : ∃ D', MX D' S K U V B ∧ mg A B := by
  obtain ⟨r, k, ⟨u1, u2, u3, u4, u5, u6⟩, hN⟩ := m
  obtain ⟨D', r'⟩ := rm_kp W r e e34 e36 (Or.inl (by rw [hst.2]; omega))
  have g : ∀ k i, ¬ mt_p k i → tz_g B k i = tz_g A k i := f.2.2
  refine ⟨D', ⟨r', fun q => rmk_mv (k q) (fun j _ => g _ _ (by unfold mt_p mo_p; omega)), ⟨fun s hs => ?_, fun i hi => ?_, ?_, ?_, ?_, fun i hi => ?_⟩, by rw [f.1]; exact hN⟩, mg_fr f (fun k i h => by unfold mt_p mo_p at h; omega)⟩
  · obtain ⟨a, b, d⟩ := u1 s hs
    rw [g _ _ (by unfold mt_p mo_p; omega), g _ _ (by unfold mt_p mo_p; omega)]
    refine ⟨a, b, fun i hi => ?_⟩
    rw [fr_gl f]
    exact d i hi
  · rw [g _ _ (by unfold mt_p mo_p; omega)]
    exact u2 i hi
  · rw [g _ _ (by unfold mt_p mo_p; omega)]
    exact u3
  · rw [g _ _ (by unfold mt_p mo_p; omega)]
    exact u4
  · rw [g _ _ (by unfold mt_p mo_p; omega)]
    exact u5
  · rw [g _ _ (by unfold mt_p mo_p; omega)]
    exact u6 i hi

