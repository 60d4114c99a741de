/-! the law's own steps, from behind: from the first restoring to its end -/
def OK1 (X : tz_X) : Prop := ∃ A', X = some (some (.int 1), A') ∧ A'.1 ≤ 159
/-- J is what was imaged -/
def MI (J S K : tz_S) (U : tz_U) (V : tz_V) (A : tz_Mem) : Prop := CX S K U V A ∧ WX 1000 S K U ∧ LM (J 1 0) (J 7 0) (J 15 0) (J 0 3) A ∧ (tz_gr A 0 0 ≤ 260 ∧ A.1 ≤ 159)
theorem lg_self (x : Int64) : lg_cmp x x = 0 := by
  unfold lg_cmp
  simp
theorem st_I {J S K S' K' : tz_S} {U U' : tz_U} {V V' : tz_V} {A : tz_Mem} {X : tz_X} {H : Int32 → tz_Mem → tz_X} {v : Int32} (mi : MI J S K U V A) (h4 : J 7 0 ≤ 4) (o : CO S' K' U' V' v X A) (w : WX 1000 S' K' U') (next : ∀ A', MI J S' K' U' V' A' → OK1 (H v A')) : OK1 (tz_C A (tz_bI X H)) := by
  obtain ⟨A', e, c, f⟩ := o
  rw [tz_C_pos mi.1.2.2.2, e, tz_bI_some]
  exact next A' ⟨c, w, LM_cf mi.2.2.1 h4 f, by rw [f.2.2, f.1]; exact mi.2.2.2⟩
theorem st_L {J S K : tz_S} {U : tz_U} {V : tz_V} {A : tz_Mem} {X : tz_X} {H : Int64 → tz_Mem → tz_X} {v : Int64} (mi : MI J S K U V A) (h4 : J 7 0 ≤ 4) (o : CL S K U V v X A) (next : ∀ A', MI J S K U V A' → OK1 (H v A')) : OK1 (tz_C A (tz_bL X H)) := by
  obtain ⟨A', e, c, f⟩ := o
  rw [tz_C_pos mi.1.2.2.2, e, tz_bL_some]
  exact next A' ⟨c, mi.2.1, LM_cf mi.2.2.1 h4 f, by rw [f.2.2, f.1]; exact mi.2.2.2⟩
/-- a call without a state of its own -/
theorem st_P {J S K : tz_S} {U : tz_U} {V : tz_V} {A : tz_Mem} {X : tz_X} {H : Int32 → tz_Mem → tz_X} {v : Int32} (mi : MI J S K U V A) (e : X = some (some (.int v), A)) (next : OK1 (H v A)) : OK1 (tz_C A (tz_bI X H)) := by
  rw [tz_C_pos mi.1.2.2.2, e, tz_bI_some]
  exact next
theorem mi_b {J S K : tz_S} {U : tz_U} {V : tz_V} {A : tz_Mem} (mi : MI J S K U V A) : ¬ A.1 ≤ 157 := by
  have := mi.2.2.1.1
  omega
theorem mi_2 {J S K : tz_S} {U : tz_U} {V : tz_V} {A : tz_Mem} (mi : MI J S K U V A) : tz_g A 157 2 = tz_j (J 15 0) := mi.2.2.1.2.2.2.1
theorem mi_1 {J S K : tz_S} {U : tz_U} {V : tz_V} {A : tz_Mem} (mi : MI J S K U V A) : tz_g A 157 1 = tz_j (J 7 0) := mi.2.2.1.2.2.1
theorem dr_k {n k i : Nat} {U : tz_U} (h : k ≠ 0) : dr_u n U k i = U k i := if_neg h
theorem dr_0 {n i : Nat} {U : tz_U} : dr_u n U 0 i = sh_d n (U 0 i) := if_pos rfl
theorem sh_in {n m : Nat} (h : m < n) (hn : n ≤ 8) : sh_d n (tz_j m) = tz_j m := by
  unfold sh_d
  rw [if_pos (by rw [nj_lt (by omega) (by omega)]; omega), if_pos (by rw [nj_lt (by omega) (by omega)]; exact h)]
theorem sh_out {n m : Nat} (h : n ≤ m) (hm : m < 100) : sh_d n (tz_j m) = tz_j 4294967295 := by
  unfold sh_d
  rw [if_pos (by rw [nj_lt (by omega) (by omega)]; omega), if_neg (by rw [nj_lt (by omega) (by omega)]; omega)]
theorem sh_row {n m : Nat} (h : 100 ≤ m) (hm : m < 1000) : sh_d n (tz_j m) = tz_j m := by
  unfold sh_d
  rw [if_neg (by rw [nj_lt (by omega) (by omega)]; omega)]
section TAIL
variable {J : tz_S} {WJ : sp_W1 J}
/-- restoring and telling all -/
theorem f_re {S : tz_S} {U : tz_U} {V : tz_V} {A : tz_Mem} {H : tz_Mem → tz_X} (WJ : sp_W1 J) (mi : MI J S J U V A) (u3 : U 3 1 = tz_j 1) (next : ∀ A', MI J J J (dr_u (J 1 0) U) V A' → OK1 (H A')) : OK1 (tz_C A (tz_bI (f_X11_restore A) (fun y1 A1 => if ¬ y1 = tz_j (J 1 0) then some (some (.int 0), A1) else tz_C A1 (tz_bL (f_L_told A1) (fun y2 A2 => if lg_cmp y2 (sp_told J WJ) = 0 then H A2 else some (some (.int 0), A2)))))) := by
  obtain ⟨o, w⟩ := c_restore mi.1 mi.2.1 u3
  refine st_I mi WJ.2.1 o w (fun A1 m1 => ?_)
  show OK1 (if ¬ tz_j (J 1 0) = tz_j (J 1 0) then _ else _)
  rw [if_neg (fun y => y rfl)]
  refine st_L m1 WJ.2.1 (c_told WJ m1.1 m1.2.1) (fun A2 m2 => ?_)
  show OK1 (if lg_cmp (sp_told J WJ) (sp_told J WJ) = 0 then _ else _)
  rw [if_pos (lg_self _)]
  exact next A2 m2
theorem f_1020 {S : tz_S} {U : tz_U} {V : tz_V} {A : tz_Mem} (mi : MI J S J U V A) (u3 : U 3 1 = tz_j 1) : OK1 (q_L_law_1020 (tz_j (J 1 0)) (sp_told J WJ) A) := by
  rw [e_L_law_1020]
  obtain ⟨o, w⟩ := c_restore mi.1 mi.2.1 u3
  refine st_I mi WJ.2.1 o w (fun A1 m1 => ?_)
  show OK1 (if ¬ tz_j (J 1 0) = tz_j (J 1 0) then _ else _)
  rw [if_neg (fun y => y rfl)]
  refine st_L m1 WJ.2.1 (c_told WJ m1.1 m1.2.1) (fun A2 m2 => ?_)
  show OK1 (if ¬ lg_cmp (sp_told J WJ) (sp_told J WJ) = 0 then _ else _)
  rw [if_neg (fun y => y (lg_self _))]
  exact ⟨A2, rfl, m2.2.2.2.2⟩
theorem f_1008 {S : tz_S} {U : tz_U} {V : tz_V} {A : tz_Mem} (mi : MI J S J U V A) (u3 : U 3 1 = tz_j 1) (u5 : U 0 5 = tz_j 100) : OK1 (q_L_law_1008 (tz_j (J 1 0)) (sp_told J WJ) A) := by
  rw [e_L_law_1008]
  refine st_I mi WJ.2.1 (c_holds (s := 5) mi.1 (by omega)) mi.2.1 (fun A1 m1 => ?_)
  show OK1 (if U 0 5 = 100 then _ else _)
  rw [if_pos (by rw [u5]; rfl)]
  exact f_1020 m1 u3
theorem f_994 {S : tz_S} {U : tz_U} {V : tz_V} {A : tz_Mem} {z12 : Int32} (mi : MI J S J U V A) (u3 : U 3 1 = tz_j 1) (u5 : U 0 5 = tz_j 100) (u2 : ¬ z12 < 0 → U 0 2 = tz_j 4294967295) : OK1 (q_L_law_994 (tz_j (J 1 0)) (sp_told J WJ) z12 A) := by
  rw [e_L_law_994]
  by_cases z : z12 < 0
  · rw [if_pos z]
    exact f_1008 mi u3 u5
  · rw [if_neg z]
    refine st_I mi WJ.2.1 (c_holds (s := 2) mi.1 (by omega)) mi.2.1 (fun A1 m1 => ?_)
    show OK1 (if ¬ U 0 2 = -1 then _ else _)
    rw [if_neg (fun y => y (by rw [u2 z]; rfl))]
    exact f_1008 m1 u3 u5
theorem f_977 {S : tz_S} {U : tz_U} {V : tz_V} {A : tz_Mem} {z12 : Int32} (mi : MI J S J U V A) (u3 : U 3 1 = tz_j 1) (u5 : U 0 5 = tz_j 100) (u1 : 0 < J 1 0 → U 0 1 = tz_j (J 1 0 - 1)) (u2 : ¬ z12 < 0 → U 0 2 = tz_j 4294967295) : OK1 (q_L_law_977 (tz_j (J 1 0)) (sp_told J WJ) z12 A) := by
  have h8 := WJ.1
  rw [e_L_law_977]
  by_cases z : J 1 0 = 0
  · rw [if_pos (by rw [z]; decide)]
    exact f_994 mi u3 u5 u2
  · rw [if_neg (by show ¬ tz_j (J 1 0) ≤ tz_j 0; rw [nj_le (by omega) (by omega)]; omega)]
    refine st_I mi WJ.2.1 (c_holds (s := 1) mi.1 (by omega)) mi.2.1 (fun A1 m1 => ?_)
    show OK1 (if ¬ U 0 1 = tz_j (J 1 0) - 1 then _ else _)
    rw [if_neg (fun y => y (by rw [u1 (by omega)]; exact (nj_sub (b := 1) (by omega)).symm))]
    exact f_994 m1 u3 u5 u2
/-- what the shelves hold, all through the changes -/
def UQ (J : tz_S) (z12 : Int32) (U : tz_U) : Prop := U 3 1 = tz_j 1 ∧ U 0 5 = tz_j 100 ∧ (0 < J 1 0 → U 0 1 = tz_j (J 1 0 - 1)) ∧ (¬ z12 < 0 → U 0 2 = tz_j (J 1 0))
theorem uq_ref {z12 : Int32} {U : tz_U} {r : Nat} (h : UQ J z12 U) : UQ J z12 (ur U r) := by
  obtain ⟨a, b, c, d⟩ := h
  unfold ur
  exact ⟨by rw [tz_uk (by omega)]; exact a, by rw [tz_uk (by omega)]; exact b, fun y => by rw [tz_uk (by omega)]; exact c y, fun y => by rw [tz_uk (by omega)]; exact d y⟩
theorem f_956 {S : tz_S} {U : tz_U} {V : tz_V} {A : tz_Mem} {z12 : Int32} (mi : MI J S J U V A) (q : UQ J z12 U) : OK1 (q_L_law_956 (tz_j (J 1 0)) (sp_told J WJ) z12 A) := by
  have h8 := WJ.1
  obtain ⟨u3, u5, u1, u2⟩ := q
  rw [e_L_law_956]
  refine f_re WJ mi u3 (fun A1 m1 => ?_)
  refine f_977 m1 ?_ ?_ (fun y => ?_) (fun y => ?_)
  · rw [dr_k (by omega)]
    exact u3
  · rw [dr_0, u5]
    exact sh_row (by omega) (by omega)
  · rw [dr_0, u1 y]
    exact sh_in (by omega) h8
  · rw [dr_0, u2 y]
    exact sh_out (Nat.le_refl _) (by omega)
theorem f_924 {S : tz_S} {U : tz_U} {V : tz_V} {A : tz_Mem} {z12 : Int32} (mi : MI J S J U V A) (q : UQ J z12 U) (s3 : S 0 3 ≤ 100) (j3 : J 0 3 ≤ 100) : OK1 (q_L_law_924 (tz_j (J 1 0)) (sp_told J WJ) z12 A) := by
  have h4 := WJ.2.1
  have w0 : WX 100 S J U := wx_to mi.2.1 s3 j3
  rw [e_L_law_924]
  refine st_I mi h4 (c_hours (n := 30) mi.1 w0 (by omega) (by omega) (by omega)) (WX_mo (wx_hours (n := 30) w0) (by omega)) (fun A1 m1 => ?_)
  have w1 := wx_hours (n := 30) w0
  refine st_I m1 h4 (c_dry (v := 60) m1.1 w1 (by omega)) (WX_mo (wx_dry w1 (by omega)) (by omega)) (fun A2 m2 => ?_)
  have w2 := wx_dry (v := 60) w1 (by omega)
  obtain ⟨o, w3⟩ := c_drought (n := 20) m2.1 w2 (by omega) (by omega) (by omega)
  refine st_I m2 h4 o (WX_mo w3 (by omega)) (fun A3 m3 => ?_)
  obtain ⟨x, e⟩ := l_at (k := 27) m3.2.2.2.1 (by omega)
  refine st_P m3 (show f_L_at 27 A3 = _ from e) ?_
  obtain ⟨v, hv, _, o4, w4⟩ := c_seed (x := x) m3.1 m3.2.1
  exact st_I m3 h4 o4 w4 (fun A4 m4 => f_956 m4 q)
theorem f_905 {S : tz_S} {U : tz_U} {V : tz_V} {A : tz_Mem} {z12 : Int32} (mi : MI J S J U V A) (q : UQ J z12 U) (s3 : S 0 3 ≤ 100) (j3 : J 0 3 ≤ 100) (s1 : J 1 0 ≤ S 1 0) (u6 : 1 < J 1 0 → U 0 6 = tz_j 102 ∧ U 1 6 = tz_j 2 ∧ Int64.toInt32 (V 6 0) = tz_j 0 ∧ Int64.toInt32 (V 6 1) = tz_j 1) : OK1 (q_L_law_905 (tz_j (J 1 0)) (sp_told J WJ) z12 A) := by
  have h8 := WJ.1
  have h4 := WJ.2.1
  rw [e_L_law_905]
  by_cases z : J 1 0 ≤ 1
  · rw [if_pos (by show tz_j (J 1 0) ≤ tz_j 1; rw [nj_le (by omega) (by omega)]; exact z)]
    exact f_924 mi q s3 j3
  · rw [if_neg (by show ¬ tz_j (J 1 0) ≤ tz_j 1; rw [nj_le (by omega) (by omega)]; exact z)]
    obtain ⟨a, b, v0, v1⟩ := u6 (by omega)
    have iw : sp_iw (S 1 0) 2 (fun i => Int64.toInt32 (V 6 i)) 2 0 := iw_of (w := fun i => i) mi.2.1.1.1.1 (fun j hj => by
      rcases (show j = 0 ∨ j = 1 by omega) with rfl | rfl
      · exact ⟨by omega, v0⟩
      · exact ⟨by omega, v1⟩) (fun j hj => by omega) (by omega) 2 0 rfl
    obtain ⟨o1, o2⟩ := c_storm (s := 6) (n := 2) (p := 1) (fo := 50) (ro := 9) (t := 2) (l := 2) mi.1 mi.2.1 (by omega) (by omega) (by omega) (by omega) a b (by omega) (by omega) (by omega) (by omega) iw
    by_cases y : S 7 0 < 4
    · refine st_I mi h4 (o1 y) (wx_storm (V := V) (s := 6) mi.2.1 y (by omega) (by omega) (by omega) (by omega) iw) (fun A1 m1 => f_924 m1 q ?_ j3)
      rw [addT_g (by omega)]
      exact s3
    · exact st_I mi h4 (o2 y) (wx_ref mi.2.1) (fun A1 m1 => f_924 m1 (uq_ref q) s3 j3)
theorem f_873 {S : tz_S} {U : tz_U} {V : tz_V} {A : tz_Mem} {z12 : Int32} (mi : MI J S J U V A) (q : UQ J z12 U) (s3 : S 0 3 ≤ 100) (j3 : J 0 3 ≤ 100) (s1 : J 1 0 ≤ S 1 0) : OK1 (q_L_law_873 (tz_j (J 1 0)) (sp_told J WJ) z12 A) := by
  have h8 := WJ.1
  have h4 := WJ.2.1
  rw [e_L_law_873]
  by_cases z : J 1 0 ≤ 1
  · rw [if_pos (by show tz_j (J 1 0) ≤ tz_j 1; rw [nj_le (by omega) (by omega)]; exact z)]
    exact f_905 mi q s3 j3 s1 (fun y => by omega)
  · rw [if_neg (by show ¬ tz_j (J 1 0) ≤ tz_j 1; rw [nj_le (by omega) (by omega)]; exact z)]
    refine st_I mi h4 (c_row (s := 6) (t := 2) (n := 2) mi.1 (by omega) (by omega) (by omega)) (wx_row mi.2.1 (by omega) (by omega)) (fun A1 m1 => ?_)
    show OK1 (if ¬ tz_j 1 = 1 then _ else _)
    rw [if_neg (fun y => y rfl)]
    have k0 : tz_u (tz_u U 0 6 (tz_j (100 + 2))) 1 6 (tz_j 2) 0 6 = tz_j 102 := by rw [tz_uk (by omega), tz_u1]
    have k1 : tz_u (tz_u U 0 6 (tz_j (100 + 2))) 1 6 (tz_j 2) 1 6 = tz_j 2 := tz_u1
    refine st_I m1 h4 (c_set (s := 6) (t := 2) (l := 2) (i := 1) (x := 1) m1.1 (by omega) (by omega) (by omega) (by omega) k0 k1) m1.2.1 (fun A2 m2 => ?_)
    show OK1 (if tz_j 1 = 1 then _ else _)
    rw [if_pos (show tz_j 1 = 1 from rfl)]
    refine f_905 m2 ?_ s3 j3 s1 (fun _ => ⟨k0, k1, ?_, ?_⟩)
    · obtain ⟨a, b, c, d⟩ := q
      exact ⟨by rw [tz_uk (by omega), tz_uk (by omega)]; exact a, by rw [tz_uk (by omega), tz_ui (by omega)]; exact b, fun y => by rw [tz_uk (by omega), tz_ui (by omega)]; exact c y, fun y => by rw [tz_uk (by omega), tz_ui (by omega)]; exact d y⟩
    · show Int64.toInt32 (if 6 = 6 ∧ 0 = 1 then sh_w 2 1 else if 6 = 6 then 0 else V 6 0) = _
      rw [if_neg (by omega), if_pos rfl]
      rfl
    · show Int64.toInt32 (if 6 = 6 ∧ 1 = 1 then sh_w 2 1 else if 6 = 6 then 0 else V 6 1) = _
      rw [if_pos ⟨rfl, rfl⟩]
      decide
theorem f_860 {S : tz_S} {U : tz_U} {V : tz_V} {A : tz_Mem} {z9 z12 : Int32} (mi : MI J S J U V A) (q : UQ J z12 U) (s3 : S 0 3 ≤ 100) (j3 : J 0 3 ≤ 100) (s1 : J 1 0 ≤ S 1 0) (s15 : J 15 0 ≤ S 15 0) (hz : 0 < J 15 0 → ∃ l, l < J 15 0 ∧ z9 = tz_j l) : OK1 (q_L_law_860 (tz_j (J 1 0)) (sp_told J WJ) z9 z12 A) := by
  have h4 := WJ.2.1
  have h12 := WJ.2.2.1
  rw [e_L_law_860, if_neg (mi_b mi), mi_2 mi]
  by_cases z : J 15 0 = 0
  · rw [if_pos (by rw [z]; decide)]
    exact f_873 mi q s3 j3 s1
  · rw [if_neg (by show ¬ tz_j (J 15 0) ≤ tz_j 0; rw [nj_le (by omega) (by omega)]; omega)]
    obtain ⟨l, hl, rfl⟩ := hz (by omega)
    obtain ⟨o1, o2⟩ := c_burn (l := l) mi.1 mi.2.1 (by omega)
    by_cases y : S 20 l < 200
    · exact st_I mi h4 (o1 y) (wx_burn mi.2.1 (by omega) y) (fun A1 m1 => f_873 m1 q s3 j3 s1)
    · exact st_I mi h4 (o2 y) mi.2.1 (fun A1 m1 => f_873 m1 q s3 j3 s1)
theorem f_829 {z9 z12 : Int32} (hz : 0 < J 15 0 → ∃ l, l < J 15 0 ∧ z9 = tz_j l) (j3 : J 0 3 ≤ 100) : ∀ k i S U V A, i + k = 3 → MI J S J U V A → UQ J z12 U → S 0 3 ≤ 100 → J 1 0 ≤ S 1 0 → J 15 0 ≤ S 15 0 → OK1 (q_L_law_829 (tz_j (J 1 0)) (sp_told J WJ) z9 z12 (tz_j i) A) := by
  have h8 := WJ.1
  have h4 := WJ.2.1
  intro k
  induction k with
  | zero =>
    intro i S U V A hi mi q s3 s1 s15
    obtain rfl : i = 3 := by omega
    rw [e_L_law_829, if_pos (by decide)]
    exact f_860 mi q s3 j3 s1 s15 hz
  | succ k ih =>
    intro i S U V A hi mi q s3 s1 s15
    rw [e_L_law_829, if_neg (by show ¬ tz_j 3 ≤ tz_j i; rw [nj_le (by omega) (by omega)]; omega)]
    by_cases z : J 1 0 ≤ 1
    · rw [if_pos (by show tz_j (J 1 0) ≤ tz_j 1; rw [nj_le (by omega) (by omega)]; exact z)]
      exact f_860 mi q s3 j3 s1 s15 hz
    · rw [if_neg (by show ¬ tz_j (J 1 0) ≤ tz_j 1; rw [nj_le (by omega) (by omega)]; exact z), show (5 : Int32) + tz_j i = tz_j (5 + i) from nj_add (a := 5), show tz_j i + 1 = tz_j (i + 1) from nj_add (b := 1)]
      obtain ⟨o1, o2⟩ := c_letter (a := i) (f := 0) (t := 1) (v := 5 + i) mi.1 mi.2.1 (by omega) (by omega) (by omega) (by omega) (by omega) (by omega)
      by_cases y : S 15 0 < 12
      · refine st_I mi h4 (o1 y) (wx_letter mi.2.1 (by omega) (by omega) (by omega) (by omega) (by omega) y) (fun A1 m1 => ih (i + 1) _ _ _ A1 (by omega) m1 q ?_ ?_ ?_)
        · rw [addL_g (by omega) (by omega) (by omega)]
          exact s3
        · rw [addL_g (by omega) (by omega) (by omega)]
          exact s1
        · rw [addL_15]
          omega
      · exact st_I mi h4 (o2 y) (wx_ref mi.2.1) (fun A1 m1 => ih (i + 1) _ _ _ A1 (by omega) m1 (uq_ref q) s3 s1 s15)
theorem f_791 {S : tz_S} {U : tz_U} {V : tz_V} {A : tz_Mem} {z9 z12 : Int32} (hz : 0 < J 15 0 → ∃ l, l < J 15 0 ∧ z9 = tz_j l) (j3 : J 0 3 ≤ 100) (mi : MI J S J U V A) (u3 : U 3 1 = tz_j 1) (u5 : U 0 5 = tz_j 100) (u1 : 0 < J 1 0 → U 0 1 = tz_j (J 1 0 - 1)) (s3 : S 0 3 ≤ 100) (s15 : J 15 0 ≤ S 15 0) (s1 : J 1 0 ≤ S 1 0) (h12 : z12 < 0 ∨ (z12 = tz_j (J 1 0) ∧ J 1 0 < S 1 0)) : OK1 (q_L_law_791 (tz_j (J 1 0)) (sp_told J WJ) z9 z12 A) := by
  have h8 := WJ.1
  have h4 := WJ.2.1
  have hS := mi.2.1.1.1.1
  rw [e_L_law_791]
  by_cases z : z12 < 0
  · rw [if_pos z, e_L_law_826]
    exact f_829 hz j3 3 0 S U V A rfl mi ⟨u3, u5, u1, fun y => absurd z y⟩ s3 s1 s15
  · obtain ⟨e, h⟩ := h12.resolve_left z
    rw [if_neg z, if_neg (fun y => y e)]
    refine st_I mi h4 (c_show (s := 2) (h := J 1 0) mi.1 (by omega) hS h) (wx_show mi.2.1 h) (fun A1 m1 => ?_)
    show OK1 (if ¬ tz_j 1 = 1 then _ else _)
    rw [if_neg (fun y => y rfl)]
    refine st_I m1 h4 (c_holds (s := 2) m1.1 (by omega)) m1.2.1 (fun A2 m2 => ?_)
    show OK1 (if tz_u U 0 2 (tz_j (J 1 0)) 0 2 = tz_j (J 1 0) then _ else _)
    rw [if_pos tz_u1, e_L_law_826]
    exact f_829 hz j3 3 0 _ _ _ _ rfl m2 ⟨by rw [tz_uk (by omega)]; exact u3, by rw [tz_ui (by omega)]; exact u5, fun y => by rw [tz_ui (by omega)]; exact u1 y, fun _ => tz_u1⟩ s3 s1 s15
theorem f_770 {S : tz_S} {U : tz_U} {V : tz_V} {A : tz_Mem} {z9 : Int32} (hz : 0 < J 15 0 → ∃ l, l < J 15 0 ∧ z9 = tz_j l) (j3 : J 0 3 ≤ 100) (mi : MI J S J U V A) (u3 : U 3 1 = tz_j 1) (u5 : U 0 5 = tz_j 100) (u1 : 0 < J 1 0 → U 0 1 = tz_j (J 1 0 - 1)) (s3 : S 0 3 ≤ 100) (s15 : J 15 0 ≤ S 15 0) (s1 : S 1 0 = J 1 0) : OK1 (q_L_law_770 (tz_j (J 1 0)) (sp_told J WJ) z9 A) := by
  have h8 := WJ.1
  have h4 := WJ.2.1
  rw [e_L_law_770]
  by_cases z : 8 ≤ J 1 0
  · rw [if_pos (by show tz_j 8 ≤ tz_j (J 1 0); rw [nj_le (by omega) (by omega)]; exact z)]
    exact f_791 hz j3 mi u3 u5 u1 s3 s15 (by omega) (Or.inl (by decide))
  · rw [if_neg (by show ¬ tz_j 8 ≤ tz_j (J 1 0); rw [nj_le (by omega) (by omega)]; exact z)]
    refine st_I mi h4 (c_hill (x := 6) (y := 9) mi.1 mi.2.1 (by omega) (by omega) (by omega)) (wx_hill mi.2.1 (by omega) (by omega) (by omega)) (fun A1 m1 => ?_)
    refine f_791 hz j3 m1 u3 u5 u1 ?_ ?_ ?_ (Or.inr ⟨by rw [s1], ?_⟩)
    · rw [addH_g (by omega)]
      exact s3
    · rw [addH_g (by omega)]
      exact s15
    · rw [addH_1]
      omega
    · rw [addH_1]
      omega
theorem f_729 {S : tz_S} {U : tz_U} {V : tz_V} {A : tz_Mem} {z9 : Int32} (hz : 0 < J 15 0 → ∃ l, l < J 15 0 ∧ z9 = tz_j l) (j3 : J 0 3 ≤ 100) (mi : MI J S J U V A) (u3 : U 3 1 = tz_j 1) (u5 : U 0 5 = tz_j 100) : OK1 (q_L_law_729 (tz_j (J 1 0)) (sp_told J WJ) z9 A) := by
  have h8 := WJ.1
  have h4 := WJ.2.1
  rw [e_L_law_729]
  refine f_re WJ mi u3 (fun A1 m1 => ?_)
  have v3 : dr_u (J 1 0) U 3 1 = tz_j 1 := by
    rw [dr_k (by omega)]
    exact u3
  have v5 : dr_u (J 1 0) U 0 5 = tz_j 100 := by
    rw [dr_0, u5]
    exact sh_row (by omega) (by omega)
  rw [e_L_law_750]
  by_cases z : J 1 0 = 0
  · rw [if_pos (by rw [z]; decide)]
    exact f_770 hz j3 m1 v3 v5 (fun y => by omega) j3 (Nat.le_refl _) rfl
  · rw [if_neg (by show ¬ tz_j (J 1 0) ≤ tz_j 0; rw [nj_le (by omega) (by omega)]; omega), show tz_j (J 1 0) - 1 = tz_j (J 1 0 - 1) from nj_sub (b := 1) (by omega)]
    refine st_I m1 h4 (c_show (s := 1) (h := J 1 0 - 1) m1.1 (by omega) h8 (by omega)) (wx_show m1.2.1 (by omega)) (fun A2 m2 => ?_)
    show OK1 (if tz_j 1 = 1 then _ else _)
    rw [if_pos (show tz_j 1 = 1 from rfl)]
    exact f_770 hz j3 m2 (by rw [tz_uk (by omega)]; exact v3) (by rw [tz_ui (by omega)]; exact v5) (fun _ => tz_u1) j3 (Nat.le_refl _) rfl
end TAIL
