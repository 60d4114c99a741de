/-! the law's own steps: five and twenty hours, and what goes ahead of them -/
theorem bt_or2 {x y : Int32} {p q : Nat → Bool} (hx : bt_is x p) (hy : bt_is y q) : bt_is (x ||| y) (fun l => p l || q l) := fun l hl => by
  rw [Int32.toBitVec_or, BitVec.getLsbD_or, hx l hl, hy l hl]
theorem pc_all {q : Nat → Bool} : ∀ n, (∀ l, l < n → q l = true) → pc q n = n := by
  intro n
  induction n with
  | zero => exact fun _ => rfl
  | succ n ih =>
    intro h
    rw [pc_s, ih (fun l hl => h l (by omega)), if_pos (h n (by omega))]
/-- bits of letters, counted -/
theorem bc_n {x : Int32} {m : Nat} {q : Nat → Prop} [DecidablePred q] (hm : m ≤ 12) (h : bt_is x (fun l => decide (l < m ∧ q l))) (A : tz_Mem) : f_J6_bitCount x A = some (some (.int (tz_j (pc (fun l => decide (q l)) m))), A) := by
  rw [bcE_s, bcE_is hm h (fun l hl _ => decide_eq_false (by omega)), pc_cg (r := fun l => decide (q l)) m (fun l hl => by simp [hl])]
section NIGHT
variable {J : tz_S} {WJ : sp_W1 J}
theorem f_567 {S : tz_S} {U : tz_U} {V : tz_V} {z7 z8 z9 z10 z11 z12 z16 z17 y : Int32} {t : Nat} (X : sp_X S) (e7 : S 7 0 = J 7 0) (e15 : S 15 0 = J 15 0) (ht : t < J 7 0) (hy : bt_is y (fun l => decide (l < S 15 0 ∧ S 20 l = 100 + t))) (next : ∀ A, MI J S J U V A → OK1 (q_L_law_513 (tz_j (J 1 0)) (sp_told J WJ) z7 z8 z9 z10 z11 z12 z16 z17 (tz_j (t + 1)) A)) : ∀ k e A, e + k = J 15 0 → MI J S J U V A → OK1 (q_L_law_567 (tz_j (J 1 0)) (sp_told J WJ) z7 z8 z9 z10 z11 z12 z16 z17 (tz_j t) y (tz_j e) A) := by
  have h4 := WJ.2.1
  have h12 := WJ.2.2.1
  intro k
  induction k with
  | zero =>
    intro e A he mi
    rw [e_L_law_567, if_neg (mi_b mi), mi_2 mi, if_pos (by rw [nj_le (by omega) (by omega)]; omega), show tz_j t + 1 = tz_j (t + 1) from nj_add (b := 1)]
    exact next A mi
  | succ k ih =>
    intro e A he mi
    have e605 : ∀ A, MI J S J U V A → OK1 (q_L_law_605 (tz_j (J 1 0)) (sp_told J WJ) z7 z8 z9 z10 z11 z12 z16 z17 (tz_j t) y (tz_j e) A) := fun A mi => by
      rw [e_L_law_605, show tz_j e + 1 = tz_j (e + 1) from nj_add (b := 1)]
      exact ih (e + 1) A (by omega) mi
    have hb : (((y >>> (tz_j e &&& 31)) &&& 1) = 1) = (y.toBitVec.getLsbD e = true) := bj_has (by omega) y
    rw [hy e (by omega)] at hb
    rw [e_L_law_567, if_neg (mi_b mi), mi_2 mi, if_neg (by rw [nj_le (by omega) (by omega)]; omega)]
    by_cases z : S 20 e = 100 + t
    · have hb1 : ((y >>> (tz_j e &&& 31)) &&& 1) = 1 := by
        rw [hb]
        exact decide_eq_true ⟨by omega, z⟩
      rw [if_neg (fun q => q hb1)]
      refine st_I mi h4 (c_letterOf (u := 3) mi.1 mi.2.1 (show e < S 15 0 by omega) (by omega)) mi.2.1 (fun A1 m1 => ?_)
      obtain ⟨v, hv, o⟩ := c_stormOf (u := 2) m1.1 m1.2.1 (show t < S 7 0 by omega) (by omega)
      obtain rfl := hv.2.2.1 rfl
      refine st_I m1 h4 o m1.2.1 (fun A2 m2 => ?_)
      have hw := (X t (by omega)).2 e (by omega) z
      have h9 := (mi.2.1.1.1.2.2.2.2.1 t (by omega)).2.2.2.1
      show OK1 (if tz_j (S 19 e) ≤ tz_j (S 9 t) then _ else _)
      rw [if_pos (by rw [nj_le (by omega) (by omega)]; exact hw)]
      exact e605 A2 m2
    · have hb1 : ¬ ((y >>> (tz_j e &&& 31)) &&& 1) = 1 := by
        rw [hb]
        simp [z]
      rw [if_pos hb1]
      exact e605 A mi
/-- letters at hills, or in one of the first t storms -/
abbrev inT (S : tz_S) (n t l : Nat) : Prop := S 20 l < n ∨ (100 ≤ S 20 l ∧ S 20 l < 100 + t)
theorem f_513 {S : tz_S} {U : tz_U} {V : tz_V} {z7 z9 z10 z11 z12 : Int32} (X : sp_X S) (e1 : S 1 0 = J 1 0) (e7 : S 7 0 = J 7 0) (e15 : S 15 0 = J 15 0) (next : ∀ A, MI J S J U V A → OK1 (q_L_law_338 (tz_j (J 1 0)) (sp_told J WJ) z7 (tz_j (sp_cw 200 (J 15 0) S)) z9 z10 z11 (z12 + 1) A)) : ∀ k t bits A, t + k = J 7 0 → MI J S J U V A → bt_is bits (fun l => decide (l < J 15 0 ∧ inT S (J 1 0) t l)) → OK1 (q_L_law_513 (tz_j (J 1 0)) (sp_told J WJ) z7 (tz_j (sp_cw 200 (J 15 0) S)) z9 z10 z11 z12 (tz_j (pc (fun l => decide (inT S (J 1 0) t l)) (J 15 0))) bits (tz_j t) A) := by
  have h8 := WJ.1
  have h4 := WJ.2.1
  have h12 := WJ.2.2.1
  intro k
  induction k with
  | zero =>
    intro t bits A ht mi hb
    obtain rfl : t = J 7 0 := by omega
    rw [e_L_law_513, if_neg (mi_b mi), mi_1 mi, if_pos (by rw [nj_le (by omega) (by omega)]; omega)]
    refine st_P mi (bc_n h12 hb A) ?_
    rw [if_neg (fun y => y rfl)]
    refine st_I mi h4 (c_status (u := 4) mi.1 mi.2.1 (by omega) (by omega)) mi.2.1 (fun A2 m2 => ?_)
    have s4 : st_v S 4 = sp_cw 300 (J 15 0) S := by
      show sp_cw 300 (S 15 0) S = _
      rw [e15]
    have b2 := cw_le (p := 200) (S := S) (J 15 0)
    have b3 := cw_le (p := 300) (S := S) (J 15 0)
    have b1 := pc_le (q := fun l => decide (inT S (J 1 0) (J 7 0) l)) (J 15 0)
    have tot : pc (fun l => decide (inT S (J 1 0) (J 7 0) l)) (J 15 0) + sp_cw 200 (J 15 0) S + sp_cw 300 (J 15 0) S = J 15 0 := by
      rw [pc_cw, pc_cw]
      have a1 := pc_add (q := fun l => decide (inT S (J 1 0) (J 7 0) l)) (r := fun l => decide (S 20 l = 200)) (s := fun l => decide (inT S (J 1 0) (J 7 0) l ∨ S 20 l = 200)) (J 15 0) (fun l hl => by simp) (fun l hl q => by
        have q2 := of_decide_eq_true q
        unfold inT at q2
        exact decide_eq_false (by omega))
      have a2 := pc_add (q := fun l => decide (inT S (J 1 0) (J 7 0) l ∨ S 20 l = 200)) (r := fun l => decide (S 20 l = 300)) (s := fun l => decide ((inT S (J 1 0) (J 7 0) l ∨ S 20 l = 200) ∨ S 20 l = 300)) (J 15 0) (fun l hl => by simp) (fun l hl q => by
        have q2 := of_decide_eq_true q
        unfold inT at q2
        exact decide_eq_false (by omega))
      have a3 := pc_all (q := fun l => decide ((inT S (J 1 0) (J 7 0) l ∨ S 20 l = 200) ∨ S 20 l = 300)) (J 15 0) (fun l hl => by
        have hw := (mi.2.1.1.2.1.2.1 l (by omega)).2.1
        unfold sp_wh at hw
        refine decide_eq_true ?_
        unfold inT
        omega)
      omega
    rw [if_neg (mi_b m2), mi_2 m2, s4, nj_add, nj_add, if_pos (by rw [tot])]
    exact next A2 m2
  | succ k ih =>
    intro t bits A ht mi hb
    rw [e_L_law_513, if_neg (mi_b mi), mi_1 mi, if_neg (by rw [nj_le (by omega) (by omega)]; omega)]
    obtain ⟨y, hy, o⟩ := c_stormOf (u := 4) mi.1 mi.2.1 (show t < S 7 0 by omega) (by omega)
    have hyb := hy.2.2.2.2 rfl
    have hyb2 : bt_is y (fun l => decide (l < J 15 0 ∧ S 20 l = 100 + t)) := by
      rw [← e15]
      exact hyb
    refine st_I mi h4 o mi.2.1 (fun A1 m1 => ?_)
    refine st_P m1 (bc_n h12 hyb2 A1) ?_
    refine st_P m1 (bc_n h12 hyb2 A1) ?_
    obtain ⟨v, hv, o2⟩ := c_stormOf (u := 3) m1.1 m1.2.1 (show t < S 7 0 by omega) (by omega)
    obtain rfl := hv.2.2.2.1 rfl
    refine st_I m1 h4 o2 m1.2.1 (fun A2 m2 => ?_)
    have hw := (X t (by omega)).1
    have h10 := (mi.2.1.1.1.2.2.2.2.1 t (by omega)).2.2.2.2.2.1
    have hcw := pc_cw (S := S) (p := 100 + t) (J 15 0)
    rw [e15, hcw] at hw
    rw [if_pos (by rw [nj_le (by omega) (by omega)]; exact hw), nj_add]
    have ea := pc_add (q := fun l => decide (inT S (J 1 0) t l)) (r := fun l => decide (S 20 l = 100 + t)) (s := fun l => decide (inT S (J 1 0) (t + 1) l)) (J 15 0) (fun l hl => by
      rw [← Bool.decide_or]
      refine decide_eq_decide.mpr ?_
      unfold inT
      omega) (fun l hl q => by
      have q2 := of_decide_eq_true q
      unfold inT at q2
      exact decide_eq_false (by omega))
    rw [← ea]
    refine f_567 X e7 e15 (by omega) hyb (fun A3 m3 => ih (t + 1) _ A3 (by omega) m3 ?_) (J 15 0) 0 A2 (Nat.zero_add _) m2
    refine bt_congr (bt_or2 hb hyb2) (fun l hl => ?_)
    show (decide (l < J 15 0 ∧ inT S (J 1 0) t l) || decide (l < J 15 0 ∧ S 20 l = 100 + t)) = decide (l < J 15 0 ∧ inT S (J 1 0) (t + 1) l)
    rw [← Bool.decide_or]
    refine decide_eq_decide.mpr ?_
    unfold inT
    omega
theorem f_470 {S : tz_S} {U : tz_U} {V : tz_V} {z7 z9 z10 z11 z12 : Int32} (X : sp_X S) (e1 : S 1 0 = J 1 0) (e7 : S 7 0 = J 7 0) (e15 : S 15 0 = J 15 0) (next : ∀ A, MI J S J U V A → OK1 (q_L_law_338 (tz_j (J 1 0)) (sp_told J WJ) z7 (tz_j (sp_cw 200 (J 15 0) S)) z9 z10 z11 (z12 + 1) A)) : ∀ k h bits A, h + k = J 1 0 → MI J S J U V A → bt_is bits (fun l => decide (l < J 15 0 ∧ S 20 l < h)) → OK1 (q_L_law_470 (tz_j (J 1 0)) (sp_told J WJ) z7 (tz_j (sp_cw 200 (J 15 0) S)) z9 z10 z11 z12 (tz_j (pc (fun l => decide (S 20 l < h)) (J 15 0))) bits (tz_j h) A) := by
  have h8 := WJ.1
  have h4 := WJ.2.1
  have h12 := WJ.2.2.1
  intro k
  induction k with
  | zero =>
    intro h bits A hh mi hb
    obtain rfl : h = J 1 0 := by omega
    have eT : ∀ l, (S 20 l < J 1 0) ↔ inT S (J 1 0) 0 l := fun l => by
      unfold inT
      omega
    rw [e_L_law_470, if_pos (by rw [nj_le (by omega) (by omega)]; omega), pc_cg (q := fun l => decide (S 20 l < J 1 0)) (r := fun l => decide (inT S (J 1 0) 0 l)) (J 15 0) (fun l _ => decide_eq_decide.mpr (eT l))]
    exact f_513 X e1 e7 e15 next (J 7 0) 0 bits A (Nat.zero_add _) mi (bt_congr hb (fun l hl => decide_eq_decide.mpr (and_congr_right (fun _ => eT l))))
  | succ k ih =>
    intro h bits A hh mi hb
    rw [e_L_law_470, if_neg (by rw [nj_le (by omega) (by omega)]; omega)]
    obtain ⟨y, hy, o⟩ := c_hillOf (u := 2) mi.1 mi.2.1 (show h < S 1 0 by omega) (by omega)
    have hyb := hy.2.2.1 rfl
    rw [e15] at hyb
    refine st_I mi h4 o mi.2.1 (fun A1 m1 => ?_)
    obtain ⟨y2, hy2, o2⟩ := c_hillOf (u := 2) m1.1 m1.2.1 (show h < S 1 0 by omega) (by omega)
    obtain rfl := hl_u (by omega) hy hy2
    refine st_I m1 h4 o2 m1.2.1 (fun A2 m2 => ?_)
    refine st_P m2 (bc_n h12 hyb A2) ?_
    have ea := pc_add (q := fun l => decide (S 20 l < h)) (r := fun l => decide (S 20 l = h)) (s := fun l => decide (S 20 l < h + 1)) (J 15 0) (fun l hl => by
      rw [← Bool.decide_or]
      refine decide_eq_decide.mpr ?_
      omega) (fun l hl q => by
      have q2 := of_decide_eq_true q
      exact decide_eq_false (by omega))
    rw [nj_add, ← ea, show tz_j h + 1 = tz_j (h + 1) from nj_add (b := 1)]
    refine ih (h + 1) _ A2 (by omega) m2 (bt_congr (bt_or2 hb hyb) (fun l hl => ?_))
    show (decide (l < J 15 0 ∧ S 20 l < h) || decide (l < J 15 0 ∧ S 20 l = h)) = decide (l < J 15 0 ∧ S 20 l < h + 1)
    rw [← Bool.decide_or]
    refine decide_eq_decide.mpr ?_
    omega
/-- one hour of the five and twenty -/
theorem f_385 {U : tz_U} {V : tz_V} {A : tz_Mem} {z9 z10 z11 z13 z14 : Int32} {k : Nat} (hk : k < 25) (j3 : J 0 3 ≤ 100) (X : sp_X (sp_n (k + 1) J)) (HJ : sp_H 1000 J) (mi : MI J (sp_n k J) J U V A) (hz : 0 < J 15 0 → ∃ l, l < J 15 0 ∧ z9 = tz_j l ∧ z13 = tz_j (sp_n (k + 1) J 20 l) ∧ z14 = tz_j (sp_n (k + 1) J 16 l)) (next : ∀ A, MI J (sp_n (k + 1) J) J U V A → OK1 (q_L_law_338 (tz_j (J 1 0)) (sp_told J WJ) (tz_j (J 0 3)) (tz_j (sp_cw 200 (J 15 0) (sp_n (k + 1) J))) z9 z10 z11 (tz_j (k + 1)) A)) : OK1 (q_L_law_385 (tz_j (J 1 0)) (sp_told J WJ) (tz_j (J 0 3)) (tz_j (sp_cw 200 (J 15 0) (sp_n k J))) z9 z10 z11 (tz_j k) z13 z14 A) := by
  have h8 := WJ.1
  have h4 := WJ.2.1
  have h12 := WJ.2.2.1
  obtain ⟨G, G3, Gk⟩ := n_G k J HJ
  obtain ⟨G', G3', Gk'⟩ := n_G (k + 1) J HJ
  have eS : sp_n (k + 1) J = sp_n 1 (sp_n k J) := n_add k J
  have e15 : sp_n k J 15 0 = J 15 0 := Gk 15 0 (by unfold sp_kp; omega) (by omega)
  have e15' : sp_n (k + 1) J 15 0 = J 15 0 := Gk' 15 0 (by unfold sp_kp; omega) (by omega)
  have e1' : sp_n (k + 1) J 1 0 = J 1 0 := Gk' 1 0 (by unfold sp_kp; omega) (by omega)
  have e7' : sp_n (k + 1) J 7 0 = J 7 0 := Gk' 7 0 (by unfold sp_kp; omega) (by omega)
  have w0 : WX 200 (sp_n k J) J U := wx_to mi.2.1 (by omega) (by omega)
  have o := c_hours (n := 1) mi.1 w0 (by omega) (by omega) (by omega)
  have w1 := WX_mo (M := 1000) (wx_hours (n := 1) w0) (by omega)
  rw [← eS] at o w1
  have mo : sp_cw 200 (J 15 0) (sp_n k J) ≤ sp_cw 200 (J 15 0) (sp_n (k + 1) J) := cw_mo _ (fun l _ q => by
    rw [eS]
    show sp_tk (sp_n k J) 20 l = 200
    rw [(tk_stay G (by omega)).1]
    exact q)
  have b1 := cw_le (p := 200) (S := sp_n (k + 1) J) (J 15 0)
  rw [e_L_law_385]
  refine st_I mi h4 o w1 (fun A1 m1 => ?_)
  rw [e15, e15', nj_sub mo, if_neg (by show ¬ tz_j _ < tz_j 0; rw [nj_lt (by omega) (by omega)]; omega), nj_add, show sp_cw 200 (J 15 0) (sp_n k J) + (sp_cw 200 (J 15 0) (sp_n (k + 1) J) - sp_cw 200 (J 15 0) (sp_n k J)) = sp_cw 200 (J 15 0) (sp_n (k + 1) J) by omega]
  refine st_I m1 h4 (c_status (u := 3) m1.1 m1.2.1 (by omega) (by omega)) m1.2.1 (fun A2 m2 => ?_)
  have s3 : st_v (sp_n (k + 1) J) 3 = sp_cw 200 (J 15 0) (sp_n (k + 1) J) := by
    show sp_cw 200 (sp_n (k + 1) J 15 0) (sp_n (k + 1) J) = _
    rw [e15']
  rw [s3, if_neg (fun y => y rfl)]
  refine st_I m2 h4 (c_status (u := 5) m2.1 m2.2.1 (by omega) (by omega)) m2.2.1 (fun A3 m3 => ?_)
  have s5 : tz_j (st_v (sp_n (k + 1) J) 5) = (tz_j (J 0 3) + tz_j k) + 1 := by
    show tz_j (sp_n (k + 1) J 0 3) = (tz_j (J 0 3) + tz_j k) + tz_j 1
    rw [G3', nj_add, nj_add]
    congr 1
  rw [if_neg (fun y => y s5), if_neg (mi_b m3), mi_2 m3]
  have go : ∀ A, MI J (sp_n (k + 1) J) J U V A → OK1 (q_L_law_461 (tz_j (J 1 0)) (sp_told J WJ) (tz_j (J 0 3)) (tz_j (sp_cw 200 (J 15 0) (sp_n (k + 1) J))) z9 z10 z11 (tz_j k) A) := fun A mi => by
    rw [e_L_law_461]
    have h0 : pc (fun l => decide (sp_n (k + 1) J 20 l < 0)) (J 15 0) = 0 := by
      rw [pc_cg (r := fun _ => false) (J 15 0) (fun l _ => decide_eq_false (Nat.not_lt_zero _))]
      exact pc_up (n := 0) (J 15 0) (Nat.zero_le _) (fun _ _ _ => rfl)
    have r := f_470 (z9 := z9) (z10 := z10) (z11 := z11) (z7 := tz_j (J 0 3)) (z12 := tz_j k) X e1' e7' e15' (fun A m => by
      rw [show tz_j k + 1 = tz_j (k + 1) from nj_add (b := 1)]
      exact next A m) (J 1 0) 0 (tz_j 0) A (Nat.zero_add _) mi (bt_congr bj_zero (fun l _ => (decide_eq_false (by omega)).symm))
    rw [h0] at r
    exact r
  by_cases z : J 15 0 = 0
  · rw [if_pos (by rw [z]; decide)]
    exact go A3 m3
  · rw [if_neg (by show ¬ tz_j (J 15 0) ≤ tz_j 0; rw [nj_le (by omega) (by omega)]; omega)]
    obtain ⟨l, hl, rfl, rfl, rfl⟩ := hz (by omega)
    refine st_I m3 h4 (c_letterOf (u := 4) m3.1 m3.2.1 (by rw [e15']; exact hl) (by omega)) m3.2.1 (fun A4 m4 => ?_)
    rw [if_neg (fun y => y rfl)]
    refine st_I m4 h4 (c_letterOf (u := 0) m4.1 m4.2.1 (by rw [e15']; exact hl) (by omega)) m4.2.1 (fun A5 m5 => ?_)
    rw [if_pos rfl]
    exact go A5 m5
/-- what is foreseen at the start, and what was paid -/
def FS (J : tz_S) (z9 z10 : Int32) : Prop := 0 < J 15 0 → ∃ l, l < J 15 0 ∧ z9 = tz_j l ∧ z10 = tz_j (sp_ar l 500 J 21 l)
theorem f_685 {U : tz_U} {V : tz_V} {A : tz_Mem} {z9 z10 : Int32} {P : Nat} (hP : P ≤ 594000) (j3 : J 0 3 ≤ 100) (HJ : sp_H 1000 J) (fs : FS J z9 z10) (u3 : U 3 1 = tz_j 1) (u5 : U 0 5 = tz_j 100) (mi : MI J (sp_n 25 J) J U V A) : OK1 (q_L_law_685 (tz_j (J 1 0)) (sp_told J WJ) z9 z10 (tz_j P) A) := by
  have h4 := WJ.2.1
  have h12 := WJ.2.2.1
  obtain ⟨G, G3, Gk⟩ := n_G 25 J HJ
  have e15 : sp_n 25 J 15 0 = J 15 0 := Gk 15 0 (by unfold sp_kp; omega) (by omega)
  have e715 : ∀ A, MI J (sp_n 25 J) J U V A → OK1 (q_L_law_715 (tz_j (J 1 0)) (sp_told J WJ) z9 (tz_j P) A) := fun A mi => by
    rw [e_L_law_715]
    refine st_I mi h4 (c_postage mi.1 mi.2.1 (by omega)) mi.2.1 (fun A1 m1 => ?_)
    obtain ⟨r, hr, e⟩ := po_le G (sp_n 25 J 15 0) 0 0 (Nat.zero_add _) (Nat.zero_le _)
    rw [e15] at hr
    rw [e, if_pos (by show tz_j r ≤ tz_j P + tz_j 594000; rw [nj_add, nj_le (by omega) (by omega)]; omega)]
    refine f_729 (fun y => ?_) j3 m1 u3 u5
    obtain ⟨l, hl, e9, _⟩ := fs y
    exact ⟨l, hl, e9⟩
  rw [e_L_law_685, if_neg (mi_b mi), mi_2 mi]
  by_cases z : J 15 0 = 0
  · rw [if_pos (by rw [z]; decide)]
    exact e715 A mi
  · rw [if_neg (by show ¬ tz_j (J 15 0) ≤ tz_j 0; rw [nj_le (by omega) (by omega)]; omega)]
    obtain ⟨l, hl, rfl, rfl⟩ := fs (by omega)
    obtain ⟨f1, f2⟩ := fs_25 HJ hl
    refine st_I mi h4 (c_letterOf (u := 5) mi.1 mi.2.1 (by rw [e15]; exact hl) (by omega)) mi.2.1 (fun A1 m1 => ?_)
    show OK1 (if tz_j (sp_n 25 J 21 l) < 0 then _ else _)
    by_cases y : sp_n 25 J 21 l = 4294967295
    · rw [if_pos (by rw [y]; decide)]
      exact e715 A1 m1
    · have hb := (G.2.1.2.1 l (by omega)).2.2
      have y2 : sp_n 25 J 20 l = 200 := by
        by_cases x : sp_n 25 J 20 l = 200
        · exact x
        · exact absurd (hb.2 x) y
      have hlt := hb.1 y2
      rw [if_neg (by show ¬ tz_j _ < tz_j 0; rw [nj_lt (by omega) (by omega)]; omega)]
      refine st_I m1 h4 (c_letterOf (u := 5) m1.1 m1.2.1 (by rw [e15]; exact hl) (by omega)) m1.2.1 (fun A2 m2 => ?_)
      show OK1 (if tz_j (sp_n 25 J 21 l) = tz_j (sp_ar l 500 J 21 l) then _ else _)
      rw [if_pos (by rw [f2 y])]
      exact e715 A2 m2
theorem f_338 {U : tz_U} {V : tz_V} {z9 z10 : Int32} {P : Nat} (hP : P ≤ 594000) (j3 : J 0 3 ≤ 100) (HJ : sp_H 1000 J) (XJ : sp_X J) (fs : FS J z9 z10) (u3 : U 3 1 = tz_j 1) (u5 : U 0 5 = tz_j 100) : ∀ j k A, k + j = 25 → MI J (sp_n k J) J U V A → OK1 (q_L_law_338 (tz_j (J 1 0)) (sp_told J WJ) (tz_j (J 0 3)) (tz_j (sp_cw 200 (J 15 0) (sp_n k J))) z9 z10 (tz_j P) (tz_j k) A) := by
  have h4 := WJ.2.1
  have h12 := WJ.2.2.1
  intro j
  induction j with
  | zero =>
    intro k A hk mi
    obtain rfl : k = 25 := by omega
    obtain ⟨G, G3, Gk⟩ := n_G 25 J HJ
    have e15 : sp_n 25 J 15 0 = J 15 0 := Gk 15 0 (by unfold sp_kp; omega) (by omega)
    have e685 : ∀ A, MI J (sp_n 25 J) J U V A → OK1 (q_L_law_685 (tz_j (J 1 0)) (sp_told J WJ) z9 z10 (tz_j P) A) := fun A mi => f_685 hP j3 HJ fs u3 u5 mi
    rw [e_L_law_338, if_pos (by decide), if_neg (mi_b mi), mi_2 mi]
    by_cases z : J 15 0 = 0
    · rw [if_pos (by rw [z]; decide)]
      exact e685 A mi
    · rw [if_neg (by show ¬ tz_j (J 15 0) ≤ tz_j 0; rw [nj_le (by omega) (by omega)]; omega)]
      obtain ⟨l, hl, rfl, rfl⟩ := fs (by omega)
      obtain ⟨f1, f2⟩ := fs_25 HJ hl
      by_cases y : sp_ar l 500 J 21 l = 4294967295
      · rw [if_pos (by rw [y]; decide)]
        exact e685 A mi
      · have hi := (ar_hi (l := l) HJ hl).resolve_left y
        rw [if_neg (by show ¬ tz_j _ < tz_j 0; rw [nj_lt (by omega) (by omega)]; omega)]
        by_cases x : J 0 3 + 25 < sp_ar l 500 J 21 l
        · rw [if_pos (by show tz_j (J 0 3) + tz_j 25 < _; rw [nj_add, nj_lt (by omega) (by omega)]; exact x)]
          exact e685 A mi
        · rw [if_neg (by show ¬ tz_j (J 0 3) + tz_j 25 < _; rw [nj_add, nj_lt (by omega) (by omega)]; exact x)]
          refine st_I mi h4 (c_letterOf (u := 5) mi.1 mi.2.1 (by rw [e15]; exact hl) (by omega)) mi.2.1 (fun A1 m1 => ?_)
          show OK1 (if ¬ tz_j (sp_n 25 J 21 l) = tz_j (sp_ar l 500 J 21 l) then _ else _)
          rw [if_neg (fun q => q (by rw [f1 y (by omega)]))]
          exact e685 A1 m1
  | succ j ih =>
    intro k A hk mi
    obtain ⟨G, G3, Gk⟩ := n_G k J HJ
    have e15 : sp_n k J 15 0 = J 15 0 := Gk 15 0 (by unfold sp_kp; omega) (by omega)
    have eS : sp_n (k + 1) J = sp_n 1 (sp_n k J) := n_add k J
    have X' : sp_X (sp_n (k + 1) J) := n_X (k + 1) 1000 J HJ XJ
    rw [e_L_law_338, if_neg (by show ¬ tz_j 25 ≤ tz_j k; rw [nj_le (by omega) (by omega)]; omega), if_neg (mi_b mi), mi_2 mi]
    by_cases z : J 15 0 = 0
    · rw [if_pos (by rw [z]; decide), e_L_law_365, if_neg (mi_b mi), mi_2 mi, if_pos (by rw [z]; decide)]
      exact f_385 (by omega) j3 X' HJ mi (fun y => by omega) (fun A m => ih (k + 1) A (by omega) m)
    · have n0 : ¬ tz_j (J 15 0) ≤ 0 := by
        show ¬ tz_j (J 15 0) ≤ tz_j 0
        rw [nj_le (by omega) (by omega)]
        omega
      rw [if_neg n0]
      have fs2 := fs
      obtain ⟨l, hl, rfl, _⟩ := fs2 (by omega)
      refine st_I mi h4 (c_behind (n := 1) (u := 0) mi.1 mi.2.1 (by omega) (show l < sp_n k J 15 0 by omega) (by omega) (by omega)) mi.2.1 (fun A1 m1 => ?_)
      rw [if_pos rfl, e_L_law_365, if_neg (mi_b m1), mi_2 m1, if_neg n0]
      refine st_I m1 h4 (c_behind (n := 1) (u := 1) m1.1 m1.2.1 (by omega) (show l < sp_n k J 15 0 by omega) (by omega) (by omega)) m1.2.1 (fun A2 m2 => ?_)
      rw [if_neg (by omega)]
      exact f_385 (by omega) j3 X' HJ m2 (fun _ => ⟨l, hl, rfl, by rw [eS], by rw [eS]⟩) (fun A m => ih (k + 1) A (by omega) m)
theorem f_281 {U : tz_U} {V : tz_V} {A : tz_Mem} (j3 : J 0 3 ≤ 100) (XJ : sp_X J) (u3 : U 3 1 = tz_j 1) (u5 : U 0 5 = tz_j 100) (mi : MI J J J U V A) : OK1 (q_L_law_281 (tz_j (J 1 0)) (sp_told J WJ) A) := by
  have h4 := WJ.2.1
  have h12 := WJ.2.2.1
  have HJ := mi.2.1.1
  have q3 : tz_g A 157 3 = tz_j (J 0 3) := mi.2.2.1.2.2.2.2.1
  rw [e_L_law_281, if_neg (mi_b mi), q3]
  refine st_I mi h4 (c_status (u := 3) mi.1 mi.2.1 (by omega) (by omega)) mi.2.1 (fun A1 m1 => ?_)
  obtain ⟨x, e1⟩ := l_at (k := 26) m1.2.2.2.1 (by omega)
  refine st_P m1 (show f_L_at 26 A1 = _ from e1) ?_
  rw [if_neg (mi_b m1), mi_2 m1]
  have em : (if 1 < tz_j (J 15 0) then tz_j (J 15 0) else 1) = tz_j (if 1 < J 15 0 then J 15 0 else 1) := by
    by_cases z : 1 < J 15 0
    · rw [if_pos z, if_pos (by show tz_j 1 < tz_j (J 15 0); rw [nj_lt (by omega) (by omega)]; exact z)]
    · rw [if_neg z, if_neg (by show ¬ tz_j 1 < tz_j (J 15 0); rw [nj_lt (by omega) (by omega)]; exact z)]
      rfl
  obtain ⟨l, hl, e2⟩ := l_some (m := if 1 < J 15 0 then J 15 0 else 1) x A1 (by split <;> omega) (by split <;> omega)
  rw [em]
  refine st_P m1 e2 ?_
  have fin : ∀ A z10, MI J J J U V A → FS J (tz_j l) z10 → OK1 (q_L_law_329 (tz_j (J 1 0)) (sp_told J WJ) (tz_j (J 0 3)) (tz_j (st_v J 3)) (tz_j l) z10 A) := fun A z10 mi fs => by
    rw [e_L_law_329]
    refine st_I mi h4 (c_postage mi.1 mi.2.1 (by omega)) mi.2.1 (fun A3 m3 => ?_)
    obtain ⟨P, hP, e⟩ := po_le HJ (J 15 0) 0 0 (Nat.zero_add _) (Nat.zero_le _)
    rw [e]
    exact f_338 (by omega) j3 HJ XJ fs u3 u5 25 0 A3 rfl m3
  rw [if_neg (mi_b m1), mi_2 m1]
  by_cases z : J 15 0 = 0
  · rw [if_pos (by rw [z]; decide)]
    exact fin A1 _ m1 (fun y => by omega)
  · rw [if_neg (by show ¬ tz_j (J 15 0) ≤ tz_j 0; rw [nj_le (by omega) (by omega)]; omega)]
    have hl2 : l < J 15 0 := by
      split at hl <;> omega
    refine st_I m1 h4 (c_arrives m1.1 m1.2.1 (by omega) hl2) m1.2.1 (fun A2 m2 => ?_)
    exact fin A2 _ m2 (fun _ => ⟨l, hl2, rfl, rfl⟩)
theorem f_213 {U : tz_U} {V : tz_V} {A : tz_Mem} (j3 : J 0 3 ≤ 100) (XJ : sp_X J) (u3 : U 3 1 = tz_j 1) (mi : MI J J J U V A) : OK1 (q_L_law_213 (tz_j (J 1 0)) (sp_told J WJ) A) := by
  have h8 := WJ.1
  have h4 := WJ.2.1
  rw [e_L_law_213]
  refine st_I mi h4 (c_row (s := 5) (t := 0) (n := 3) mi.1 (by omega) (by omega) (by omega)) (wx_row mi.2.1 (by omega) (by omega)) (fun A1 m1 => ?_)
  rw [if_neg (show ¬ ¬ tz_j 1 = 1 from fun y => y rfl)]
  have k0 : tz_u (tz_u U 0 5 (tz_j (100 + 0))) 1 5 (tz_j 3) 0 5 = tz_j 100 := by rw [tz_uk (by omega), tz_u1]
  have k1 : tz_u (tz_u U 0 5 (tz_j (100 + 0))) 1 5 (tz_j 3) 1 5 = tz_j 3 := tz_u1
  have k3 : tz_u (tz_u U 0 5 (tz_j (100 + 0))) 1 5 (tz_j 3) 3 1 = tz_j 1 := by rw [tz_uk (by omega), tz_uk (by omega)]; exact u3
  refine st_I m1 h4 (c_set (s := 5) (t := 0) (l := 3) (i := 0) (x := 98) m1.1 (by omega) (by omega) (by omega) (by omega) k0 k1) m1.2.1 (fun A2 m2 => ?_)
  rw [if_neg (show ¬ ¬ tz_j 1 = 1 from fun y => y rfl)]
  generalize tz_u (tz_u U 0 5 (tz_j (100 + 0))) 1 5 (tz_j 3) = U2 at *
  have hv0 : Int64.toInt32 ((fun s' i' => if s' = 5 ∧ i' = 0 then sh_w 0 98 else (fun s' i => if s' = 5 then 0 else V s' i) s' i') 5 0) = tz_j 98 := by
    show Int64.toInt32 (if 5 = 5 ∧ 0 = 0 then sh_w 0 98 else _) = _
    rw [if_pos ⟨rfl, rfl⟩]
    decide
  have hv1 : Int64.toInt32 ((fun s' i' => if s' = 5 ∧ i' = 0 then sh_w 0 98 else (fun s' i => if s' = 5 then 0 else V s' i) s' i') 5 1) = tz_j 0 := by
    show Int64.toInt32 (if 5 = 5 ∧ 1 = 0 then sh_w 0 98 else if 5 = 5 then 0 else V 5 1) = _
    rw [if_neg (by omega), if_pos rfl]
    rfl
  have hv2 : Int64.toInt32 ((fun s' i' => if s' = 5 ∧ i' = 0 then sh_w 0 98 else (fun s' i => if s' = 5 then 0 else V s' i) s' i') 5 2) = tz_j 0 := by
    show Int64.toInt32 (if 5 = 5 ∧ 2 = 0 then sh_w 0 98 else if 5 = 5 then 0 else V 5 2) = _
    rw [if_neg (by omega), if_pos rfl]
    rfl
  generalize (fun s' i' => if s' = 5 ∧ i' = 0 then sh_w 0 98 else (fun s' i => if s' = 5 then 0 else V s' i) s' i' : tz_V) = V2 at *
  obtain ⟨o, w⟩ := c_sky6 m2.1 m2.2.1 k0 k1 hv0 hv1 hv2
  refine st_I m2 h4 o w (fun A3 m3 => ?_)
  rw [if_neg (show ¬ ¬ tz_j 4294967290 = -6 from fun y => y rfl)]
  refine st_I m3 h4 (c_fault m3.1) m3.2.1 (fun A4 m4 => ?_)
  rw [if_neg (show ¬ ¬ tz_u (ur U2 6) 3 0 (tz_j 1) 3 0 = 1 from fun y => y (by rw [tz_u1]; rfl))]
  have r0 : tz_u (ur U2 6) 3 0 (tz_j 1) 0 5 = tz_j 100 := by
    unfold ur
    rw [tz_uk (by omega), tz_uk (by omega)]
    exact k0
  have r1 : tz_u (ur U2 6) 3 0 (tz_j 1) 1 5 = tz_j 3 := by
    unfold ur
    rw [tz_uk (by omega), tz_uk (by omega)]
    exact k1
  have r3 : tz_u (ur U2 6) 3 0 (tz_j 1) 3 1 = tz_j 1 := by
    unfold ur
    rw [tz_ui (by omega), tz_uk (by omega)]
    exact k3
  generalize tz_u (ur U2 6) 3 0 (tz_j 1) = U3 at *
  have nw : ¬ sp_iw (J 1 0) 2 (fun i => Int64.toInt32 (V2 5 i)) 2 0 := fun q => by
    obtain ⟨h, hh, e⟩ := q.1
    have e2 : tz_j 98 = tz_j h := hv0.symm.trans e
    have := nj_inj (by omega) (by omega) e2
    omega
  refine st_I m4 h4 (c_storm6 (s := 5) (n := 2) (p := 1) (fo := 1) (ro := 1) (t := 0) (l := 3) m4.1 m4.2.1 (by omega) (by omega) (by omega) (by omega) r0 r1 (by omega) (by omega) (by omega) (by omega) nw) (wx_ref m4.2.1) (fun A5 m5 => ?_)
  rw [if_neg (show ¬ ¬ tz_j 4294967290 = -6 from fun y => y rfl)]
  refine st_L m5 h4 (c_told WJ m5.1 m5.2.1) (fun A6 m6 => ?_)
  rw [if_pos (lg_self _)]
  refine f_281 j3 XJ ?_ ?_ m6
  · unfold ur
    rw [tz_uk (by omega)]
    exact r3
  · unfold ur
    rw [tz_uk (by omega)]
    exact r0
theorem f_110 {U : tz_U} {V : tz_V} {A : tz_Mem} (j3 : J 0 3 ≤ 100) (XJ : sp_X J) (u3 : U 3 1 = tz_j 1) (u5 : U 0 5 = tz_j 4294967295) (mi : MI J J J U V A) : OK1 (q_L_law_110 (tz_j (J 1 0)) (sp_told J WJ) A) := by
  have h8 := WJ.1
  have h4 := WJ.2.1
  have h12 := WJ.2.2.1
  have kp : ∀ (U : tz_U) r, ur U r 3 1 = U 3 1 ∧ ur U r 0 5 = U 0 5 := fun U r => by
    unfold ur
    exact ⟨tz_uk (by omega), tz_uk (by omega)⟩
  rw [e_L_law_110]
  refine st_I mi h4 (c_hours0 mi.1) (wx_ref mi.2.1) (fun A1 m1 => ?_)
  rw [if_neg (show ¬ ¬ tz_j 4294967290 = -6 from fun y => y rfl)]
  refine st_I m1 h4 (c_hours501 m1.1) (wx_ref m1.2.1) (fun A2 m2 => ?_)
  rw [if_neg (show ¬ ¬ tz_j 4294967290 = -6 from fun y => y rfl), if_neg (mi_b m2), mi_2 m2]
  refine st_I m2 h4 (c_burn5 m2.1 m2.2.1) (wx_ref m2.2.1) (fun A3 m3 => ?_)
  rw [if_neg (show ¬ ¬ tz_j 4294967291 = -5 from fun y => y rfl)]
  refine st_I m3 h4 (c_dry101 m3.1) (wx_ref m3.2.1) (fun A4 m4 => ?_)
  rw [if_neg (show ¬ ¬ tz_j 4294967290 = -6 from fun y => y rfl)]
  refine st_I m4 h4 (c_drought201 m4.1) (wx_ref m4.2.1) (fun A5 m5 => ?_)
  rw [if_neg (show ¬ ¬ tz_j 4294967290 = -6 from fun y => y rfl)]
  refine st_I m5 h4 (c_hill7 m5.1) (wx_ref m5.2.1) (fun A6 m6 => ?_)
  rw [if_neg (show ¬ ¬ tz_j 4294967295 = -1 from fun y => y rfl)]
  refine st_I m6 h4 (c_letter1 m6.1 m6.2.1) (wx_ref m6.2.1) (fun A7 m7 => ?_)
  rw [if_neg (show ¬ ¬ tz_j 4294967295 = -1 from fun y => y rfl)]
  refine st_I m7 h4 (c_sky3 m7.1 m7.2.1 (by rw [(kp _ _).2, (kp _ _).2, (kp _ _).2, (kp _ _).2, (kp _ _).2, (kp _ _).2, (kp _ _).2]; exact u5)) (wx_ref m7.2.1) (fun A8 m8 => ?_)
  rw [if_neg (show ¬ ¬ tz_j 4294967293 = -3 from fun y => y rfl)]
  refine st_L m8 h4 (c_told WJ m8.1 m8.2.1) (fun A9 m9 => ?_)
  rw [if_pos (lg_self _)]
  exact f_213 j3 XJ (by rw [(kp _ _).1, (kp _ _).1, (kp _ _).1, (kp _ _).1, (kp _ _).1, (kp _ _).1, (kp _ _).1, (kp _ _).1]; exact u3) m9
theorem f_79 {K : tz_S} {U : tz_U} {V : tz_V} {A : tz_Mem} (j3 : J 0 3 ≤ 100) (XJ : sp_X J) (u5 : U 0 5 = tz_j 4294967295) (mi : MI J J K U V A) : OK1 (q_L_law_79 (tz_j (J 1 0)) (sp_told J WJ) A) := by
  have h4 := WJ.2.1
  rw [e_L_law_79]
  refine st_L mi h4 (c_told WJ mi.1 mi.2.1) (fun A1 m1 => ?_)
  rw [if_neg (fun y => y (lg_self _))]
  obtain ⟨o, w⟩ := c_image m1.1 m1.2.1
  refine st_I m1 h4 o w (fun A2 m2 => ?_)
  rw [if_neg (fun y => y rfl)]
  refine st_L m2 h4 (c_told WJ m2.1 m2.2.1) (fun A3 m3 => ?_)
  rw [if_pos (lg_self _)]
  exact f_110 j3 XJ tz_u1 (by rw [tz_uk (by omega)]; exact u5) m3
end NIGHT
/-- the law, from the fresh object and its rows on -/
theorem f_61 {S K : tz_S} {U : tz_U} {V : tz_V} {A : tz_Mem} (c : CX S K U V A) (ww : WX 1000 S K U) (s1 : S 1 0 = 0) (s7 : S 7 0 = 0) (s15 : S 15 0 = 0) (s03 : S 0 3 = 0) (u5 : U 0 5 = tz_j 4294967295) (hA : ¬ A.1 ≤ 158) (hA2 : A.1 ≤ 159) (hL : tz_gr A 0 0 ≤ 260) (hz : ∀ i, i < 64 → tz_g A 157 i = tz_j 0) : OK1 (q_L_law_61 A) := by
  obtain ⟨J, K', U', V', A', e, d1, d2, d3, d4, d5, d6, d7⟩ := w_world c ww s1 s7 s15 s03 u5 hA hA2 hL hz
  have mi : MI J J K' U' V' A' := ⟨d1, d2, d3, d4⟩
  have WJ := d2.1.1
  rw [e_L_law_61, tz_C_pos c.2.2.2, e, tz_bV_some, if_neg (mi_b mi), d3.2.1]
  exact st_L mi WJ.2.1 (c_told WJ d1 d2) (fun A2 m2 => f_79 (by omega) d7 d5 m2)
