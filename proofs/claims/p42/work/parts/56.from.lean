/-! the script lies as it lay -/
def tz_Q (B A : tz_Mem) (n : Nat) : Prop := 17 ≤ n ∧ A.1 = n ∧ tz_sc B A
theorem tz_Q_s {B A : tz_Mem} {n a b : Nat} {v : Int32} (h : tz_Q B A n) (ha : Nat.blt 0 a = true) : tz_Q B (tz_s A a b v) n := by
  have ha2 : 0 < a := Nat.le_of_ble_eq_true ha
  refine ⟨h.1, h.2.1, h.2.2.1, fun i => ?_⟩
  rw [← h.2.2.2 i]
  exact if_neg (fun q => by omega)
theorem tz_Q_sr {B A : tz_Mem} {n a b : Nat} {v : Nat} (h : tz_Q B A n) (ha : Nat.blt 0 a = true) : tz_Q B (tz_sr A a b v) n := by
  have ha2 : 0 < a := Nat.le_of_ble_eq_true ha
  refine ⟨h.1, h.2.1, ?_, h.2.2.2⟩
  rw [← h.2.2.1]
  exact if_neg (fun q => by omega)
theorem tz_Q_nw {B A : tz_Mem} {n c n2 : Nat} (h : tz_Q B A n) (hn : n + c = n2) : tz_Q B (tz_nw A c) n2 := by
  subst hn
  obtain ⟨h0, h1, h2, h3⟩ := h
  refine ⟨by omega, by show A.1 + c = n + c; rw [h1], ?_, fun i => ?_⟩
  · rw [← h2]
    exact if_neg (by omega)
  · rw [← h3 i]
    exact if_neg (by omega)

theorem j_J7_fill_53178_k19 {B A : tz_Mem} (h : tz_Q B A 30) : tz_Q B (c_J7_fill_53178_k19 A) 30 := (tz_Q_s (tz_Q_s (tz_Q_s (tz_Q_s (tz_Q_s (tz_Q_s (tz_Q_s (tz_Q_s h rfl) rfl) rfl) rfl) rfl) rfl) rfl) rfl)
theorem j_X8_init_k18 {B A : tz_Mem} (h : tz_Q B A 19) : tz_Q B (c_X8_init_k18 A) 30 := (j_J7_fill_53178_k19 (tz_Q_sr (tz_Q_nw (n2 := 30) (tz_Q_sr (tz_Q_nw (n2 := 21) (tz_Q_sr (tz_Q_nw (n2 := 20) h rfl) rfl) rfl) rfl) rfl) rfl))
theorem j_X3_init_k31 {B A : tz_Mem} (h : tz_Q B A 32) : tz_Q B (c_X3_init_k31 A) 37 := (tz_Q_sr (tz_Q_nw (n2 := 37) (tz_Q_sr (tz_Q_nw (n2 := 36) (tz_Q_sr (tz_Q_nw (n2 := 35) (tz_Q_sr (tz_Q_nw (n2 := 34) (tz_Q_sr (tz_Q_nw (n2 := 33) h rfl) rfl) rfl) rfl) rfl) rfl) rfl) rfl) rfl) rfl)
theorem j_X10_init_k37 {B A : tz_Mem} (h : tz_Q B A 38) : tz_Q B (c_X10_init_k37 A) 45 := (tz_Q_sr (tz_Q_nw (n2 := 45) (tz_Q_sr (tz_Q_nw (n2 := 44) (tz_Q_sr (tz_Q_nw (n2 := 43) (tz_Q_sr (tz_Q_nw (n2 := 42) (tz_Q_sr (tz_Q_nw (n2 := 41) (tz_Q_sr (tz_Q_nw (n2 := 40) (tz_Q_sr (tz_Q_nw (n2 := 39) h rfl) rfl) rfl) rfl) rfl) rfl) rfl) rfl) rfl) rfl) rfl) rfl) rfl) rfl)
theorem j_X4_init_k45 {B A : tz_Mem} (h : tz_Q B A 46) : tz_Q B (c_X4_init_k45 A) 53 := (tz_Q_sr (tz_Q_nw (n2 := 53) (tz_Q_sr (tz_Q_nw (n2 := 52) (tz_Q_sr (tz_Q_nw (n2 := 51) (tz_Q_sr (tz_Q_nw (n2 := 50) (tz_Q_sr (tz_Q_nw (n2 := 49) (tz_Q_sr (tz_Q_nw (n2 := 48) (tz_Q_sr (tz_Q_nw (n2 := 47) h rfl) rfl) rfl) rfl) rfl) rfl) rfl) rfl) rfl) rfl) rfl) rfl) rfl) rfl)
theorem j_X9_init_k30 {B A : tz_Mem} (h : tz_Q B A 31) : tz_Q B (c_X9_init_k30 A) 53 := (tz_Q_s (tz_Q_s (tz_Q_s (tz_Q_sr (j_X4_init_k45 (tz_Q_nw (n2 := 46) (tz_Q_sr (j_X10_init_k37 (tz_Q_nw (n2 := 38) (tz_Q_sr (j_X3_init_k31 (tz_Q_nw (n2 := 32) h rfl)) rfl) rfl)) rfl) rfl)) rfl) rfl) rfl) rfl)
theorem j_X3_init_k54 {B A : tz_Mem} (h : tz_Q B A 55) : tz_Q B (c_X3_init_k54 A) 60 := (tz_Q_sr (tz_Q_nw (n2 := 60) (tz_Q_sr (tz_Q_nw (n2 := 59) (tz_Q_sr (tz_Q_nw (n2 := 58) (tz_Q_sr (tz_Q_nw (n2 := 57) (tz_Q_sr (tz_Q_nw (n2 := 56) h rfl) rfl) rfl) rfl) rfl) rfl) rfl) rfl) rfl) rfl)
theorem j_X10_init_k60 {B A : tz_Mem} (h : tz_Q B A 61) : tz_Q B (c_X10_init_k60 A) 68 := (tz_Q_sr (tz_Q_nw (n2 := 68) (tz_Q_sr (tz_Q_nw (n2 := 67) (tz_Q_sr (tz_Q_nw (n2 := 66) (tz_Q_sr (tz_Q_nw (n2 := 65) (tz_Q_sr (tz_Q_nw (n2 := 64) (tz_Q_sr (tz_Q_nw (n2 := 63) (tz_Q_sr (tz_Q_nw (n2 := 62) h rfl) rfl) rfl) rfl) rfl) rfl) rfl) rfl) rfl) rfl) rfl) rfl) rfl) rfl)
theorem j_X4_init_k68 {B A : tz_Mem} (h : tz_Q B A 69) : tz_Q B (c_X4_init_k68 A) 76 := (tz_Q_sr (tz_Q_nw (n2 := 76) (tz_Q_sr (tz_Q_nw (n2 := 75) (tz_Q_sr (tz_Q_nw (n2 := 74) (tz_Q_sr (tz_Q_nw (n2 := 73) (tz_Q_sr (tz_Q_nw (n2 := 72) (tz_Q_sr (tz_Q_nw (n2 := 71) (tz_Q_sr (tz_Q_nw (n2 := 70) h rfl) rfl) rfl) rfl) rfl) rfl) rfl) rfl) rfl) rfl) rfl) rfl) rfl) rfl)
theorem j_X9_init_k53 {B A : tz_Mem} (h : tz_Q B A 54) : tz_Q B (c_X9_init_k53 A) 76 := (tz_Q_s (tz_Q_s (tz_Q_s (tz_Q_sr (j_X4_init_k68 (tz_Q_nw (n2 := 69) (tz_Q_sr (j_X10_init_k60 (tz_Q_nw (n2 := 61) (tz_Q_sr (j_X3_init_k54 (tz_Q_nw (n2 := 55) h rfl)) rfl) rfl)) rfl) rfl)) rfl) rfl) rfl) rfl)
theorem j_X3_init_k77 {B A : tz_Mem} (h : tz_Q B A 78) : tz_Q B (c_X3_init_k77 A) 83 := (tz_Q_sr (tz_Q_nw (n2 := 83) (tz_Q_sr (tz_Q_nw (n2 := 82) (tz_Q_sr (tz_Q_nw (n2 := 81) (tz_Q_sr (tz_Q_nw (n2 := 80) (tz_Q_sr (tz_Q_nw (n2 := 79) h rfl) rfl) rfl) rfl) rfl) rfl) rfl) rfl) rfl) rfl)
theorem j_X10_init_k83 {B A : tz_Mem} (h : tz_Q B A 84) : tz_Q B (c_X10_init_k83 A) 91 := (tz_Q_sr (tz_Q_nw (n2 := 91) (tz_Q_sr (tz_Q_nw (n2 := 90) (tz_Q_sr (tz_Q_nw (n2 := 89) (tz_Q_sr (tz_Q_nw (n2 := 88) (tz_Q_sr (tz_Q_nw (n2 := 87) (tz_Q_sr (tz_Q_nw (n2 := 86) (tz_Q_sr (tz_Q_nw (n2 := 85) h rfl) rfl) rfl) rfl) rfl) rfl) rfl) rfl) rfl) rfl) rfl) rfl) rfl) rfl)
theorem j_X4_init_k91 {B A : tz_Mem} (h : tz_Q B A 92) : tz_Q B (c_X4_init_k91 A) 99 := (tz_Q_sr (tz_Q_nw (n2 := 99) (tz_Q_sr (tz_Q_nw (n2 := 98) (tz_Q_sr (tz_Q_nw (n2 := 97) (tz_Q_sr (tz_Q_nw (n2 := 96) (tz_Q_sr (tz_Q_nw (n2 := 95) (tz_Q_sr (tz_Q_nw (n2 := 94) (tz_Q_sr (tz_Q_nw (n2 := 93) h rfl) rfl) rfl) rfl) rfl) rfl) rfl) rfl) rfl) rfl) rfl) rfl) rfl) rfl)
theorem j_X9_init_k76 {B A : tz_Mem} (h : tz_Q B A 77) : tz_Q B (c_X9_init_k76 A) 99 := (tz_Q_s (tz_Q_s (tz_Q_s (tz_Q_sr (j_X4_init_k91 (tz_Q_nw (n2 := 92) (tz_Q_sr (j_X10_init_k83 (tz_Q_nw (n2 := 84) (tz_Q_sr (j_X3_init_k77 (tz_Q_nw (n2 := 78) h rfl)) rfl) rfl)) rfl) rfl)) rfl) rfl) rfl) rfl)
theorem j_X3_init_k100 {B A : tz_Mem} (h : tz_Q B A 101) : tz_Q B (c_X3_init_k100 A) 106 := (tz_Q_sr (tz_Q_nw (n2 := 106) (tz_Q_sr (tz_Q_nw (n2 := 105) (tz_Q_sr (tz_Q_nw (n2 := 104) (tz_Q_sr (tz_Q_nw (n2 := 103) (tz_Q_sr (tz_Q_nw (n2 := 102) h rfl) rfl) rfl) rfl) rfl) rfl) rfl) rfl) rfl) rfl)
theorem j_X10_init_k106 {B A : tz_Mem} (h : tz_Q B A 107) : tz_Q B (c_X10_init_k106 A) 114 := (tz_Q_sr (tz_Q_nw (n2 := 114) (tz_Q_sr (tz_Q_nw (n2 := 113) (tz_Q_sr (tz_Q_nw (n2 := 112) (tz_Q_sr (tz_Q_nw (n2 := 111) (tz_Q_sr (tz_Q_nw (n2 := 110) (tz_Q_sr (tz_Q_nw (n2 := 109) (tz_Q_sr (tz_Q_nw (n2 := 108) h rfl) rfl) rfl) rfl) rfl) rfl) rfl) rfl) rfl) rfl) rfl) rfl) rfl) rfl)
theorem j_X4_init_k114 {B A : tz_Mem} (h : tz_Q B A 115) : tz_Q B (c_X4_init_k114 A) 122 := (tz_Q_sr (tz_Q_nw (n2 := 122) (tz_Q_sr (tz_Q_nw (n2 := 121) (tz_Q_sr (tz_Q_nw (n2 := 120) (tz_Q_sr (tz_Q_nw (n2 := 119) (tz_Q_sr (tz_Q_nw (n2 := 118) (tz_Q_sr (tz_Q_nw (n2 := 117) (tz_Q_sr (tz_Q_nw (n2 := 116) h rfl) rfl) rfl) rfl) rfl) rfl) rfl) rfl) rfl) rfl) rfl) rfl) rfl) rfl)
theorem j_X9_init_k99 {B A : tz_Mem} (h : tz_Q B A 100) : tz_Q B (c_X9_init_k99 A) 122 := (tz_Q_s (tz_Q_s (tz_Q_s (tz_Q_sr (j_X4_init_k114 (tz_Q_nw (n2 := 115) (tz_Q_sr (j_X10_init_k106 (tz_Q_nw (n2 := 107) (tz_Q_sr (j_X3_init_k100 (tz_Q_nw (n2 := 101) h rfl)) rfl) rfl)) rfl) rfl)) rfl) rfl) rfl) rfl)
theorem j_X3_init_k125 {B A : tz_Mem} (h : tz_Q B A 126) : tz_Q B (c_X3_init_k125 A) 131 := (tz_Q_sr (tz_Q_nw (n2 := 131) (tz_Q_sr (tz_Q_nw (n2 := 130) (tz_Q_sr (tz_Q_nw (n2 := 129) (tz_Q_sr (tz_Q_nw (n2 := 128) (tz_Q_sr (tz_Q_nw (n2 := 127) h rfl) rfl) rfl) rfl) rfl) rfl) rfl) rfl) rfl) rfl)
theorem j_X10_init_k131 {B A : tz_Mem} (h : tz_Q B A 132) : tz_Q B (c_X10_init_k131 A) 139 := (tz_Q_sr (tz_Q_nw (n2 := 139) (tz_Q_sr (tz_Q_nw (n2 := 138) (tz_Q_sr (tz_Q_nw (n2 := 137) (tz_Q_sr (tz_Q_nw (n2 := 136) (tz_Q_sr (tz_Q_nw (n2 := 135) (tz_Q_sr (tz_Q_nw (n2 := 134) (tz_Q_sr (tz_Q_nw (n2 := 133) h rfl) rfl) rfl) rfl) rfl) rfl) rfl) rfl) rfl) rfl) rfl) rfl) rfl) rfl)
theorem j_X4_init_k139 {B A : tz_Mem} (h : tz_Q B A 140) : tz_Q B (c_X4_init_k139 A) 147 := (tz_Q_sr (tz_Q_nw (n2 := 147) (tz_Q_sr (tz_Q_nw (n2 := 146) (tz_Q_sr (tz_Q_nw (n2 := 145) (tz_Q_sr (tz_Q_nw (n2 := 144) (tz_Q_sr (tz_Q_nw (n2 := 143) (tz_Q_sr (tz_Q_nw (n2 := 142) (tz_Q_sr (tz_Q_nw (n2 := 141) h rfl) rfl) rfl) rfl) rfl) rfl) rfl) rfl) rfl) rfl) rfl) rfl) rfl) rfl)
theorem j_X9_init_k124 {B A : tz_Mem} (h : tz_Q B A 125) : tz_Q B (c_X9_init_k124 A) 147 := (tz_Q_s (tz_Q_s (tz_Q_s (tz_Q_sr (j_X4_init_k139 (tz_Q_nw (n2 := 140) (tz_Q_sr (j_X10_init_k131 (tz_Q_nw (n2 := 132) (tz_Q_sr (j_X3_init_k125 (tz_Q_nw (n2 := 126) h rfl)) rfl) rfl)) rfl) rfl)) rfl) rfl) rfl) rfl)
theorem j_X7_init_k122 {B A : tz_Mem} (h : tz_Q B A 123) : tz_Q B (c_X7_init_k122 A) 148 := (tz_Q_sr (tz_Q_nw (n2 := 148) (tz_Q_sr (j_X9_init_k124 (tz_Q_nw (n2 := 125) (tz_Q_sr (tz_Q_nw (n2 := 124) (tz_Q_s h rfl) rfl) rfl) rfl)) rfl) rfl) rfl)
theorem j_X0_init_k148 {B A : tz_Mem} (h : tz_Q B A 149) : tz_Q B (c_X0_init_k148 A) 150 := (tz_Q_sr (tz_Q_nw (n2 := 150) h rfl) rfl)
theorem j_X1_init_k150 {B A : tz_Mem} (h : tz_Q B A 151) : tz_Q B (c_X1_init_k150 A) 151 := h
theorem j_X2_init_k150 {B A : tz_Mem} (h : tz_Q B A 151) : tz_Q B (c_X2_init_k150 A) 151 := (j_X1_init_k150 h)
theorem j_X1_init_k151 {B A : tz_Mem} (h : tz_Q B A 152) : tz_Q B (c_X1_init_k151 A) 152 := h
theorem j_X5_init_k151 {B A : tz_Mem} (h : tz_Q B A 152) : tz_Q B (c_X5_init_k151 A) 153 := (tz_Q_sr (tz_Q_nw (n2 := 153) (j_X1_init_k151 h) rfl) rfl)
theorem j_X1_init_k153 {B A : tz_Mem} (h : tz_Q B A 154) : tz_Q B (c_X1_init_k153 A) 154 := h
theorem j_X6_init_k153 {B A : tz_Mem} (h : tz_Q B A 154) : tz_Q B (c_X6_init_k153 A) 155 := (tz_Q_sr (tz_Q_nw (n2 := 155) (j_X1_init_k153 h) rfl) rfl)
theorem j_X11_init_k17 {B A : tz_Mem} (h : tz_Q B A 18) : tz_Q B (c_X11_init_k17 A) 157 := (tz_Q_s (tz_Q_sr (tz_Q_nw (n2 := 157) (tz_Q_sr (tz_Q_nw (n2 := 156) (tz_Q_sr (j_X6_init_k153 (tz_Q_nw (n2 := 154) (tz_Q_sr (j_X5_init_k151 (tz_Q_nw (n2 := 152) (tz_Q_sr (j_X2_init_k150 (tz_Q_nw (n2 := 151) (tz_Q_sr (j_X0_init_k148 (tz_Q_nw (n2 := 149) (tz_Q_sr (j_X7_init_k122 (tz_Q_nw (n2 := 123) (tz_Q_sr (j_X9_init_k99 (tz_Q_nw (n2 := 100) (tz_Q_sr (j_X9_init_k76 (tz_Q_nw (n2 := 77) (tz_Q_sr (j_X9_init_k53 (tz_Q_nw (n2 := 54) (tz_Q_sr (j_X9_init_k30 (tz_Q_nw (n2 := 31) (tz_Q_sr (j_X8_init_k18 (tz_Q_nw (n2 := 19) h rfl)) rfl) rfl)) rfl) rfl)) rfl) rfl)) rfl) rfl)) rfl) rfl)) rfl) rfl)) rfl) rfl)) rfl) rfl)) rfl) rfl)) rfl) rfl) rfl) rfl) rfl) rfl)
theorem tz_Q_B {A : tz_Mem} (h : tz_Q A A 17) : tz_Q A (tz_B A) 157 := j_X11_init_k17 (tz_Q_nw (n2 := 17 + 1) h rfl)
def tz_A0 (xs : Nat → Int32) (L : Nat) : tz_Mem := (tz_E0, fun k i => if k = 0 then xs i else 0, fun _ _ => 0, fun k i => if k = 0 ∧ i = 0 then L else 0)
