section TZH
variable {m pc np : Nat} {L : tz_Lo} {r : List Value} {A : tz_Mem}

theorem tz_g_newp {j : Nat} {idx ci : Nat} (hj : A.1 = j) (hc : tz_cls (tz_pn m) idx = some ci) (hk : (Nat.beq (tz_kd j) ci && Nat.ble tz_E0 j) = true) (h : tz_In m pc (.new idx) np L) : tz_Go m pc L (r) A = tz_Go m np L (.ref j :: r) (tz_nw A 1) := by subst hj; exact tz_g_new hc hk h
theorem tz_g_newpi {j : Nat} {n : Int32} (hj : A.1 = j) (h0 : ¬ n < 0) (hk : (Nat.beq (tz_SH j).2 n.toNatClampNeg && Nat.ble n.toNatClampNeg 65535 && Nat.ble tz_E0 j) = true) (hd : Nat.beq (tz_kd j) 100 = true) (h : tz_In m pc (.newarray .int) np L) : tz_Go m pc L (.int n :: r) A = tz_Go m np L (.ref j :: r) (tz_nw A 1) := by subst hj; exact tz_g_newi h0 hk hd h
theorem tz_g_newpj {j : Nat} {n : Int32} (hj : A.1 = j) (h0 : ¬ n < 0) (hk : (Nat.beq (tz_SH j).2 n.toNatClampNeg && Nat.ble n.toNatClampNeg 65535 && Nat.ble tz_E0 j) = true) (hd : Nat.beq (tz_kd j) 101 = true) (h : tz_In m pc (.newarray .long) np L) : tz_Go m pc L (.int n :: r) A = tz_Go m np L (.ref j :: r) (tz_nw A 1) := by subst hj; exact tz_g_newj h0 hk hd h
theorem tz_g_multip {j c : Nat} {n q : Int32} {idx : Nat} (hj : A.1 = j) (h0 : ¬ (n < 0 ∨ q < 0)) (hk : (Nat.beq 2 2 && tz_mul (tz_pn m) idx && Nat.beq (tz_kd j) 102 && Nat.beq (tz_SH j).2 n.toNatClampNeg && Nat.ble n.toNatClampNeg 65535 && Nat.ble q.toNatClampNeg 65535 && (List.range n.toNatClampNeg).all (fun i => Nat.beq (tz_kd (j + 1 + i)) 101 && Nat.beq (tz_SH (j + 1 + i)).2 q.toNatClampNeg) && Nat.ble tz_E0 j) = true) (hcc : 1 + n.toNatClampNeg = c) (h : tz_In m pc (.multianewarray idx 2) np L) : tz_Go m pc L (.int q :: .int n :: r) A = tz_Go m np L (.ref j :: r) (tz_nw A c) := by subst hj; subst hcc; exact tz_g_multi h0 hk h
theorem tz_bV_some {A : tz_Mem} {f : tz_Mem → tz_X} : tz_bV (some (none, A)) f = f A := rfl
theorem tz_cc {o o2 : tz_X} {f : tz_Mem → tz_X} (h : o = o2) : tz_bV o f = tz_bV o2 f := by rw [h]
end TZH
