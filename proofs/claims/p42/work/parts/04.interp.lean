/-! THE SMALL MACHINE: positions for addresses, a memory of ints, longs and references, methods by number. What it runs is tied to the real one in the next part. -/
abbrev tz_Mem : Type := Nat × (Nat → Nat → Int32) × (Nat → Nat → Int64) × (Nat → Nat → Nat)
abbrev tz_Lo : Type := List (Option Value)
abbrev tz_RR : Type := Option Value × tz_Mem
def tz_g (A : tz_Mem) (k i : Nat) : Int32 := A.2.1 k i
def tz_gl (A : tz_Mem) (k i : Nat) : Int64 := A.2.2.1 k i
def tz_gr (A : tz_Mem) (k i : Nat) : Nat := A.2.2.2 k i
def tz_s (A : tz_Mem) (k i : Nat) (v : Int32) : tz_Mem := (A.1, fun k' i' => if k' = k ∧ i' = i then v else A.2.1 k' i', A.2.2.1, A.2.2.2)
def tz_sl (A : tz_Mem) (k i : Nat) (v : Int64) : tz_Mem := (A.1, A.2.1, fun k' i' => if k' = k ∧ i' = i then v else A.2.2.1 k' i', A.2.2.2)
def tz_sr (A : tz_Mem) (k i : Nat) (v : Nat) : tz_Mem := (A.1, A.2.1, A.2.2.1, fun k' i' => if k' = k ∧ i' = i then v else A.2.2.2 k' i')
/-- n new cells, all zero -/
def tz_nw (A : tz_Mem) (n : Nat) : tz_Mem := (A.1 + n, fun k i => if A.1 ≤ k then 0 else A.2.1 k i, fun k i => if A.1 ≤ k then 0 else A.2.2.1 k i, fun k i => if A.1 ≤ k then 0 else A.2.2.2 k i)
def tz_cp (A : tz_Mem) (k1 i1 k2 i2 n : Nat) : tz_Mem := (A.1, fun k i => if k = k2 ∧ (i2 ≤ i ∧ i < i2 + n) then A.2.1 k1 (i1 + (i - i2)) else A.2.1 k i, A.2.2.1, A.2.2.2)
def tz_cpl (A : tz_Mem) (k1 i1 k2 i2 n : Nat) : tz_Mem := (A.1, A.2.1, fun k i => if k = k2 ∧ (i2 ≤ i ∧ i < i2 + n) then A.2.2.1 k1 (i1 + (i - i2)) else A.2.2.1 k i, A.2.2.2)
/-- kind of a position: the class's number, 100 ints, 101 longs, 102 rows of longs, 103 a text, 104 bytes -/
def tz_kd (k : Nat) : Nat := (tz_SH k).1
def tz_ln (A : tz_Mem) (k : Nat) : Nat := bif Nat.beq k 0 then A.2.2.2 0 0 else (tz_SH k).2
def tz_ok (c : Nat) (A : tz_Mem) (k : Nat) : Bool := Nat.blt k c || Nat.blt k A.1
/-- an int array's entry: the constant ones by their table -/
def tz_av (A : tz_Mem) (k i : Nat) : Int32 := bif Nat.blt 0 k && Nat.blt k 5 then tz_XT k i else A.2.1 k i
/-- what the constructors leave in the final references -/
def tz_con (A : tz_Mem) : Prop := tz_N0 ≤ A.1 ∧ ∀ k f, k < tz_N0 → tz_E0 ≤ k → tz_ft (tz_kd k) f = 1 → tz_gr A k f = tz_RT k f + 1
def tz_i1 (st : List Value) (f : Int32 → List Value → Option tz_RR) : Option tz_RR := match st with
  | .int x :: r => f x r
  | _ => none
def tz_i2 (st : List Value) (f : Int32 → Int32 → List Value → Option tz_RR) : Option tz_RR := match st with
  | .int y :: .int x :: r => f x y r
  | _ => none
def tz_l1 (st : List Value) (f : Int64 → List Value → Option tz_RR) : Option tz_RR := match st with
  | .long x :: r => f x r
  | _ => none
def tz_l2 (st : List Value) (f : Int64 → Int64 → List Value → Option tz_RR) : Option tz_RR := match st with
  | .long y :: .long x :: r => f x y r
  | _ => none
def tz_lj (st : List Value) (f : Int64 → Int32 → List Value → Option tz_RR) : Option tz_RR := match st with
  | .int y :: .long x :: r => f x y r
  | _ => none
def tz_r1 (st : List Value) (f : Nat → List Value → Option tz_RR) : Option tz_RR := match st with
  | .ref a :: r => f a r
  | _ => none
/-- an array and an index -/
def tz_ai (st : List Value) (f : Nat → Int32 → List Value → Option tz_RR) : Option tz_RR := match st with
  | .int i :: .ref a :: r => f a i r
  | _ => none
def tz_aii (st : List Value) (f : Nat → Int32 → Int32 → List Value → Option tz_RR) : Option tz_RR := match st with
  | .int x :: .int i :: .ref a :: r => f a i x r
  | _ => none
def tz_ail (st : List Value) (f : Nat → Int32 → Int64 → List Value → Option tz_RR) : Option tz_RR := match st with
  | .long x :: .int i :: .ref a :: r => f a i x r
  | _ => none
def tz_v1 (st : List Value) (f : Value → List Value → Option tz_RR) : Option tz_RR := match st with
  | v :: r => f v r
  | _ => none
def tz_ld (L : tz_Lo) (i : Nat) (f : Value → Option tz_RR) : Option tz_RR := match L[i]? with
  | some (some v) => f v
  | _ => none
/-- no long lies in the place or ahead of it -/
def tz_nl (L : tz_Lo) (i : Nat) : Bool := match L[i]? with
  | some (some (.long _)) => false
  | some (some (.double _)) => false
  | _ => true
def tz_st (L : tz_Lo) (i : Nat) (v : Value) (f : tz_Lo → Option tz_RR) : Option tz_RR :=
  bif Nat.blt i L.length && tz_nl L i && (Nat.beq i 0 || tz_nl L (i - 1)) then f (L.set i (some v)) else none
/-- a long, in two places -/
def tz_st2 (L : tz_Lo) (i : Nat) (v : Value) (f : tz_Lo → Option tz_RR) : Option tz_RR :=
  bif Nat.blt (i + 1) L.length && (Nat.beq i 0 || tz_nl L (i - 1)) then f ((L.set i (some v)).set (i + 1) none) else none
/-- only some locals are still asked for -/
def tz_mk (mq : Nat) (L : tz_Lo) : tz_Lo := bif Nat.beq mq 0 then L else L.mapIdx (fun i v => bif Nat.testBit mq i then v else none)
def tz_tsw (x : Int32) (lo : Int) (offs : List Int) (d : Int) (f : Int → Option tz_RR) : Option tz_RR := match offs with
  | [] => f d
  | o :: t => if x = Int32.ofInt lo then f o else tz_tsw x (lo + 1) t d f
def tz_lsw (x : Int32) (ps : List (Int × Int)) (d : Int) (f : Int → Option tz_RR) : Option tz_RR := match ps with
  | [] => f d
  | o :: t => if x = Int32.ofInt o.1 then f o.2 else tz_lsw x t d f
def tz_ic (cd : ClassFile.Cond) (x y : Int32) (a b : Option tz_RR) : Option tz_RR := match cd with
  | .eq => if x = y then a else b
  | .ne => if ¬ x = y then a else b
  | .lt => if x < y then a else b
  | .ge => if y ≤ x then a else b
  | .gt => if y < x then a else b
  | .le => if x ≤ y then a else b
/-- what a call gives, by the kind of what the method returns: 0 nothing, 1 int, 2 long, 3 a reference -/
def tz_bV (o : Option tz_RR) (f : tz_Mem → Option tz_RR) : Option tz_RR := match o with
  | some (none, A) => f A
  | _ => none
def tz_bI (o : Option tz_RR) (f : Int32 → tz_Mem → Option tz_RR) : Option tz_RR := match o with
  | some (some (.int x), A) => f x A
  | _ => none
def tz_bL (o : Option tz_RR) (f : Int64 → tz_Mem → Option tz_RR) : Option tz_RR := match o with
  | some (some (.long x), A) => f x A
  | _ => none
def tz_bR (o : Option tz_RR) (f : Nat → tz_Mem → Option tz_RR) : Option tz_RR := match o with
  | some (some (.ref x), A) => f x A
  | _ => none
def tz_bd (rk : Nat) (o : Option tz_RR) (f : List Value → tz_Mem → Option tz_RR) : Option tz_RR := match rk with
  | 0 => tz_bV o (fun A => f [] A)
  | 2 => tz_bL o (fun x A => f [.long x] A)
  | 3 => tz_bR o (fun x A => f [.ref x] A)
  | _ => tz_bI o (fun x A => f [.int x] A)
def tz_lay : List Value → tz_Lo
  | [] => []
  | .long x :: t => some (.long x) :: none :: tz_lay t
  | .double x :: t => some (.double x) :: none :: tz_lay t
  | v :: t => some v :: tz_lay t
def tz_ent (m : Nat) (args : List Value) : tz_Lo := (tz_lay args) ++ List.replicate (tz_ml m - (tz_lay args).length) none
def tz_cat (r : List Value) : Nat := (r.map fun v => v.category).sum
/-- a call of a method: what its frame needs to be known of the memory is asked -/
noncomputable def tz_inv (call : Nat → List Value → tz_Mem → Option tz_RR) (m m2 : Nat) (args rest : List Value) (A : tz_Mem) (f : List Value → tz_Mem → Option tz_RR) : Option tz_RR :=
  bif Nat.blt (tz_rk m2) (tz_rk m) && Nat.ble (tz_cat rest) 8 && Nat.ble (tz_lay args).length (tz_ml m2) then
    (bif Nat.beq (tz_cm m) (tz_cm m2) then tz_bd (tz_rc m2) (call m2 args A) (fun v A2 => f (v ++ rest) A2)
     else bif Nat.beq (tz_cm m2) tz_N0 then @ite _ (tz_con A) (Classical.propDecidable _) (tz_bd (tz_rc m2) (call m2 args A) (fun v A2 => f (v ++ rest) A2)) none else none)
  else none
def tz_pop (n : Nat) (st : List Value) (f : List Value → List Value → Option tz_RR) : Option tz_RR := bif Nat.ble n st.length then f (st.take n).reverse (st.drop n) else none
def tz_kof (st : List Value) : Nat := match st with
  | .ref a :: _ => tz_kd a
  | _ => 999
/-- the receiver is there -/
def tz_okr (c : Nat) (A : tz_Mem) (args : List Value) : Bool := match args with
  | .ref a :: _ => tz_ok c A a
  | _ => false
def tz_gf (c : Nat) (A : tz_Mem) (a ci f : Nat) (k : Value → Option tz_RR) : Option tz_RR := match tz_ft ci f with
  | 0 => k (.int (A.2.1 a f))
  | 1 => bif Nat.blt a c then k (.ref (tz_RT a f)) else (match A.2.2.2 a f with
    | 0 => none
    | j + 1 => k (.ref j))
  | 2 => if A.2.2.2 a f = 0 then k .null else if A.2.2.2 a f = tz_P1 + 1 then k (.ref tz_P1) else if A.2.2.2 a f = tz_P2 + 1 then k (.ref tz_P2) else if A.2.2.2 a f = tz_P3 + 1 then k (.ref tz_P3) else none
  | 3 => k (.int (A.2.1 a f))
  | 4 => k (.int 0)
  | _ => none
def tz_pf (c ini : Nat) (A : tz_Mem) (a ci f : Nat) (v : Value) (k : tz_Mem → Option tz_RR) : Option tz_RR := match tz_ft ci f, v with
  | 0, .int x => k (tz_s A a f x)
  | 3, .int x => if x = 0 ∨ x = 1 then k (tz_s A a f x) else none
  | 1, .ref j => bif Nat.beq c tz_E0 && Nat.beq ini (ci + 1) then k (tz_sr A a f (j + 1)) else none
  | 2, .null => k (tz_sr A a f 0)
  | 2, .ref j => k (tz_sr A a f (j + 1))
  | _, _ => none
/-- a checked entry of an array -/
def tz_ix (A : tz_Mem) (kd a : Nat) (c : Nat) (i : Int32) (o : Option tz_RR) : Option tz_RR :=
  bif Nat.beq (tz_kd a) kd && tz_ok c A a then (if i < 0 ∨ tz_ln A a ≤ i.toNatClampNeg then none else o) else none
def tz_cpy (c : Nat) (A : tz_Mem) (k1 k2 : Nat) (i1 i2 n : Int32) (f : tz_Mem → Option tz_RR) : Option tz_RR :=
  bif Nat.ble tz_E0 k1 && Nat.ble tz_E0 k2 && tz_ok c A k1 && tz_ok c A k2 then
    (if (i1 < 0 ∨ i2 < 0 ∨ n < 0) ∨ (tz_ln A k1 < i1.toNatClampNeg + n.toNatClampNeg ∨ tz_ln A k2 < i2.toNatClampNeg + n.toNatClampNeg) then none else
      (bif Nat.beq (tz_kd k1) 100 && Nat.beq (tz_kd k2) 100 then f (tz_cp A k1 i1.toNatClampNeg k2 i2.toNatClampNeg n.toNatClampNeg)
       else bif Nat.beq (tz_kd k1) 101 && Nat.beq (tz_kd k2) 101 then f (tz_cpl A k1 i1.toNatClampNeg k2 i2.toNatClampNeg n.toNatClampNeg) else none))
  else none
def tz_tgt (pc : Nat) (off : Int) (k : Nat → Option tz_RR) : Option tz_RR := match (pc : Int) + off with
  | .ofNat t => k t
  | _ => none
def tz_retI (rk : Nat) (x : Int32) (A : tz_Mem) : Option tz_RR := match rk with
  | 1 => some (some (.int x), A)
  | 4 => if x = 0 ∨ x = 1 then some (some (.int x), A) else none
  | 5 => if (x.toUInt32 % 65536).toInt32 = x then some (some (.int x), A) else none
  | 6 => if x.toInt8.toInt32 = x then some (some (.int x), A) else none
  | _ => none
abbrev tz_X : Type := Option tz_RR
def tz_mC (o : Option (Nat × Int)) (f0 : Int → tz_X) (f1 : Nat → tz_X) (f2 : Int → tz_X) : tz_X := match o with
  | some (0, n) => f0 n
  | some (1, .ofNat j) => f1 j
  | some (2, n) => f2 n
  | _ => none
def tz_mI (v : Value) (f : Int32 → tz_X) : tz_X := match v with
  | .int x => f x
  | _ => none
def tz_mL (v : Value) (f : Int64 → tz_X) : tz_X := match v with
  | .long x => f x
  | _ => none
def tz_mR (v : Value) (f : Nat → tz_X) : tz_X := match v with
  | .ref x => f x
  | _ => none
def tz_mN (v : Value) (a b : tz_X) : tz_X := match v with
  | .null => a
  | .ref _ => b
  | _ => none
def tz_m1 (o : Option Nat) (f : Nat → tz_X) : tz_X := match o with
  | some a => f a
  | none => none
def tz_m2 (o : Option (Nat × Nat)) (f : Nat → Nat → tz_X) : tz_X := match o with
  | some (a, b) => f a b
  | none => none
def tz_mT (t : ArrayType) (a b : tz_X) : tz_X := match t with
  | .int => a
  | .long => b
  | _ => none
def tz_a5 (l : List Value) (f : Nat → Nat → Int32 → Int32 → Int32 → tz_X) : tz_X := match l with
  | [.ref k1, .int i1, .ref k2, .int i2, .int n] => f k1 k2 i1 i2 n
  | _ => none
def tz_a2 (l : List Value) (f : Int32 → Int32 → tz_X) : tz_X := match l with
  | [.int x, .int y] => f x y
  | _ => none
def tz_xI (l : List Value) (f : Int32 → tz_X) : tz_X := match l with
  | [.int x] => f x
  | _ => none
def tz_xL (l : List Value) (f : Int64 → tz_X) : tz_X := match l with
  | [.long x] => f x
  | _ => none
def tz_xR (l : List Value) (f : Nat → tz_X) : tz_X := match l with
  | [.ref x] => f x
  | _ => none
def tz_xV (l : List Value) (f : tz_X) : tz_X := match l with
  | [] => f
  | _ => none
noncomputable def tz_ins (call : Nat → List Value → tz_Mem → tz_X) (k : Nat → tz_Lo → List Value → tz_Mem → tz_X) (m pc : Nat) (i : Instr) (np : Nat) (L : tz_Lo) (st : List Value) (A : tz_Mem) : tz_X := match i with
  | .iconst n => k np L (.int (Int32.ofInt n) :: st) A
  | .bipush n => k np L (.int ((Int8.ofInt n).toInt32) :: st) A
  | .sipush n => k np L (.int ((Int16.ofInt n).toInt32) :: st) A
  | .lconst n => k np L (.long (Int64.ofNat (n : Nat)) :: st) A
  | .aconst_null => k np L (.null :: st) A
  | .ldc idx => tz_mC (tz_cst (tz_pn m) idx) (fun n => k np L (.int (Int32.ofInt n) :: st) A) (fun j => k np L (.ref j :: st) A) (fun _ => none)
  | .ldc_w idx => tz_mC (tz_cst (tz_pn m) idx) (fun n => k np L (.int (Int32.ofInt n) :: st) A) (fun _ => none) (fun _ => none)
  | .ldc2_w idx => tz_mC (tz_cst (tz_pn m) idx) (fun _ => none) (fun _ => none) (fun n => k np L (.long (Int64.ofInt n) :: st) A)
  | .iload j => tz_ld L j (fun v => tz_mI v (fun x => k np L (.int x :: st) A))
  | .iload_n j => tz_ld L j (fun v => tz_mI v (fun x => k np L (.int x :: st) A))
  | .lload_n j => tz_ld L j (fun v => tz_mL v (fun x => k np L (.long x :: st) A))
  | .lload j => tz_ld L j (fun v => tz_mL v (fun x => k np L (.long x :: st) A))
  | .aload j => tz_ld L j (fun v => tz_mR v (fun x => k np L (.ref x :: st) A))
  | .aload_n j => tz_ld L j (fun v => tz_mR v (fun x => k np L (.ref x :: st) A))
  | .istore j => tz_i1 st (fun x r => tz_st L j (.int x) (fun L2 => k np L2 r A))
  | .istore_n j => tz_i1 st (fun x r => tz_st L j (.int x) (fun L2 => k np L2 r A))
  | .lstore j => tz_l1 st (fun x r => tz_st2 L j (.long x) (fun L2 => k np L2 r A))
  | .lstore_n j => tz_l1 st (fun x r => tz_st2 L j (.long x) (fun L2 => k np L2 r A))
  | .astore j => tz_r1 st (fun x r => tz_st L j (.ref x) (fun L2 => k np L2 r A))
  | .astore_n j => tz_r1 st (fun x r => tz_st L j (.ref x) (fun L2 => k np L2 r A))
  | .iinc j n => tz_ld L j (fun v => tz_mI v (fun x => tz_st L j (.int (x + Int32.ofInt n)) (fun L2 => k np L2 st A)))
  | .iadd => tz_i2 st (fun x y r => k np L (.int (x + y) :: r) A)
  | .isub => tz_i2 st (fun x y r => k np L (.int (x - y) :: r) A)
  | .imul => tz_i2 st (fun x y r => k np L (.int (x * y) :: r) A)
  | .idiv => tz_i2 st (fun x y r => if y = 0 then none else k np L (.int (x / y) :: r) A)
  | .irem => tz_i2 st (fun x y r => if y = 0 then none else k np L (.int (x - x / y * y) :: r) A)
  | .ineg => tz_i1 st (fun x r => k np L (.int (-x) :: r) A)
  | .iand => tz_i2 st (fun x y r => k np L (.int (x &&& y) :: r) A)
  | .ior => tz_i2 st (fun x y r => k np L (.int (x ||| y) :: r) A)
  | .ixor => tz_i2 st (fun x y r => k np L (.int (x ^^^ y) :: r) A)
  | .ishl => tz_i2 st (fun x y r => k np L (.int (x <<< (y &&& 31)) :: r) A)
  | .ishr => tz_i2 st (fun x y r => k np L (.int (x >>> (y &&& 31)) :: r) A)
  | .iushr => tz_i2 st (fun x y r => k np L (.int ((x.toUInt32 >>> (y.toUInt32 &&& Int32.toUInt32 31)).toInt32) :: r) A)
  | .ladd => tz_l2 st (fun x y r => k np L (.long (x + y) :: r) A)
  | .lsub => tz_l2 st (fun x y r => k np L (.long (x - y) :: r) A)
  | .lmul => tz_l2 st (fun x y r => k np L (.long (x * y) :: r) A)
  | .ldiv => tz_l2 st (fun x y r => if y = 0 then none else k np L (.long (x / y) :: r) A)
  | .lrem => tz_l2 st (fun x y r => if y = 0 then none else k np L (.long (x - x / y * y) :: r) A)
  | .land => tz_l2 st (fun x y r => k np L (.long (x &&& y) :: r) A)
  | .lor => tz_l2 st (fun x y r => k np L (.long (x ||| y) :: r) A)
  | .lshl => tz_lj st (fun x y r => k np L (.long (x <<< (y.toInt64 &&& 63)) :: r) A)
  | .lshr => tz_lj st (fun x y r => k np L (.long (x >>> (y.toInt64 &&& 63)) :: r) A)
  | .lcmp => tz_l2 st (fun x y r => k np L (.int (lg_cmp x y) :: r) A)
  | .i2l => tz_i1 st (fun x r => k np L (.long x.toInt64 :: r) A)
  | .l2i => tz_l1 st (fun x r => k np L (.int x.toInt32 :: r) A)
  | .i2b => tz_i1 st (fun x r => k np L (.int x.toInt8.toInt32 :: r) A)
  | .i2s => tz_i1 st (fun x r => k np L (.int x.toInt16.toInt32 :: r) A)
  | .i2c => tz_i1 st (fun x r => k np L (.int (x.toUInt32 % 65536).toInt32 :: r) A)
  | .dup => tz_v1 st (fun v r => bif Nat.beq v.category 1 then k np L (v :: v :: r) A else none)
  | .dup2 => tz_v1 st (fun v r => bif Nat.beq v.category 2 then k np L (v :: v :: r) A else tz_v1 r (fun w r2 => bif Nat.beq w.category 1 && Nat.beq v.category 1 then k np L (v :: w :: v :: w :: r2) A else none))
  | .dup_x1 => tz_v1 st (fun v r => tz_v1 r (fun w r2 => bif Nat.beq v.category 1 && Nat.beq w.category 1 then k np L (v :: w :: v :: r2) A else none))
  | .dup_x2 => tz_v1 st (fun v r => tz_v1 r (fun w r2 => tz_v1 r2 (fun u r3 => bif Nat.beq v.category 1 && Nat.beq w.category 1 && Nat.beq u.category 1 then k np L (v :: w :: u :: v :: r3) A else none)))
  | .pop => tz_v1 st (fun v r => bif Nat.beq v.category 1 then k np L r A else none)
  | .ifCond cd off => tz_i1 st (fun x r => tz_tgt pc off (fun t => tz_ic cd x 0 (k t L r A) (k np L r A)))
  | .if_icmp cd off => tz_i2 st (fun x y r => tz_tgt pc off (fun t => tz_ic cd x y (k t L r A) (k np L r A)))
  | .ifnull off => tz_v1 st (fun v r => tz_tgt pc off (fun t => tz_mN v (k t L r A) (k np L r A)))
  | .goto off => tz_tgt pc off (fun t => k t L st A)
  | .tableswitch d lo hi offs => tz_i1 st (fun x r => bif decide (-2147483648 ≤ lo) && decide (hi ≤ 2147483647) && decide (lo + offs.toList.length = hi + 1) then tz_tsw x lo offs.toList d (fun off => tz_tgt pc off (fun t => k t L r A)) else none)
  | .lookupswitch d ps => tz_i1 st (fun x r => bif (ps.toList.zip (ps.toList.drop 1)).all (fun (a, next) => a.1 < next.1) && ps.toList.all (fun q => decide (-2147483648 ≤ q.1) && decide (q.1 ≤ 2147483647)) then tz_lsw x ps.toList d (fun off => tz_tgt pc off (fun t => k t L r A)) else none)
  | .getfield idx => tz_r1 st (fun a r => tz_m2 (tz_fld (tz_pn m) idx) (fun ci f => bif Nat.beq (tz_kd a) ci && tz_ok (tz_cm m) A a then tz_gf (tz_cm m) A a ci f (fun v => k np L (v :: r) A) else none))
  | .putfield idx => tz_v1 st (fun v r2 => tz_r1 r2 (fun a r => tz_m2 (tz_fld (tz_pn m) idx) (fun ci f => bif Nat.beq (tz_kd a) ci && tz_ok (tz_cm m) A a && Nat.blt ci 100 && Nat.ble tz_E0 a then tz_pf (tz_cm m) (tz_ini m) A a ci f v (fun A2 => k np L r A2) else none)))
  | .getstatic idx => tz_m2 (tz_stt (tz_pn m) idx) (fun h j => bif Nat.beq h 0 then k np L (.ref j :: st) A else bif Nat.beq h 1 then k np L (.int (Int32.ofNat j) :: st) A else k np L (.retAddr 0 :: st) A)
  | .iaload => tz_ai st (fun a i r => tz_ix A 100 a (tz_cm m) i (k np L (.int (tz_av A a i.toNatClampNeg) :: r) A))
  | .iastore => tz_aii st (fun a i x r => bif Nat.ble tz_E0 a then tz_ix A 100 a (tz_cm m) i (k np L r (tz_s A a i.toNatClampNeg x)) else none)
  | .laload => tz_ai st (fun a i r => tz_ix A 101 a (tz_cm m) i (k np L (.long (tz_gl A a i.toNatClampNeg) :: r) A))
  | .lastore => tz_ail st (fun a i x r => tz_ix A 101 a (tz_cm m) i (k np L r (tz_sl A a i.toNatClampNeg x)))
  | .aaload => tz_ai st (fun a i r => tz_ix A 102 a (tz_cm m) i (k np L (.ref (a + 1 + i.toNatClampNeg) :: r) A))
  | .baload => tz_ai st (fun a i r => tz_ix A 104 a (tz_cm m) i (k np L (.int (tz_XT a i.toNatClampNeg) :: r) A))
  | .arraylength => tz_r1 st (fun a r => bif Nat.ble 100 (tz_kd a) && (!(Nat.beq (tz_kd a) 103)) && tz_ok (tz_cm m) A a then k np L (.int (Int32.ofNat (tz_ln A a)) :: r) A else none)
  | .new idx => tz_m1 (tz_cls (tz_pn m) idx) (fun ci => bif Nat.beq (tz_kd A.1) ci && Nat.ble tz_E0 A.1 then k np L (.ref A.1 :: st) (tz_nw A 1) else none)
  | .newarray t => tz_i1 st (fun n r => if n < 0 then none else bif Nat.beq (tz_SH A.1).2 n.toNatClampNeg && Nat.ble n.toNatClampNeg 65535 && Nat.ble tz_E0 A.1 then tz_mT t (bif Nat.beq (tz_kd A.1) 100 then k np L (.ref A.1 :: r) (tz_nw A 1) else none) (bif Nat.beq (tz_kd A.1) 101 then k np L (.ref A.1 :: r) (tz_nw A 1) else none) else none)
  | .multianewarray idx d => tz_i2 st (fun n q r => if n < 0 ∨ q < 0 then none else bif Nat.beq d 2 && tz_mul (tz_pn m) idx && Nat.beq (tz_kd A.1) 102 && Nat.beq (tz_SH A.1).2 n.toNatClampNeg && Nat.ble n.toNatClampNeg 65535 && Nat.ble q.toNatClampNeg 65535 && (List.range n.toNatClampNeg).all (fun i => Nat.beq (tz_kd (A.1 + 1 + i)) 101 && Nat.beq (tz_SH (A.1 + 1 + i)).2 q.toNatClampNeg) && Nat.ble tz_E0 A.1 then k np L (.ref A.1 :: r) (tz_nw A (1 + n.toNatClampNeg)) else none)
  | .invokevirtual idx => tz_m1 (tz_np (tz_pn m) idx) (fun n => tz_pop (n + 1) st (fun args r => tz_m2 (tz_mth (tz_pn m) idx (tz_kof args)) (fun h m2 => bif (Nat.beq h 1 || Nat.beq h 5) && tz_okr (tz_cm m) A args then tz_inv call m m2 args r A (fun s2 A2 => k np L s2 A2) else none)))
  | .invokespecial idx => tz_m1 (tz_np (tz_pn m) idx) (fun n => tz_pop (n + 1) st (fun args r => tz_m2 (tz_mth (tz_pn m) idx 999) (fun h m2 => bif (Nat.beq h 2 || Nat.beq h 3) && tz_okr (tz_cm m) A args then tz_inv call m m2 args r A (fun s2 A2 => k np L s2 A2) else bif Nat.beq h 6 && tz_okr (tz_cm m) A args && Nat.beq args.length 1 && Nat.ble (tz_cat r) 8 then k np L r A else none)))
  | .invokestatic idx => tz_m1 (tz_np (tz_pn m) idx) (fun n => tz_pop n st (fun args r => tz_m2 (tz_mth (tz_pn m) idx 999) (fun h m2 => bif Nat.beq h 0 then tz_inv call m m2 args r A (fun s2 A2 => k np L s2 A2)
      else bif Nat.ble (tz_cat r) 8 then (bif Nat.beq h 7 then tz_a5 args (fun k1 k2 i1 i2 n => tz_cpy (tz_cm m) A k1 k2 i1 i2 n (fun A2 => k np L r A2))
        else bif Nat.beq h 8 then tz_a2 args (fun x y => k np L (.int (if x < y then y else x) :: r) A)
        else bif Nat.beq h 9 then tz_a2 args (fun x y => k np L (.int (if y < x then y else x) :: r) A) else none) else none)))
  | .ireturn => tz_xI st (fun x => tz_retI (tz_rc m) x A)
  | .lreturn => tz_xL st (fun x => bif Nat.beq (tz_rc m) 2 then some (some (.long x), A) else none)
  | .areturn => tz_xR st (fun x => bif Nat.beq (tz_rc m) 3 then some (some (.ref x), A) else none)
  | .return_ => tz_xV st (bif Nat.beq (tz_rc m) 0 then some (none, A) else none)
  | _ => none
noncomputable def tz_stp (call : Nat → List Value → tz_Mem → Option tz_RR) (k : Nat → tz_Lo → List Value → tz_Mem → Option tz_RR) (m pc : Nat) (L : tz_Lo) (st : List Value) (A : tz_Mem) : Option tz_RR := match tz_code m pc with
  | some (i, np, mq) => tz_ins call k m pc i np (tz_mk mq L) st A
  | none => none
noncomputable def tz_go : Nat → Nat → Nat → tz_Lo → List Value → tz_Mem → Option tz_RR
  | 0, _, _, _, _, _ => none
  | n + 1, m, pc, L, st, A => tz_stp (fun m2 args A2 => tz_go n m2 0 (tz_ent m2 args) [] A2) (fun pc2 L2 st2 A2 => tz_go n m pc2 L2 st2 A2) m pc L st A
/-- what a run comes to, however long -/
noncomputable def tz_Go (m pc : Nat) (L : tz_Lo) (st : List Value) (A : tz_Mem) : Option tz_RR :=
  @dite _ (∃ n, (tz_go n m pc L st A).isSome = true) (Classical.propDecidable _) (fun h => tz_go (Classical.choose h) m pc L st A) (fun _ => none)
noncomputable def tz_F (m : Nat) (args : List Value) (A : tz_Mem) : Option tz_RR := tz_Go m 0 (tz_ent m args) [] A
