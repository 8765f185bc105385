/-! THE LITTLE MACHINE: the bytecode of the system over one memory of numbered places. A place is a cell of the world (0 to 54), or of what is only read. -/
abbrev bm_M : Type := Nat → Nat → Int32
abbrev bm_R : Type := Option (Value × bm_M)
abbrev bm_A : Type := (Nat × List Value × List Value × bm_M) ⊕ ((Nat × Nat × List Value × Nat × List Value × List Value × bm_M) ⊕ (Value × bm_M))
def bm_up (σ : bm_M) (k i : Nat) (v : Int32) : bm_M := fun k' => if k' = k then upd (σ k) i v else σ k'
def bm_cp (σ : bm_M) (s d sp dp n : Nat) : bm_M := fun k' => if k' = d then va_cpy (σ s) (σ d) sp dp n else σ k'
def bm_nth : List Nat → Nat → Nat
  | [], _ => 0
  | a :: _, 0 => a
  | _ :: l, n + 1 => bm_nth l n
def bm_nthI : List Instr → Nat → Option Instr
  | [], _ => none
  | a :: _, 0 => some a
  | _ :: l, n + 1 => bm_nthI l n
def bm_get : List Value → Nat → Value
  | [], _ => .null
  | a :: _, 0 => a
  | _ :: l, n + 1 => bm_get l n
/-- a store into the locals -/
def bm_put : List Value → Nat → Value → List Value
  | [], _, _ => []
  | _ :: l, 0, v => v :: l
  | a :: l, n + 1, v => a :: bm_put l n v
def bm_has : List Nat → Nat → Bool
  | [], _ => false
  | a :: l, n => match Nat.beq a n with
    | true => true
    | false => bm_has l n
/-- how many a place holds, if it is an array of ints that may be written -/
def bm_al (k : Nat) : Nat := bm_nth [0, 0, 12, 12, 10, 8, 8, 8, 8, 8, 8, 8, 0, 12, 12, 10, 8, 8, 8, 8, 8, 8, 8, 0, 12, 12, 10, 8, 8, 8, 8, 8, 8, 8, 0, 120, 0, 40, 40, 40, 40, 4, 4, 7, 8, 0, 95, 95, 95, 7, 120, 4, 4, 160, 40] k
/-- one more than the number of the class, if a place is an object -/
def bm_oc (k : Nat) : Nat := bm_nth [3, 1, 0, 0, 0, 0, 0, 0, 0, 0, 0, 0, 1, 0, 0, 0, 0, 0, 0, 0, 0, 0, 0, 1, 0, 0, 0, 0, 0, 0, 0, 0, 0, 0, 2, 0, 0, 0, 0, 0, 0, 0, 0, 0, 0, 4, 0, 0, 0, 0, 0, 0, 0, 0, 0] k
def bm_in (i : Int32) (n : Nat) : Bool := !(decide (i < 0)) && decide (i.toNatClampNeg < n)
def bm_nz (i : Int32) : Bool := !(decide (i = 0))
def bm_nzl (i : Int64) : Bool := !(decide (i = 0))
def bm_bo (i : Int32) : Bool := decide (i = 0) || decide (i = 1)
def bm_ch (i : Int32) : Bool := !(decide (i < 0)) && decide (i < 65536)
def bm_by (i : Int32) : Bool := !(decide (i < 0)) && decide (i < 128)
def bm_max (x y : Int32) : Int32 := if x < y then y else x
def bm_min (x y : Int32) : Int32 := if y < x then y else x
def bm_rem (x y : Int32) : Int32 := x - x / y * y
def bm_lrem (x y : Int64) : Int64 := x - x / y * y
def bm_shl (x y : Int32) : Int32 := x <<< (y &&& 31)
def bm_shr (x y : Int32) : Int32 := x >>> (y &&& 31)
def bm_ushr (x y : Int32) : Int32 := (x.toUInt32 >>> (y.toUInt32 &&& Int32.toUInt32 31)).toInt32
abbrev bm_X : Type := Nat × (Nat → Int32)
/-- lengths of what is only read: the script, three tables, the bytes of the texts -/
def bm_rls : List Nat := [0, 0, 0, 0, 0, 0, 0, 0, 0, 0, 0, 0, 0, 0, 0, 0, 0, 0, 0, 0, 0, 0, 0, 0, 0, 0, 0, 0, 0, 0, 0, 0, 0, 0, 0, 0, 0, 0, 0, 0, 0, 0, 0, 0, 0, 0, 0, 0, 0, 0, 0, 0, 0, 0, 0, 0, 7, 7, 7, 0, 0, 0, 0, 0, 0, 0, 0, 0, 0, 0, 0, 0, 0, 0, 0, 0, 0, 0, 0, 0, 3, 4, 4, 5, 4, 7, 3, 2, 4, 6, 7, 5, 5, 7, 1]
def bm_rl (X : bm_X) (k : Nat) : Nat := match k with
  | 55 => X.1
  | k => bm_nth bm_rls k
def bm_rvs : List (List Int32) := [[], [], [], [], [], [], [], [], [], [], [], [], [], [], [], [], [], [], [], [], [], [], [], [], [], [], [], [], [], [], [], [], [], [], [], [], [], [], [], [], [], [], [], [], [], [], [], [], [], [], [], [], [], [], [], [], [5, 2, 5, 3, 0, 5, 2], [-1, 0, 0, 2, 3, 0, 1], [6, 11, 11, 9, 999, 9999, 1], [], [], [], [], [], [], [], [], [], [], [], [], [], [], [], [], [], [], [], [], [], [99, 111, 119], [99, 97, 108, 102], [97, 108, 116, 111], [98, 114, 105, 100, 101], [112, 97, 115, 115], [99, 114, 97, 99, 107, 101, 100], [107, 105, 100], [111, 110], [116, 111, 110, 101], [115, 119, 105, 110, 103, 115], [109, 117, 102, 102, 108, 101, 100], [103, 114, 97, 115, 115], [103, 114, 111, 119, 115], [116, 104, 117, 110, 100, 101, 114], [59]]
def bm_nthL : List (List Int32) → Nat → List Int32
  | [], _ => []
  | a :: _, 0 => a
  | _ :: l, n + 1 => bm_nthL l n
def bm_nth32 : List Int32 → Nat → Int32
  | [], _ => 0
  | a :: _, 0 => a
  | _ :: l, n + 1 => bm_nth32 l n
def bm_rv (X : bm_X) (k i : Nat) : Int32 := match k with
  | 55 => X.2 i
  | k => bm_nth32 (bm_nthL bm_rvs k) i
def bm_st (k : Nat) : Bool := Nat.ble 60 k && Nat.ble k 74
def bm_sv (k : Nat) : Bool := Nat.ble 80 k && Nat.ble k 94
def bm_ac (sp dp n : Int32) (ls ld : Nat) : Bool := !(decide (ls = 0)) && !(decide (ld = 0)) && !(decide (sp < 0)) && !(decide (dp < 0)) && !(decide (n < 0)) && decide (sp.toNatClampNeg + n.toNatClampNeg ≤ ls) && decide (dp.toNatClampNeg + n.toNatClampNeg ≤ ld)
def bm_bV (o : bm_R) (k : bm_M → bm_R) : bm_R := match o with
  | some (.null, τ) => k τ
  | _ => none
def bm_bI (o : bm_R) (k : Int32 → bm_M → bm_R) : bm_R := match o with
  | some (.int x, τ) => k x τ
  | _ => none
def bm_bL (o : bm_R) (k : Int64 → bm_M → bm_R) : bm_R := match o with
  | some (.long x, τ) => k x τ
  | _ => none
def bm_bA (o : bm_R) (k : Nat → bm_M → bm_R) : bm_R := match o with
  | some (.ref x, τ) => k x τ
  | _ => none
/-- what an action does: go on, call, return -/
def bm_do (γ : Nat → List Value → bm_M → bm_R) (κ : Nat → List Value → List Value → bm_M → bm_R) : bm_A → bm_R
  | .inl (pc, L, S, σ) => κ pc L S σ
  | .inr (.inl (m, rt, as, pc, L, S, σ)) => match rt with
    | 0 => bm_bV (γ m as σ) (fun τ => κ pc L S τ)
    | 1 => bm_bI (γ m as σ) (fun x τ => κ pc L (.int x :: S) τ)
    | 2 => bm_bL (γ m as σ) (fun x τ => κ pc L (.long x :: S) τ)
    | _ => bm_bA (γ m as σ) (fun x τ => κ pc L (.ref x :: S) τ)
  | .inr (.inr (v, σ)) => some (v, σ)
/-- a guard of the place's kind, a guard of an index -/
def bm_sg (b : Bool) (x : bm_R) : bm_R := cond b x none
def bm_gd (b : Bool) (x : bm_R) : bm_R := cond b x none
/-- the first alternative whose guard holds -/
def bm_pick (γ : Nat → List Value → bm_M → bm_R) (κ : Nat → List Value → List Value → bm_M → bm_R) : List (Nat × Bool × bm_A) → bm_R
  | [] => none
  | (t, b, a) :: l => match t with
    | 0 => bm_do γ κ a
    | 1 => cond b (bm_do γ κ a) (bm_pick γ κ l)
    | 2 => bm_sg b (bm_do γ κ a)
    | _ => bm_gd b (bm_do γ κ a)
def bm_nx (pc : Nat) (L S : List Value) (σ : bm_M) : List (Nat × Bool × bm_A) := [(0, true, .inl (pc + 1, L, S, σ))]
def bm_nxs (b : Bool) (pc : Nat) (L S : List Value) (σ : bm_M) : List (Nat × Bool × bm_A) := [(2, b, .inl (pc + 1, L, S, σ))]
def bm_nxg (b : Bool) (pc : Nat) (L S : List Value) (σ : bm_M) : List (Nat × Bool × bm_A) := [(3, b, .inl (pc + 1, L, S, σ))]
def bm_br (b : Bool) (t : Nat) (pc : Nat) (L S : List Value) (σ : bm_M) : List (Nat × Bool × bm_A) := [(1, b, .inl (t, L, S, σ)), (0, true, .inl (pc + 1, L, S, σ))]
def bm_brn (b : Bool) (t : Nat) (pc : Nat) (L S : List Value) (σ : bm_M) : List (Nat × Bool × bm_A) := [(1, b, .inl (pc + 1, L, S, σ)), (0, true, .inl (t, L, S, σ))]
def bm_cmp (c : Jvm.ClassFile.Cond) (x y : Int32) (t pc : Nat) (L S : List Value) (σ : bm_M) : List (Nat × Bool × bm_A) := match c with
  | .eq => bm_br (decide (x = y)) t pc L S σ
  | .ne => bm_brn (decide (x = y)) t pc L S σ
  | .lt => bm_br (decide (x < y)) t pc L S σ
  | .ge => bm_brn (decide (x < y)) t pc L S σ
  | .gt => bm_br (decide (y < x)) t pc L S σ
  | .le => bm_brn (decide (y < x)) t pc L S σ
def bm_sw (x : Int32) (d : Nat) (L S : List Value) (σ : bm_M) : List (Int × Int) → List (Nat × Bool × bm_A)
  | [] => [(0, true, .inl (d, L, S, σ))]
  | (v, t) :: l => (1, decide (x = nI v.toNat), .inl (t.toNat, L, S, σ)) :: bm_sw x d L S σ l
def bm_take : Nat → List Value → List Value → List Value
  | 0, _, acc => acc
  | _ + 1, [], acc => acc
  | n + 1, a :: l, acc => bm_take n l (a :: acc)
def bm_drop : Nat → List Value → List Value
  | 0, l => l
  | _ + 1, [] => []
  | n + 1, _ :: l => bm_drop n l
def bm_cat : List Value → Nat
  | [] => 0
  | .long _ :: l => bm_cat l + 2
  | .double _ :: l => bm_cat l + 2
  | _ :: l => bm_cat l + 1
/-- the locals at a method's entry: a long takes two -/
def bm_spread : List Value → List Value
  | [] => []
  | .long x :: l => .long x :: .null :: bm_spread l
  | v :: l => v :: bm_spread l
def bm_pad : Nat → List Value → List Value
  | 0, l => l
  | n + 1, [] => .null :: bm_pad n []
  | n + 1, a :: l => a :: bm_pad n l
def bm_nol : List Value → Bool
  | [] => true
  | .long _ :: _ => false
  | .double _ :: _ => false
  | _ :: l => bm_nol l
/-- what a call asks of what it is given: 0 no object, 1 to 4 an object of that class, 5 a text, 6 three longs -/
def bm_rcv (rc : Nat) (as : List Value) : Bool := match rc with
  | 0 => bm_nol as
  | 5 => match as with
    | .ref k :: l => bm_nol l && bm_st k
    | _ => false
  | 6 => match as with
    | [.long _, .long _, .long _] => true
    | _ => false
  | c => match as with
    | .ref k :: l => bm_nol l && Nat.beq (bm_oc k) c
    | _ => false
/-- the guard of a call -/
def bm_cg (n : Nat) (as rest : List Value) : Bool := Nat.ble (bm_cat rest) 8 && (Nat.beq as.length (n / 32 % 8) && (Nat.ble (bm_spread as).length (n / 256 % 16) && bm_rcv (n % 8) as))
/-- what an instruction of the little machine may do -/
def bm_alts (X : bm_X) (i : Instr) (pc : Nat) (L S : List Value) (σ : bm_M) : List (Nat × Bool × bm_A) := match i with
  | .ldc n => bm_nx pc L (.int (nI n) :: S) σ
  | .ldc_w n => bm_nx pc L (.int (-nI n) :: S) σ
  | .ldc2_w n => bm_nx pc L (.long (lN n) :: S) σ
  | .f2d => bm_nx pc L (.long (-1) :: S) σ
  | .getstatic n => bm_nx pc L (.ref n :: S) σ
  | .anewarray n => bm_nx pc L (.ref n :: S) σ
  | .fconst _ => bm_nx pc L (.int (nI 1) :: S) σ
  | .dconst _ => bm_nx pc L (.retAddr 0 :: S) σ
  | .iload k => match bm_get L k with
    | .int x => bm_nx pc L (.int x :: S) σ
    | _ => []
  | .aload k => match bm_get L k with
    | .ref x => bm_nx pc L (.ref x :: S) σ
    | _ => []
  | .lload k => match bm_get L k with
    | .long x => bm_nx pc L (.long x :: S) σ
    | _ => []
  | .istore k => match S with
    | .int x :: S => bm_nx pc (bm_put L k (.int x)) S σ
    | _ => []
  | .astore k => match S with
    | .ref x :: S => bm_nx pc (bm_put L k (.ref x)) S σ
    | _ => []
  | .lstore k => match S with
    | .long x :: S => bm_nx pc (bm_put (bm_put L (k + 1) .null) k (.long x)) S σ
    | _ => []
  | .iinc k n => match bm_get L k with
    | .int x => match n with
      | .ofNat n => bm_nx pc (bm_put L k (.int (x + nI n))) S σ
      | .negSucc n => bm_nx pc (bm_put L k (.int (x - nI (n + 1)))) S σ
    | _ => []
  | .dup => match S with
    | .int x :: S => bm_nx pc L (.int x :: .int x :: S) σ
    | .ref x :: S => bm_nx pc L (.ref x :: .ref x :: S) σ
    | _ => []
  | .dup2 => match S with
    | .int x :: .ref y :: S => bm_nx pc L (.int x :: .ref y :: .int x :: .ref y :: S) σ
    | _ => []
  | .pop => match S with
    | .int _ :: S => bm_nx pc L S σ
    | _ => []
  | .iadd => match S with
    | .int y :: .int x :: S => bm_nx pc L (.int (x + y) :: S) σ
    | _ => []
  | .isub => match S with
    | .int y :: .int x :: S => bm_nx pc L (.int (x - y) :: S) σ
    | _ => []
  | .imul => match S with
    | .int y :: .int x :: S => bm_nx pc L (.int (x * y) :: S) σ
    | _ => []
  | .iand => match S with
    | .int y :: .int x :: S => bm_nx pc L (.int (x &&& y) :: S) σ
    | _ => []
  | .ior => match S with
    | .int y :: .int x :: S => bm_nx pc L (.int (x ||| y) :: S) σ
    | _ => []
  | .idiv => match S with
    | .int y :: .int x :: S => bm_nxs (bm_nz y) pc L (.int (x / y) :: S) σ
    | _ => []
  | .irem => match S with
    | .int y :: .int x :: S => bm_nxs (bm_nz y) pc L (.int (bm_rem x y) :: S) σ
    | _ => []
  | .ishl => match S with
    | .int y :: .int x :: S => bm_nx pc L (.int (bm_shl x y) :: S) σ
    | _ => []
  | .ishr => match S with
    | .int y :: .int x :: S => bm_nx pc L (.int (bm_shr x y) :: S) σ
    | _ => []
  | .iushr => match S with
    | .int y :: .int x :: S => bm_nx pc L (.int (bm_ushr x y) :: S) σ
    | _ => []
  | .dmul => match S with
    | .int y :: .int x :: S => bm_nxs (Nat.ble (bm_cat S) 8) pc L (.int (bm_max x y) :: S) σ
    | _ => []
  | .dadd => match S with
    | .int y :: .int x :: S => bm_nxs (Nat.ble (bm_cat S) 8) pc L (.int (bm_min x y) :: S) σ
    | _ => []
  | .ladd => match S with
    | .long y :: .long x :: S => bm_nx pc L (.long (x + y) :: S) σ
    | _ => []
  | .lmul => match S with
    | .long y :: .long x :: S => bm_nx pc L (.long (x * y) :: S) σ
    | _ => []
  | .ldiv => match S with
    | .long y :: .long x :: S => bm_nxg (bm_nzl y) pc L (.long (x / y) :: S) σ
    | _ => []
  | .lrem => match S with
    | .long y :: .long x :: S => bm_nxg (bm_nzl y) pc L (.long (bm_lrem x y) :: S) σ
    | _ => []
  | .lcmp => match S with
    | .long y :: .long x :: S => bm_nx pc L (.int (lg_cmp x y) :: S) σ
    | _ => []
  | .i2l => match S with
    | .int x :: S => bm_nx pc L (.long x.toInt64 :: S) σ
    | _ => []
  | .i2b => match S with
    | .int x :: S => bm_nx pc L (.int x.toInt8.toInt32 :: S) σ
    | _ => []
  | .i2s => match S with
    | .int x :: S => bm_nx pc L (.int x.toInt16.toInt32 :: S) σ
    | _ => []
  | .i2c => match S with
    | .int x :: S => bm_nx pc L (.int (x.toUInt32 % 65536).toInt32 :: S) σ
    | _ => []
  | .goto t => [(0, true, .inl (t.toNat, L, S, σ))]
  | .if_icmp c t => match S with
    | .int y :: .int x :: S => bm_cmp c x y t.toNat pc L S σ
    | _ => []
  | .ifCond c t => match S with
    | .int x :: S => bm_cmp c x 0 t.toNat pc L S σ
    | _ => []
  | .lookupswitch d ps => match S with
    | .int x :: S => bm_sw x d.toNat L S σ ps.toList
    | _ => []
  | .getfield n => match S with
    | .ref k :: S => bm_nxs (Nat.beq (bm_oc k) (n / 32)) pc L (.int (σ k (n % 32)) :: S) σ
    | _ => []
  | .instanceof n => match S with
    | .ref k :: S => bm_nxs (Nat.beq (bm_oc k) (n / 64 / 32)) pc L (.ref (k + n % 64) :: S) σ
    | _ => []
  | .putfield n => match S with
    | .int v :: .ref k :: S => bm_nxs (Nat.beq (bm_oc k) (n / 32)) pc L S (bm_up σ k (n % 32) v)
    | _ => []
  | .checkcast n => match S with
    | .int v :: .ref k :: S => bm_nxg (Nat.beq (bm_oc k) (n / 32) && bm_bo v) pc L S (bm_up σ k (n % 32) v)
    | _ => []
  | .iaload => match S with
    | .int i :: .ref k :: S => bm_nxg (bm_in i (bm_al k)) pc L (.int (σ k i.toNatClampNeg) :: S) σ
    | _ => []
  | .iastore => match S with
    | .int v :: .int i :: .ref k :: S => bm_nxg (bm_in i (bm_al k)) pc L S (bm_up σ k i.toNatClampNeg v)
    | _ => []
  | .aaload => match S with
    | .int i :: .ref k :: S => bm_nxg (Nat.beq k 36 && bm_in i 4) pc L (.ref (37 + i.toNatClampNeg) :: S) σ
    | _ => []
  | .saload => match S with
    | .int i :: .ref k :: S => bm_nxg (Nat.ble 55 k && Nat.ble k 58 && bm_in i (bm_rl X k)) pc L (.int (bm_rv X k i.toNatClampNeg) :: S) σ
    | _ => []
  | .baload => match S with
    | .int i :: .ref k :: S => bm_nxg (bm_sv k && bm_in i (bm_rl X k)) pc L (.int (bm_rv X k i.toNatClampNeg) :: S) σ
    | _ => []
  | .arraylength => match S with
    | .ref k :: S => bm_nxs (Nat.ble 55 k && Nat.ble k 58) pc L (.int (nI (bm_rl X k)) :: S) σ
    | _ => []
  | .fsub => match S with
    | .ref k :: S => bm_nxg (bm_sv k) pc L (.int (nI (bm_rl X k)) :: S) σ
    | _ => []
  | .f2l => match S with
    | .ref k :: S => bm_nxg (bm_st k) pc L (.ref (k + 20) :: S) σ
    | _ => []
  | .fadd => match S with
    | .ref k :: S => bm_nxg (bm_st k) pc L (.int (nI 0) :: S) σ
    | _ => []
  | .dastore => match S with
    | .int n :: .int dp :: .ref d :: .int sp :: .ref s :: S => bm_nxg (Nat.ble (bm_cat S) 8 && bm_ac sp dp n (bm_al s) (bm_al d)) pc L S (bm_cp σ s d sp.toNatClampNeg dp.toNatClampNeg n.toNatClampNeg)
    | _ => []
  | .invokevirtual n => [(2, bm_cg n (bm_take (n / 32 % 8) S []) (bm_drop (n / 32 % 8) S), .inr (.inl (n / 4096, n / 8 % 4, bm_pad (n / 256 % 16) (bm_spread (bm_take (n / 32 % 8) S [])), pc + 1, L, bm_drop (n / 32 % 8) S, σ)))]
  | .invokespecial n => [(3, bm_cg n (bm_take (n / 32 % 8) S []) (bm_drop (n / 32 % 8) S), .inr (.inl (n / 4096, n / 8 % 4, bm_pad (n / 256 % 16) (bm_spread (bm_take (n / 32 % 8) S [])), pc + 1, L, bm_drop (n / 32 % 8) S, σ)))]
  | .ireturn => match S with
    | [.int x] => [(0, true, .inr (.inr (.int x, σ)))]
    | _ => []
  | .freturn => match S with
    | [.int x] => [(3, bm_bo x, .inr (.inr (.int x, σ)))]
    | _ => []
  | .d2f => match S with
    | [.int x] => [(3, bm_by x, .inr (.inr (.int x, σ)))]
    | _ => []
  | .d2i => match S with
    | [.int x] => [(3, bm_ch x, .inr (.inr (.int x, σ)))]
    | _ => []
  | .lreturn => match S with
    | [.long x] => [(0, true, .inr (.inr (.long x, σ)))]
    | _ => []
  | .areturn => match S with
    | [.ref x] => [(0, true, .inr (.inr (.ref x, σ)))]
    | _ => []
  | .return_ => match S with
    | [] => [(0, true, .inr (.inr (.null, σ)))]
    | _ => []
  | _ => []
