/-! THE SMALL MACHINE. Values: an int, a long, a reference (none: null; some k: the k-th cell that was made), a thing that was there before (0 the script, 1 the words' String). A cell's shape: its kind (below 20 the number of its class, 20 byte, 21 char, 22 int, 23 long, 24 boolean, 25 Board, 26 Rule, 27 Scene, 28 int rows), its length, what its reference fields hold (0 null, k + 1 cell k). What ints and longs a cell holds: a function. -/
abbrev mV : Type := Sum Int (Sum Int (Sum (Option Nat) Nat))
abbrev mSh : Type := Nat × Nat × List Nat
abbrev mSt : Type := Nat → Nat → Int
abbrev mE : Type := Instr × Nat × Int × Int × Nat × Nat
abbrev mLo : Type := List (Option mV)
abbrev mRt : Type := Option mV → List mSh → mSt → Prop
abbrev mI (x : Int) : mV := Sum.inl x
abbrev mJ (x : Int) : mV := Sum.inr (Sum.inl x)
abbrev mR (k : Nat) : mV := Sum.inr (Sum.inr (Sum.inl (some k)))
abbrev mN : mV := Sum.inr (Sum.inr (Sum.inl none))
abbrev mX (j : Nat) : mV := Sum.inr (Sum.inr (Sum.inr j))
def w32 (x : Int) : Int := Int.bmod x 4294967296
def w64 (x : Int) : Int := Int.bmod x 18446744073709551616
def w8 (x : Int) : Int := Int.bmod x 256
def iAnd (x y : Int) : Int := (Int32.ofInt x &&& Int32.ofInt y).toInt
def iOr (x y : Int) : Int := (Int32.ofInt x ||| Int32.ofInt y).toInt
def iXor (x y : Int) : Int := (Int32.ofInt x ^^^ Int32.ofInt y).toInt
def iShl (x y : Int) : Int := (Int32.ofInt x <<< (Int32.ofInt y &&& 31)).toInt
def iShr (x y : Int) : Int := (Int32.ofInt x >>> (Int32.ofInt y &&& 31)).toInt
def iUsh (x y : Int) : Int := (((Int32.ofInt x).toUInt32 >>> ((Int32.ofInt y).toUInt32 &&& Int32.toUInt32 31)).toInt32).toInt
def iMax (x y : Int) : Int := if x < y then y else x
def iMin (x y : Int) : Int := if y < x then y else x
def lAnd (x y : Int) : Int := (Int64.ofInt x &&& Int64.ofInt y).toInt
def lOr (x y : Int) : Int := (Int64.ofInt x ||| Int64.ofInt y).toInt
def lShl (x y : Int) : Int := (Int64.ofInt x <<< ((Int32.ofInt y).toInt64 &&& 63)).toInt
def lCmp (x y : Int) : Int := if x < y then -1 else if x = y then 0 else 1
/-! taking from the stack and from the variables -/
def eI (st : List mV) (k : Int → List mV → Prop) : Prop := match st with
  | Sum.inl x :: t => k x t
  | _ => False
def eJ (st : List mV) (k : Int → List mV → Prop) : Prop := match st with
  | Sum.inr (Sum.inl x) :: t => k x t
  | _ => False
def eR (st : List mV) (k : Nat → List mV → Prop) : Prop := match st with
  | Sum.inr (Sum.inr (Sum.inl (some a))) :: t => k a t
  | _ => False
def eX (st : List mV) (k : Nat → List mV → Prop) : Prop := match st with
  | Sum.inr (Sum.inr (Sum.inr j)) :: t => k j t
  | _ => False
def eO (st : List mV) (k : Option Nat → List mV → Prop) : Prop := match st with
  | Sum.inr (Sum.inr (Sum.inl r)) :: t => k r t
  | _ => False
/-- one value of one word -/
def eW (st : List mV) (k : mV → List mV → Prop) : Prop := match st with
  | Sum.inl x :: t => k (Sum.inl x) t
  | Sum.inr (Sum.inr r) :: t => k (Sum.inr (Sum.inr r)) t
  | _ => False
def gI (ls : mLo) (i : Nat) (k : Int → Prop) : Prop := match ls[i]? with
  | some (some (Sum.inl x)) => k x
  | _ => False
def gJ (ls : mLo) (i : Nat) (k : Int → Prop) : Prop := match ls[i]? with
  | some (some (Sum.inr (Sum.inl x))) => k x
  | _ => False
def gA (ls : mLo) (i : Nat) (k : mV → Prop) : Prop := match ls[i]? with
  | some (some (Sum.inr (Sum.inr r))) => k (Sum.inr (Sum.inr r))
  | _ => False
/-- what is left of a variable when the next one is written -/
def kL (n : Nat) (h : Option mV) : Option mV := match n, h with
  | 0, some (Sum.inr (Sum.inl _)) => none
  | _, h => h
def sL (ls : mLo) (i : Nat) (v : mV) (k : mLo → Prop) : Prop := match ls, i with
  | [], _ => False
  | _ :: t, 0 => k (some v :: t)
  | h :: t, n + 1 => sL t n v (fun t' => k (kL n h :: t'))
def sJ (ls : mLo) (i : Nat) (v : mV) (k : mLo → Prop) : Prop := match ls, i with
  | _ :: _ :: t, 0 => k (some v :: none :: t)
  | h :: t, n + 1 => sJ t n v (fun t' => k (kL n h :: t'))
  | _, _ => False
def popA (n : Nat) (st : List mV) (acc : List mV) (k : List mV → List mV → Prop) : Prop := match n, st with
  | 0, st => k acc st
  | n + 1, v :: t => popA n t (v :: acc) k
  | _, _ => False
def pushR (r : Option mV) (st : List mV) (k : List mV → Prop) : Prop := match r with
  | none => k st
  | some v => k (v :: st)
/-- words on the stack -/
def sW (st : List mV) : Nat := match st with
  | [] => 0
  | Sum.inr (Sum.inl _) :: t => sW t + 2
  | _ :: t => sW t + 1
/-! shapes -/
def kS (S : List mSh) (a : Nat) : Nat := match S[a]? with
  | some q => q.1
  | none => 99
def nS (S : List mSh) (a : Nat) : Nat := match S[a]? with
  | some q => q.2.1
  | none => 0
def rS (S : List mSh) (a k : Nat) : Nat := match S[a]? with
  | some q => q.2.2.getD k 0
  | none => 0
def lS (S : List mSh) (a : Nat) : Nat := match S[a]? with
  | some q => q.2.2.length
  | none => 0
def aS (S : List mSh) (a kd n : Nat) : Prop := kS S a = kd ∧ nS S a = n
def pS (S : List mSh) (a k v : Nat) : List mSh := S.modify a (fun q => (q.1, q.2.1, q.2.2.set k v))
def uS (s : mSt) (a k : Nat) (x : Int) : mSt := fun b j => if b = a ∧ j = k then x else s b j
def zS (s : mSt) (a : Nat) (x : Int) : mSt := fun b j => if b = a then x else s b j
def cS (s : mSt) (a sp b dp n : Nat) : mSt := fun c j => if c = b ∧ dp ≤ j ∧ j < dp + n then s a (sp + (j - dp)) else s c j
def mM2 (S : List mSh) (s : mSt) : mSt := fun b j => if b = S.length then (S.length + 1 + j : Nat) else if S.length < b then 0 else s b j
def okR (rk : Nat) (x : Int) : Prop := match rk with
  | 1 => True
  | 2 => x = 0 ∨ x = 1
  | 3 => 0 ≤ x ∧ x < 65536
  | _ => False
def akOf (ci : Int) : Nat := if ci = 0 then 25 else if ci = 5 then 26 else 27
def elOf (kd : Nat) : Nat := if kd = 25 then 0 else if kd = 26 then 5 else 7
def atOf (t : ArrayType) : Nat := match t with
  | .byte => 20
  | .char => 21
  | .int => 22
  | .long => 23
  | .boolean => 24
  | _ => 98
def tT (pc : Nat) (dflt lo hi : Int) (offs : Array Int) (x : Int) : Nat := ((pc : Int) + (if x < lo ∨ hi < x then dflt else (offs[(x - lo).toNat]?).getD dflt)).toNat
def tL (pc : Nat) (dflt : Int) (ps : Array (Int × Int)) (x : Int) : Nat := ((pc : Int) + Op.lookupswitch.offset ps.toList dflt x).toNat
/-- the words' text, as numbers of chars -/
def mTx : List Nat := "candidate papers extra rest nights kept finish work busy waiting turn day paper taken plan if or and not ".toList.map Char.toNat
/-! one instruction -/
def ex1 (X : (Nat → Int) × Nat) (sc : Bool) (rk d bud pc : Nat) (i : mE) (ls : mLo) (st : List mV) (S : List mSh) (s : mSt)
    (go : Nat → Nat → mLo → List mV → List mSh → mSt → Prop) (call : Nat → List mV → List mSh → mSt → mRt → Prop) (ret : mRt) : Prop :=
  match i.1 with
  | .iconst v => go bud (pc + i.2.1) ls (mI v :: st) S s
  | .bipush v => go bud (pc + i.2.1) ls (mI v :: st) S s
  | .sipush v => go bud (pc + i.2.1) ls (mI v :: st) S s
  | .lconst v => go bud (pc + i.2.1) ls (mJ v.val :: st) S s
  | .aconst_null => go bud (pc + i.2.1) ls (mN :: st) S s
  | .ldc _ => match i.2.2.2.1 with
    | 0 => go bud (pc + i.2.1) ls (mI i.2.2.1 :: st) S s
    | _ => go bud (pc + i.2.1) ls (mX 1 :: st) S s
  | .ldc_w _ => go bud (pc + i.2.1) ls (mI i.2.2.1 :: st) S s
  | .ldc2_w _ => go bud (pc + i.2.1) ls (mJ i.2.2.1 :: st) S s
  | .iload n => gI ls n fun x => go bud (pc + i.2.1) ls (mI x :: st) S s
  | .iload_n n => gI ls n.val fun x => go bud (pc + i.2.1) ls (mI x :: st) S s
  | .lload n => gJ ls n fun x => go bud (pc + i.2.1) ls (mJ x :: st) S s
  | .lload_n n => gJ ls n.val fun x => go bud (pc + i.2.1) ls (mJ x :: st) S s
  | .aload n => gA ls n fun v => go bud (pc + i.2.1) ls (v :: st) S s
  | .aload_n n => gA ls n.val fun v => go bud (pc + i.2.1) ls (v :: st) S s
  | .istore n => eI st fun x st => sL ls n (mI x) fun ls => go bud (pc + i.2.1) ls st S s
  | .istore_n n => eI st fun x st => sL ls n.val (mI x) fun ls => go bud (pc + i.2.1) ls st S s
  | .lstore n => eJ st fun x st => sJ ls n (mJ x) fun ls => go bud (pc + i.2.1) ls st S s
  | .lstore_n n => eJ st fun x st => sJ ls n.val (mJ x) fun ls => go bud (pc + i.2.1) ls st S s
  | .astore n => eO st fun r st => sL ls n (Sum.inr (Sum.inr (Sum.inl r))) fun ls => go bud (pc + i.2.1) ls st S s
  | .astore_n n => eO st fun r st => sL ls n.val (Sum.inr (Sum.inr (Sum.inl r))) fun ls => go bud (pc + i.2.1) ls st S s
  | .iinc n c => gI ls n fun x => sL ls n (mI (w32 (x + c))) fun ls => go bud (pc + i.2.1) ls st S s
  | .pop => eW st fun _ st => go bud (pc + i.2.1) ls st S s
  | .dup => eW st fun v st => go bud (pc + i.2.1) ls (v :: v :: st) S s
  | .dup2 => eW st fun v st => eW st fun u st => go bud (pc + i.2.1) ls (v :: u :: v :: u :: st) S s
  | .iadd => eI st fun y st => eI st fun x st => go bud (pc + i.2.1) ls (mI (w32 (x + y)) :: st) S s
  | .isub => eI st fun y st => eI st fun x st => go bud (pc + i.2.1) ls (mI (w32 (x - y)) :: st) S s
  | .imul => eI st fun y st => eI st fun x st => go bud (pc + i.2.1) ls (mI (w32 (x * y)) :: st) S s
  | .idiv => eI st fun y st => eI st fun x st => y ≠ 0 ∧ go bud (pc + i.2.1) ls (mI (w32 (x.tdiv y)) :: st) S s
  | .irem => eI st fun y st => eI st fun x st => y ≠ 0 ∧ go bud (pc + i.2.1) ls (mI (x.tmod y) :: st) S s
  | .iand => eI st fun y st => eI st fun x st => go bud (pc + i.2.1) ls (mI (iAnd x y) :: st) S s
  | .ior => eI st fun y st => eI st fun x st => go bud (pc + i.2.1) ls (mI (iOr x y) :: st) S s
  | .ixor => eI st fun y st => eI st fun x st => go bud (pc + i.2.1) ls (mI (iXor x y) :: st) S s
  | .ishl => eI st fun y st => eI st fun x st => go bud (pc + i.2.1) ls (mI (iShl x y) :: st) S s
  | .ishr => eI st fun y st => eI st fun x st => go bud (pc + i.2.1) ls (mI (iShr x y) :: st) S s
  | .iushr => eI st fun y st => eI st fun x st => go bud (pc + i.2.1) ls (mI (iUsh x y) :: st) S s
  | .i2l => eI st fun x st => go bud (pc + i.2.1) ls (mJ x :: st) S s
  | .i2b => eI st fun x st => go bud (pc + i.2.1) ls (mI (w8 x) :: st) S s
  | .i2c => eI st fun x st => go bud (pc + i.2.1) ls (mI (x % 65536) :: st) S s
  | .l2i => eJ st fun x st => go bud (pc + i.2.1) ls (mI (w32 x) :: st) S s
  | .ladd => eJ st fun y st => eJ st fun x st => go bud (pc + i.2.1) ls (mJ (w64 (x + y)) :: st) S s
  | .lsub => eJ st fun y st => eJ st fun x st => go bud (pc + i.2.1) ls (mJ (w64 (x - y)) :: st) S s
  | .lmul => eJ st fun y st => eJ st fun x st => go bud (pc + i.2.1) ls (mJ (w64 (x * y)) :: st) S s
  | .ldiv => eJ st fun y st => eJ st fun x st => y ≠ 0 ∧ go bud (pc + i.2.1) ls (mJ (w64 (x.tdiv y)) :: st) S s
  | .lrem => eJ st fun y st => eJ st fun x st => y ≠ 0 ∧ go bud (pc + i.2.1) ls (mJ (x.tmod y) :: st) S s
  | .land => eJ st fun y st => eJ st fun x st => go bud (pc + i.2.1) ls (mJ (lAnd x y) :: st) S s
  | .lor => eJ st fun y st => eJ st fun x st => go bud (pc + i.2.1) ls (mJ (lOr x y) :: st) S s
  | .lshl => eI st fun y st => eJ st fun x st => go bud (pc + i.2.1) ls (mJ (lShl x y) :: st) S s
  | .lcmp => eJ st fun y st => eJ st fun x st => go bud (pc + i.2.1) ls (mI (lCmp x y) :: st) S s
  | .goto _ => go bud i.2.2.1.toNat ls st S s
  | .ifCond .eq _ => eI st fun x st => (x = 0 → go bud i.2.2.1.toNat ls st S s) ∧ (¬ x = 0 → go bud (pc + i.2.1) ls st S s)
  | .ifCond .ne _ => eI st fun x st => (¬ x = 0 → go bud i.2.2.1.toNat ls st S s) ∧ (x = 0 → go bud (pc + i.2.1) ls st S s)
  | .ifCond .lt _ => eI st fun x st => (x < 0 → go bud i.2.2.1.toNat ls st S s) ∧ (¬ x < 0 → go bud (pc + i.2.1) ls st S s)
  | .ifCond .ge _ => eI st fun x st => (0 ≤ x → go bud i.2.2.1.toNat ls st S s) ∧ (¬ 0 ≤ x → go bud (pc + i.2.1) ls st S s)
  | .ifCond .gt _ => eI st fun x st => (0 < x → go bud i.2.2.1.toNat ls st S s) ∧ (¬ 0 < x → go bud (pc + i.2.1) ls st S s)
  | .ifCond .le _ => eI st fun x st => (x ≤ 0 → go bud i.2.2.1.toNat ls st S s) ∧ (¬ x ≤ 0 → go bud (pc + i.2.1) ls st S s)
  | .if_icmp .eq _ => eI st fun y st => eI st fun x st => (x = y → go bud i.2.2.1.toNat ls st S s) ∧ (¬ x = y → go bud (pc + i.2.1) ls st S s)
  | .if_icmp .ne _ => eI st fun y st => eI st fun x st => (¬ x = y → go bud i.2.2.1.toNat ls st S s) ∧ (x = y → go bud (pc + i.2.1) ls st S s)
  | .if_icmp .lt _ => eI st fun y st => eI st fun x st => (x < y → go bud i.2.2.1.toNat ls st S s) ∧ (¬ x < y → go bud (pc + i.2.1) ls st S s)
  | .if_icmp .ge _ => eI st fun y st => eI st fun x st => (y ≤ x → go bud i.2.2.1.toNat ls st S s) ∧ (¬ y ≤ x → go bud (pc + i.2.1) ls st S s)
  | .if_icmp .gt _ => eI st fun y st => eI st fun x st => (y < x → go bud i.2.2.1.toNat ls st S s) ∧ (¬ y < x → go bud (pc + i.2.1) ls st S s)
  | .if_icmp .le _ => eI st fun y st => eI st fun x st => (x ≤ y → go bud i.2.2.1.toNat ls st S s) ∧ (¬ x ≤ y → go bud (pc + i.2.1) ls st S s)
  | .ifnonnull _ => eO st fun r st => (¬ r = none → go bud i.2.2.1.toNat ls st S s) ∧ (r = none → go bud (pc + i.2.1) ls st S s)
  | .tableswitch dflt lo hi offs => eI st fun x st => go bud (tT pc dflt lo hi offs x) ls st S s
  | .lookupswitch dflt ps => eI st fun x st => go bud (tL pc dflt ps x) ls st S s
  | .getfield _ => eR st fun o st => kS S o = i.2.2.1.toNat ∧ match i.2.2.2.2.1 with
    | 0 => go bud (pc + i.2.1) ls (mI (s o i.2.2.2.1.toNat) :: st) S s
    | 1 => go bud (pc + i.2.1) ls (mJ (s o i.2.2.2.1.toNat) :: st) S s
    | 2 => ∃ r, rS S o i.2.2.2.1.toNat = r + 1 ∧ go bud (pc + i.2.1) ls (mR r :: st) S s
    | _ => go bud (pc + i.2.1) ls (mI (s o i.2.2.2.1.toNat) :: st) S s
  | .putfield _ => match i.2.2.2.2.1 with
    | 0 => eI st fun x st => eR st fun o st => kS S o = i.2.2.1.toNat ∧ go bud (pc + i.2.1) ls st S (uS s o i.2.2.2.1.toNat x)
    | 1 => eJ st fun x st => eR st fun o st => kS S o = i.2.2.1.toNat ∧ go bud (pc + i.2.1) ls st S (uS s o i.2.2.2.1.toNat x)
    | 2 => eR st fun r st => eR st fun o st => (rk = 6 ∧ i.2.2.2.2.2 = 1 ∧ kS S o = i.2.2.1.toNat ∧ i.2.2.2.1.toNat < lS S o) ∧ go bud (pc + i.2.1) ls st (pS S o i.2.2.2.1.toNat (r + 1)) s
    | _ => eI st fun x st => eR st fun o st => (x = 0 ∨ x = 1) ∧ kS S o = i.2.2.1.toNat ∧ go bud (pc + i.2.1) ls st S (uS s o i.2.2.2.1.toNat x)
  | .iaload => match sc with
    | true => eI st fun j st => eX st fun q st => q = 0 ∧ 0 ≤ j ∧ j < X.2 ∧ go bud (pc + i.2.1) ls (mI (X.1 j.toNat) :: st) S s
    | false => eI st fun j st => eR st fun a st => ∃ n, aS S a 22 n ∧ (0 ≤ j ∧ j < n) ∧ go bud (pc + i.2.1) ls (mI (s a j.toNat) :: st) S s
  | .baload => eI st fun j st => eR st fun a st => ∃ kd n, aS S a kd n ∧ (kd = 20 ∨ kd = 24) ∧ (0 ≤ j ∧ j < n) ∧ go bud (pc + i.2.1) ls (mI (s a j.toNat) :: st) S s
  | .caload => eI st fun j st => eR st fun a st => ∃ n, aS S a 21 n ∧ (0 ≤ j ∧ j < n) ∧ go bud (pc + i.2.1) ls (mI (s a j.toNat) :: st) S s
  | .laload => eI st fun j st => eR st fun a st => ∃ n, aS S a 23 n ∧ (0 ≤ j ∧ j < n) ∧ go bud (pc + i.2.1) ls (mJ (s a j.toNat) :: st) S s
  | .aaload => eI st fun j st => eR st fun a st => ∃ kd n, aS S a kd n ∧ (25 ≤ kd ∧ kd ≤ 28) ∧ (0 ≤ j ∧ j < n) ∧ ∃ r : Nat, s a j.toNat = r ∧ go bud (pc + i.2.1) ls (mR r :: st) S s
  | .iastore => eI st fun x st => eI st fun j st => eR st fun a st => ∃ n, aS S a 22 n ∧ (0 ≤ j ∧ j < n) ∧ go bud (pc + i.2.1) ls st S (uS s a j.toNat x)
  | .bastore => eI st fun x st => eI st fun j st => eR st fun a st => ∃ kd n, aS S a kd n ∧ (kd = 20 ∧ -128 ≤ x ∧ x < 128 ∨ kd = 24 ∧ (x = 0 ∨ x = 1)) ∧ (0 ≤ j ∧ j < n) ∧ go bud (pc + i.2.1) ls st S (uS s a j.toNat x)
  | .castore => eI st fun x st => eI st fun j st => eR st fun a st => ∃ n, aS S a 21 n ∧ (0 ≤ x ∧ x < 65536) ∧ (0 ≤ j ∧ j < n) ∧ go bud (pc + i.2.1) ls st S (uS s a j.toNat x)
  | .lastore => eJ st fun x st => eI st fun j st => eR st fun a st => ∃ n, aS S a 23 n ∧ (0 ≤ j ∧ j < n) ∧ go bud (pc + i.2.1) ls st S (uS s a j.toNat x)
  | .aastore => eR st fun r st => eI st fun j st => eR st fun a st => ∃ kd n, aS S a kd n ∧ (25 ≤ kd ∧ kd ≤ 27 ∧ kS S r = elOf kd) ∧ (0 ≤ j ∧ j < n) ∧ go bud (pc + i.2.1) ls st S (uS s a j.toNat r)
  | .arraylength => match sc with
    | true => eX st fun q st => q = 0 ∧ go bud (pc + i.2.1) ls (mI X.2 :: st) S s
    | false => eR st fun a st => ∃ kd n, aS S a kd n ∧ (20 ≤ kd ∧ kd ≤ 28 ∧ n < 2147483648) ∧ go bud (pc + i.2.1) ls (mI n :: st) S s
  | .new _ => match bud with
    | 0 => False
    | b + 1 => (0 ≤ i.2.2.1 ∧ i.2.2.1 < 20) ∧ go b (pc + i.2.1) ls (mR S.length :: st) (S ++ [(i.2.2.1.toNat, i.2.2.2.2.1, List.replicate i.2.2.2.2.1 0)]) (zS s S.length 0)
  | .newarray t => match bud with
    | 0 => False
    | b + 1 => eI st fun n st => (0 ≤ n ∧ n ≤ 2400 ∧ atOf t ≠ 98) ∧ go b (pc + i.2.1) ls (mR S.length :: st) (S ++ [(atOf t, n.toNat, [])]) (zS s S.length 0)
  | .anewarray _ => match bud with
    | 0 => False
    | b + 1 => eI st fun n st => (0 ≤ n ∧ n ≤ 2400 ∧ (i.2.2.1 = 0 ∨ i.2.2.1 = 5 ∨ i.2.2.1 = 7)) ∧ go b (pc + i.2.1) ls (mR S.length :: st) (S ++ [(akOf i.2.2.1, n.toNat, [])]) (zS s S.length (-1))
  | .multianewarray _ _ => eI st fun m st => eI st fun n st => (0 ≤ m ∧ m ≤ 100 ∧ 0 ≤ n ∧ n ≤ 20 ∧ n.toNat + 1 ≤ bud ∧ i.2.2.1 = 28) ∧ go (bud - (n.toNat + 1)) (pc + i.2.1) ls (mR S.length :: st) (S ++ ((28, n.toNat, []) :: List.replicate n.toNat (22, m.toNat, []))) (mM2 S s)
  | .invokespecial _ => match i.2.2.1 with
    | .negSucc _ => eR st fun _ st => (0 < d ∧ sW st ≤ 8) ∧ go bud (pc + i.2.1) ls st S s
    | .ofNat mj => popA i.2.2.2.2.1 st [] fun as st => ((match as with | Sum.inr (Sum.inr (Sum.inl (some k))) :: _ => kS S k = i.2.2.2.2.2 | _ => False) ∧ sW st ≤ 8) ∧ i.2.2.2.1.toNat ≤ bud ∧ call mj as S s (fun r S' s' => pushR r st fun st' => go (bud - i.2.2.2.1.toNat) (pc + i.2.1) ls st' S' s')
  | .invokevirtual _ => match i.2.2.1 with
    | .negSucc 2 => eX st fun q st => q = 1 ∧ (4 < d ∧ sW st ≤ 8) ∧ go bud (pc + i.2.1) ls (mI 105 :: st) S s
    | .negSucc _ => eI st fun j st => eX st fun q st => q = 1 ∧ (4 < d ∧ sW st ≤ 8) ∧ (0 ≤ j ∧ j < 105) ∧ go bud (pc + i.2.1) ls (mI (mTx.getD j.toNat 0 : Nat) :: st) S s
    | .ofNat mj => popA i.2.2.2.2.1 st [] fun as st => ((match as with | Sum.inr (Sum.inr (Sum.inl (some k))) :: _ => kS S k = i.2.2.2.2.2 | _ => False) ∧ sW st ≤ 8) ∧ i.2.2.2.1.toNat ≤ bud ∧ call mj as S s (fun r S' s' => pushR r st fun st' => go (bud - i.2.2.2.1.toNat) (pc + i.2.1) ls st' S' s')
  | .invokestatic _ => match i.2.2.1 with
    | .negSucc 4 => eI st fun y st => eI st fun x st => (0 < d ∧ sW st ≤ 8) ∧ go bud (pc + i.2.1) ls (mI (iMax x y) :: st) S s
    | .negSucc 5 => eI st fun y st => eI st fun x st => (0 < d ∧ sW st ≤ 8) ∧ go bud (pc + i.2.1) ls (mI (iMin x y) :: st) S s
    | .negSucc _ => eI st fun n st => eI st fun dp st => eR st fun b st => eI st fun sp st => eR st fun a st => (0 < d ∧ sW st ≤ 8) ∧ (∃ l0, aS S a 22 l0 ∧ 0 ≤ sp ∧ 0 ≤ n ∧ sp + n ≤ l0) ∧ (∃ l1, aS S b 22 l1 ∧ 0 ≤ dp ∧ dp + n ≤ l1) ∧ go bud (pc + i.2.1) ls st S (cS s a sp.toNat b dp.toNat n.toNat)
    | .ofNat mj => popA i.2.2.2.2.1 st [] fun as st => (sW st ≤ 8 ∧ i.2.2.2.1.toNat ≤ bud) ∧ call mj as S s (fun r S' s' => pushR r st fun st' => go (bud - i.2.2.2.1.toNat) (pc + i.2.1) ls st' S' s')
  | .return_ => match st with
    | [] => (bud = 0 ∧ (rk = 0 ∨ rk = 6)) ∧ ret none S s
    | _ => False
  | .ireturn => match st with
    | [Sum.inl x] => (bud = 0 ∧ okR rk x) ∧ ret (some (mI x)) S s
    | _ => False
  | .lreturn => match st with
    | [Sum.inr (Sum.inl x)] => (bud = 0 ∧ rk = 4) ∧ ret (some (mJ x)) S s
    | _ => False
  | .areturn => match st with
    | [Sum.inr (Sum.inr (Sum.inl r))] => (bud = 0 ∧ rk = 5) ∧ ret (some (Sum.inr (Sum.inr (Sum.inl r)))) S s
    | _ => False
  | _ => False
/-! fetching -/
def mDf : mMR := (⟨"", "", ""⟩, ⟨#[]⟩, 0, none, 0, 0, 0, 0)
def mMd (mi : Nat) : mMR := (mMs.getD (mi / 16) []).getD (mi % 16) mDf
abbrev mY (mi : Nat) : MethodName := (mMd mi).1
abbrev mB (mi : Nat) : ByteArray := (mMd mi).2.1
abbrev mML (mi : Nat) : Nat := (mMd mi).2.2.1
abbrev mRet (mi : Nat) : Option FieldType := (mMd mi).2.2.2.1
abbrev mCn (mi : Nat) : Nat := (mMd mi).2.2.2.2.1
abbrev mRk (mi : Nat) : Nat := (mMd mi).2.2.2.2.2.1
abbrev mCe (mi : Nat) : Nat := (mMd mi).2.2.2.2.2.2.1
abbrev mNa (mi : Nat) : Nat := (mMd mi).2.2.2.2.2.2.2
/-- the index of the pool that an instruction names -/
def mIx (i : Instr) : Option Nat := match i with
  | .getfield k => some k
  | .putfield k => some k
  | .invokespecial k => some k
  | .invokevirtual k => some k
  | .invokestatic k => some k
  | .new k => some k
  | .anewarray k => some k
  | .multianewarray k _ => some k
  | .ldc k => some k
  | .ldc_w k => some k
  | .ldc2_w k => some k
  | _ => none
/-- where an instruction may jump to -/
def mJp (i : Instr) : Option Int := match i with
  | .goto o => some o
  | .ifCond _ o => some o
  | .if_icmp _ o => some o
  | .ifnonnull o => some o
  | _ => none
def mLook (cn k : Nat) : Option mLR := ((mLk.getD cn []).getD (k / 16) []).find? (fun q => q.1 == k)
/-- what an index must mean -/
def mTg (i : Instr) (t : Nat) : Bool := match i with
  | .getfield _ => t == 0
  | .putfield _ => t == 0
  | .invokespecial _ => t == 7
  | .invokevirtual _ => t == 6
  | .invokestatic _ => t == 1
  | .new _ => t == 2
  | .anewarray _ => t == 2
  | .multianewarray _ _ => t == 2
  | .ldc _ => t == 3 || t == 5
  | .ldc_w _ => t == 3
  | .ldc2_w _ => t == 4
  | _ => false
/-- how long an instruction is -/
def mLen (i : Instr) : Nat := match i with
  | .iload _ => 2
  | .lload _ => 2
  | .aload _ => 2
  | .istore _ => 2
  | .lstore _ => 2
  | .astore _ => 2
  | .newarray _ => 2
  | .ldc _ => 2
  | .bipush _ => 2
  | .sipush _ => 3
  | .iinc _ _ => 3
  | .goto _ => 3
  | .ifCond _ _ => 3
  | .if_icmp _ _ => 3
  | .ifnonnull _ => 3
  | .getfield _ => 3
  | .putfield _ => 3
  | .invokespecial _ => 3
  | .invokevirtual _ => 3
  | .invokestatic _ => 3
  | .new _ => 3
  | .anewarray _ => 3
  | .ldc_w _ => 3
  | .ldc2_w _ => 3
  | .multianewarray _ _ => 4
  | _ => 1
/-- an instruction as it is used here -/
def mOK (i : Instr) (len : Nat) : Bool := match i with
  | .tableswitch dflt lo hi offs => decide (0 ≤ dflt) && offs.toList.all (fun o => decide (0 ≤ o)) && offs.size == (hi - lo + 1).toNat
  | .lookupswitch dflt ps => decide (0 ≤ dflt) && (ps.toList.zip (ps.toList.drop 1)).all (fun (a, next) => a.1 < next.1) && ps.toList.all (fun q => decide (0 ≤ q.2))
  | .iconst v => decide (-1 ≤ v ∧ v ≤ 5) && len == 1
  | .bipush v => decide (-128 ≤ v ∧ v < 128) && len == 2
  | .sipush v => decide (-32768 ≤ v ∧ v < 32768) && len == 3
  | .multianewarray _ n => n == 2 && len == 4
  | i => len == mLen i
def mFetch (mi pc : Nat) : Option mE := match decode (mB mi) pc with
  | .ok (i, len) => bif mOK i len then
      match mIx i with
      | some k => (mLook (mCn mi) k).bind fun q => bif mTg i q.2.2.2.2.2.2 then some (i, len, q.2.1, q.2.2.1, q.2.2.2.1, q.2.2.2.2.1) else none
      | none => match mJp i with
        | some o => bif decide (0 ≤ (pc : Int) + o) then some (i, len, (pc : Int) + o, 0, 0, 0) else none
        | none => some (i, len, 0, 0, 0, 0)
      else none
  | .error _ => none
def mArgs (as : List mV) : mLo := match as with
  | [] => []
  | Sum.inr (Sum.inl x) :: t => some (Sum.inr (Sum.inl x)) :: none :: mArgs t
  | v :: t => some v :: mArgs t
def mLoc (as : List mV) (n : Nat) : mLo := mArgs as ++ List.replicate (n - (mArgs as).length) none
/-! runs -/
def dC (d : Nat) (f : Nat → Prop) : Prop := match d with
  | 0 => False
  | d' + 1 => f d'
def wp (X : (Nat → Int) × Nat) (n d bud mi pc : Nat) (ls : mLo) (st : List mV) (S : List mSh) (s : mSt) (Q : mRt) : Prop := match n with
  | 0 => False
  | n + 1 => match mFetch mi pc with
    | none => False
    | some i => ex1 X (mi == 0) (mRk mi) d bud pc i ls st S s (fun bud pc ls st S s => wp X n d bud mi pc ls st S s Q)
        (fun mj as S s K => dC d fun d' => (mArgs as).length ≤ mML mj ∧ wp X n d' (mCe mj) mj 0 (mLoc as (mML mj)) [] S s K) Q
