/-! THE ABSTRACT MACHINE. A memory: ints and references by cell and place, a tag, a length a cell, the number of cells. Cell 0 is null. Tags: 0 .. 12 an object of that class of vwCl; 50 an array of ints; 60 + c an array of references to objects of class c. -/
abbrev Mm : Type := (Nat → Nat → Int32) × (Nat → Nat → Nat) × (Nat → Nat) × (Nat → Nat) × Nat
def mI (M : Mm) (r j : Nat) : Int32 := M.1 r j
def mR (M : Mm) (r j : Nat) : Nat := M.2.1 r j
def mT (M : Mm) (r : Nat) : Nat := M.2.2.1 r
def mL (M : Mm) (r : Nat) : Nat := M.2.2.2.1 r
def mZ (M : Mm) : Nat := M.2.2.2.2
def wI (M : Mm) (r j : Nat) (v : Int32) : Mm := (fun r' j' => if r' = r then (if j' = j then v else M.1 r' j') else M.1 r' j', M.2)
def wR (M : Mm) (r j v : Nat) : Mm := (M.1, fun r' j' => if r' = r then (if j' = j then v else M.2.1 r' j') else M.2.1 r' j', M.2.2)
def wN (M : Mm) (t n : Nat) : Mm := (fun r j => if r = mZ M + 1 then 0 else M.1 r j, fun r j => if r = mZ M + 1 then 0 else M.2.1 r j, fun r => if r = mZ M + 1 then t else M.2.2.1 r, fun r => if r = mZ M + 1 then n else M.2.2.2.1 r, mZ M + 1)
def wC (M : Mm) (r0 sp r1 dp n : Nat) : Mm := (fun r j => if r = r1 then va_cpy (M.1 r0) (M.1 r1) sp dp n j else M.1 r j, M.2)
/-- an instruction: its place, itself, its length, two numbers, a list (switch: keys and targets; else positions in the tables' words and more), a constant -/
abbrev zEn : Type := Nat × Instr × Nat × Nat × Nat × List (Int32 × Nat) × Int32
abbrev zQt : Type := Option Value → Mm → Prop
def zO (M : Mm) (r c : Nat) : Prop := 0 < r ∧ r ≤ mZ M ∧ mT M r = c
def zA (M : Mm) (r : Nat) : Prop := 0 < r ∧ r ≤ mZ M ∧ 60 ≤ mT M r
def zLo : List Value → Nat → Value
  | [], _ => .retAddr 0
  | v :: _, 0 => v
  | _ :: L, i + 1 => zLo L i
def zSe : List Value → Nat → Value → List Value
  | [], _, _ => []
  | _ :: L, 0, v => v :: L
  | w :: L, i + 1, v => w :: zSe L i v
/-- how many words a pile takes -/
def zLn : List Value → Nat
  | [] => 0
  | .int _ :: L => zLn L + 1
  | .ref _ :: L => zLn L + 1
  | .null :: L => zLn L + 1
  | .float _ :: L => zLn L + 1
  | .retAddr _ :: L => zLn L + 1
  | .long _ :: L => zLn L + 2
  | .double _ :: L => zLn L + 2
def zi1 (S : List Value) (f : Int32 → List Value → Prop) : Prop := match S with
  | .int x :: S => f x S
  | _ => False
def zi2 (S : List Value) (f : Int32 → Int32 → List Value → Prop) : Prop := match S with
  | .int y :: .int x :: S => f x y S
  | _ => False
def zl2 (S : List Value) (f : Int64 → Int64 → List Value → Prop) : Prop := match S with
  | .long y :: .long x :: S => f x y S
  | _ => False
def zr1 (S : List Value) (f : Nat → List Value → Prop) (g : Nat → List Value → Prop) : Prop := match S with
  | .ref x :: S => f x S
  | .float x :: S => g x.toNat S
  | _ => False
def zc1 : Value → Bool
  | .int _ => true
  | .ref _ => true
  | .float _ => true
  | _ => false
def zpop : Nat → List Value → List Value → (List Value → List Value → Prop) → Prop
  | 0, a, S, f => f a S
  | _ + 1, _, [], _ => False
  | n + 1, a, v :: S, f => zpop n (v :: a) S f
def zsw (x : Int32) : List (Int32 × Nat) → Nat → (Nat → Prop) → Prop
  | [], d, f => f d
  | (k, t) :: l, d, f => if x = k then f t else zsw x l d f
/-- what lies outside: 0 the static array, 1 the script, 2 a value of which nothing is known, 10 + i the text constant i, 20 + i its bytes -/
def zxB : List (List Int32) := [[115, 97, 108, 101], [115, 99, 114, 97, 112], [98, 97, 99, 107], [107, 102, 115, 100], [107, 103, 100], [98, 115, 102]]
def zxV (X : List Int32) (e : Nat) : List Int32 := if e = 0 then [-1, 0, 0, 2, 1, 0] else if e = 1 then X else zxB.getD (e - 20) []
/-- the rest of the code from the t-th instruction on -/
def zj : List zEn → Nat → List zEn
  | cs, 0 => cs
  | [], _ + 1 => []
  | _ :: cs, t + 1 => zj cs t
def zkd : List (Int32 × Nat) → Nat
  | [] => 0
  | q :: _ => q.2
/-- n instructions, then the tail T -/
def zw (X : List Int32) (C : Nat → List Value → Mm → Option Value → Mm → Prop) (cd : List zEn) (mc ms : Nat) (T : List zEn → List Value → List Value → Nat → Nat → Mm → zQt → Prop) : Nat → List zEn → List Value → List Value → Nat → Nat → Mm → zQt → Prop
  | 0, cs, L, S, uc, us, M, Q => T cs L S uc us M Q
  | _ + 1, [], _, _, _, _, _, _ => False
  | n + 1, (_, ins, _, r1, r2, aux, k) :: cs, L, S, uc, us, M, Q =>
    match ins with
    | .nop => T cs L S uc us M Q
    | .iconst _ => zw X C cd mc ms T n cs L (.int k :: S) uc us M Q
    | .bipush _ => zw X C cd mc ms T n cs L (.int k :: S) uc us M Q
    | .sipush _ => zw X C cd mc ms T n cs L (.int k :: S) uc us M Q
    | .ldc _ => match r1 with
      | 0 => zw X C cd mc ms T n cs L (.int k :: S) uc us M Q
      | e + 1 => zw X C cd mc ms T n cs L (.float (UInt32.ofNat (10 + e)) :: S) uc us M Q
    | .ldc_w _ => zw X C cd mc ms T n cs L (.int k :: S) uc us M Q
    | .ldc2_w _ => zw X C cd mc ms T n cs L (.long k.toInt64 :: S) uc us M Q
    | .lconst _ => zw X C cd mc ms T n cs L (.long k.toInt64 :: S) uc us M Q
    | .iload_n _ => match zLo L r1 with
      | .int x => zw X C cd mc ms T n cs L (.int x :: S) uc us M Q
      | _ => False
    | .iload _ => match zLo L r1 with
      | .int x => zw X C cd mc ms T n cs L (.int x :: S) uc us M Q
      | _ => False
    | .lload_n _ => match zLo L r1 with
      | .long x => zw X C cd mc ms T n cs L (.long x :: S) uc us M Q
      | _ => False
    | .lload _ => match zLo L r1 with
      | .long x => zw X C cd mc ms T n cs L (.long x :: S) uc us M Q
      | _ => False
    | .aload_n _ => match zLo L r1 with
      | .ref x => zw X C cd mc ms T n cs L (.ref x :: S) uc us M Q
      | .float x => zw X C cd mc ms T n cs L (.float x :: S) uc us M Q
      | _ => False
    | .aload _ => match zLo L r1 with
      | .ref x => zw X C cd mc ms T n cs L (.ref x :: S) uc us M Q
      | .float x => zw X C cd mc ms T n cs L (.float x :: S) uc us M Q
      | _ => False
    | .istore_n _ => zi1 S fun x S => zw X C cd mc ms T n cs (zSe L r1 (.int x)) S uc us M Q
    | .istore _ => zi1 S fun x S => zw X C cd mc ms T n cs (zSe L r1 (.int x)) S uc us M Q
    | .astore_n _ => zr1 S (fun x S => zw X C cd mc ms T n cs (zSe L r1 (.ref x)) S uc us M Q) (fun _ _ => False)
    | .astore _ => zr1 S (fun x S => zw X C cd mc ms T n cs (zSe L r1 (.ref x)) S uc us M Q) (fun _ _ => False)
    | .iinc _ _ => match zLo L r1 with
      | .int x => zw X C cd mc ms T n cs (zSe L r1 (.int (x + k))) S uc us M Q
      | _ => False
    | .iadd => zi2 S fun x y S => zw X C cd mc ms T n cs L (.int (x + y) :: S) uc us M Q
    | .isub => zi2 S fun x y S => zw X C cd mc ms T n cs L (.int (x - y) :: S) uc us M Q
    | .imul => zi2 S fun x y S => zw X C cd mc ms T n cs L (.int (x * y) :: S) uc us M Q
    | .iand => zi2 S fun x y S => zw X C cd mc ms T n cs L (.int (x &&& y) :: S) uc us M Q
    | .ior => zi2 S fun x y S => zw X C cd mc ms T n cs L (.int (x ||| y) :: S) uc us M Q
    | .ixor => zi2 S fun x y S => zw X C cd mc ms T n cs L (.int (x ^^^ y) :: S) uc us M Q
    | .ishl => zi2 S fun x y S => zw X C cd mc ms T n cs L (.int (x <<< (y &&& 31)) :: S) uc us M Q
    | .ishr => zi2 S fun x y S => zw X C cd mc ms T n cs L (.int (x >>> (y &&& 31)) :: S) uc us M Q
    | .iushr => zi2 S fun x y S => zw X C cd mc ms T n cs L (.int (x.toUInt32 >>> (y.toUInt32 &&& Int32.toUInt32 31)).toInt32 :: S) uc us M Q
    | .idiv => zi2 S fun x y S => ¬ y = 0 ∧ zw X C cd mc ms T n cs L (.int (x / y) :: S) uc us M Q
    | .irem => zi2 S fun x y S => ¬ y = 0 ∧ zw X C cd mc ms T n cs L (.int (x - x / y * y) :: S) uc us M Q
    | .ineg => zi1 S fun x S => zw X C cd mc ms T n cs L (.int (-x) :: S) uc us M Q
    | .i2s => zi1 S fun x S => zw X C cd mc ms T n cs L (.int x.toInt16.toInt32 :: S) uc us M Q
    | .i2c => zi1 S fun x S => zw X C cd mc ms T n cs L (.int (x.toUInt32 % 65536).toInt32 :: S) uc us M Q
    | .i2b => zi1 S fun x S => zw X C cd mc ms T n cs L (.int x.toInt8.toInt32 :: S) uc us M Q
    | .i2l => zi1 S fun x S => zw X C cd mc ms T n cs L (.long x.toInt64 :: S) uc us M Q
    | .ladd => zl2 S fun x y S => zw X C cd mc ms T n cs L (.long (x + y) :: S) uc us M Q
    | .lcmp => zl2 S fun x y S => zw X C cd mc ms T n cs L (.int (lg_cmp x y) :: S) uc us M Q
    | .dup => match S with
      | v :: S => zc1 v = true ∧ zw X C cd mc ms T n cs L (v :: v :: S) uc us M Q
      | _ => False
    | .dup2 => match S with
      | v :: w :: S => (zc1 v = true ∧ zc1 w = true) ∧ zw X C cd mc ms T n cs L (v :: w :: v :: w :: S) uc us M Q
      | _ => False
    | .pop => match S with
      | v :: S => zc1 v = true ∧ zw X C cd mc ms T n cs L S uc us M Q
      | _ => False
    | .goto _ => zw X C cd mc ms T n (zj cd r1) L S uc us M Q
    | .if_icmp c _ => zi2 S fun x y S => match c with
      | .eq => if x = y then zw X C cd mc ms T n (zj cd r1) L S uc us M Q else zw X C cd mc ms T n cs L S uc us M Q
      | .ne => if x = y then zw X C cd mc ms T n cs L S uc us M Q else zw X C cd mc ms T n (zj cd r1) L S uc us M Q
      | .lt => if x < y then zw X C cd mc ms T n (zj cd r1) L S uc us M Q else zw X C cd mc ms T n cs L S uc us M Q
      | .ge => if y ≤ x then zw X C cd mc ms T n (zj cd r1) L S uc us M Q else zw X C cd mc ms T n cs L S uc us M Q
      | .gt => if y < x then zw X C cd mc ms T n (zj cd r1) L S uc us M Q else zw X C cd mc ms T n cs L S uc us M Q
      | .le => if x ≤ y then zw X C cd mc ms T n (zj cd r1) L S uc us M Q else zw X C cd mc ms T n cs L S uc us M Q
    | .ifCond c _ => zi1 S fun x S => match c with
      | .eq => if x = 0 then zw X C cd mc ms T n (zj cd r1) L S uc us M Q else zw X C cd mc ms T n cs L S uc us M Q
      | .ne => if x = 0 then zw X C cd mc ms T n cs L S uc us M Q else zw X C cd mc ms T n (zj cd r1) L S uc us M Q
      | .lt => if x < 0 then zw X C cd mc ms T n (zj cd r1) L S uc us M Q else zw X C cd mc ms T n cs L S uc us M Q
      | .ge => if 0 ≤ x then zw X C cd mc ms T n (zj cd r1) L S uc us M Q else zw X C cd mc ms T n cs L S uc us M Q
      | .gt => if 0 < x then zw X C cd mc ms T n (zj cd r1) L S uc us M Q else zw X C cd mc ms T n cs L S uc us M Q
      | .le => if x ≤ 0 then zw X C cd mc ms T n (zj cd r1) L S uc us M Q else zw X C cd mc ms T n cs L S uc us M Q
    | .ifnonnull _ => zr1 S (fun x S => if x = 0 then zw X C cd mc ms T n cs L S uc us M Q else zw X C cd mc ms T n (zj cd r1) L S uc us M Q) (fun _ _ => False)
    | .tableswitch _ _ _ _ => zi1 S fun x S => zsw x aux r1 fun t => zw X C cd mc ms T n (zj cd t) L S uc us M Q
    | .lookupswitch _ _ => zi1 S fun x S => zsw x aux r1 fun t => zw X C cd mc ms T n (zj cd t) L S uc us M Q
    | .getfield _ => zr1 S (fun r S => zO M r r1 ∧ match zkd aux with
        | 0 => zw X C cd mc ms T n cs L (.int (mI M r r2) :: S) uc us M Q
        | 1 => zw X C cd mc ms T n cs L (.int (mI M r r2) :: S) uc us M Q
        | _ + 2 => zw X C cd mc ms T n cs L (.ref (mR M r r2) :: S) uc us M Q) (fun e S => (10 ≤ e ∧ e < 16) ∧ r1 = 100 ∧ match r2 with
        | 0 => zw X C cd mc ms T n cs L (.float (UInt32.ofNat (e + 10)) :: S) uc us M Q
        | _ + 1 => zw X C cd mc ms T n cs L (.int 0 :: S) uc us M Q)
    | .getstatic _ => match r1 with
      | 0 => zw X C cd mc ms T n cs L (.float 0 :: S) uc us M Q
      | 1 => zw X C cd mc ms T n cs L (.int 1 :: S) uc us M Q
      | _ + 2 => zw X C cd mc ms T n cs L (.float 2 :: S) uc us M Q
    | .putfield _ => match zkd aux with
      | 0 => zi1 S fun x S => zr1 S (fun r S => zO M r r1 ∧ zw X C cd mc ms T n cs L S uc us (wI M r r2 x) Q) (fun _ _ => False)
      | 1 => zi1 S fun x S => zr1 S (fun r S => (x = 0 ∨ x = 1) ∧ zO M r r1 ∧ zw X C cd mc ms T n cs L S uc us (wI M r r2 x) Q) (fun _ _ => False)
      | _ + 2 => zr1 S (fun x S => zr1 S (fun r S => zO M r r1 ∧ zw X C cd mc ms T n cs L S uc us (wR M r r2 x) Q) (fun _ _ => False)) (fun _ _ => False)
    | .newarray _ => zi1 S fun x S => (¬ x < 0 ∧ x.toNatClampNeg ≤ 100000 ∧ uc + 1 ≤ mc ∧ us + x.toNatClampNeg ≤ ms) ∧ zw X C cd mc ms T n cs L (.ref (mZ M + 1) :: S) (uc + 1) (us + x.toNatClampNeg) (wN M 50 x.toNatClampNeg) Q
    | .anewarray _ => zi1 S fun x S => (¬ x < 0 ∧ x.toNatClampNeg ≤ 100000 ∧ uc + 1 ≤ mc ∧ us + x.toNatClampNeg ≤ ms) ∧ zw X C cd mc ms T n cs L (.ref (mZ M + 1) :: S) (uc + 1) (us + x.toNatClampNeg) (wN M r1 x.toNatClampNeg) Q
    | .new _ => (uc + 1 ≤ mc ∧ us + r2 ≤ ms) ∧ zw X C cd mc ms T n cs L (.ref (mZ M + 1) :: S) (uc + 1) (us + r2) (wN M r1 r2) Q
    | .iaload => zi1 S fun i S => zr1 S (fun r S => zO M r 50 ∧ vp_in i (mL M r) ∧ zw X C cd mc ms T n cs L (.int (mI M r i.toNatClampNeg) :: S) uc us M Q) (fun e S => e < 2 ∧ vp_in i (zxV X e).length ∧ zw X C cd mc ms T n cs L (.int ((zxV X e).getD i.toNatClampNeg 0) :: S) uc us M Q)
    | .baload => zi1 S fun i S => zr1 S (fun _ _ => False) (fun e S => (20 ≤ e ∧ e < 26) ∧ vp_in i (zxV X e).length ∧ zw X C cd mc ms T n cs L (.int ((zxV X e).getD i.toNatClampNeg 0) :: S) uc us M Q)
    | .aaload => zi1 S fun i S => zr1 S (fun r S => zA M r ∧ vp_in i (mL M r) ∧ zw X C cd mc ms T n cs L (.ref (mR M r i.toNatClampNeg) :: S) uc us M Q) (fun _ _ => False)
    | .iastore => zi2 S fun i x S => zr1 S (fun r S => zO M r 50 ∧ vp_in i (mL M r) ∧ zw X C cd mc ms T n cs L S uc us (wI M r i.toNatClampNeg x) Q) (fun _ _ => False)
    | .aastore => zr1 S (fun v S => zi1 S fun i S => zr1 S (fun r S => zA M r ∧ (v = 0 ∨ zO M v (mT M r - 60)) ∧ vp_in i (mL M r) ∧ zw X C cd mc ms T n cs L S uc us (wR M r i.toNatClampNeg v) Q) (fun _ _ => False)) (fun _ _ => False)
    | .arraylength => zr1 S (fun r S => zO M r 50 ∧ zw X C cd mc ms T n cs L (.int (nI (mL M r)) :: S) uc us M Q) (fun e S => (e < 2 ∨ (20 ≤ e ∧ e < 26)) ∧ zw X C cd mc ms T n cs L (.int (nI (zxV X e).length) :: S) uc us M Q)
    | .invokespecial _ => match aux with
      | [] => zr1 S (fun r S => zLn S ≤ 8 ∧ 0 < r ∧ zw X C cd mc ms T n cs L S uc us M Q) (fun _ _ => False)
      | (_, rk) :: (_, ac) :: (_, as) :: _ => zpop r2 [] S fun a S => (zLn S ≤ 8 ∧ uc + ac ≤ mc ∧ us + as ≤ ms) ∧ zr1 a (fun r _ => 0 < r) (fun _ _ => False) ∧ match rk with
        | 0 => ∃ M', C r1 a M none M' ∧ zw X C cd mc ms T n cs L S (uc + ac) (us + as) M' Q
        | 1 => ∃ x M', C r1 a M (some (.int x)) M' ∧ zw X C cd mc ms T n cs L (.int x :: S) (uc + ac) (us + as) M' Q
        | _ + 2 => ∃ x M', C r1 a M (some (.ref x)) M' ∧ zw X C cd mc ms T n cs L (.ref x :: S) (uc + ac) (us + as) M' Q
      | _ => False
    | .invokevirtual _ => match aux with
      | (_, rk) :: (_, ac) :: (_, as) :: (_, ci) :: _ => zpop r2 [] S fun a S => (zLn S ≤ 8 ∧ uc + ac ≤ mc ∧ us + as ≤ ms) ∧ zr1 a (fun r _ => zO M r ci) (fun e _ => ci = 100 ∧ 10 ≤ e ∧ e < 16) ∧ match rk with
        | 0 => ∃ M', C r1 a M none M' ∧ zw X C cd mc ms T n cs L S (uc + ac) (us + as) M' Q
        | 1 => ∃ x M', C r1 a M (some (.int x)) M' ∧ zw X C cd mc ms T n cs L (.int x :: S) (uc + ac) (us + as) M' Q
        | _ + 2 => ∃ x M', C r1 a M (some (.ref x)) M' ∧ zw X C cd mc ms T n cs L (.ref x :: S) (uc + ac) (us + as) M' Q
      | _ => False
    | .invokestatic _ => match aux with
      | [] => match S with
        | .int c :: .int dp :: .ref r1 :: .int sp :: .ref r0 :: S => (zLn S ≤ 8 ∧ zO M r0 50 ∧ zO M r1 50 ∧ ¬ sp < 0 ∧ ¬ dp < 0 ∧ ¬ c < 0 ∧ sp.toNatClampNeg + c.toNatClampNeg ≤ mL M r0 ∧ dp.toNatClampNeg + c.toNatClampNeg ≤ mL M r1) ∧ zw X C cd mc ms T n cs L S uc us (wC M r0 sp.toNatClampNeg r1 dp.toNatClampNeg c.toNatClampNeg) Q
        | _ => False
      | (_, rk) :: (_, ac) :: (_, as) :: _ => zpop r2 [] S fun a S => (zLn S ≤ 8 ∧ uc + ac ≤ mc ∧ us + as ≤ ms) ∧ match rk with
        | 0 => ∃ M', C r1 a M none M' ∧ zw X C cd mc ms T n cs L S (uc + ac) (us + as) M' Q
        | 1 => ∃ x M', C r1 a M (some (.int x)) M' ∧ zw X C cd mc ms T n cs L (.int x :: S) (uc + ac) (us + as) M' Q
        | _ + 2 => ∃ x M', C r1 a M (some (.ref x)) M' ∧ zw X C cd mc ms T n cs L (.ref x :: S) (uc + ac) (us + as) M' Q
      | _ => False
    | .ireturn => match S with
      | [.int x] => (match r1 with
        | 0 => True
        | 1 => x = 0 ∨ x = 1
        | 2 => (x.toUInt32 % 65536).toInt32 = x
        | _ + 3 => x.toInt8.toInt32 = x) ∧ Q (some (.int x)) M
      | _ => False
    | .areturn => match S with
      | [.ref x] => Q (some (.ref x)) M
      | _ => False
    | .return_ => match S with
      | [] => Q none M
      | _ => False
    | _ => False
/-- the least predicate that is closed under stretches of instructions: from here the method ends, with Q -/
def zgo (X : List Int32) (C : Nat → List Value → Mm → Option Value → Mm → Prop) (cd : List zEn) (mc ms : Nat) (cs : List zEn) (L S : List Value) (uc us : Nat) (M : Mm) (Q : zQt) : Prop :=
  ∀ T : List zEn → List Value → List Value → Nat → Nat → Mm → zQt → Prop, (∀ (n : Nat) (cs : List zEn) (L S : List Value) (uc us : Nat) (M : Mm), zw X C cd mc ms T n cs L S uc us M Q → T cs L S uc us M Q) → T cs L S uc us M Q
/-- the locals at the entry -/
def zrep : Nat → List Value
  | 0 => []
  | n + 1 => .retAddr 0 :: zrep n
def zen : Nat → List Value → List Value
  | n, [] => zrep n
  | n, v :: a => match n with
    | 0 => []
    | n + 1 => match v with
      | .long x => .long x :: .retAddr 0 :: zen (n - 1) a
      | .double x => .double x :: .retAddr 0 :: zen (n - 1) a
      | v => v :: zen n a
def zsti : Instr → Bool
  | .istore _ => true
  | .istore_n _ => true
  | .astore _ => true
  | .astore_n _ => true
  | .iinc _ _ => true
  | _ => false
def zns (cd : List zEn) : Bool := cd.all fun e => !zsti e.2.1
def znl : List Value → Bool
  | [] => true
  | v :: a => (match v with
    | .long _ => false
    | .double _ => false
    | _ => true) && znl a
/-- how many words of locals the arguments take -/
def zas : List Value → Nat
  | [] => 0
  | v :: a => (match v with
    | .long _ => 2
    | .double _ => 2
    | _ => 1) + zas a
/-- at most d frames deep: method y, from arguments a and memory M, ends with v and M' -/
def zca (X : List Int32) (ML : List (MethodName × ByteArray × Nat × Option FieldType × Nat × Nat × List zEn × Nat × Nat × Nat × Nat)) : Nat → Nat → List Value → Mm → Option Value → Mm → Prop
  | 0, _, _, _, _, _ => False
  | d + 1, y, a, M, v, M' => match ML[y]? with
    | none => False
    | some (_, _, nL, _, mc, ms, cd, _) => ((znl a || zns cd) = true ∧ zas a ≤ nL) ∧ zgo X (zca X ML d) cd mc ms cd (zen nL a) [] 0 0 M (fun v' M'' => v' = v ∧ M'' = M')
