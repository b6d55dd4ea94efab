/-! taking values off the stack and out of locals -/
def pI (st : List Value) (F : Int32 → List Value → Prop) : Prop := match st with
  | .int x :: st => F x st
  | _ => False
def pL (st : List Value) (F : Int64 → List Value → Prop) : Prop := match st with
  | .long x :: st => F x st
  | _ => False
def pF (st : List Value) (F : UInt32 → List Value → Prop) : Prop := match st with
  | .float x :: st => F x st
  | _ => False
def pD (st : List Value) (F : UInt64 → List Value → Prop) : Prop := match st with
  | .double x :: st => F x st
  | _ => False
def pA (st : List Value) (F : Option Nat → List Value → Prop) : Prop := match st with
  | .null :: st => F none st
  | .ref a :: st => F (some a) st
  | _ => False
def pR (st : List Value) (F : Nat → List Value → Prop) : Prop := match st with
  | .ref a :: st => F a st
  | _ => False
def pV (st : List Value) (F : Value → List Value → Prop) : Prop := match st with
  | v :: st => v.category = 1 ∧ F v st
  | _ => False
def ldI (o : Option Value) (F : Int32 → Prop) : Prop := match o with
  | some (.int x) => F x
  | _ => False
def ldL (o : Option Value) (F : Int64 → Prop) : Prop := match o with
  | some (.long x) => F x
  | _ => False
def ldF (o : Option Value) (F : UInt32 → Prop) : Prop := match o with
  | some (.float x) => F x
  | _ => False
def ldD (o : Option Value) (F : UInt64 → Prop) : Prop := match o with
  | some (.double x) => F x
  | _ => False
def ldA (o : Option Value) (F : Option Nat → Prop) : Prop := match o with
  | some .null => F none
  | some (.ref a) => F (some a)
  | _ => False
def dup2K (st : List Value) (F : List Value → Prop) : Prop := match st with
  | .long x :: st => F (.long x :: .long x :: st)
  | a :: b :: st => a.category = 1 ∧ b.category = 1 ∧ F (a :: b :: a :: b :: st)
  | _ => False
def popA : Nat → List Value → List Value → (List Value → List Value → Prop) → Prop
  | 0, av, st, F => F av st
  | _ + 1, _, [], _ => False
  | i + 1, av, v :: st, F => popA i (v :: av) st F
def cwd (st : List Value) : Nat := (st.map fun v => v.category).sum
def jmp (pc : Nat) (off : Int) (F : Nat → Prop) : Prop := ∃ t : Nat, (pc : Int) + off = (t : Int) ∧ F t
/-! contracts -/
def Qk (g : Ge) (K : Option Value → Wd → Prop) : Array Value → State → Outcome → State → Prop := fun _ st o t => ∃ (r : Option Value) (w' : Wd), o = .returned r ∧ Rep g w' t.heap ∧ K r w' ∧ va_F (fun q => gB g ≤ q) st t
def Cl (g : Ge) (M : Mi) (k n : Nat) (av : List Value) (w : Wd) (K : Option Value → Wd → Prop) : Prop := ∀ l : Launch, Met l (mN M) (wsM M) (rmM M k n) (va_Pc av (fun U => RU g w U)) (Qk g K) k n (fun q => gB g ≤ q)
def cl0 (g : Ge) (M : Mi) (av : List Value) (w : Wd) (k n : Nat) (K : Option Value → Wd → Nat → Nat → Prop) : Prop := ∃ (k1 n1 : Nat) (K0 : Option Value → Wd → Prop), k1 ≤ k ∧ n1 ≤ n ∧ Cl g M k1 n1 av w K0 ∧ ∀ r w', K0 r w' → K r w' (k - k1) (n - n1)
def cV (g : Ge) (M : Mi) (av : List Value) (w : Wd) (k n : Nat) (K : Wd → Nat → Nat → Prop) : Prop := cl0 g M av w k n fun r w' k' n' => r = none ∧ K w' k' n'
def cI (g : Ge) (M : Mi) (av : List Value) (w : Wd) (k n : Nat) (K : Int32 → Wd → Nat → Nat → Prop) : Prop := cl0 g M av w k n fun r w' k' n' => ∃ x, r = some (.int x) ∧ K x w' k' n'
def cL (g : Ge) (M : Mi) (av : List Value) (w : Wd) (k n : Nat) (K : Int64 → Wd → Nat → Nat → Prop) : Prop := cl0 g M av w k n fun r w' k' n' => ∃ x, r = some (.long x) ∧ K x w' k' n'
def cR (g : Ge) (M : Mi) (av : List Value) (w : Wd) (k n : Nat) (K : Option Nat → Wd → Nat → Nat → Prop) : Prop := cl0 g M av w k n fun r w' k' n' => ∃ x, r = some (va_rf x) ∧ K x w' k' n'
def cD (g : Ge) (M : Mi) (av : List Value) (w : Wd) (k n : Nat) (K : UInt64 → Wd → Nat → Nat → Prop) : Prop := cl0 g M av w k n fun r w' k' n' => ∃ x, r = some (.double x) ∧ K x w' k' n'
def inv (g : Ge) (rc : Nat) (M : Mi) (av : List Value) (w : Wd) (k n : Nat) (F : List Value → Wd → Nat → Nat → Prop) : Prop := match rc with
  | 0 => cV g M av w k n fun w' k' n' => F [] w' k' n'
  | 1 => cI g M av w k n fun x w' k' n' => F [.int x] w' k' n'
  | 2 => cL g M av w k n fun x w' k' n' => F [.long x] w' k' n'
  | 3 => cR g M av w k n fun x w' k' n' => F [va_rf x] w' k' n'
  | 4 => cD g M av w k n fun x w' k' n' => F [.double x] w' k' n'
  | _ => False
/-- frames and locals of the callee fit the caller's -/
def rmOk (M M' : Mi) : Prop := mF M' + 1 ≤ mF M ∧ 8 + (mL M' + 11) + mW M' ≤ mW M
/-! what an instruction asks: S is what must hold at the next one, K at the method's end -/
def rtI (ty : Option FieldType) (x : Int32) : Prop := ∃ t, ty = some t ∧ narrow t (.int x) = .int x
def pfin (M : Mi) (c k : Nat) : Prop := (clT c k).2.2.2 = false ∨ ((mN M).name = "<init>" ∧ (clT c k).1 = oN (mO M))
def cpI (w : Wd) (a b sp dp len : Nat) : Wd := (wn w, wsh w, va_up (wI w) b (va_cpy (wI w a) (wI w b) sp dp len), wL w, wP w)
def cpL (w : Wd) (a b sp dp len : Nat) : Wd := (wn w, wsh w, wI w, va_up (wL w) b (va_cpy (wL w a) (wL w b) sp dp len), wP w)
abbrev Sp : Type := Nat → List (Option Value) → List Value → Wd → Nat → Nat → Prop
def stInv (g : Ge) (M : Mi) (S : Sp) (pc : Nat) (V : List (Option Value)) (st : List Value) (w : Wd) (k n : Nat) (q : Option (Nat × Nat × Nat × Mi)) (sp : Nat) : Prop := match q with
  | some (kd, rc, np, M') => popA np [] st fun av rest =>
      if kd = 0 ∨ kd = 3 then sp = 0 ∧ rmOk M M' ∧ cwd rest ≤ 8 ∧ inv g rc M' av w k n fun vs w' k' n' => S (pc + 3) V (vs ++ rest) w' k' n'
      else if kd = 2 ∨ kd = 4 then pR rest fun a rest => sp = 2 ∧ rmOk M M' ∧ cwd rest ≤ 8 ∧ inv g rc M' (.ref a :: av) w k n fun vs w' k' n' => S (pc + 3) V (vs ++ rest) w' k' n'
      else if kd = 1 then pR rest fun a rest => sp = 1 ∧ (wsh w a).1 = mO M' ∧ rmOk M M' ∧ cwd rest ≤ 8 ∧ inv g rc M' (.ref a :: av) w k n fun vs w' k' n' => S (pc + 3) V (vs ++ rest) w' k' n'
      else if kd = 12 then pR rest fun a rest => sp = 1 ∧ (wsh w a).1 = 14 ∧ rmOk M M' ∧ cwd rest ≤ 8 ∧ inv g rc M' (.ref a :: av) w k n fun vs w' k' n' => S (pc + 3) V (vs ++ rest) w' k' n'
      else if kd = 14 then pR rest fun a rest => sp = 1 ∧ mN M' = yJ4_length_8abf5 ∧ (wsh w a).1 = 14 ∧ rmOk M M' ∧ cwd rest ≤ 8 ∧ inv g rc M' (.ref a :: av) w k n fun vs w' k' n' => S (pc + 3) V (vs ++ rest) w' k' n'
      else if kd = 13 then pR rest fun a rest => sp = 2 ∧ (wsh w a).1 = 14 ∧ rmOk M M' ∧ cwd rest ≤ 8 ∧ inv g rc M' (.ref a :: av) w k n fun vs w' k' n' => S (pc + 3) V (vs ++ rest) w' k' n'
      else False
  | none => False
/-- natives by their pool entries: own, entry, which (1 Object.<init>, 2 arraycopy, 3 doubleToRawLongBits, 4 longBitsToDouble, 5 floatToRawIntBits, 6 intBitsToFloat) -/
def natT : List (Nat × Nat × Nat) := [(0, 3, 1), (1, 3, 1), (2, 3, 1), (3, 3, 1), (5, 3, 1), (6, 3, 1), (7, 3, 1), (7, 39, 2), (8, 3, 1), (9, 3, 1), (10, 3, 1), (11, 3, 1), (11, 326, 2), (12, 3, 1), (12, 150, 6), (12, 429, 4), (13, 1, 1), (13, 212, 2), (15, 3, 1), (21, 150, 2), (21, 310, 7), (25, 134, 3), (26, 74, 5)]
def plN (o i : Nat) : Nat := ((natT.find? fun q => Nat.beq q.1 o && Nat.beq q.2.1 i).map fun q => q.2.2).getD 0
def rmN (M : Mi) (x : Nat) : Prop := 1 ≤ mF M ∧ x ≤ mW M
def clW (w : Wd) (a : Nat) : Wd := (wn w + 1, va_up (wsh w) (wn w) (wsh w a), va_up (wI w) (wn w) (wI w a), va_up (wL w) (wn w) (fun _ => 0), va_up (wP w) (wn w) (fun _ => none))
def stNat (g : Ge) (M : Mi) (S : Sp) (pc : Nat) (V : List (Option Value)) (st : List Value) (w : Wd) (k n : Nat) (q : Nat) : Prop := match q with
  | 2 => pI st fun len st => pI st fun dp st => pR st fun b st => pI st fun sp st => pR st fun a st => rmN M 26 ∧ cwd st ≤ 8 ∧ ¬ sp < 0 ∧ ¬ dp < 0 ∧ ¬ len < 0 ∧ sp.toNatClampNeg + len.toNatClampNeg ≤ (wsh w a).2 ∧ dp.toNatClampNeg + len.toNatClampNeg ≤ (wsh w b).2 ∧ gB g ≤ b ∧ (wsh w a).1 = (wsh w b).1 ∧
      (((wsh w b).1 = 100 ∧ S (pc + 3) V st (cpI w a b sp.toNatClampNeg dp.toNatClampNeg len.toNatClampNeg) k n) ∨ ((wsh w b).1 = 101 ∧ S (pc + 3) V st (cpL w a b sp.toNatClampNeg dp.toNatClampNeg len.toNatClampNeg) k n) ∨
       ((wsh w b).1 = 103 ∧ (∀ i, i < len.toNatClampNeg → fits .byte (.int (wI w a (sp.toNatClampNeg + i))) = true) ∧ S (pc + 3) V st (cpI w a b sp.toNatClampNeg dp.toNatClampNeg len.toNatClampNeg) k n))
  | 3 => pD st fun x st => rmN M 23 ∧ cwd st ≤ 8 ∧ S (pc + 3) V (.long x.toInt64 :: st) w k n
  | 4 => pL st fun x st => rmN M 23 ∧ cwd st ≤ 8 ∧ vn_snl2d x = false ∧ S (pc + 3) V (.double x.toUInt64 :: st) w k n
  | 5 => pF st fun x st => rmN M 22 ∧ cwd st ≤ 7 ∧ S (pc + 3) V (.int x.toInt32 :: st) w k n
  | 7 => pR st fun a st => rmN M 22 ∧ cwd st ≤ 8 ∧ (wsh w a).1 = 103 ∧ gB g ≤ a ∧ (∀ i, i < (wsh w a).2 → fits .byte (.int (wI w a i)) = true) ∧ 1 ≤ k ∧ (wsh w a).2 ≤ n ∧ S (pc + 3) V (.ref (wn w) :: st) (clW w a) (k - 1) (n - (wsh w a).2)
  | 6 => pI st fun x st => rmN M 23 ∧ cwd st ≤ 8 ∧ vn_sni2f x = false ∧ S (pc + 3) V (.float x.toUInt32 :: st) w k n
  | _ => False
/-- where a switch goes -/
def swOk (pc : Nat) (dflt lo hi : Int) (offs : Array Int) (x : Int32) (t : Nat) : Prop := ((x.toInt < lo ∨ hi < x.toInt) ∧ (pc : Int) + dflt = (t : Int)) ∨ (¬ x.toInt < lo ∧ ¬ hi < x.toInt ∧ ∃ off, offs[(x.toInt - lo).toNat]? = some off ∧ (pc : Int) + off = (t : Int))
def condI (cd : ClassFile.Cond) (x y : Int32) : Prop := match cd with
  | .eq => x = y
  | .ne => ¬ x = y
  | .lt => x < y
  | .ge => y ≤ x
  | .gt => y < x
  | .le => x ≤ y
/-- rows of rows: own, pool entry, tags of the outer and the inner ones; the inner ones, i of them, behind the outer one at a -/
def maT : List (Nat × Nat × Nat × Nat) := [(2, 35, 107, 100), (2, 40, 108, 101)]
def plA (o i : Nat) : Nat × Nat := ((maT.find? fun q => Nat.beq q.1 o && Nat.beq q.2.1 i).map fun q => q.2.2).getD (0, 0)
def mwr (ti a : Nat) : Nat → Wd → Wd
  | 0, w => w
  | i + 1, w => sP (nw (mwr ti a i w) ti 16) a i (some (wn (mwr ti a i w)))
def stp (g : Ge) (M : Mi) (K : Option Value → Wd → Prop) (S : Sp) (ins : Instr) (len pc : Nat) (V : List (Option Value)) (st : List Value) (w : Wd) (k n : Nat) : Prop := match ins with
  | .aconst_null => S (pc + 1) V (.null :: st) w k n
  | .iconst i => S (pc + 1) V (.int (Int32.ofInt i) :: st) w k n
  | .bipush i => S (pc + 2) V (.int (Int8.ofInt i).toInt32 :: st) w k n
  | .sipush i => S (pc + 3) V (.int (Int16.ofInt i).toInt32 :: st) w k n
  | .lconst i => S (pc + 1) V (.long (Int64.ofNat i) :: st) w k n
  | .ldc i => (match plkT (mO M) i with
      | some v => S (pc + 2) V (.int v :: st) w k n
      | none => strT.any (fun q => Nat.beq q.1 (mO M) && Nat.beq q.2.1 i) = true ∧ S (pc + 2) V (.ref (gA g (mO M) i) :: st) w k n)
  | .ldc_w i => (match plkT (mO M) i with
      | some v => S (pc + 3) V (.int v :: st) w k n
      | none => False)
  | .ldc2_w i => (match pllT (mO M) i with
      | some v => S (pc + 3) V (.long v :: st) w k n
      | none => False)
  | .iload i => ldI (getL V i) fun x => S (pc + 2) V (.int x :: st) w k n
  | .iload_n i => ldI (getL V i) fun x => S (pc + 1) V (.int x :: st) w k n
  | .lload i => ldL (getL V i) fun x => S (pc + 2) V (.long x :: st) w k n
  | .lload_n i => ldL (getL V i) fun x => S (pc + 1) V (.long x :: st) w k n
  | .fload_n i => ldF (getL V i) fun x => S (pc + 1) V (.float x :: st) w k n
  | .dload_n i => ldD (getL V i) fun x => S (pc + 1) V (.double x :: st) w k n
  | .aload i => ldA (getL V i) fun x => S (pc + 2) V (va_rf x :: st) w k n
  | .aload_n i => ldA (getL V i) fun x => S (pc + 1) V (va_rf x :: st) w k n
  | .istore i => pI st fun x st => i < V.length ∧ S (pc + 2) (setL V i (.int x)) st w k n
  | .istore_n i => pI st fun x st => (i : Nat) < V.length ∧ S (pc + 1) (setL V i (.int x)) st w k n
  | .astore i => pA st fun x st => i < V.length ∧ S (pc + 2) (setL V i (va_rf x)) st w k n
  | .astore_n i => pA st fun x st => (i : Nat) < V.length ∧ S (pc + 1) (setL V i (va_rf x)) st w k n
  | .lstore i => pL st fun x st => i + 1 < V.length ∧ S (pc + 2) (setL2 V i (.long x)) st w k n
  | .lstore_n i => pL st fun x st => (i : Nat) + 1 < V.length ∧ S (pc + 1) (setL2 V i (.long x)) st w k n
  | .iinc i c => ldI (getL V i) fun x => S (pc + 3) (setL V i (.int (x + Int32.ofInt c))) st w k n
  | .dup => pV st fun v st => S (pc + 1) V (v :: v :: st) w k n
  | .dup_x1 => pV st fun v st => pV st fun u st => S (pc + 1) V (v :: u :: v :: st) w k n
  | .dup2 => dup2K st fun st => S (pc + 1) V st w k n
  | .pop => pV st fun _ st => S (pc + 1) V st w k n
  | .iadd => pI st fun y st => pI st fun x st => S (pc + 1) V (.int (x + y) :: st) w k n
  | .isub => pI st fun y st => pI st fun x st => S (pc + 1) V (.int (x - y) :: st) w k n
  | .imul => pI st fun y st => pI st fun x st => S (pc + 1) V (.int (x * y) :: st) w k n
  | .idiv => pI st fun y st => pI st fun x st => ¬ y = 0 ∧ S (pc + 1) V (.int (x / y) :: st) w k n
  | .irem => pI st fun y st => pI st fun x st => ¬ y = 0 ∧ S (pc + 1) V (.int (x - x / y * y) :: st) w k n
  | .ineg => pI st fun x st => S (pc + 1) V (.int (-x) :: st) w k n
  | .iand => pI st fun y st => pI st fun x st => S (pc + 1) V (.int (x &&& y) :: st) w k n
  | .ior => pI st fun y st => pI st fun x st => S (pc + 1) V (.int (x ||| y) :: st) w k n
  | .ishl => pI st fun y st => pI st fun x st => S (pc + 1) V (.int (x <<< (y &&& 31)) :: st) w k n
  | .ishr => pI st fun y st => pI st fun x st => S (pc + 1) V (.int (x >>> (y &&& 31)) :: st) w k n
  | .iushr => pI st fun y st => pI st fun x st => S (pc + 1) V (.int (x.toUInt32 >>> (y.toUInt32 &&& Int32.toUInt32 31)).toInt32 :: st) w k n
  | .i2l => pI st fun x st => S (pc + 1) V (.long x.toInt64 :: st) w k n
  | .i2b => pI st fun x st => S (pc + 1) V (.int x.toInt8.toInt32 :: st) w k n
  | .i2c => pI st fun x st => S (pc + 1) V (.int (x.toUInt32 % 65536).toInt32 :: st) w k n
  | .i2s => pI st fun x st => S (pc + 1) V (.int x.toInt16.toInt32 :: st) w k n
  | .i2f => pI st fun x st => S (pc + 1) V (.float (FP.i2f x) :: st) w k n
  | .i2d => pI st fun x st => S (pc + 1) V (.double (FP.i2d x) :: st) w k n
  | .l2i => pL st fun x st => S (pc + 1) V (.int x.toInt32 :: st) w k n
  | .l2f => pL st fun x st => S (pc + 1) V (.float (FP.l2f x) :: st) w k n
  | .l2d => pL st fun x st => S (pc + 1) V (.double (FP.l2d x) :: st) w k n
  | .f2d => pF st fun x st => vf_n64 (FP.f2d x) ∧ S (pc + 1) V (.double (FP.f2d x) :: st) w k n
  | .fdiv => pF st fun y st => pF st fun x st => vf_n32 (FP.fdiv x y) ∧ S (pc + 1) V (.float (FP.fdiv x y) :: st) w k n
  | .ddiv => pD st fun y st => pD st fun x st => vf_n64 (FP.ddiv x y) ∧ S (pc + 1) V (.double (FP.ddiv x y) :: st) w k n
  | .dcmp op => pD st fun y st => pD st fun x st => S (pc + 1) V (.int (Op.cmpValue (FP.dcmp x y) op) :: st) w k n
  | .fcmp op => pF st fun y st => pF st fun x st => S (pc + 1) V (.int (Op.cmpValue (FP.fcmp x y) op) :: st) w k n
  | .ladd => pL st fun y st => pL st fun x st => S (pc + 1) V (.long (x + y) :: st) w k n
  | .lsub => pL st fun y st => pL st fun x st => S (pc + 1) V (.long (x - y) :: st) w k n
  | .lmul => pL st fun y st => pL st fun x st => S (pc + 1) V (.long (x * y) :: st) w k n
  | .lneg => pL st fun x st => S (pc + 1) V (.long (-x) :: st) w k n
  | .land => pL st fun y st => pL st fun x st => S (pc + 1) V (.long (x &&& y) :: st) w k n
  | .lor => pL st fun y st => pL st fun x st => S (pc + 1) V (.long (x ||| y) :: st) w k n
  | .lshl => pI st fun y st => pL st fun x st => S (pc + 1) V (.long (x <<< (y.toInt64 &&& 63)) :: st) w k n
  | .lshr => pI st fun y st => pL st fun x st => S (pc + 1) V (.long (x >>> (y.toInt64 &&& 63)) :: st) w k n
  | .lushr => pI st fun y st => pL st fun x st => S (pc + 1) V (.long (x.toUInt64 >>> (y.toInt64.toUInt64 &&& Int64.toUInt64 63)).toInt64 :: st) w k n
  | .lcmp => pL st fun y st => pL st fun x st => S (pc + 1) V (.int (lg_cmp x y) :: st) w k n
  | .ifCond cd off => pI st fun x st => jmp pc off fun t => (condI cd x 0 → S t V st w k n) ∧ (¬ condI cd x 0 → S (pc + 3) V st w k n)
  | .if_icmp cd off => pI st fun y st => pI st fun x st => jmp pc off fun t => (condI cd x y → S t V st w k n) ∧ (¬ condI cd x y → S (pc + 3) V st w k n)
  | .if_acmp cd off => pA st fun y st => pA st fun x st => jmp pc off fun t => (x = y → S (if cd = .eq then t else pc + 3) V st w k n) ∧ (¬ x = y → S (if cd = .eq then pc + 3 else t) V st w k n)
  | .ifnull off => pA st fun x st => jmp pc off fun t => (x = none → S t V st w k n) ∧ (¬ x = none → S (pc + 3) V st w k n)
  | .ifnonnull off => pA st fun x st => jmp pc off fun t => (¬ x = none → S t V st w k n) ∧ (x = none → S (pc + 3) V st w k n)
  | .goto off => jmp pc off fun t => S t V st w k n
  | .tableswitch dflt lo hi offs => pI st fun x st => ∃ t, swOk pc dflt lo hi offs x t ∧ S t V st w k n
  | .lookupswitch dflt ps => pI st fun x st => (ps.toList.zip (ps.toList.drop 1)).all (fun (a, next) => a.1 < next.1) = true ∧ jmp pc (Op.lookupswitch.offset ps.toList dflt x.toInt) fun t => S t V st w k n
  | .getfield i => pR st fun a st => (wsh w a).1 = (plF (mO M) i).1 ∧ (wsh w a).1 < 100 ∧ S (pc + 3) V (wv w (plF (mO M) i).2.2 a (plF (mO M) i).2.1 :: st) w k n
  | .putfield i => (match (plF (mO M) i) with
      | (c, f, 0) => pI st fun x st => pR st fun a st => (wsh w a).1 = c ∧ c < 100 ∧ gB g ≤ a ∧ pfin M c f ∧ narrow (clY c f) (.int x) = .int x ∧ fits (clY c f) (.int x) = true ∧ S (pc + 3) V st (sI w a f x) k n
      | (c, f, 1) => pL st fun x st => pR st fun a st => (wsh w a).1 = c ∧ c < 100 ∧ gB g ≤ a ∧ pfin M c f ∧ S (pc + 3) V st (sL w a f x) k n
      | (c, f, _) => pA st fun x st => pR st fun a st => (wsh w a).1 = c ∧ c < 100 ∧ gB g ≤ a ∧ pfin M c f ∧ S (pc + 3) V st (sP w a f x) k n)
  | .getstatic i => (match plZ (mO M) i with
      | some j => S (pc + 3) V (staV g (stQ j) :: st) w k n
      | none => False)
  | .iaload => pI st fun j st => pR st fun a st => (wsh w a).1 = 100 ∧ vp_in j (wsh w a).2 ∧ S (pc + 1) V (.int (wI w a j.toNatClampNeg) :: st) w k n
  | .laload => pI st fun j st => pR st fun a st => (wsh w a).1 = 101 ∧ vp_in j (wsh w a).2 ∧ S (pc + 1) V (.long (wL w a j.toNatClampNeg) :: st) w k n
  | .baload => pI st fun j st => pR st fun a st => ((wsh w a).1 = 102 ∨ (wsh w a).1 = 103) ∧ vp_in j (wsh w a).2 ∧ S (pc + 1) V (.int (wI w a j.toNatClampNeg) :: st) w k n
  | .aaload => pI st fun j st => pR st fun a st => 104 ≤ (wsh w a).1 ∧ (wsh w a).1 < 109 ∧ vp_in j (wsh w a).2 ∧ S (pc + 1) V (va_rf (wP w a j.toNatClampNeg) :: st) w k n
  | .iastore => pI st fun x st => pI st fun j st => pR st fun a st => (wsh w a).1 = 100 ∧ vp_in j (wsh w a).2 ∧ gB g ≤ a ∧ S (pc + 1) V st (sI w a j.toNatClampNeg x) k n
  | .lastore => pL st fun x st => pI st fun j st => pR st fun a st => (wsh w a).1 = 101 ∧ vp_in j (wsh w a).2 ∧ gB g ≤ a ∧ S (pc + 1) V st (sL w a j.toNatClampNeg x) k n
  | .bastore => pI st fun x st => pI st fun j st => pR st fun a st => vp_in j (wsh w a).2 ∧ gB g ≤ a ∧ (((wsh w a).1 = 102 ∧ S (pc + 1) V st (sI w a j.toNatClampNeg (vp_nar .boolean x)) k n) ∨ ((wsh w a).1 = 103 ∧ S (pc + 1) V st (sI w a j.toNatClampNeg (vp_nar .byte x)) k n))
  | .aastore => pA st fun x st => pI st fun j st => pR st fun a st => 104 ≤ (wsh w a).1 ∧ (wsh w a).1 < 107 ∧ vp_in j (wsh w a).2 ∧ gB g ≤ a ∧ (∀ v, x = some v → (wsh w v).1 = aCl (wsh w a).1) ∧ S (pc + 1) V st (sP w a j.toNatClampNeg x) k n
  | .arraylength => pR st fun a st => 100 ≤ (wsh w a).1 ∧ (wsh w a).1 < 109 ∧ S (pc + 1) V (.int (nI (wsh w a).2) :: st) w k n
  | .new i => nC.elem (plC (mO M) i) = true ∧ 1 ≤ k ∧ clZ (plC (mO M) i) ≤ n ∧ S (pc + 3) V (.ref (wn w) :: st) (nw w (plC (mO M) i) 0) (k - 1) (n - clZ (plC (mO M) i))
  | .newarray ty => pI st fun m st => ¬ m < 0 ∧ m.toNatClampNeg ≤ 65536 ∧ 1 ≤ k ∧ m.toNatClampNeg ≤ n ∧ (match ty with
      | .int => S (pc + 2) V (.ref (wn w) :: st) (nw w 100 m.toNatClampNeg) (k - 1) (n - m.toNatClampNeg)
      | .long => S (pc + 2) V (.ref (wn w) :: st) (nw w 101 m.toNatClampNeg) (k - 1) (n - m.toNatClampNeg)
      | .boolean => S (pc + 2) V (.ref (wn w) :: st) (nw w 102 m.toNatClampNeg) (k - 1) (n - m.toNatClampNeg)
      | .byte => S (pc + 2) V (.ref (wn w) :: st) (nw w 103 m.toNatClampNeg) (k - 1) (n - m.toNatClampNeg)
      | _ => False)
  | .anewarray i => pI st fun m st => ¬ m < 0 ∧ m.toNatClampNeg ≤ 65536 ∧ 1 ≤ k ∧ m.toNatClampNeg ≤ n ∧ (match plC (mO M) i with
      | 7 => S (pc + 3) V (.ref (wn w) :: st) (nw w 104 m.toNatClampNeg) (k - 1) (n - m.toNatClampNeg)
      | 10 => S (pc + 3) V (.ref (wn w) :: st) (nw w 105 m.toNatClampNeg) (k - 1) (n - m.toNatClampNeg)
      | 1 => S (pc + 3) V (.ref (wn w) :: st) (nw w 106 m.toNatClampNeg) (k - 1) (n - m.toNatClampNeg)
      | _ => False)
  | .multianewarray i d => pI st fun y st => pI st fun x st => d = 2 ∧ x = 8 ∧ y = 16 ∧ ¬ (plA (mO M) i).1 = 0 ∧ 9 ≤ k ∧ 136 ≤ n ∧ S (pc + 4) V (.ref (wn w) :: st) (mwr (plA (mO M) i).2 (wn w) 8 (nw w (plA (mO M) i).1 8)) (k - 9) (n - 136)
  | .checkcast i => pR st fun a st => (wsh w a).1 = 103 ∧ gB g ≤ a ∧ Cond.classLink (oN (mO M)) i "[B" ∈ GL ∧ S (pc + 3) V (.ref a :: st) w k n
  | .invokestatic i => if plN (mO M) i = 0 then stInv g M S pc V st w k n (plM (mO M) i) 0 else ¬ plN (mO M) i = 7 ∧ stNat g M S pc V st w k n (plN (mO M) i)
  | .invokevirtual i => if plN (mO M) i = 7 then stNat g M S pc V st w k n 7 else stInv g M S pc V st w k n (plM (mO M) i) 1
  | .invokespecial i => if plN (mO M) i = 1 then (pR st fun _ st => rmN M 20 ∧ cwd st ≤ 8 ∧ S (pc + 3) V st w k n) else stInv g M S pc V st w k n (plM (mO M) i) 2
  | .ireturn => pI st fun x st => st = [] ∧ rtI (mR M) x ∧ K (some (.int x)) w
  | .lreturn => pL st fun x st => st = [] ∧ mR M = some .long ∧ K (some (.long x)) w
  | .dreturn => pD st fun x st => st = [] ∧ mR M = some .double ∧ K (some (.double x)) w
  | .areturn => pA st fun x st => st = [] ∧ (∃ rt, mR M = some rt ∧ ((∃ n, rt = .object n) ∨ ∃ t, rt = .array t)) ∧ K (some (va_rf x)) w
  | .return_ => st = [] ∧ mR M = none ∧ K none w
  | _ => False
