/-! EXEC: what an instruction does to a picture of the frame and of the heap, as a proposition about what comes next; Wp: the least such; Ev: a whole call, by the depth of calls -/
/-- a cell: an array (type, (length, contents)), or an object (class, fields); addresses in it are places in the heap's list -/
abbrev VC := (FieldType × vp_A) ⊕ (Nat × List Value)
abbrev Hp := List VC
abbrev Lc := List (Option Value)
/-- pc, locals, stack, heap, cells and slots made so far -/
abbrev Cf := Nat × Lc × List Value × Hp × Nat × Nat
def lkE : List En → Nat → Option En
  | [], _ => none
  | e :: r, pc => match Nat.beq e.1 pc with
    | true => some e
    | false => lkE r pc
def gL : Lc → Nat → Option Value
  | [], _ => none
  | o :: _, 0 => o
  | _ :: r, n + 1 => gL r n
def sL : Lc → Nat → Option Value → Lc
  | [], _, _ => []
  | _ :: r, 0, v => v :: r
  | o :: r, n + 1, v => o :: sL r n v
/-- the place ahead of i, if a long lies there, is lost when i is stored to -/
def cL (L : Lc) : Nat → Lc
  | 0 => L
  | n + 1 => match gL L n with
    | some (.long _) => sL L n none
    | some (.double _) => sL L n none
    | _ => L
def gH : Hp → Nat → Option VC
  | [], _ => none
  | o :: _, 0 => some o
  | _ :: r, n + 1 => gH r n
def sH : Hp → Nat → VC → Hp
  | [], _, _ => []
  | _ :: r, 0, v => v :: r
  | o :: r, n + 1, v => o :: sH r n v
def gV : List Value → Nat → Option Value
  | [], _ => none
  | o :: _, 0 => some o
  | _ :: r, n + 1 => gV r n
def sV : List Value → Nat → Value → List Value
  | [], _, _ => []
  | _ :: r, 0, v => v :: r
  | o :: r, n + 1, v => o :: sV r n v
def popA : Nat → List Value → List Value → Option (List Value × List Value)
  | 0, acc, st => some (acc, st)
  | _ + 1, _, [] => none
  | n + 1, acc, v :: st => popA n (v :: acc) st
def k1i (st : List Value) (f : Int32 → List Value → Prop) : Prop := match st with
  | .int x :: r => f x r
  | _ => False
def k2i (st : List Value) (f : Int32 → Int32 → List Value → Prop) : Prop := match st with
  | .int y :: .int x :: r => f x y r
  | _ => False
def k1l (st : List Value) (f : Int64 → List Value → Prop) : Prop := match st with
  | .long x :: r => f x r
  | _ => False
def k2l (st : List Value) (f : Int64 → Int64 → List Value → Prop) : Prop := match st with
  | .long y :: .long x :: r => f x y r
  | _ => False
def kil (st : List Value) (f : Int64 → Int32 → List Value → Prop) : Prop := match st with
  | .int y :: .long x :: r => f x y r
  | _ => False
def k1r (st : List Value) (f : Nat → List Value → Prop) : Prop := match st with
  | .ref a :: r => f a r
  | _ => False
def k1q (st : List Value) (f : Nat → List Value → Prop) (g : List Value → Prop) : Prop := match st with
  | .ref a :: r => f a r
  | .null :: r => g r
  | _ => False
def k1v (st : List Value) (f : Value → List Value → Prop) : Prop := match st with
  | v :: r => f v r
  | _ => False
def k2v (st : List Value) (f : Value → Value → List Value → Prop) : Prop := match st with
  | v :: w :: r => f v w r
  | _ => False
def kir (st : List Value) (f : Int32 → Nat → List Value → Prop) : Prop := match st with
  | .int i :: .ref a :: r => f i a r
  | _ => False
def kiir (st : List Value) (f : Int32 → Int32 → Nat → List Value → Prop) : Prop := match st with
  | .int x :: .int i :: .ref a :: r => f x i a r
  | _ => False
def klir (st : List Value) (f : Int64 → Int32 → Nat → List Value → Prop) : Prop := match st with
  | .long x :: .int i :: .ref a :: r => f x i a r
  | _ => False
def kvir (st : List Value) (f : Value → Int32 → Nat → List Value → Prop) : Prop := match st with
  | v :: .int i :: .ref a :: r => f v i a r
  | _ => False
def kvr (st : List Value) (f : Value → Nat → List Value → Prop) : Prop := match st with
  | v :: .ref a :: r => f v a r
  | _ => False
def kcp (st : List Value) (f : Int32 → Int32 → Nat → Int32 → Nat → List Value → Prop) : Prop := match st with
  | .int n :: .int dp :: .ref b :: .int sp :: .ref a :: r => f n dp b sp a r
  | _ => False
def kE (st : List Value) (f : Prop) : Prop := match st with
  | [] => f
  | _ => False
def kObj (σ : Hp) (a : Nat) (f : Nat → List Value → Prop) : Prop := match gH σ a with
  | some (.inr (ci, fs)) => f ci fs
  | _ => False
def kLen (σ : Hp) (a : Nat) (f : Nat → Prop) : Prop := match gH σ a with
  | some (.inl (_, n, _)) => f n
  | _ => False
def kAI (σ : Hp) (a : Nat) (f : Nat → (Nat → Int32) → Prop) : Prop := match gH σ a with
  | some (.inl (.int, n, .inl g)) => f n g
  | _ => False
def kAB (σ : Hp) (a : Nat) (f : FieldType → Nat → (Nat → Int32) → Prop) : Prop := match gH σ a with
  | some (.inl (.byte, n, .inl g)) => f .byte n g
  | some (.inl (.boolean, n, .inl g)) => f .boolean n g
  | _ => False
def kAL (σ : Hp) (a : Nat) (f : Nat → (Nat → Int64) → Prop) : Prop := match gH σ a with
  | some (.inl (.long, n, .inr (.inl g))) => f n g
  | _ => False
def kAR (σ : Hp) (a : Nat) (f : String → Nat → (Nat → Option Nat) → Prop) : Prop := match gH σ a with
  | some (.inl (.object C, n, .inr (.inr (.inr (.inr g))))) => f C n g
  | _ => False
def kL (L : Lc) (i : Nat) (f : Value → Prop) : Prop := match gL L i with
  | some v => f v
  | none => False
def kV (fs : List Value) (i : Nat) (f : Value → Prop) : Prop := match gV fs i with
  | some v => f v
  | none => False
def kB (b : Bool) (f : Prop) : Prop := match b with
  | true => f
  | false => False
/-- may v be put into a field of the type -/
def putB : FieldType → Value → Bool
  | .int, .int _ => true
  | .boolean, .int x => x == 0 || x == 1
  | .long, .long _ => true
  | .object _, .ref _ => true
  | .object _, .null => true
  | .array _, .ref _ => true
  | .array _, .null => true
  | _, _ => false
def kO {α : Type} (o : Option α) (f : α → Prop) : Prop := match o with
  | some v => f v
  | none => False
def kI (v : Value) (f : Int32 → Prop) : Prop := match v with
  | .int x => f x
  | _ => False
def kJ (v : Value) (f : Int64 → Prop) : Prop := match v with
  | .long x => f x
  | _ => False
def kR (v : Value) (f : Prop) : Prop := match v with
  | .ref _ => f
  | .null => f
  | _ => False
/-- a switch: its pairs, one after the other -/
def kS (x : Int32) (d : Prop) (f : Nat → Prop) : List (Int32 × Nat) → Prop
  | [] => d
  | (k, t) :: r => (x = k → f t) ∧ (¬ x = k → kS x d f r)
abbrev Cal := Nat → Nat → Nat → List Value → Hp → (Option Value → Hp → Prop) → Prop
def kcall (cal : Cal) (mi : Nat) (as : List Value) (σ : Hp) (rest : List Value) (c m : Nat) (bd : Nat × Nat) (K : Option Value → Hp → Nat → Nat → Prop) : Prop :=
  kB (Nat.ble (rest.map fun v => v.category).sum 8) (∃ mc ms, (c + mc ≤ bd.1 ∧ m + ms ≤ bd.2) ∧ cal mi mc ms as σ (fun v σ' => K v σ' (c + mc) (m + ms)))
def kRet (ret : Option FieldType) (x : Int32) (f : Prop) : Prop := match ret with
  | some .int => f
  | some .boolean => (x = 0 ∨ x = 1) ∧ f
  | _ => False
def rtL : Option FieldType → Bool
  | some .long => true
  | _ => false
def rtA : Option FieldType → Bool
  | some (.object _) => true
  | _ => false
def rtV : Option FieldType → Bool
  | none => true
  | _ => false
def arrT : ArrayType → Option (FieldType × (Nat → vp_A))
  | .int => some (.int, fun n => (n, .inl (fun _ => 0)))
  | .byte => some (.byte, fun n => (n, .inl (fun _ => 0)))
  | .boolean => some (.boolean, fun n => (n, .inl (fun _ => 0)))
  | .long => some (.long, fun n => (n, .inr (.inl (fun _ => 0))))
  | _ => none
def goS (cal : Cal) (bd : Nat × Nat) (X : Cf → Prop) (pc : Nat) (L : Lc) (st : List Value) (σ : Hp) (c m : Nat) (a b d f : Nat) : Prop := match a with
  | 2 => kcp st fun n dp q1 sp q0 r => kB (Nat.ble (r.map fun v => v.category).sum 8) (kAL σ q0 fun n0 g0 => kAL σ q1 fun n1 g1 => (¬ sp < 0 ∧ ¬ dp < 0 ∧ ¬ n < 0 ∧ sp.toNatClampNeg + n.toNatClampNeg ≤ n0 ∧ dp.toNatClampNeg + n.toNatClampNeg ≤ n1) ∧
        X (pc + 3, L, r, sH σ q1 (.inl (.long, n1, .inr (.inl (va_cpy g0 g1 sp.toNatClampNeg dp.toNatClampNeg n.toNatClampNeg)))), c, m))
  | 3 => k2i st fun x y r => kB (Nat.ble (r.map fun v => v.category).sum 8) (X (pc + 3, L, .int (if x < y then y else x) :: r, σ, c, m))
  | 4 => k2i st fun x y r => kB (Nat.ble (r.map fun v => v.category).sum 8) (X (pc + 3, L, .int (if y < x then y else x) :: r, σ, c, m))
  | _ => kO (popA d [] st) fun p => kcall cal b p.1 σ p.2 c m bd fun v σ' c' m' => X (pc + 3, L, v.toList ++ p.2, σ', c', m')
def goI (cal : Cal) (bd : Nat × Nat) (X : Cf → Prop) (pc : Nat) (L : Lc) (st : List Value) (σ : Hp) (c m : Nat) (a b d f : Nat) : Prop := match a with
  | 0 => k1r st fun _ r => kB (Nat.ble (r.map fun v => v.category).sum 8) (X (pc + 3, L, r, σ, c, m))
  | 3 => kO (popA d [] st) fun p => k1r p.2 fun q r => kObj σ q fun ci _ => kB (isFam ci) (kcall cal b (.ref q :: p.1) σ r c m bd fun v σ' c' m' => X (pc + 3, L, v.toList ++ r, σ', c', m'))
  | _ => kO (popA d [] st) fun p => k1r p.2 fun q r => kcall cal b (.ref q :: p.1) σ r c m bd fun v σ' c' m' => X (pc + 3, L, v.toList ++ r, σ', c', m')
def goV (cal : Cal) (bd : Nat × Nat) (X : Cf → Prop) (pc : Nat) (L : Lc) (st : List Value) (σ : Hp) (c m : Nat) (a b d f : Nat) : Prop := match a with
  | 0 => kO (popA d [] st) fun p => k1r p.2 fun q r => kObj σ q fun ci _ => kB (Nat.beq f ci) (kcall cal b (.ref q :: p.1) σ r c m bd fun v σ' c' m' => X (pc + 3, L, v.toList ++ r, σ', c', m'))
  | 1 => kO (popA d [] st) fun p => k1r p.2 fun q r => kObj σ q fun ci _ => kO (dspF dsps b ci) fun mi => kcall cal mi (.ref q :: p.1) σ r c m bd fun v σ' c' m' => X (pc + 3, L, v.toList ++ r, σ', c', m')
  | 2 => k1r st fun q r => kB (Nat.ble (r.map fun v => v.category).sum 8 && Nat.ble 1 q && Nat.ble q 6) (X (pc + 3, L, .int (Int32.ofNat (nAt strN q)) :: r, σ, c, m))
  | _ => kir st fun x q r => kB (Nat.ble (r.map fun v => v.category).sum 8 && Nat.ble 1 q && Nat.ble q 6) (vp_in x (nAt strN q) ∧ X (pc + 3, L, .int (cAt (bAt strB q) x.toNatClampNeg) :: r, σ, c, m))
/-- one instruction: what must hold of what comes next (X), or of the answer (post) -/
def stepE (ret : Option FieldType) (cal : Cal) (scr : Option (Nat × (Nat → Int32))) (bd : Nat × Nat) (X : Cf → Prop) (post : Option Value → Hp → Prop) (pc : Nat) (L : Lc) (st : List Value) (σ : Hp) (c m : Nat) (i : Instr) (len a b d f : Nat) (k : Int32) (j : Int64) (s : List (Int32 × Nat)) : Prop := match i with
  | .iconst _ => X (pc + len, L, .int k :: st, σ, c, m)
  | .bipush _ => X (pc + len, L, .int k :: st, σ, c, m)
  | .sipush _ => X (pc + len, L, .int k :: st, σ, c, m)
  | .ldc _ => (match a with
    | 0 => X (pc + len, L, .int k :: st, σ, c, m)
    | _ => X (pc + len, L, .ref b :: st, σ, c, m))
  | .ldc_w _ => X (pc + len, L, .int k :: st, σ, c, m)
  | .lconst _ => X (pc + len, L, .long j :: st, σ, c, m)
  | .ldc2_w _ => X (pc + len, L, .long j :: st, σ, c, m)
  | .aconst_null => X (pc + len, L, .null :: st, σ, c, m)
  | .iload _ => kL L a fun v => kI v fun x => X (pc + len, L, .int x :: st, σ, c, m)
  | .iload_n _ => kL L a fun v => kI v fun x => X (pc + len, L, .int x :: st, σ, c, m)
  | .lload _ => kL L a fun v => kJ v fun x => X (pc + len, L, .long x :: st, σ, c, m)
  | .lload_n _ => kL L a fun v => kJ v fun x => X (pc + len, L, .long x :: st, σ, c, m)
  | .aload _ => kL L a fun v => kR v (X (pc + len, L, v :: st, σ, c, m))
  | .aload_n _ => kL L a fun v => kR v (X (pc + len, L, v :: st, σ, c, m))
  | .istore _ => k1i st fun x r => X (pc + len, sL (cL L a) a (some (.int x)), r, σ, c, m)
  | .istore_n _ => k1i st fun x r => X (pc + len, sL (cL L a) a (some (.int x)), r, σ, c, m)
  | .astore _ => k1v st fun v r => kR v (X (pc + len, sL (cL L a) a (some v), r, σ, c, m))
  | .astore_n _ => k1v st fun v r => kR v (X (pc + len, sL (cL L a) a (some v), r, σ, c, m))
  | .iinc _ _ => kL L a fun v => kI v fun x => X (pc + len, sL (cL L a) a (some (.int (x + k))), st, σ, c, m)
  | .iadd => k2i st fun x y r => X (pc + len, L, .int (x + y) :: r, σ, c, m)
  | .isub => k2i st fun x y r => X (pc + len, L, .int (x - y) :: r, σ, c, m)
  | .imul => k2i st fun x y r => X (pc + len, L, .int (x * y) :: r, σ, c, m)
  | .iand => k2i st fun x y r => X (pc + len, L, .int (x &&& y) :: r, σ, c, m)
  | .ior => k2i st fun x y r => X (pc + len, L, .int (x ||| y) :: r, σ, c, m)
  | .ixor => k2i st fun x y r => X (pc + len, L, .int (x ^^^ y) :: r, σ, c, m)
  | .idiv => k2i st fun x y r => ¬ y = 0 ∧ X (pc + len, L, .int (x / y) :: r, σ, c, m)
  | .irem => k2i st fun x y r => ¬ y = 0 ∧ X (pc + len, L, .int (x - x / y * y) :: r, σ, c, m)
  | .ineg => k1i st fun x r => X (pc + len, L, .int (-x) :: r, σ, c, m)
  | .ishl => k2i st fun x y r => X (pc + len, L, .int (x <<< (y &&& 31)) :: r, σ, c, m)
  | .ishr => k2i st fun x y r => X (pc + len, L, .int (x >>> (y &&& 31)) :: r, σ, c, m)
  | .iushr => k2i st fun x y r => X (pc + len, L, .int (x.toUInt32 >>> (y.toUInt32 &&& Int32.toUInt32 31)).toInt32 :: r, σ, c, m)
  | .i2l => k1i st fun x r => X (pc + len, L, .long x.toInt64 :: r, σ, c, m)
  | .l2i => k1l st fun x r => X (pc + len, L, .int x.toInt32 :: r, σ, c, m)
  | .i2b => k1i st fun x r => X (pc + len, L, .int x.toInt8.toInt32 :: r, σ, c, m)
  | .i2s => k1i st fun x r => X (pc + len, L, .int x.toInt16.toInt32 :: r, σ, c, m)
  | .ladd => k2l st fun x y r => X (pc + len, L, .long (x + y) :: r, σ, c, m)
  | .land => k2l st fun x y r => X (pc + len, L, .long (x &&& y) :: r, σ, c, m)
  | .lor => k2l st fun x y r => X (pc + len, L, .long (x ||| y) :: r, σ, c, m)
  | .lshl => kil st fun x y r => X (pc + len, L, .long (x <<< (y.toInt64 &&& 63)) :: r, σ, c, m)
  | .lcmp => k2l st fun x y r => X (pc + len, L, .int (lg_cmp x y) :: r, σ, c, m)
  | .dup => k1v st fun v r => kB (Nat.beq v.category 1) (X (pc + len, L, v :: v :: r, σ, c, m))
  | .pop => k1v st fun v r => kB (Nat.beq v.category 1) (X (pc + len, L, r, σ, c, m))
  | .dup_x1 => k2v st fun v w r => kB (Nat.beq v.category 1 && Nat.beq w.category 1) (X (pc + len, L, v :: w :: v :: r, σ, c, m))
  | .dup2 => k2v st fun v w r => kB (Nat.beq v.category 1 && Nat.beq w.category 1) (X (pc + len, L, v :: w :: v :: w :: r, σ, c, m))
  | .goto _ => X (a, L, st, σ, c, m)
  | .ifCond .eq _ => k1i st fun x r => (x = 0 → X (a, L, r, σ, c, m)) ∧ (¬ x = 0 → X (pc + 3, L, r, σ, c, m))
  | .ifCond .ne _ => k1i st fun x r => (¬ x = 0 → X (a, L, r, σ, c, m)) ∧ (x = 0 → X (pc + 3, L, r, σ, c, m))
  | .ifCond .lt _ => k1i st fun x r => (x < 0 → X (a, L, r, σ, c, m)) ∧ (¬ x < 0 → X (pc + 3, L, r, σ, c, m))
  | .ifCond .ge _ => k1i st fun x r => (0 ≤ x → X (a, L, r, σ, c, m)) ∧ (¬ 0 ≤ x → X (pc + 3, L, r, σ, c, m))
  | .ifCond .gt _ => k1i st fun x r => (0 < x → X (a, L, r, σ, c, m)) ∧ (¬ 0 < x → X (pc + 3, L, r, σ, c, m))
  | .ifCond .le _ => k1i st fun x r => (x ≤ 0 → X (a, L, r, σ, c, m)) ∧ (¬ x ≤ 0 → X (pc + 3, L, r, σ, c, m))
  | .if_icmp .eq _ => k2i st fun x y r => (x = y → X (a, L, r, σ, c, m)) ∧ (¬ x = y → X (pc + 3, L, r, σ, c, m))
  | .if_icmp .ne _ => k2i st fun x y r => (¬ x = y → X (a, L, r, σ, c, m)) ∧ (x = y → X (pc + 3, L, r, σ, c, m))
  | .if_icmp .lt _ => k2i st fun x y r => (x < y → X (a, L, r, σ, c, m)) ∧ (¬ x < y → X (pc + 3, L, r, σ, c, m))
  | .if_icmp .ge _ => k2i st fun x y r => (y ≤ x → X (a, L, r, σ, c, m)) ∧ (¬ y ≤ x → X (pc + 3, L, r, σ, c, m))
  | .if_icmp .gt _ => k2i st fun x y r => (y < x → X (a, L, r, σ, c, m)) ∧ (¬ y < x → X (pc + 3, L, r, σ, c, m))
  | .if_icmp .le _ => k2i st fun x y r => (x ≤ y → X (a, L, r, σ, c, m)) ∧ (¬ x ≤ y → X (pc + 3, L, r, σ, c, m))
  | .ifnull _ => k1q st (fun _ r => X (pc + 3, L, r, σ, c, m)) (fun r => X (a, L, r, σ, c, m))
  | .ifnonnull _ => k1q st (fun _ r => X (a, L, r, σ, c, m)) (fun r => X (pc + 3, L, r, σ, c, m))
  | .tableswitch _ _ _ _ => k1i st fun x r => kS x (X (a, L, r, σ, c, m)) (fun t => X (t, L, r, σ, c, m)) s
  | .lookupswitch _ _ => k1i st fun x r => kS x (X (a, L, r, σ, c, m)) (fun t => X (t, L, r, σ, c, m)) s
  | .getfield _ => k1r st fun q r => kObj σ q fun ci fs => kB (famB a ci) (kV fs b fun v => X (pc + 3, L, v :: r, σ, c, m))
  | .putfield _ => kvr st fun v q r => kObj σ q fun ci fs => kB (famB a ci && putB (ftyAt ftys ci b) v) (kV fs b fun _ => X (pc + 3, L, r, sH σ q (.inr (ci, sV fs b v)), c, m))
  | .new _ => (c + 1 ≤ bd.1 ∧ m + nAt fldN a ≤ bd.2) ∧ X (pc + 3, L, .ref σ.length :: st, σ ++ [.inr (a, dfV a)], c + 1, m + nAt fldN a)
  | .newarray at_ => k1i st fun x r => kO (arrT at_) fun t => (¬ x < 0 ∧ x.toNatClampNeg ≤ 1000 ∧ c + 1 ≤ bd.1 ∧ m + x.toNatClampNeg ≤ bd.2) ∧ X (pc + 2, L, .ref σ.length :: r, σ ++ [.inl (t.1, t.2 x.toNatClampNeg)], c + 1, m + x.toNatClampNeg)
  | .anewarray _ => k1i st fun x r => (¬ x < 0 ∧ x.toNatClampNeg ≤ 1000 ∧ c + 1 ≤ bd.1 ∧ m + x.toNatClampNeg ≤ bd.2) ∧ X (pc + 3, L, .ref σ.length :: r, σ ++ [.inl (.object (sAt cidx a), x.toNatClampNeg, .inr (.inr (.inr (.inr (fun _ => none)))))], c + 1, m + x.toNatClampNeg)
  | .arraylength => k1r st fun q r => (match scr, q with
    | some (n, _), 0 => X (pc + len, L, .int (Int32.ofNat n) :: r, σ, c, m)
    | _, _ => kLen σ q fun n => X (pc + len, L, .int (Int32.ofNat n) :: r, σ, c, m))
  | .iaload => kir st fun x q r => (match scr, q with
    | some (n, g), 0 => vp_in x n ∧ X (pc + len, L, .int (g x.toNatClampNeg) :: r, σ, c, m)
    | _, _ => kAI σ q fun n g => vp_in x n ∧ X (pc + len, L, .int (g x.toNatClampNeg) :: r, σ, c, m))
  | .baload => kir st fun x q r => kAB σ q fun _ n g => vp_in x n ∧ X (pc + len, L, .int (g x.toNatClampNeg) :: r, σ, c, m)
  | .laload => kir st fun x q r => kAL σ q fun n g => vp_in x n ∧ X (pc + len, L, .long (g x.toNatClampNeg) :: r, σ, c, m)
  | .aaload => kir st fun x q r => kAR σ q fun _ n g => vp_in x n ∧ X (pc + len, L, va_rf (g x.toNatClampNeg) :: r, σ, c, m)
  | .iastore => kiir st fun v x q r => kAI σ q fun n g => vp_in x n ∧ X (pc + len, L, r, sH σ q (.inl (.int, n, .inl (upd g x.toNatClampNeg v))), c, m)
  | .bastore => kiir st fun v x q r => kAB σ q fun ty n g => vp_in x n ∧ X (pc + len, L, r, sH σ q (.inl (ty, n, .inl (upd g x.toNatClampNeg (vp_nar ty v)))), c, m)
  | .lastore => klir st fun v x q r => kAL σ q fun n g => vp_in x n ∧ X (pc + len, L, r, sH σ q (.inl (.long, n, .inr (.inl (vp_updL g x.toNatClampNeg v)))), c, m)
  | .aastore => kvir st fun v x q r => kAR σ q fun C n g => vp_in x n ∧ k1q [v] (fun u _ => kObj σ u fun ci _ => kB (aOk (clsOf C) ci) (X (pc + len, L, r, sH σ q (.inl (.object C, n, .inr (.inr (.inr (.inr (va_up g x.toNatClampNeg (some u))))))), c, m)))
      (fun _ => X (pc + len, L, r, sH σ q (.inl (.object C, n, .inr (.inr (.inr (.inr (va_up g x.toNatClampNeg none)))))), c, m))
  | .instanceof _ => k1r st fun q r => kObj σ q fun ci _ => kB (isFam ci) (X (pc + 3, L, .int (bif instB a ci then 1 else 0) :: r, σ, c, m))
  | .invokestatic _ => goS cal bd X pc L st σ c m a b d f
  | .invokespecial _ => goI cal bd X pc L st σ c m a b d f
  | .invokevirtual _ => goV cal bd X pc L st σ c m a b d f
  | .ireturn => k1i st fun x r => kE r (kRet ret x (post (some (.int x)) σ))
  | .lreturn => k1l st fun x r => kE r (kB (rtL ret) (post (some (.long x)) σ))
  | .areturn => k1v st fun v r => kE r (kR v (kB (rtA ret) (post (some v) σ)))
  | .return_ => kE st (kB (rtV ret) (post none σ))
  | _ => False
/-- one step of a method, at its pc -/
def stepP (M : MI) (cal : Cal) (scr : Option (Nat × (Nat → Int32))) (bd : Nat × Nat) (X : Cf → Prop) (post : Option Value → Hp → Prop) : Cf → Prop
  | (pc, L, st, σ, c, m) => match lkE M.2.2.2.2.2 pc with
    | some (_, i, len, a, b, d, _, f, k, j, s) => stepE M.2.2.2.1 cal scr bd X post pc L st σ c m i len a b d f k j s
    | none => False
/-- the least property that one step carries back -/
def Wp (M : MI) (cal : Cal) (scr : Option (Nat × (Nat → Int32))) (bd : Nat × Nat) (post : Option Value → Hp → Prop) (q : Cf) : Prop :=
  ∀ X : Cf → Prop, (∀ q, stepP M cal scr bd X post q → X q) → X q
def entL : List Value → Nat → Lc
  | [], n => List.replicate n none
  | _ :: _, 0 => []
  | v :: vs, n + 1 => some v :: (bif Nat.beq v.category 2 then none :: entL vs (n - 1) else entL vs n)
/-- a call: method, cells and slots that it may make, arguments, heap; what holds of its answer -/
def Ev : Nat → Cal
  | 0 => fun _ _ _ _ _ _ => False
  | d + 1 => fun mi mc ms as σ post => kO (gM mths mi) fun M => (lg_sl as).length ≤ M.2.2.1 ∧ Wp M (Ev d) none (mc, ms) post (0, entL as M.2.2.1, [], σ, 0, 0)
def MonoC (cal : Cal) : Prop := ∀ (mi mc ms : Nat) (as : List Value) (σ : Hp) (P Q : Option Value → Hp → Prop), (∀ v σ', P v σ' → Q v σ') → cal mi mc ms as σ P → cal mi mc ms as σ Q
