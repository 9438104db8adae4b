/-! CHECK: the tables of part 02 against the class files' bytes and the words of lw_tbl, by the kernel -/
/-- HEARER's family -/
def isFam : Nat → Bool
  | 0 => true
  | 1 => true
  | 2 => true
  | 3 => true
  | 4 => true
  | 6 => true
  | 9 => true
  | _ => false
def famB (a ci : Nat) : Bool := Nat.beq a ci || (isFam a && isFam ci)
/-- may an object of class ci lie in an array over the class of number e -/
def aOk (e ci : Nat) : Bool := famB 3 ci && Nat.beq e 3 || Nat.beq e ci
/-- is an object of class ci one of class t -/
def instB : Nat → Nat → Bool
  | 9, 9 => true
  | 6, 6 => true
  | 6, 4 => true
  | 0, 0 => true
  | 0, 1 => true
  | 2, 2 => true
  | 2, 9 => true
  | 4, 4 => true
  | 1, 1 => true
  | _, _ => false
def ftys : List (Nat → FieldType) := [tyX0, tyX1, tyX2, tyX3, tyX4, tyX5, tyX6, tyX7, tyX8, tyX9, tyX10, tyX11, tyX12]
def ftyAt : List (Nat → FieldType) → Nat → Nat → FieldType
  | [], _, _ => .int
  | f :: _, 0, b => f b
  | _ :: r, n + 1, b => ftyAt r n b
def fldN : List Nat := [4, 4, 4, 4, 4, 8, 4, 15, 3, 4, 2, 16, 65]
def nAt : List Nat → Nat → Nat
  | [], _ => 0
  | k :: _, 0 => k
  | _ :: r, n + 1 => nAt r n
def dfV (ci : Nat) : List Value := (List.range (nAt fldN ci)).map (fun k => defaultValue (ftyAt ftys ci k))
def strN : List Nat := [0, 6, 3, 3, 4, 4, 4]
def strB : List (List Int32) := [[], [104, 107, 115, 103, 116, 119], [60, 61, 62], [102, 117, 110], [115, 111, 117, 114], [100, 97, 121, 115], [102, 97, 99, 101]]
def bAt : List (List Int32) → Nat → List Int32
  | [], _ => []
  | k :: _, 0 => k
  | _ :: r, n + 1 => bAt r n
def cAt : List Int32 → Nat → Int32
  | [], _ => 0
  | k :: _, 0 => k
  | _ :: r, n + 1 => cAt r n
def dspF : List (Nat × Nat × Nat) → Nat → Nat → Option Nat
  | [], _, _ => none
  | (s, c, m) :: r, si, ci => match Nat.beq s si && Nat.beq c ci with
    | true => some m
    | false => dspF r si ci
def clsOf : String → Nat := fun C => if C = RX3 then 3 else if C = RX5 then 5 else if C = RX8 then 8 else 99
def cidx : List String := [RX0, RX1, RX2, RX3, RX4, RX5, RX6, RX7, RX8, RX9, RX10, RX11, RX12]
def sAt : List String → Nat → String
  | [], _ => ""
  | k :: _, 0 => k
  | _ :: r, n + 1 => sAt r n
def gM : List MI → Nat → Option MI
  | [], _ => none
  | o :: _, 0 => some o
  | _ :: r, n + 1 => gM r n
def goodTbl : List Cond := lw_tbl.filter goodWord
def wCh : Nat → List Cond
  | 0 => k2_sels lw_privs
  | 1 => tables_1_1
  | 2 => tables_1_2
  | 3 => tables_1_3
  | 4 => tables_1_4
  | 5 => tables_1_5
  | 6 => tables_1_6
  | 7 => tables_1_7
  | _ => []
def wNth : List Cond → Nat → Option Cond
  | [], _ => none
  | c :: _, 0 => some c
  | _ :: r, n + 1 => wNth r n
theorem wNth_mem : ∀ (l : List Cond) (n : Nat) (c : Cond), wNth l n = some c → c ∈ l
  | [], _, _, h => by cases h
  | c :: r, 0, d, h => by cases h; exact List.mem_cons_self
  | c :: r, n + 1, d, h => List.mem_cons_of_mem _ (wNth_mem r n d h)
theorem wCh_in : ∀ k c, c ∈ wCh k → c ∈ lw_tbl := by
  intro k c h
  unfold lw_tbl tables_1
  match k, h with
  | 0, h => exact List.mem_append_left _ h
  | 1, h => simp only [List.mem_append]; exact Or.inr (Or.inl h)
  | 2, h => simp only [List.mem_append]; exact Or.inr (Or.inr (Or.inl h))
  | 3, h => simp only [List.mem_append]; exact Or.inr (Or.inr (Or.inr (Or.inl h)))
  | 4, h => simp only [List.mem_append]; exact Or.inr (Or.inr (Or.inr (Or.inr (Or.inl h))))
  | 5, h => simp only [List.mem_append]; exact Or.inr (Or.inr (Or.inr (Or.inr (Or.inr (Or.inl h)))))
  | 6, h => simp only [List.mem_append]; exact Or.inr (Or.inr (Or.inr (Or.inr (Or.inr (Or.inr (Or.inl h))))))
  | 7, h => simp only [List.mem_append]; exact Or.inr (Or.inr (Or.inr (Or.inr (Or.inr (Or.inr (Or.inr h))))))
  | k + 8, h => exact absurd h List.not_mem_nil
/-- the word at place i (a thousand a list) -/
def wAt (i : Nat) (w : Cond) : Bool := decide (wNth (wCh (i / 1000)) (i % 1000) = some w) && goodWord w
theorem wAt_ok {i : Nat} {w : Cond} (h : wAt i w = true) : w ∈ goodTbl := by
  simp only [wAt, Bool.and_eq_true, decide_eq_true_eq] at h
  exact List.mem_filter.mpr ⟨wCh_in _ _ (wNth_mem _ _ _ h.1), h.2⟩
theorem goodTbl_ok : GoodIn goodTbl goodTbl := fun w hw => ⟨hw, good_of_word (List.mem_filter.mp hw).2⟩
def clT : List u_T := [TX0, TX1, TX2, TX3, TX4, TX5, TX6, TX7, TX8, TX9, TX10, TX11, TX12]
def tAt : List u_T → Nat → u_T
  | [], _ => TX0
  | k :: _, 0 => k
  | _ :: r, n + 1 => tAt r n
/-- words that a call does not carry on by themselves -/
def nwL : List Cond := [.methodLinkNest RX11 44 yX10_init RX11, .methodLinkNest RX11 77 yX5_init RX11, .methodLinkNest RX11 78 yX8_init RX11, .methodLinkNest RX7 61 yX11_copy RX11,
  .arrayOver (.object RX3), .arrayOver (.object RX5), .arrayOver (.object RX8),
  .castable RX4 RX6, .castable RX1 RX0, .castable RX9 RX2, .castable RX6 RX3, .castable RX0 RX3, .castable RX2 RX3, .castable RX4 RX3, .castable RX1 RX3, .castable RX9 RX3]
def strL : List (Nat × String × Nat) := [(76, "hksgtw", 1), (82, "<=>", 2), (102, "fun", 3), (104, "sour", 4), (106, "days", 5), (107, "face", 6)]
def ilen : Instr → Nat
  | .bipush _ => 2
  | .sipush _ => 3
  | .ldc _ => 2
  | .ldc_w _ => 3
  | .ldc2_w _ => 3
  | .iload _ => 2
  | .lload _ => 2
  | .aload _ => 2
  | .istore _ => 2
  | .astore _ => 2
  | .iinc _ _ => 3
  | .goto _ => 3
  | .ifCond _ _ => 3
  | .if_icmp _ _ => 3
  | .ifnull _ => 3
  | .ifnonnull _ => 3
  | .getfield _ => 3
  | .putfield _ => 3
  | .new _ => 3
  | .anewarray _ => 3
  | .instanceof _ => 3
  | .invokestatic _ => 3
  | .invokespecial _ => 3
  | .invokevirtual _ => 3
  | .newarray _ => 2
  | _ => 1
def isSw : Instr → Bool
  | .tableswitch _ _ _ _ => true
  | .lookupswitch _ _ => true
  | _ => false
def tsOk (pc : Nat) (lo : Int) : Nat → List Int → List (Int32 × Nat) → Bool
  | _, [], [] => true
  | t, o :: os, (k, g) :: r => decide (k.toInt = lo + t) && decide ((pc : Int) + o = (g : Int)) && tsOk pc lo (t + 1) os r
  | _, _, _ => false
def lsOk (pc : Nat) : List (Int × Int) → List (Int32 × Nat) → Bool
  | [], [] => true
  | (a, o) :: os, (k, g) :: r => decide (k.toInt = a) && decide ((pc : Int) + o = (g : Int)) && lsOk pc os r
  | _, _ => false
noncomputable def yOf (b : Nat) : MethodName := match gM mths b with
  | some M => M.1
  | none => yX12_in
def nPar (y : MethodName) (d : Nat) : Bool := decide ((parseMethodDescriptor y.desc).map (fun q => q.parameters.length) = some d)
def selAt : List MethodName → Nat → MethodName
  | [], _ => yX12_in
  | k :: _, 0 => k
  | _ :: r, n + 1 => selAt r n
def sups : List MethodName := [⟨RX3, "laughs", "(I)I"⟩, ⟨RX3, "hears", "(I)I"⟩, ⟨RX3, "tells", "(I)I"⟩, ⟨RX6, "hears", "(I)I"⟩, ⟨RX6, "laughs", "(I)I"⟩, ⟨RX0, "tells", "(I)I"⟩, ⟨RX2, "laughs", "(I)I"⟩, ⟨RX2, "hears", "(I)I"⟩]
/-- own class, the class named, the class that has it: the places of 'superclass', 'sameMethod', 'superclass' -/
def supW : List (String × String × MethodName × Nat × Nat × Nat) := [(RX6, RX3, yX3_laughs, 2041, 4087, 0), (RX0, RX3, yX3_hears, 2052, 4057, 0), (RX2, RX3, yX3_tells, 2063, 4111, 0), (RX4, RX6, yX3_hears, 2074, 4073, 2041), (RX4, RX6, yX6_laughs, 2074, 7043, 0), (RX1, RX0, yX3_tells, 2085, 4118, 2052), (RX9, RX2, yX3_laughs, 2096, 4104, 2063), (RX9, RX2, yX3_hears, 2096, 4081, 2063), (RX9, RX2, yX3_hears, 2096, 4081, 2063)]
def supOk (own : String) (x y : MethodName) : Bool := supW.any (fun q => decide (q.1 = own) && decide (q.2.1 = x.cls) && decide (q.2.2.1 = y) && wAt q.2.2.2.1 (.superclass own x.cls) && wAt q.2.2.2.2.1 (.sameMethod x.cls y.cls x.name x.desc) && (decide (x.cls = y.cls) || wAt q.2.2.2.2.2 (.superclass x.cls y.cls)))
noncomputable def opOk (y : MethodName) (maxL : Nat) (own : String) (pc : Nat) (i : Instr) (a b d w f : Nat) (k : Int32) (j : Int64) (s : List (Int32 × Nat)) : Bool := match i with
  | .iconst n => decide (Int32.ofInt n = k)
  | .bipush n => decide ((Int8.ofInt n).toInt32 = k)
  | .sipush n => decide ((Int16.ofInt n).toInt32 = k)
  | .ldc idx => (match a with
    | 0 => wAt w (.constant own idx k)
    | _ => decide (own = RX5) && strL.any (fun q => Nat.beq q.1 idx && Nat.beq q.2.2 b))
  | .ldc_w idx => wAt w (.constant own idx k)
  | .lconst n => decide (Int64.ofNat (n : Nat) = j)
  | .ldc2_w idx => wAt w (.constantLong own idx j)
  | .iload q => Nat.beq q a
  | .lload q => Nat.beq q a
  | .aload q => Nat.beq q a
  | .iload_n q => Nat.beq q a
  | .lload_n q => Nat.beq q a
  | .aload_n q => Nat.beq q a
  | .istore q => Nat.beq q a && Nat.blt q maxL
  | .astore q => Nat.beq q a && Nat.blt q maxL
  | .istore_n q => Nat.beq q a && Nat.blt q maxL
  | .astore_n q => Nat.beq q a && Nat.blt q maxL
  | .iinc q n => Nat.beq q a && Nat.blt q maxL && decide (Int32.ofInt n = k)
  | .goto o => decide ((pc : Int) + o = (a : Int))
  | .ifCond _ o => decide ((pc : Int) + o = (a : Int))
  | .if_icmp _ o => decide ((pc : Int) + o = (a : Int))
  | .ifnull o => decide ((pc : Int) + o = (a : Int))
  | .ifnonnull o => decide ((pc : Int) + o = (a : Int))
  | .tableswitch o lo hi os => decide ((pc : Int) + o = (a : Int)) && tsOk pc lo 0 os.toList s && decide (hi = lo + os.toList.length - 1)
  | .lookupswitch o ps => decide ((pc : Int) + o = (a : Int)) && lsOk pc ps.toList s && (ps.toList.zip (ps.toList.drop 1)).all (fun (a, next) => a.1 < next.1)
  | .getfield idx => Nat.blt a 13 && Nat.blt b (nAt fldN a) && wAt w (.fieldLink own idx (sAt cidx a) (tAt clT a b).2.1 (tAt clT a b).2.2.1) && (decide ((tAt clT a b).1 = sAt cidx a) || wAt d (.sameField (sAt cidx a) (tAt clT a b).1 (tAt clT a b).2.1 (tAt clT a b).2.2.1))
  | .putfield idx => Nat.blt a 13 && Nat.blt b (nAt fldN a) && wAt w (.fieldLink own idx (sAt cidx a) (tAt clT a b).2.1 (tAt clT a b).2.2.1) && decide ((tAt clT a b).1 = sAt cidx a) && (!(tAt clT a b).2.2.2 || (decide ((tAt clT a b).1 = own) && decide (y.name = "<init>")))
  | .new idx => Nat.blt a 13 && wAt w (.classLink own idx (sAt cidx a))
  | .anewarray idx => (Nat.beq a 3 || Nat.beq a 5 || Nat.beq a 8) && wAt w (.classLink own idx (sAt cidx a))
  | .instanceof idx => Nat.blt a 13 && isFam a && !Nat.beq a 3 && wAt w (.classLink own idx (sAt cidx a))
  | .invokestatic idx => (match a with
    | 2 => wAt w (.methodLink own idx arraycopyName)
    | 3 => wAt w (.methodLink own idx Lib.Math.max.name)
    | 4 => wAt w (.methodLink own idx Lib.Math.min.name)
    | 1 => nPar (yOf b) d && nwL.any (fun q => decide (q = .methodLinkNest own idx (yOf b) RX11)) && Nat.beq b ix_X11_copy
    | _ => Nat.beq a 0 && nPar (yOf b) d && wAt w (.methodLink own idx (yOf b)))
  | .invokespecial idx => (match a with
    | 0 => wAt w (.methodLink own idx objectInit)
    | 3 => nPar (selAt sups f) d && wAt w (.methodLink own idx (selAt sups f)) && decide ((selAt sups f).name = (yOf b).name) && decide ((selAt sups f).desc = (yOf b).desc) && supOk own (selAt sups f) (yOf b)
    | 2 => nPar (yOf b) d && decide ((yOf b).name = "<init>") && nwL.any (fun q => decide (q = .methodLinkNest own idx (yOf b) RX11))
    | _ => Nat.beq a 1 && nPar (yOf b) d && decide ((yOf b).name = "<init>") && wAt w (.methodLink own idx (yOf b)))
  | .invokevirtual idx => (match a with
    | 0 => Nat.blt f 13 && nPar (yOf b) d && decide ((yOf b).cls = sAt cidx f) && wAt w (.methodLink own idx (yOf b))
    | 1 => nPar (selAt sels b) d && wAt w (.methodLink own idx (selAt sels b))
    | 2 => wAt w (.methodLink own idx yJ0_length_8abf5)
    | _ => Nat.beq a 3 && wAt w (.methodLink own idx yJ0_charAt_5068e))
  | _ => true
noncomputable def enOk (y : MethodName) (bytes : ByteArray) (maxL : Nat) (own : String) (q : En) : Bool := match q with
  | (pc, i, len, a, b, d, w, f, k, j, s) => decide (decode bytes pc = .ok (i, len)) && (Nat.beq len (ilen i) || isSw i) && opOk y maxL own pc i a b d w f k j s
noncomputable def mOk (M : MI) : Bool := M.2.2.2.2.2.all (enOk M.1 M.2.1 M.2.2.1 M.2.2.2.2.1)
/-- the words of a method at their places: code, initialized, static or instanceMethod (1: static), selects (0: none) -/
def mwOne (M : MI) (q : Nat × Nat × Nat × Nat × Nat) : Bool := wAt q.1 (.code M.1 M.2.1 M.2.2.1 M.2.2.2.1) && wAt q.2.1 (.initialized M.1.cls) && decide (M.2.2.2.2.1 = M.1.cls) && plainName M.1.cls && Nat.ble M.2.2.1 21 && (match q.2.2.2.1 with
    | 0 => wAt q.2.2.1 (.instanceMethod M.1) && (Nat.beq q.2.2.2.2 9999 || wAt q.2.2.2.2 (.selects M.1.cls M.1 M.1))
    | _ => wAt q.2.2.1 (.static M.1))
