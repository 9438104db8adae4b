/-! INV: what the class's cells and the model's have to do with each other between two calls -/
theorem within_in : r_X11_within = r_X12_in := rfl
theorem in_has : r_X11_in = r_X12_has := rfl
theorem ii_no {a l h : Int32} (q : r_X12_in a l h = 0) : a < l ∨ h < a := by
  unfold r_X12_in at q
  split at q
  · exact Or.inl (by assumption)
  · split at q
    · exact Or.inr (by assumption)
    · exact absurd q (by decide)
theorem ii_yes {a l h : Int32} (q : ¬ r_X12_in a l h = 0) : l ≤ a ∧ a ≤ h := by
  unfold r_X12_in at q
  split at q
  · exact absurd rfl q
  · split at q
    · exact absurd rfl q
    · exact ⟨Int32.not_lt.mp (by assumption), Int32.not_lt.mp (by assumption)⟩
theorem ii_of {a l h : Int32} (h1 : l ≤ a) (h2 : a ≤ h) : ¬ r_X12_in a l h = 0 := by
  unfold r_X12_in
  rw [if_neg (Int32.not_lt.mpr h1), if_neg (Int32.not_lt.mpr h2)]
  decide
theorem ii_nat {a : Int32} {l h : Nat} (hh : h < 2 ^ 31) (hl : l ≤ h) (q : ¬ r_X12_in a (nI l) (nI h) = 0) : ∃ k, l ≤ k ∧ k ≤ h ∧ a = nI k := by
  obtain ⟨h1, h2⟩ := ii_yes q
  have h3 : ¬ a < 0 := by
    intro z
    rw [Int32.lt_iff_toInt_lt] at z
    rw [Int32.le_iff_toInt_le, nI_toInt (by omega)] at h1
    have : (0 : Int32).toInt = 0 := by decide
    omega
  obtain ⟨j, hj, rfl⟩ := nI_of h3
  exact ⟨j, (nI_leI (by omega) hj).mp h1, (nI_leI hj hh).mp h2, rfl⟩
theorem ii_lt {a : Int32} {n : Nat} (hn : n < 2 ^ 31) (q : ¬ r_X12_in a 0 (nI n - 1) = 0) : ∃ s, s < n ∧ a = nI s := by
  cases n with
  | zero =>
    obtain ⟨h1, h2⟩ := ii_yes q
    rw [Int32.le_iff_toInt_le] at h1 h2
    have e1 : (nI 0 - 1).toInt = -1 := by decide
    have e2 : (0 : Int32).toInt = 0 := by decide
    omega
  | succ n =>
    rw [nI_pred] at q
    obtain ⟨k, -, h2, rfl⟩ := ii_nat (l := 0) (by omega) (Nat.zero_le _) q
    exact ⟨k, by omega, rfl⟩
theorem ii_is {n s : Nat} (hn : n < 2 ^ 31) (h : s < n) : ¬ r_X12_in (nI s) 0 (nI n - 1) = 0 := by
  cases n with
  | zero => omega
  | succ n =>
    rw [nI_pred]
    exact ii_of (nI_le (a := 0) (Nat.zero_le _) (by omega)) (nI_le (by omega) (by omega))
theorem gdN {α : Type} {s n : Nat} {k : Option α} (h : s < n) (hn : n < 2 ^ 31) : gd (¬ (nI s < 0 ∨ n ≤ (nI s).toNatClampNeg)) k = k := gd_pos (nI_in h hn)
theorem nI_mul (a b : Nat) : nI a * nI b = nI (a * b) := (Int32.ofNat_mul a b).symm
theorem nI_8 (a b : Nat) : (8 : Int32) * nI a + nI b = nI (8 * a + b) := by
  rw [show (8 : Int32) = nI 8 from rfl, nI_mul, nI_add]
theorem nI_8' (a b : Nat) : nI a * 8 + nI b = nI (8 * a + b) := by
  rw [show (8 : Int32) = nI 8 from rfl, nI_mul, nI_add, Nat.mul_comm]
theorem nI_4 (a b : Nat) : (4 : Int32) * nI a + nI b = nI (4 * a + b) := by
  rw [show (4 : Int32) = nI 4 from rfl, nI_mul, nI_add]
theorem nI_4' (a b : Nat) : nI a * 4 + nI b = nI (4 * a + b) := by
  rw [show (4 : Int32) = nI 4 from rfl, nI_mul, nI_add, Nat.mul_comm]
theorem upd_at (f : Nat → Int32) (k : Nat) (x : Int32) : upd f k x k = x := if_pos rfl
theorem upd_ne {f : Nat → Int32} {k j : Nat} {x : Int32} (h : j ≠ k) : upd f k x j = f j := if_neg h
theorem sub_one_one (x : Int32) : x + 1 - 1 = x := by
  rw [Int32.add_sub_cancel]
def EqB (n : Nat) (f g : Nat → Int32) : Prop := ∀ i, i < n → f i = g i
theorem EqB.upd {n : Nat} {f g : Nat → Int32} (h : EqB n f g) (k : Nat) (x : Int32) : EqB n (upd f k x) (upd g k x) := by
  intro i hi
  unfold Pilot.CToldMeThatLaw_law_r7777_b4954f.upd
  split
  · rfl
  · exact h i hi
/-- the first n HEARERS lie at the places of r -/
def Who (r : Nat → Option Nat) (kd vv : Nat → Int32) (n : Nat) (hs : List Hr) : Prop := (∀ h, h < n → ∃ a k v, k ≤ 6 ∧ v ≤ 9 ∧ kd h = nI k ∧ vv h = nI v ∧ r h = some a ∧ hq hs a = some (kC (nI k), nI k, nI h, nI v)) ∧ ∀ h, h < 6 → r h = none ∨ ∃ a q, r h = some a ∧ hq hs a = some q
/-- what an image brings back: numbers of stories, hearers, day, faces, books -/
def Cor1 (cs : Nat → Int32) (m0 m1 m2 m11 m37 m40 : Int32) (nb ns nh nd nf ne : Nat) : Prop :=
  (ns ≤ 8 ∧ cs 2 = nI ns ∧ m0 = nI ns) ∧ (nh ≤ 6 ∧ cs 3 = nI nh ∧ m1 = nI nh) ∧ (nd ≤ 9999 ∧ cs 0 = nI nd ∧ m2 = nI nd) ∧ (nf ≤ 6 ∧ cs 4 = nI nf ∧ m37 = nI nf) ∧ (ne ≤ 10 ∧ cs 5 = nI ne ∧ m40 = nI ne) ∧ cs 1 = m11 ∧ (m11 = -1 ∨ ∃ t, t < nb ∧ m11 = nI t)
def CorA (g9 g10 g77 g78 : Nat → Int32) (ns : Nat) : Prop := EqB 8 g9 g77 ∧ EqB 8 g10 g78 ∧ ∀ s, s < ns → ∃ k, k ≤ 30 ∧ g77 s = nI k
def CorT (g12 g13 g82 g83 : Nat → Int32) (ns nh : Nat) : Prop := EqB 48 g12 g82 ∧ EqB 48 g13 g83 ∧ (∀ h s, h < 6 → s < 8 → (nh ≤ h ∨ ns ≤ s) → g82 (8 * h + s) = 0) ∧ ∀ i, i < 48 → ∃ k, k ≤ 999 ∧ g82 i = nI k
def CorR (g14 g81 : Nat → Int32) (nh : Nat) : Prop := (∀ i, i < 4 * nh → g14 i = g81 i) ∧ (∀ i, i < 4 * nh → ∃ k, 1 ≤ k ∧ k ≤ 9 ∧ g81 i = nI k) ∧ ∀ i, 4 * nh ≤ i → i < 24 → g14 i = 1
def CorF (g15 g16 g101 g102 : Nat → Int32) (nf ns : Nat) : Prop := EqB 6 g15 g101 ∧ EqB 6 g16 g102 ∧ ∀ k, k < nf → ∃ s, s < ns ∧ g101 k = nI s
def CorB (g17 g103 : Nat → Int32) (ne ns : Nat) : Prop := EqB 10 g17 g103 ∧ ∀ k, k < ne → ∃ s, s < ns ∧ g103 k = nI s
def Core (cs g9 g10 g12 g13 g14 g15 g16 g17 : Nat → Int32) (who : Nat → Option Nat) (m0 m1 m2 m11 m37 m40 : Int32) (g77 g78 g79 g80 g81 g82 g83 g101 g102 g103 : Nat → Int32) (hs : List Hr) (nb : Nat) : Prop :=
  ∃ ns nh nd nf ne : Nat, Cor1 cs m0 m1 m2 m11 m37 m40 nb ns nh nd nf ne ∧ CorA g9 g10 g77 g78 ns ∧ CorT g12 g13 g82 g83 ns nh ∧ CorR g14 g81 nh ∧ CorF g15 g16 g101 g102 nf ns ∧ CorB g17 g103 ne ns ∧ Who who g79 g80 nh hs
abbrev Now (S : St) (hs : List Hr) (nb : Nat) : Prop := Core (S.1 8) (S.1 9) (S.1 10) (S.1 12) (S.1 13) (S.1 14) (S.1 15) (S.1 16) (S.1 17) (S.2.2 11) (S.1 76 0) (S.1 76 1) (S.1 76 2) (S.1 76 11) (S.1 76 37) (S.1 76 40) (S.1 77) (S.1 78) (S.1 79) (S.1 80) (S.1 81) (S.1 82) (S.1 83) (S.1 101) (S.1 102) (S.1 103) hs nb
abbrev Kept (S : St) (hs : List Hr) (nb : Nat) : Prop := Core (S.1 18) (S.1 19) (S.1 20) (S.1 22) (S.1 23) (S.1 24) (S.1 25) (S.1 26) (S.1 27) (S.2.2 21) (S.1 76 44) (S.1 76 45) (S.1 76 46) (S.1 76 43) (S.1 76 47) (S.1 76 48) (S.1 104) (S.1 105) (S.1 106) (S.1 107) (S.1 108) (S.1 109) (S.1 110) (S.1 111) (S.1 112) (S.1 113) hs nb
def Img (S : St) (hs : List Hr) (nb : Nat) : Prop := (S.1 7 2 = 0 ∧ S.1 76 42 = 0) ∨ (S.1 7 2 = 1 ∧ S.1 76 42 = 1 ∧ Kept S hs nb)
def Txt (n0 m12 : Int32) (g28 g84 : Nat → Int32) : Prop := ∃ n, n ≤ 100 ∧ n0 = nI n ∧ m12 = nI n ∧ ∀ i, i < n → ∃ c, c ≤ 127 ∧ g28 i = nI c ∧ g84 i = nI c
def Trc (c1 m59 : Int32) (g31 g114 : Nat → Int32) : Prop := ∃ n, n ≤ 1000 ∧ c1 = nI n ∧ m59 = nI n ∧ EqB 20 g31 g114
/-- a TAPE -/
def Tp1 (cs : Nat → Int32) (it : Nat → Int64) (m115 m116 : Nat → Int32) (m117 : Nat → Int64) (t : Nat) : Prop := ∃ sz, sz ≤ 60 ∧ cs 1 = m115 t ∧ cs 2 = nI sz ∧ m116 t = nI sz ∧ ((m115 t = -1 ∧ sz = 0) ∨ ∃ k, k ≤ 4 ∧ m115 t = nI k) ∧ ∀ k, k < 60 → it k = m117 (60 * t + k)
def Tps (S : St) : Prop := Tp1 (S.1 64) (S.2.1 65) (S.1 115) (S.1 116) (S.2.1 117) 0 ∧ Tp1 (S.1 66) (S.2.1 67) (S.1 115) (S.1 116) (S.2.1 117) 1 ∧ Tp1 (S.1 68) (S.2.1 69) (S.1 115) (S.1 116) (S.2.1 117) 2 ∧ Tp1 (S.1 70) (S.2.1 71) (S.1 115) (S.1 116) (S.2.1 117) 3 ∧ Tp1 (S.1 72) (S.2.1 73) (S.1 115) (S.1 116) (S.2.1 117) 4 ∧ Tp1 (S.1 74) (S.2.1 75) (S.1 115) (S.1 116) (S.2.1 117) 5
/-- code of a clause's expression, in the model's signs: how many truths lie on the pile -/
def tokOk (t : Int32) : Prop := ∃ f s d, f ≤ 5 ∧ s ≤ 2 ∧ d ≤ 99 ∧ t = nI (1000 * f + 100 * s + d)
def codeOk : List Int32 → Nat → Prop
  | [], n => n = 1
  | t :: r, n => (t = -33 ∧ 1 ≤ n ∧ codeOk r n) ∨ ((t = -38 ∨ t = -124) ∧ 2 ≤ n ∧ codeOk r (n - 1)) ∨ (tokOk t ∧ n < 20 ∧ codeOk r (n + 1))
/-- the class's step for a sign of the model's -/
def stepOf (t : Int32) : Int32 × Int32 := if t = -33 then (18, 0) else if t = -38 then (19, 0) else if t = -124 then (20, 0) else (nI (3 * (t.toNatClampNeg / 1000) + t.toNatClampNeg / 100 % 10), nI (t.toNatClampNeg % 100))
def seg (f : Nat → Int32) (a b : Nat) : List Int32 := (List.range (b - a)).map fun i => f (a + i)
/-- a clause: word, number, code -/
def clSteps (w d : Nat) (E : List Int32) : List (Int32 × Int32) := if w < 2 then E.map stepOf ++ [(21, if w = 0 then nI d else -nI d)] else []
def lastW (cl : Nat → Nat × Nat × List Int32) (w : Nat) (x : Nat) : Nat → Nat
  | 0 => x
  | n + 1 => if (cl n).1 = w then (cl n).2.1 else lastW cl w x n
def allSteps (cl : Nat → Nat × Nat × List Int32) : Nat → List (Int32 × Int32)
  | 0 => []
  | n + 1 => allSteps cl n ++ clSteps (cl n).1 (cl n).2.1 (cl n).2.2
def HouseOk (cs c1 c2 m85 m86 m87 m88 m89 m90 : Nat → Int32) (t nc : Nat) (cl : Nat → Nat × Nat × List Int32) : Prop :=
  (nc ≤ 10 ∧ m85 t = nI nc) ∧ (∀ c, c < nc → (cl c).1 ≤ 3 ∧ (cl c).2.1 ≤ 99 ∧ m86 (10 * t + c) = nI (cl c).1 ∧ m87 (10 * t + c) = nI (cl c).2.1 ∧ ((cl c).1 < 2 → ∃ a b, a ≤ b ∧ b ≤ 100 * t + 100 ∧ m88 (10 * t + c) = nI a ∧ m89 (10 * t + c) = nI b ∧ seg m90 a b = (cl c).2.2 ∧ codeOk (cl c).2.2 0)) ∧
  ((allSteps cl nc).length ≤ 100 ∧ cs 2 = nI (allSteps cl nc).length ∧ ∀ i x, (allSteps cl nc)[i]? = some x → c1 i = x.1 ∧ c2 i = x.2) ∧ cs 3 = nI (lastW cl 2 20 nc) ∧ cs 4 = nI (lastW cl 3 5 nc)
def Ho1 (cs c1 c2 m85 m86 m87 m88 m89 m90 : Nat → Int32) (t nb : Nat) : Prop := t < nb → ∃ nc cl, HouseOk cs c1 c2 m85 m86 m87 m88 m89 m90 t nc cl
def Hos (S : St) (nb : Nat) : Prop := Ho1 (S.1 40) (S.1 41) (S.1 42) (S.1 85) (S.1 86) (S.1 87) (S.1 88) (S.1 89) (S.1 90) 0 nb ∧ Ho1 (S.1 44) (S.1 45) (S.1 46) (S.1 85) (S.1 86) (S.1 87) (S.1 88) (S.1 89) (S.1 90) 1 nb ∧ Ho1 (S.1 48) (S.1 49) (S.1 50) (S.1 85) (S.1 86) (S.1 87) (S.1 88) (S.1 89) (S.1 90) 2 nb ∧ Ho1 (S.1 52) (S.1 53) (S.1 54) (S.1 85) (S.1 86) (S.1 87) (S.1 88) (S.1 89) (S.1 90) 3 nb ∧ Ho1 (S.1 56) (S.1 57) (S.1 58) (S.1 85) (S.1 86) (S.1 87) (S.1 88) (S.1 89) (S.1 90) 4 nb ∧ Ho1 (S.1 60) (S.1 61) (S.1 62) (S.1 85) (S.1 86) (S.1 87) (S.1 88) (S.1 89) (S.1 90) 5 nb
def Blt (S : St) (nb : Nat) : Prop := nb ≤ 6 ∧ S.1 7 6 = nI nb ∧ S.1 76 10 = nI nb
/-- the model's letters lie where its constructor laid them; nothing is gone -/
def Let (g : Nat → Int32) (x : Int32) : Prop := g = g_92 ∧ x = 0
def Inv (S : St) (hs : List Hr) : Prop := ∃ nb, Blt S nb ∧ Now S hs nb ∧ Img S hs nb ∧ Txt (S.1 7 4) (S.1 76 12) (S.1 28) (S.1 84) ∧ Trc (S.1 30 1) (S.1 76 59) (S.1 31) (S.1 114) ∧ Tps S ∧ Hos S nb ∧ Let (S.1 92) (S.1 76 28)
theorem gdM {α : Type} {s n : Nat} {k : Option α} (h : s < n) (hn : s < 2 ^ 31) : gd (¬ (nI s < 0 ∨ n ≤ s)) k = k := gd_pos fun q => q.elim (fun z => nI_pos hn z) (fun z => absurd h (Nat.not_lt.mpr z))
theorem lt_l {n k : Nat} (h : n < k) (hk : k < 2 ^ 31) : nI n < (OfNat.ofNat k : Int32) := nI_lt h hk
theorem nlt_l {n k : Nat} (h : k ≤ n) (hn : n < 2 ^ 31) : ¬ nI n < (OfNat.ofNat k : Int32) := nI_nlt h hn
theorem le_l {n k : Nat} (h : k ≤ n) (hn : n < 2 ^ 31) : (OfNat.ofNat k : Int32) ≤ nI n := nI_le h hn
theorem nle_l {n k : Nat} (h : n < k) (hk : k < 2 ^ 31) : ¬ (OfNat.ofNat k : Int32) ≤ nI n := nI_ge h hk
theorem ne_l {n k : Nat} (h : n ≠ k) (hn : n < 2 ^ 31) (hk : k < 2 ^ 31) : ¬ nI n = (OfNat.ofNat k : Int32) := fun q => h ((nI_eq hn hk).mp q)
theorem uF_self {α : Type} (f : Nat → Nat → α) (k : Nat) : uF f k (f k) = f := by
  funext a
  unfold uF
  split
  · rename_i e
    rw [Nat.eq_of_beq_eq_true e]
  · rfl
theorem uF_uF {α : Type} (f : Nat → Nat → α) (k : Nat) (g g' : Nat → α) : uF (uF f k g) k g' = uF f k g' := by
  funext a
  unfold uF
  split <;> rfl
theorem sA_self (S : St) (k : Nat) : sA S k (S.1 k) = S := by
  show (uF S.1 k (S.1 k), S.2.1, S.2.2) = S
  rw [uF_self]
theorem sA_sA (S : St) (k : Nat) (g g' : Nat → Int32) : sA (sA S k g) k g' = sA S k g' := by
  show (uF (uF S.1 k g) k g', S.2.1, S.2.2) = (uF S.1 k g', S.2.1, S.2.2)
  rw [uF_uF]
theorem upd_same {f : Nat → Int32} {i : Nat} {x : Int32} (h : f i = x) : upd f i x = f := by
  funext j
  unfold upd
  split
  · rename_i e
    rw [e, h]
  · rfl
theorem gR_app : ∀ {l : List Hr} {n : Nat} {q : Hr} (x : Hr), gR l n = some q → gR (l ++ [x]) n = some q
  | [], _, _, _, h => by cases h
  | _ :: _, 0, _, _, h => h
  | _ :: r, n + 1, _, x, h => gR_app (l := r) x h
theorem gR_new : ∀ (l : List Hr) (x : Hr), gR (l ++ [x]) l.length = some x
  | [], _ => rfl
  | _ :: r, x => gR_new r x
theorem hq_app {hs : List Hr} {a : Nat} {q : Hr} (x : Hr) (h : hq hs a = some q) : hq (hs ++ [x]) a = some q := by
  unfold hq at h ⊢
  split at h
  · obtain ⟨p, hp, h⟩ := bd_some h
    rw [gR_app x hp]
    exact h
  · cases h
theorem hq_new (hs : List Hr) (x : Hr) (hf : isFam x.1 = true) : hq (hs ++ [x]) (119 + hs.length) = some x := by
  unfold hq
  rw [show Nat.ble 119 (119 + hs.length) = true from Nat.ble_eq_true_of_le (Nat.le_add_right _ _), Nat.add_sub_cancel_left, gR_new]
  show (bif isFam x.1 then some x else none) = some x
  rw [hf]
  rfl
theorem Who.app {r : Nat → Option Nat} {kd vv : Nat → Int32} {n : Nat} {hs : List Hr} (x : Hr) (h : Who r kd vv n hs) : Who r kd vv n (hs ++ [x]) := by
  constructor
  · intro j hj
    obtain ⟨a, k, v, h1, h2, h3, h4, h5, h6⟩ := h.1 j hj
    exact ⟨a, k, v, h1, h2, h3, h4, h5, hq_app x h6⟩
  · intro j hj
    rcases h.2 j hj with z | ⟨a, q, z1, z2⟩
    · exact Or.inl z
    · exact Or.inr ⟨a, q, z1, hq_app x z2⟩
theorem Core.app {cs g9 g10 g12 g13 g14 g15 g16 g17 : Nat → Int32} {who : Nat → Option Nat} {m0 m1 m2 m11 m37 m40 : Int32} {g77 g78 g79 g80 g81 g82 g83 g101 g102 g103 : Nat → Int32} {hs : List Hr} {nb : Nat} (x : Hr) (h : Core cs g9 g10 g12 g13 g14 g15 g16 g17 who m0 m1 m2 m11 m37 m40 g77 g78 g79 g80 g81 g82 g83 g101 g102 g103 hs nb) : Core cs g9 g10 g12 g13 g14 g15 g16 g17 who m0 m1 m2 m11 m37 m40 g77 g78 g79 g80 g81 g82 g83 g101 g102 g103 (hs ++ [x]) nb := by
  obtain ⟨ns, nh, nd, nf, ne, h1, h2, h3, h4, h5, h6, h7⟩ := h
  exact ⟨ns, nh, nd, nf, ne, h1, h2, h3, h4, h5, h6, h7.app x⟩
/-- the HEARER at a number -/
theorem at_no {S : St} {hs : List Hr} {a : Int32} {nh : Nat} (e : S.1 8 3 = nI nh) (q : r_X12_in a 0 (nI nh - 1) = 0) {β : Type} (x : Option β) (f : Hr → Option β) : ((r_X11_hearerAt S a).bind fun q => oH hs q x f) = x := by
  unfold r_X11_hearerAt
  rw [within_in, e, if_pos q]
  rfl
theorem at_yes {S : St} {hs : List Hr} {nh h : Nat} (hn : nh ≤ 6) (e : S.1 8 3 = nI nh) (hW : Who (S.2.2 11) (S.1 79) (S.1 80) nh hs) (hh : h < nh) : ∃ k v, k ≤ 6 ∧ v ≤ 9 ∧ S.1 79 h = nI k ∧ S.1 80 h = nI v ∧ ∀ {β : Type} (x : Option β) (f : Hr → Option β), ((r_X11_hearerAt S (nI h)).bind fun q => oH hs q x f) = f (kC (nI k), nI k, nI h, nI v) := by
  obtain ⟨a, k, v, h1, h2, h3, h4, h5, h6⟩ := hW.1 h hh
  refine ⟨k, v, h1, h2, h3, h4, fun x f => ?_⟩
  unfold r_X11_hearerAt
  rw [within_in, e, if_neg (ii_is (by omega) hh), gdN (show h < 6 by omega) (by decide), nI_clamp (by omega), h5]
  show (hq hs a).bind f = _
  rw [h6]
  rfl
