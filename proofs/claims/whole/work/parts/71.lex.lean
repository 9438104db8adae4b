/-! HOUSE: the class's signs, numbers, tests -/
/-- the text -/
def hs_T (S0 : St) (N : Nat) (k : Nat → Nat) : Prop := PK N k ∧ N ≤ 100 ∧ ∀ i, i < N → S0.1 28 i = nI (k i)
/-- the HOUSE at o stands at p and has learnt L; all else is as in S0 -/
def hs_C (S0 : St) (o N : Nat) (dv fv : Int32) (S : St) (p : Nat) (L : List (Int32 × Int32)) : Prop :=
  S.1 o 7 = nI p ∧ S.1 o 6 = nI N ∧ S.2.2 o 5 = some 28 ∧ S.1 o 2 = nI L.length ∧ (∀ i x, L[i]? = some x → S.1 (o + 1) i = x.1 ∧ S.1 (o + 2) i = x.2) ∧ S.1 o 3 = dv ∧ S.1 o 4 = fv ∧ (∀ j, j ≠ o → j ≠ o + 1 → j ≠ o + 2 → S.1 j = S0.1 j) ∧ S.2.1 = S0.2.1 ∧ ∀ j, j ≠ o → S.2.2 j = S0.2.2 j
def sg (N : Nat) (k : Nat → Nat) (i : Nat) : Int32 := if i < N then nI (k i) else -1
theorem sg_eq {N : Nat} {k : Nat → Nat} (hT : PK N k) {i a : Nat} (ha : a ≤ 127) : sg N k i = nI a ↔ k i = a := by
  unfold sg
  by_cases w : i < N
  · rw [if_pos w]
    have := hT.2 i w
    exact nI_eq (by omega) (by omega)
  · rw [if_neg w]
    constructor
    · intro z
      exact absurd (show nI a < 0 by rw [← z]; decide) (nI_pos (by omega))
    · intro z
      have := hT.1 i (by omega)
      omega
theorem sg_if {N : Nat} {k : Nat → Nat} (hT : PK N k) {i a : Nat} (ha : a ≤ 127) {α : Type} (x y : α) : (if sg N k i = nI a then x else y) = if k i = a then x else y := by
  by_cases w : k i = a
  · rw [if_pos w, if_pos ((sg_eq hT ha).mpr w)]
  · rw [if_neg w, if_neg (fun z => w ((sg_eq hT ha).mp z))]
theorem sg_dy {N : Nat} {k : Nat → Nat} (hT : PK N k) {i : Nat} (h : ps_d (k i) = true) : i < N ∧ 48 ≤ k i ∧ k i ≤ 57 ∧ sg N k i = nI (k i) ∧ ¬ sg N k i < 48 ∧ ¬ 57 < sg N k i := by
  unfold ps_d at h
  rw [Bool.and_eq_true] at h
  have h1 := of_decide_eq_true h.1
  have h2 := of_decide_eq_true h.2
  have hi : i < N := hT.lt rfl (by omega)
  have e : sg N k i = nI (k i) := if_pos hi
  refine ⟨hi, h1, h2, e, ?_, ?_⟩
  · rw [e]
    exact nI_nlt (a := k i) (b := 48) (by omega) (by omega)
  · rw [e]
    exact nI_nlt (a := 57) (b := k i) (by omega) (by omega)
theorem sg_dn {N : Nat} {k : Nat → Nat} (hT : PK N k) {i : Nat} (h : ¬ ps_d (k i) = true) : sg N k i < 48 ∨ 57 < sg N k i := by
  unfold sg
  by_cases w : i < N
  · rw [if_pos w]
    have := hT.2 i w
    by_cases a : k i < 48
    · exact Or.inl (nI_lt (b := 48) a (by decide))
    · by_cases b : 57 < k i
      · exact Or.inr (nI_lt (a := 57) b (by omega))
      · exfalso
        apply h
        unfold ps_d
        rw [Bool.and_eq_true]
        exact ⟨decide_eq_true (by omega), decide_eq_true (by omega)⟩
  · rw [if_neg w]
    exact Or.inl (by decide)
theorem nz1 : ¬ (1 : Int32) = 0 := by decide
theorem nzm : ¬ (0 : Int32) ≤ -1 := by decide
theorem zm1 : (-1 : Int32) < 0 := by decide
section
variable {S0 S : St} {o N p : Nat} {dv fv : Int32} {k : Nat → Nat} {L : List (Int32 × Int32)}
theorem hs_C.mv (h : hs_C S0 o N dv fv S p L) (q : Nat) : hs_C S0 o N dv fv (sI S o 7 (nI q)) q L := by
  obtain ⟨h1, h2, h3, h4, h5, h6, h7, h8, h9, h10⟩ := h
  refine ⟨sI_at, ?_, h3, ?_, fun i x hx => ?_, ?_, ?_, fun j a b c => ?_, h9, h10⟩
  · rw [sI_sl (by decide)]
    exact h2
  · rw [sI_sl (by decide)]
    exact h4
  · rw [sI_ne (by omega), sI_ne (by omega)]
    exact h5 i x hx
  · rw [sI_sl (by decide)]
    exact h6
  · rw [sI_sl (by decide)]
    exact h7
  · rw [sI_ne a]
    exact h8 j a b c
theorem sign_c (hT : hs_T S0 N k) (ho : 40 ≤ o) (h : hs_C S0 o N dv fv S p L) {i : Nat} (hi : i < 1000) : r_X5_signAt S o (nI i) = some (sg N k i) := by
  obtain ⟨h1, h2, h3, h4, h5, h6, h7, h8, h9, h10⟩ := h
  unfold r_X5_signAt sg
  rw [h2]
  by_cases w : i < N
  · have := hT.2.1
    rw [if_pos w, if_neg (nI_ge w (by omega)), gd_pos h3, gdN (show i < 100 by omega) (by decide), nI_clamp (by omega), h8 28 (by omega) (by omega) (by omega), hT.2.2 i w]
  · rw [if_neg w, if_pos (nI_le (by omega) (by omega))]
theorem goBy_c (hT : hs_T S0 N k) (ho : 40 ≤ o) (h : hs_C S0 o N dv fv S p L) (hp : p ≤ N) {a : Nat} (ha : a ≤ 127) : r_X5_goBy S o (nI a) = some (if k p = a then (1, sI S o 7 (nI (p + 1))) else (0, S)) := by
  have := hT.2.1
  unfold r_X5_goBy
  rw [h.1, nI_1]
  refine ob_step (sign_c hT ho h (by omega)) ?_
  rw [sg_if hT.1 ha]
  split <;> rfl
theorem hs_C.ad (h : hs_C S0 o N dv fv S p L) (hl : L.length < 100) (a b : Int32) : ∃ S', r_X5_add S o a b = some (1, S') ∧ hs_C S0 o N dv fv S' p (L ++ [(a, b)]) := by
  obtain ⟨h1, h2, h3, h4, h5, h6, h7, h8, h9, h10⟩ := h
  refine ⟨sI (sA (sA S (o + 1) (upd (S.1 (o + 1)) L.length a)) (o + 2) (upd (S.1 (o + 2)) L.length b)) o 2 (nI (L.length + 1)), ?_, ?_, ?_, h3, ?_, fun i x hx => ?_, ?_, ?_, fun j a b c => ?_, h9, h10⟩
  · unfold r_X5_add
    rw [h4, if_pos (lt_l hl (by decide)), gdN hl (by decide), gdN hl (by decide), nI_clamp (by omega), nI_1]
  · rw [sI_sl (by decide), sA_ne (by omega), sA_ne (by omega)]
    exact h1
  · rw [sI_sl (by decide), sA_ne (by omega), sA_ne (by omega)]
    exact h2
  · rw [sI_at, List.length_append]
    rfl
  · rw [sI_ne (by omega), sI_ne (by omega), sA_at, sA_ne (by omega), sA_at]
    rw [List.getElem?_append] at hx
    by_cases w : i < L.length
    · rw [if_pos w] at hx
      rw [upd_ne (by omega), upd_ne (by omega)]
      exact h5 i x hx
    · rw [if_neg w] at hx
      have e : i = L.length := by
        refine Nat.le_antisymm (Nat.le_of_not_lt fun z => ?_) (by omega)
        obtain ⟨m, hm⟩ : ∃ m, i - L.length = m + 1 := ⟨i - L.length - 1, by omega⟩
        rw [hm] at hx
        cases hx
      subst e
      rw [Nat.sub_self] at hx
      have e : (a, b) = x := Option.some.inj hx
      subst e
      exact ⟨upd_at _ _ _, upd_at _ _ _⟩
  · rw [sI_sl (by decide), sA_ne (by omega), sA_ne (by omega)]
    exact h6
  · rw [sI_sl (by decide), sA_ne (by omega), sA_ne (by omega)]
    exact h7
  · rw [sI_ne a, sA_ne c, sA_ne b]
    exact h8 j a b c
def lx_L : List Nat := [104, 107, 115, 103, 116, 119]
def lx_S : List Nat := [60, 61, 62]
def lx_ix (x : Nat) : List Nat → Nat → Option Nat
  | [], _ => none
  | a :: r, j => if x = a then some j else lx_ix x r (j + 1)
theorem lx_cL : ∀ j, j < 6 → cAt (bAt strB 1) j = nI (lx_L.getD j 0) ∧ lx_L.getD j 0 ≤ 127 := by decide +kernel
theorem lx_cS : ∀ j, j < 3 → cAt (bAt strB 2) j = nI (lx_S.getD j 0) ∧ lx_S.getD j 0 ≤ 127 := by decide +kernel
theorem lx_dL : ∀ j, j < 6 → lx_L.drop j = lx_L.getD j 0 :: lx_L.drop (j + 1) := by decide
theorem lx_dS : ∀ j, j < 3 → lx_S.drop j = lx_S.getD j 0 :: lx_S.drop (j + 1) := by decide
theorem lp_of1 (hT : hs_T S0 N k) (ho : 40 ≤ o) (h : hs_C S0 o N dv fv S p L) (hp : p ≤ N) : ∀ m j n, j + m = 6 → m < n → lp_X5_goByOneOf_1_2 S o n (nI j) = some (match lx_ix (k p) (lx_L.drop j) j with | some i => (0, nI i) | none => (1, nI 6)) := by
  have hN := hT.2.1
  have hs := sign_c hT ho h (i := p) (by omega)
  intro m
  induction m with
  | zero =>
    intro j n h1 h2
    obtain ⟨n, rfl⟩ : ∃ n', n = n' + 1 := ⟨n - 1, by omega⟩
    obtain rfl : j = 6 := by omega
    rw [lp_X5_goByOneOf_1_2]
    exact if_pos (by decide)
  | succ m ih =>
    intro j n h1 h2
    obtain ⟨n, rfl⟩ : ∃ n', n = n' + 1 := ⟨n - 1, by omega⟩
    have hj : j < 6 := by omega
    obtain ⟨e1, e2⟩ := lx_cL j hj
    rw [lp_X5_goByOneOf_1_2, if_neg (nle_l (k := 6) hj (by decide)), h.1]
    refine ob_step hs ?_
    rw [gdN hj (by decide), nI_clamp (by omega), e1, nI_1, lx_dL j hj, sg_if hT.1 e2]
    show _ = some (match (if k p = lx_L.getD j 0 then some j else lx_ix (k p) (lx_L.drop (j + 1)) (j + 1)) with | some i => (0, nI i) | none => (1, nI 6))
    by_cases w : k p = lx_L.getD j 0
    · rw [if_pos w, if_pos w]
    · rw [if_neg w, if_neg w]
      exact ih (j + 1) n (by omega) (by omega)
theorem of1_c (hT : hs_T S0 N k) (ho : 40 ≤ o) (h : hs_C S0 o N dv fv S p L) (hp : p ≤ N) : r_X5_goByOneOf_1 S o = some (match ps_l (k p) with | some i => (nI i, sI S o 7 (nI (p + 1))) | none => (-1, S)) := by
  unfold r_X5_goByOneOf_1
  refine ob_step (lp_of1 hT ho h hp 6 0 4000 rfl (by decide)) ?_
  have e : lx_ix (k p) (lx_L.drop 0) 0 = ps_l (k p) := rfl
  rw [e, h.1, nI_1]
  cases ps_l (k p) with
  | none =>
    show (if (1 : Int32) = 0 then some (nI 6, sI S o 7 (nI (p + 1))) else some (-1, S)) = _
    exact if_neg nz1
  | some i => exact if_pos rfl
theorem lp_of2 (hT : hs_T S0 N k) (ho : 40 ≤ o) (h : hs_C S0 o N dv fv S p L) (hp : p ≤ N) : ∀ m j n, j + m = 3 → m < n → lp_X5_goByOneOf_2_2 S o n (nI j) = some (match lx_ix (k p) (lx_S.drop j) j with | some i => (0, nI i) | none => (1, nI 3)) := by
  have hN := hT.2.1
  have hs := sign_c hT ho h (i := p) (by omega)
  intro m
  induction m with
  | zero =>
    intro j n h1 h2
    obtain ⟨n, rfl⟩ : ∃ n', n = n' + 1 := ⟨n - 1, by omega⟩
    obtain rfl : j = 3 := by omega
    rw [lp_X5_goByOneOf_2_2]
    exact if_pos (by decide)
  | succ m ih =>
    intro j n h1 h2
    obtain ⟨n, rfl⟩ : ∃ n', n = n' + 1 := ⟨n - 1, by omega⟩
    have hj : j < 3 := by omega
    obtain ⟨e1, e2⟩ := lx_cS j hj
    rw [lp_X5_goByOneOf_2_2, if_neg (nle_l (k := 3) hj (by decide)), h.1]
    refine ob_step hs ?_
    rw [gdN hj (by decide), nI_clamp (by omega), e1, nI_1, lx_dS j hj, sg_if hT.1 e2]
    show _ = some (match (if k p = lx_S.getD j 0 then some j else lx_ix (k p) (lx_S.drop (j + 1)) (j + 1)) with | some i => (0, nI i) | none => (1, nI 3))
    by_cases w : k p = lx_S.getD j 0
    · rw [if_pos w, if_pos w]
    · rw [if_neg w, if_neg w]
      exact ih (j + 1) n (by omega) (by omega)
theorem of2_c (hT : hs_T S0 N k) (ho : 40 ≤ o) (h : hs_C S0 o N dv fv S p L) (hp : p ≤ N) : r_X5_goByOneOf_2 S o = some (if 60 ≤ k p ∧ k p ≤ 62 then (nI (k p - 60), sI S o 7 (nI (p + 1))) else (-1, S)) := by
  unfold r_X5_goByOneOf_2
  refine ob_step (lp_of2 hT ho h hp 3 0 4000 rfl (by decide)) ?_
  have e : lx_ix (k p) (lx_S.drop 0) 0 = if k p = 60 then some 0 else if k p = 61 then some 1 else if k p = 62 then some 2 else none := rfl
  rw [e, h.1, nI_1]
  by_cases a : k p = 60
  · have c' : 60 ≤ k p ∧ k p ≤ 62 := by omega
    rw [if_pos a, if_pos c', a]
    exact if_pos rfl
  rw [if_neg a]
  by_cases b : k p = 61
  · have c' : 60 ≤ k p ∧ k p ≤ 62 := by omega
    rw [if_pos b, if_pos c', b]
    exact if_pos rfl
  rw [if_neg b]
  by_cases c : k p = 62
  · have c' : 60 ≤ k p ∧ k p ≤ 62 := by omega
    rw [if_pos c, if_pos c', c]
    exact if_pos rfl
  have c' : ¬ (60 ≤ k p ∧ k p ≤ 62) := by omega
  rw [if_neg c, if_neg c']
  show (if (1 : Int32) = 0 then some (nI 3, sI S o 7 (nI (p + 1))) else some (-1, S)) = _
  exact if_neg nz1
theorem num_s (hT : hs_T S0 N k) (ho : 40 ≤ o) (h : hs_C S0 o N dv fv S p L) (hp : p ≤ N) {n : Nat} {v1 v2 : Int32} (h2 : ¬ (2 : Int32) ≤ v2) : lp_X5_goByNumber_4 o (n + 1) v1 v2 S = if ps_d (k p) = true then lp_X5_goByNumber_4 o n ((((if v1 < 0 then 0 else v1) * 10) + nI (k p)) - 48) (v2 + 1) (sI S o 7 (nI (p + 1))) else some (v1, S) := by
  have := hT.2.1
  have hs := sign_c hT ho h (i := p) (by omega)
  rw [lp_X5_goByNumber_4, if_neg h2, h.1]
  refine ob_step hs ?_
  by_cases w : ps_d (k p) = true
  · obtain ⟨a1, a2, a3, a4, a5, a6⟩ := sg_dy hT.1 w
    rw [if_pos w, if_neg a5]
    refine ob_step hs ?_
    rw [if_neg a6]
    refine ob_step hs ?_
    rw [a4, nI_1]
  · rw [if_neg w]
    by_cases c : sg N k p < 48
    · rw [if_pos c]
    · rw [if_neg c]
      refine ob_step hs ?_
      exact if_pos ((sg_dn hT.1 w).resolve_left c)
theorem num_c (hT : hs_T S0 N k) (ho : 40 ≤ o) (h : hs_C S0 o N dv fv S p L) (hp : p ≤ N) : ∃ S', r_X5_goByNumber S o = some ((match (ps_n k p).1 with | some n => nI n | none => -1), S') ∧ hs_C S0 o N dv fv S' (ps_n k p).2 L := by
  unfold r_X5_goByNumber ps_n
  by_cases a : ps_d (k p) = true
  · obtain ⟨a1, a2, a3, -, -, -⟩ := sg_dy hT.1 a
    have h' := h.mv (p + 1)
    have e1 : (((if (-1 : Int32) < 0 then 0 else -1) * 10) + nI (k p)) - 48 = nI (k p - 48) := by
      rw [if_pos (by decide), show (0 : Int32) * 10 = nI 0 from by decide, nI_add, Nat.zero_add]
      exact nI_sub (b := 48) a2
    by_cases b : ps_d (k (p + 1)) = true
    · obtain ⟨b1, b2, b3, -, -, -⟩ := sg_dy hT.1 b
      have e2 : (((if nI (k p - 48) < 0 then 0 else nI (k p - 48)) * 10) + nI (k (p + 1))) - 48 = nI (10 * (k p - 48) + (k (p + 1) - 48)) := by
        rw [if_neg (nI_pos (by omega)), show (10 : Int32) = nI 10 from rfl, nI_mul, nI_add]
        refine (nI_sub (b := 48) (by omega)).trans ?_
        congr 1
        omega
      rw [if_pos a, if_pos b]
      refine ⟨sI (sI S o 7 (nI (p + 1))) o 7 (nI (p + 2)), ?_, h'.mv (p + 2)⟩
      refine ob_step (a := (nI (10 * (k p - 48) + (k (p + 1) - 48)), sI (sI S o 7 (nI (p + 1))) o 7 (nI (p + 2)))) ?_ rfl
      rw [num_s hT ho h hp (by decide), if_pos a, e1, num_s hT ho h' a1 (by decide), if_pos b, e2, lp_X5_goByNumber_4]
      exact if_pos (by decide)
    · rw [if_pos a, if_neg b]
      refine ⟨sI S o 7 (nI (p + 1)), ?_, h'⟩
      refine ob_step (a := (nI (k p - 48), sI S o 7 (nI (p + 1)))) ?_ rfl
      rw [num_s hT ho h hp (by decide), if_pos a, e1, num_s hT ho h' a1 (by decide), if_neg b]
  · rw [if_neg a]
    refine ⟨S, ?_, h⟩
    refine ob_step (a := (-1, S)) ?_ rfl
    rw [num_s hT ho h hp (by decide), if_neg a]
end
/-- a piece of the class's reading does what a plain function says -/
def SimC (S0 : St) (o N : Nat) (dv fv : Int32) (F : St → Option (Int32 × St)) (g : Nat → PR) : Prop := ∀ S p L, hs_C S0 o N dv fv S p L → p ≤ N → L.length ≤ p → ∃ S' L', F S = some (if (g p).1 = true then 1 else 0, S') ∧ hs_C S0 o N dv fv S' (g p).2.1 L' ∧ L'.length + p ≤ (g p).2.1 + L.length ∧ ((g p).1 = true → L' = L ++ (g p).2.2.map stepOf)
/-- a test, as it stands within each depth of a part -/
def ct_test (S : St) (o : Nat) : Option (Int32 × St) :=
  (r_X5_goByOneOf_1 S o).bind fun q1 =>
  if 0 ≤ q1.1 then
    (r_X5_goByOneOf_2 q1.2 o).bind fun q2 =>
    if 0 ≤ q2.1 then
      (r_X5_goByNumber q2.2 o).bind fun q3 =>
      if q3.1 < 0 then
        some (0, q3.2)
      else
        (r_X5_add q3.2 o (((3 : Int32) * q1.1) + q2.1) q3.1).bind fun q4 =>
        if q4.1 = 0 then
          some (0, q4.2)
        else
          some (1, q4.2)
    else
      some (0, q2.2)
  else
    some (0, q1.2)
theorem test_c {S0 : St} {o N : Nat} {dv fv : Int32} {k : Nat → Nat} (hT : hs_T S0 N k) (ho : 40 ≤ o) : SimC S0 o N dv fv (fun S => ct_test S o) (ps_t k) := by
  intro S p L h hp hL
  have hN := hT.2.1
  show ∃ S' L', ct_test S o = _ ∧ _
  unfold ct_test
  have h1 := of1_c hT ho h hp
  cases e : ps_l (k p) with
  | none =>
    rw [e] at h1
    rw [ps_t_no e]
    refine ⟨S, L, ob_step h1 ?_, h, by show L.length + p ≤ p + L.length; omega, fun z => by cases z⟩
    exact if_neg nzm
  | some f =>
    rw [e] at h1
    rw [ps_t_so e]
    obtain ⟨f1, f2⟩ := ps_l_lt e
    have hp1 : p < N := hT.1.lt rfl f1
    have h' := h.mv (p + 1)
    have h2 := of2_c hT ho h' hp1
    by_cases c : 60 ≤ k (p + 1) ∧ k (p + 1) ≤ 62
    · have hp2 : p + 1 < N := hT.1.lt rfl (by omega)
      have h'' := h'.mv (p + 2)
      obtain ⟨S3, h3, h4⟩ := num_c hT ho h'' hp2
      obtain ⟨a1, a2, a3⟩ := ps_n_ok hT.1 (p := p + 2) hp2
      rw [if_pos c] at h2
      rw [ps_u_y c]
      cases e3 : (ps_n k (p + 2)).1 with
      | none =>
        rw [e3] at h3
        rw [ps_v_no e3]
        refine ⟨S3, L, ob_step h1 ?_, h4, by show L.length + p ≤ (ps_n k (p + 2)).2 + L.length; omega, fun z => by cases z⟩
        refine (if_pos (nI_pos' (by omega))).trans (ob_step h2 ?_)
        refine (if_pos (nI_pos' (by omega))).trans (ob_step h3 ?_)
        exact if_pos zm1
      | some n =>
        rw [e3] at h3
        rw [ps_v_so e3]
        obtain ⟨b1, b2⟩ := a3 n e3
        obtain ⟨S4, h5, h6⟩ := h4.ad (by omega) (nI (3 * f + (k (p + 1) - 60))) (nI n)
        refine ⟨S4, _, ob_step h1 ?_, h6, ?_, fun z => ?_⟩
        · refine (if_pos (nI_pos' (by omega))).trans (ob_step h2 ?_)
          refine (if_pos (nI_pos' (by omega))).trans (ob_step h3 ?_)
          refine (if_neg (nI_pos (by omega))).trans ?_
          show (r_X5_add S3 o (((3 : Int32) * nI f) + nI (k (p + 1) - 60)) (nI n)).bind _ = _
          rw [show (3 : Int32) = nI 3 from rfl, nI_mul, nI_add]
          refine ob_step h5 ?_
          exact if_neg nz1
        · show (L ++ [_]).length + p ≤ (ps_n k (p + 2)).2 + L.length
          rw [List.length_append]
          show L.length + 1 + p ≤ _
          omega
        · show L ++ _ = L ++ [stepOf (nI (1000 * f + 100 * (k (p + 1) - 60) + n))]
          rw [stepOf_tok (by omega) b1 f2]
    · rw [if_neg c] at h2
      rw [ps_u_n c]
      refine ⟨_, L, ob_step h1 ?_, h', by show L.length + p ≤ p + 1 + L.length; omega, fun z => by cases z⟩
      refine (if_pos (nI_pos' (by omega))).trans (ob_step h2 ?_)
      exact if_neg nzm
