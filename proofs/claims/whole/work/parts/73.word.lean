/-! HOUSE: the class's words, clauses, texts; written by gen73.py -/
def lx_W (j : Nat) : List Nat := match j with
  | 3 => [102, 117, 110]
  | 4 => [115, 111, 117, 114]
  | 5 => [100, 97, 121, 115]
  | _ => [102, 97, 99, 101]
theorem ps_a_ok {N : Nat} {k : Nat → Nat} (h : PK N k) : ∀ (W : List Nat) (p : Nat), (∀ x, x ∈ W → x ≤ 127) → p ≤ N → p + ps_a k p W ≤ N ∧ ps_a k p W ≤ W.length
  | [], p, _, hp => ⟨hp, Nat.le_refl _⟩
  | x :: r, p, hx, hp => by
    show p + (if k p = x then ps_a k (p + 1) r + 1 else 0) ≤ N ∧ (if k p = x then ps_a k (p + 1) r + 1 else 0) ≤ r.length + 1
    by_cases c : k p = x
    · rw [if_pos c]
      have h1 := h.lt c (hx x List.mem_cons_self)
      have h2 := ps_a_ok h r (p + 1) (fun y hy => hx y (List.mem_cons_of_mem _ hy)) h1
      omega
    · rw [if_neg c]
      omega
theorem lx_W_le : ∀ j, j < 7 → ∀ x, x ∈ lx_W j → x ≤ 127 := by decide
section
variable {S0 S : St} {o N p : Nat} {dv fv : Int32} {k : Nat → Nat} {L : List (Int32 × Int32)}
theorem lx_c3 : ∀ j, j < 3 → cAt (bAt strB 3) j = nI ((lx_W 3).getD j 0) ∧ (lx_W 3).getD j 0 ≤ 127 := by decide +kernel
theorem lx_d3 : ∀ j, j < 3 → (lx_W 3).drop j = (lx_W 3).getD j 0 :: (lx_W 3).drop (j + 1) := by decide
theorem lp_al3 (hT : hs_T S0 N k) (ho : 40 ≤ o) (h : hs_C S0 o N dv fv S p L) (hp : p ≤ N) : ∀ m j n, j + m = 3 → m < n → lp_X5_alike_3_2 S o n (nI j) = some (nI (j + ps_a k (p + j) ((lx_W 3).drop j))) := by
  have hN := hT.2.1
  intro m
  induction m with
  | zero =>
    intro j n h1 h2
    obtain ⟨n, rfl⟩ : ∃ n', n = n' + 1 := ⟨n - 1, by omega⟩
    obtain rfl : j = 3 := by omega
    rw [lp_X5_alike_3_2]
    exact if_pos (by decide)
  | succ m ih =>
    intro j n h1 h2
    obtain ⟨n, rfl⟩ : ∃ n', n = n' + 1 := ⟨n - 1, by omega⟩
    have hj : j < 3 := by omega
    obtain ⟨e1, e2⟩ := lx_c3 j hj
    rw [lp_X5_alike_3_2, if_neg (nle_l (k := 3) hj (by decide)), h.1, nI_add]
    refine ob_step (sign_c hT ho h (by omega)) ?_
    rw [gdN hj (by decide), nI_clamp (by omega), e1, nI_1, sg_if hT.1 e2, lx_d3 j hj]
    show _ = some (nI (j + if k (p + j) = (lx_W 3).getD j 0 then ps_a k (p + j + 1) ((lx_W 3).drop (j + 1)) + 1 else 0))
    by_cases w : k (p + j) = (lx_W 3).getD j 0
    · rw [if_pos w, if_pos w, ih (j + 1) n (by omega) (by omega)]
      rw [show p + (j + 1) = p + j + 1 by omega, show j + 1 + ps_a k (p + j + 1) ((lx_W 3).drop (j + 1)) = j + (ps_a k (p + j + 1) ((lx_W 3).drop (j + 1)) + 1) by omega]
    · rw [if_neg w, if_neg w]
      rfl
theorem al_3 (hT : hs_T S0 N k) (ho : 40 ≤ o) (h : hs_C S0 o N dv fv S p L) (hp : p ≤ N) : r_X5_alike_3 S o = some (nI (ps_a k p (lx_W 3))) := by
  unfold r_X5_alike_3
  have := lp_al3 hT ho h hp 3 0 4000 rfl (by decide)
  rw [Nat.zero_add] at this
  exact ob_step this rfl
theorem lx_c4 : ∀ j, j < 4 → cAt (bAt strB 4) j = nI ((lx_W 4).getD j 0) ∧ (lx_W 4).getD j 0 ≤ 127 := by decide +kernel
theorem lx_d4 : ∀ j, j < 4 → (lx_W 4).drop j = (lx_W 4).getD j 0 :: (lx_W 4).drop (j + 1) := by decide
theorem lp_al4 (hT : hs_T S0 N k) (ho : 40 ≤ o) (h : hs_C S0 o N dv fv S p L) (hp : p ≤ N) : ∀ m j n, j + m = 4 → m < n → lp_X5_alike_4_2 S o n (nI j) = some (nI (j + ps_a k (p + j) ((lx_W 4).drop j))) := by
  have hN := hT.2.1
  intro m
  induction m with
  | zero =>
    intro j n h1 h2
    obtain ⟨n, rfl⟩ : ∃ n', n = n' + 1 := ⟨n - 1, by omega⟩
    obtain rfl : j = 4 := by omega
    rw [lp_X5_alike_4_2]
    exact if_pos (by decide)
  | succ m ih =>
    intro j n h1 h2
    obtain ⟨n, rfl⟩ : ∃ n', n = n' + 1 := ⟨n - 1, by omega⟩
    have hj : j < 4 := by omega
    obtain ⟨e1, e2⟩ := lx_c4 j hj
    rw [lp_X5_alike_4_2, if_neg (nle_l (k := 4) hj (by decide)), h.1, nI_add]
    refine ob_step (sign_c hT ho h (by omega)) ?_
    rw [gdN hj (by decide), nI_clamp (by omega), e1, nI_1, sg_if hT.1 e2, lx_d4 j hj]
    show _ = some (nI (j + if k (p + j) = (lx_W 4).getD j 0 then ps_a k (p + j + 1) ((lx_W 4).drop (j + 1)) + 1 else 0))
    by_cases w : k (p + j) = (lx_W 4).getD j 0
    · rw [if_pos w, if_pos w, ih (j + 1) n (by omega) (by omega)]
      rw [show p + (j + 1) = p + j + 1 by omega, show j + 1 + ps_a k (p + j + 1) ((lx_W 4).drop (j + 1)) = j + (ps_a k (p + j + 1) ((lx_W 4).drop (j + 1)) + 1) by omega]
    · rw [if_neg w, if_neg w]
      rfl
theorem al_4 (hT : hs_T S0 N k) (ho : 40 ≤ o) (h : hs_C S0 o N dv fv S p L) (hp : p ≤ N) : r_X5_alike_4 S o = some (nI (ps_a k p (lx_W 4))) := by
  unfold r_X5_alike_4
  have := lp_al4 hT ho h hp 4 0 4000 rfl (by decide)
  rw [Nat.zero_add] at this
  exact ob_step this rfl
theorem lx_c5 : ∀ j, j < 4 → cAt (bAt strB 5) j = nI ((lx_W 5).getD j 0) ∧ (lx_W 5).getD j 0 ≤ 127 := by decide +kernel
theorem lx_d5 : ∀ j, j < 4 → (lx_W 5).drop j = (lx_W 5).getD j 0 :: (lx_W 5).drop (j + 1) := by decide
theorem lp_al5 (hT : hs_T S0 N k) (ho : 40 ≤ o) (h : hs_C S0 o N dv fv S p L) (hp : p ≤ N) : ∀ m j n, j + m = 4 → m < n → lp_X5_alike_5_2 S o n (nI j) = some (nI (j + ps_a k (p + j) ((lx_W 5).drop j))) := by
  have hN := hT.2.1
  intro m
  induction m with
  | zero =>
    intro j n h1 h2
    obtain ⟨n, rfl⟩ : ∃ n', n = n' + 1 := ⟨n - 1, by omega⟩
    obtain rfl : j = 4 := by omega
    rw [lp_X5_alike_5_2]
    exact if_pos (by decide)
  | succ m ih =>
    intro j n h1 h2
    obtain ⟨n, rfl⟩ : ∃ n', n = n' + 1 := ⟨n - 1, by omega⟩
    have hj : j < 4 := by omega
    obtain ⟨e1, e2⟩ := lx_c5 j hj
    rw [lp_X5_alike_5_2, if_neg (nle_l (k := 4) hj (by decide)), h.1, nI_add]
    refine ob_step (sign_c hT ho h (by omega)) ?_
    rw [gdN hj (by decide), nI_clamp (by omega), e1, nI_1, sg_if hT.1 e2, lx_d5 j hj]
    show _ = some (nI (j + if k (p + j) = (lx_W 5).getD j 0 then ps_a k (p + j + 1) ((lx_W 5).drop (j + 1)) + 1 else 0))
    by_cases w : k (p + j) = (lx_W 5).getD j 0
    · rw [if_pos w, if_pos w, ih (j + 1) n (by omega) (by omega)]
      rw [show p + (j + 1) = p + j + 1 by omega, show j + 1 + ps_a k (p + j + 1) ((lx_W 5).drop (j + 1)) = j + (ps_a k (p + j + 1) ((lx_W 5).drop (j + 1)) + 1) by omega]
    · rw [if_neg w, if_neg w]
      rfl
theorem al_5 (hT : hs_T S0 N k) (ho : 40 ≤ o) (h : hs_C S0 o N dv fv S p L) (hp : p ≤ N) : r_X5_alike_5 S o = some (nI (ps_a k p (lx_W 5))) := by
  unfold r_X5_alike_5
  have := lp_al5 hT ho h hp 4 0 4000 rfl (by decide)
  rw [Nat.zero_add] at this
  exact ob_step this rfl
theorem lx_c6 : ∀ j, j < 4 → cAt (bAt strB 6) j = nI ((lx_W 6).getD j 0) ∧ (lx_W 6).getD j 0 ≤ 127 := by decide +kernel
theorem lx_d6 : ∀ j, j < 4 → (lx_W 6).drop j = (lx_W 6).getD j 0 :: (lx_W 6).drop (j + 1) := by decide
theorem lp_al6 (hT : hs_T S0 N k) (ho : 40 ≤ o) (h : hs_C S0 o N dv fv S p L) (hp : p ≤ N) : ∀ m j n, j + m = 4 → m < n → lp_X5_alike_6_2 S o n (nI j) = some (nI (j + ps_a k (p + j) ((lx_W 6).drop j))) := by
  have hN := hT.2.1
  intro m
  induction m with
  | zero =>
    intro j n h1 h2
    obtain ⟨n, rfl⟩ : ∃ n', n = n' + 1 := ⟨n - 1, by omega⟩
    obtain rfl : j = 4 := by omega
    rw [lp_X5_alike_6_2]
    exact if_pos (by decide)
  | succ m ih =>
    intro j n h1 h2
    obtain ⟨n, rfl⟩ : ∃ n', n = n' + 1 := ⟨n - 1, by omega⟩
    have hj : j < 4 := by omega
    obtain ⟨e1, e2⟩ := lx_c6 j hj
    rw [lp_X5_alike_6_2, if_neg (nle_l (k := 4) hj (by decide)), h.1, nI_add]
    refine ob_step (sign_c hT ho h (by omega)) ?_
    rw [gdN hj (by decide), nI_clamp (by omega), e1, nI_1, sg_if hT.1 e2, lx_d6 j hj]
    show _ = some (nI (j + if k (p + j) = (lx_W 6).getD j 0 then ps_a k (p + j + 1) ((lx_W 6).drop (j + 1)) + 1 else 0))
    by_cases w : k (p + j) = (lx_W 6).getD j 0
    · rw [if_pos w, if_pos w, ih (j + 1) n (by omega) (by omega)]
      rw [show p + (j + 1) = p + j + 1 by omega, show j + 1 + ps_a k (p + j + 1) ((lx_W 6).drop (j + 1)) = j + (ps_a k (p + j + 1) ((lx_W 6).drop (j + 1)) + 1) by omega]
    · rw [if_neg w, if_neg w]
      rfl
theorem al_6 (hT : hs_T S0 N k) (ho : 40 ≤ o) (h : hs_C S0 o N dv fv S p L) (hp : p ≤ N) : r_X5_alike_6 S o = some (nI (ps_a k p (lx_W 6))) := by
  unfold r_X5_alike_6
  have := lp_al6 hT ho h hp 4 0 4000 rfl (by decide)
  rw [Nat.zero_add] at this
  exact ob_step this rfl
theorem mxI {a b : Nat} (ha : a < 1000) (hb : b < 1000) : (if nI a < nI b then nI b else nI a) = nI (max a b) := by
  by_cases z : a < b
  · rw [if_pos (nI_lt z (by omega)), Nat.max_eq_right (by omega)]
  · rw [if_neg (nI_nlt (by omega) (by omega)), Nat.max_eq_left (by omega)]
theorem ps_w_ok (hT : PK N k) (hp : p ≤ N) : p ≤ (ps_w k p).2 ∧ (ps_w k p).2 ≤ N ∧ (∀ w, (ps_w k p).1 = some w → w ≤ 3 ∧ p + 3 ≤ (ps_w k p).2) := by
  have h3 := ps_a_ok hT [102, 117, 110] p (lx_W_le 3 (by decide)) hp
  have h4 := ps_a_ok hT [115, 111, 117, 114] p (lx_W_le 4 (by decide)) hp
  have h5 := ps_a_ok hT [100, 97, 121, 115] p (lx_W_le 5 (by decide)) hp
  have h6 := ps_a_ok hT [102, 97, 99, 101] p (lx_W_le 6 (by decide)) hp
  unfold ps_w
  by_cases c3 : ps_a k p [102, 117, 110] = 3
  · rw [if_pos c3]
    exact ⟨by show p ≤ p + 3; omega, by show p + 3 ≤ N; omega, fun w hw => ⟨by have := Option.some.inj hw; omega, Nat.le_refl _⟩⟩
  rw [if_neg c3]
  by_cases c4 : ps_a k p [115, 111, 117, 114] = 4
  · rw [if_pos c4]
    exact ⟨by show p ≤ p + 4; omega, by show p + 4 ≤ N; omega, fun w hw => ⟨by have := Option.some.inj hw; omega, by show p + 3 ≤ p + 4; omega⟩⟩
  rw [if_neg c4]
  by_cases c5 : ps_a k p [100, 97, 121, 115] = 4
  · rw [if_pos c5]
    exact ⟨by show p ≤ p + 4; omega, by show p + 4 ≤ N; omega, fun w hw => ⟨by have := Option.some.inj hw; omega, by show p + 3 ≤ p + 4; omega⟩⟩
  rw [if_neg c5]
  by_cases c6 : ps_a k p [102, 97, 99, 101] = 4
  · rw [if_pos c6]
    exact ⟨by show p ≤ p + 4; omega, by show p + 4 ≤ N; omega, fun w hw => ⟨by have := Option.some.inj hw; omega, by show p + 3 ≤ p + 4; omega⟩⟩
  rw [if_neg c6]
  refine ⟨Nat.le_add_right _ _, ?_, fun w hw => by cases hw⟩
  show p + max (max (max (ps_a k p [102, 117, 110]) (ps_a k p [115, 111, 117, 114])) (ps_a k p [100, 97, 121, 115])) (ps_a k p [102, 97, 99, 101]) ≤ N
  omega
theorem word_c (hT : hs_T S0 N k) (ho : 40 ≤ o) (h : hs_C S0 o N dv fv S p L) (hp : p ≤ N) : r_X5_goByWord S o = some ((match (ps_w k p).1 with | some w => nI w | none => -1), sI S o 7 (nI (ps_w k p).2)) := by
  have hN := hT.2.1
  have a3 := al_3 hT ho h hp
  have a4 := al_4 hT ho h hp
  have a5 := al_5 hT ho h hp
  have a6 := al_6 hT ho h hp
  have h3 := ps_a_ok hT.1 (lx_W 3) p (lx_W_le 3 (by decide)) hp
  have h4 := ps_a_ok hT.1 (lx_W 4) p (lx_W_le 4 (by decide)) hp
  have h5 := ps_a_ok hT.1 (lx_W 5) p (lx_W_le 5 (by decide)) hp
  have h6 := ps_a_ok hT.1 (lx_W 6) p (lx_W_le 6 (by decide)) hp
  have e : ps_w k p = if ps_a k p (lx_W 3) = 3 then (some 0, p + 3) else if ps_a k p (lx_W 4) = 4 then (some 1, p + 4) else if ps_a k p (lx_W 5) = 4 then (some 2, p + 4) else if ps_a k p (lx_W 6) = 4 then (some 3, p + 4) else (none, p + max (max (max (ps_a k p (lx_W 3)) (ps_a k p (lx_W 4))) (ps_a k p (lx_W 5))) (ps_a k p (lx_W 6))) := rfl
  generalize ps_a k p (lx_W 3) = b3 at a3 h3 e
  generalize ps_a k p (lx_W 4) = b4 at a4 h4 e
  generalize ps_a k p (lx_W 5) = b5 at a5 h5 e
  generalize ps_a k p (lx_W 6) = b6 at a6 h6 e
  have ie : ∀ a b : Nat, a < 1000 → b < 1000 → ∀ {α : Type} (x y : α), (if nI a = nI b then x else y) = if a = b then x else y := by
    intro a b ha hb α x y
    by_cases z : a = b
    · rw [if_pos z, if_pos (by rw [z])]
    · rw [if_neg z, if_neg (fun y => z ((nI_eq (by omega) (by omega)).mp y))]
  have m3 : (if (0 : Int32) < nI b3 then nI b3 else 0) = nI b3 := by
    have := mxI (a := 0) (b := b3) (by decide) (by omega)
    rw [Nat.max_eq_right (Nat.zero_le _)] at this
    exact this
  rw [e]
  unfold r_X5_goByWord
  have key : lp_X5_goByWord_4 S o 4000 0 0 = if b3 = 3 then some (0, 0, 0, nI b3) else if b4 = 4 then some (0, nI b3, 1, nI b4) else if b5 = 4 then some (0, nI (max b3 b4), 2, nI b5) else if b6 = 4 then some (0, nI (max (max b3 b4) b5), 3, nI b6) else some (1, nI (max (max (max b3 b4) b5) b6), 4, 0) := by
    rw [lp_X5_goByWord_4, if_neg (by decide), if_pos (by decide)]
    refine ob_step a3 ?_
    refine (ie b3 3 (by omega) (by decide) _ _).trans ?_
    by_cases c3 : b3 = 3
    · rw [if_pos c3, if_pos c3]
    rw [if_neg c3, if_neg c3, m3, lp_X5_goByWord_4, if_neg (by decide), if_neg (by decide), if_pos (by decide)]
    refine ob_step a4 ?_
    refine (ie b4 4 (by omega) (by decide) _ _).trans ?_
    by_cases c4 : b4 = 4
    · rw [if_pos c4, if_pos c4]
      rfl
    rw [if_neg c4, if_neg c4, mxI (by omega) (by omega), lp_X5_goByWord_4, if_neg (by decide), if_neg (by decide), if_neg (by decide), if_pos (by decide)]
    refine ob_step a5 ?_
    refine (ie b5 4 (by omega) (by decide) _ _).trans ?_
    by_cases c5 : b5 = 4
    · rw [if_pos c5, if_pos c5]
      rfl
    rw [if_neg c5, if_neg c5, mxI (by omega) (by omega), lp_X5_goByWord_4, if_neg (by decide), if_neg (by decide), if_neg (by decide), if_neg (by decide)]
    refine ob_step a6 ?_
    refine (ie b6 4 (by omega) (by decide) _ _).trans ?_
    by_cases c6 : b6 = 4
    · rw [if_pos c6, if_pos c6]
      rfl
    rw [if_neg c6, if_neg c6, mxI (by omega) (by omega), lp_X5_goByWord_4, if_pos (by decide)]
    rfl
  rw [key, h.1]
  by_cases c3 : b3 = 3
  · rw [if_pos c3, if_pos c3]
    show some ((0 : Int32), sI S o 7 (nI p + nI b3)) = _
    rw [nI_add, c3]
    rfl
  rw [if_neg c3, if_neg c3]
  by_cases c4 : b4 = 4
  · rw [if_pos c4, if_pos c4]
    show some ((1 : Int32), sI S o 7 (nI p + nI b4)) = _
    rw [nI_add, c4]
    rfl
  rw [if_neg c4, if_neg c4]
  by_cases c5 : b5 = 4
  · rw [if_pos c5, if_pos c5]
    show some ((2 : Int32), sI S o 7 (nI p + nI b5)) = _
    rw [nI_add, c5]
    rfl
  rw [if_neg c5, if_neg c5]
  by_cases c6 : b6 = 4
  · rw [if_pos c6, if_pos c6]
    show some ((3 : Int32), sI S o 7 (nI p + nI b6)) = _
    rw [nI_add, c6]
    rfl
  rw [if_neg c6, if_neg c6]
  show some ((-1 : Int32), sI S o 7 (nI p + nI (max (max (max b3 b4) b5) b6))) = _
  rw [nI_add]
theorem hs_C.sd (h : hs_C S0 o N dv fv S p L) (x : Int32) : hs_C S0 o N x fv (sI S o 3 x) p L := by
  obtain ⟨h1, h2, h3, h4, h5, h6, h7, h8, h9, h10⟩ := h
  refine ⟨?_, ?_, h3, ?_, fun i x hx => ?_, sI_at, ?_, fun j a b c => ?_, h9, h10⟩
  · rw [sI_sl (by decide)]
    exact h1
  · rw [sI_sl (by decide)]
    exact h2
  · rw [sI_sl (by decide)]
    exact h4
  · rw [sI_ne (by omega), sI_ne (by omega)]
    exact h5 i x hx
  · rw [sI_sl (by decide)]
    exact h7
  · rw [sI_ne a]
    exact h8 j a b c
theorem hs_C.sf (h : hs_C S0 o N dv fv S p L) (x : Int32) : hs_C S0 o N dv x (sI S o 4 x) p L := by
  obtain ⟨h1, h2, h3, h4, h5, h6, h7, h8, h9, h10⟩ := h
  refine ⟨?_, ?_, h3, ?_, fun i x hx => ?_, ?_, sI_at, fun j a b c => ?_, h9, h10⟩
  · rw [sI_sl (by decide)]
    exact h1
  · rw [sI_sl (by decide)]
    exact h2
  · rw [sI_sl (by decide)]
    exact h4
  · rw [sI_ne (by omega), sI_ne (by omega)]
    exact h5 i x hx
  · rw [sI_sl (by decide)]
    exact h6
  · rw [sI_ne a]
    exact h8 j a b c
/-- what a clause leaves: its steps, days, face -/
def cl_R (S0 : St) (o N : Nat) (dv fv : Int32) (S' : St) (L : List (Int32 × Int32)) (r : Bool × Nat × PC) : Prop := ∃ dv' fv' L', hs_C S0 o N dv' fv' S' r.2.1 L' ∧ (r.1 = true → L' = L ++ clSteps r.2.2.1 r.2.2.2.1 r.2.2.2.2 ∧ L'.length ≤ r.2.1 ∧ dv' = (if r.2.2.1 = 2 then nI r.2.2.2.1 else dv) ∧ fv' = if r.2.2.1 = 3 then nI r.2.2.2.1 else fv)
theorem expr_c (hT : hs_T S0 N k) (ho : 40 ≤ o) (h : hs_C S0 o N dv fv S p L) (hp : p ≤ N) (hL : L.length < p) {w n : Nat} (hw : w ≤ 3) (hn : n ≤ 99) : ∃ S', (if nI w = 2 then some ((1 : Int32), sI S o 3 (nI n)) else if nI w = 3 then some (1, sI S o 4 (nI n)) else (r_X5_goBy S o 32).bind fun q4 => if q4.1 = 0 then some (0, q4.2) else (r_X5_learnEither_d0 q4.2 o).bind fun q5 => if q5.1 = 0 then some (0, q5.2) else if nI w = 0 then (r_X5_add q5.2 o 21 (nI n)).bind fun q7 => if q7.1 = 0 then some (0, q7.2) else some (1, q7.2) else (r_X5_add q5.2 o 21 (-nI n)).bind fun q6 => if q6.1 = 0 then some (0, q6.2) else some (1, q6.2)) = some (if (ps_e k w n p).1 = true then 1 else 0, S') ∧ cl_R S0 o N dv fv S' L (ps_e k w n p) := by
  have hN := hT.2.1
  by_cases c2 : w = 2
  · subst c2
    refine ⟨sI S o 3 (nI n), if_pos rfl, nI n, fv, L, h.sd _, fun _ => ⟨?_, by show L.length ≤ p; omega, rfl, rfl⟩⟩
    exact (List.append_nil L).symm
  by_cases c3 : w = 3
  · subst c3
    refine ⟨sI S o 4 (nI n), (if_neg (by decide)).trans (if_pos rfl), dv, nI n, L, h.sf _, fun _ => ⟨?_, by show L.length ≤ p; omega, rfl, rfl⟩⟩
    exact (List.append_nil L).symm
  have w2 : ¬ 2 ≤ w := by omega
  have n2 : ¬ nI w = 2 := ne_l c2 (by omega) (by decide)
  have n3 : ¬ nI w = 3 := ne_l c3 (by omega) (by decide)
  have hb := goBy_c hT ho h hp (a := 32) (by decide)
  have e : ps_e k w n p = if k p = 32 then ((ps_E k (ps_p k 4) (p + 1)).1, (ps_E k (ps_p k 4) (p + 1)).2.1, w, n, (ps_E k (ps_p k 4) (p + 1)).2.2) else (false, p, w, n, []) := if_neg w2
  rw [e]
  by_cases c : k p = 32
  · have hp1 : p < N := hT.1.lt c (by decide)
    rw [if_pos c] at hb ⊢
    obtain ⟨S1, L1, t1, t2, t3, t4⟩ := either_c0 hT ho (sI S o 7 (nI (p + 1))) (p + 1) L (h.mv (p + 1)) hp1 (by omega)
    obtain ⟨g1, g2, g3⟩ := ps_E_ok hT.1 (ps_p_ok hT.1 4) (p + 1) hp1
    cases d : (ps_E k (ps_p k 4) (p + 1)).1 with
    | false =>
      rw [d] at t1
      refine ⟨S1, ?_, dv, fv, L1, t2, fun z => by cases z⟩
      refine (if_neg n2).trans ((if_neg n3).trans (ob_step hb ((if_neg nz1).trans (ob_step t1 ?_))))
      exact if_pos rfl
    | true =>
      rw [d] at t1
      have hE := t4 d
      have sp : clSteps w n (ps_E k (ps_p k 4) (p + 1)).2.2 = (ps_E k (ps_p k 4) (p + 1)).2.2.map stepOf ++ [(21, if w = 0 then nI n else -nI n)] := if_pos (by omega)
      by_cases c0 : w = 0
      · obtain ⟨S2, a1, a2⟩ := t2.ad (by omega) 21 (nI n)
        refine ⟨S2, ?_, dv, fv, _, a2, fun _ => ⟨?_, ?_, (if_neg c2).symm, (if_neg c3).symm⟩⟩
        · refine (if_neg n2).trans ((if_neg n3).trans (ob_step hb ((if_neg nz1).trans (ob_step t1 ((if_neg nzt).trans ?_)))))
          rw [if_pos (show nI w = 0 by rw [c0]; rfl)]
          exact ob_step a1 (if_neg nz1)
        · show L1 ++ [(21, nI n)] = L ++ clSteps w n (ps_E k (ps_p k 4) (p + 1)).2.2
          rw [sp, if_pos c0, hE, List.append_assoc]
        · show (L1 ++ [_]).length ≤ (ps_E k (ps_p k 4) (p + 1)).2.1
          rw [List.length_append]
          show L1.length + 1 ≤ _
          omega
      · obtain ⟨S2, a1, a2⟩ := t2.ad (by omega) 21 (-nI n)
        refine ⟨S2, ?_, dv, fv, _, a2, fun _ => ⟨?_, ?_, (if_neg c2).symm, (if_neg c3).symm⟩⟩
        · refine (if_neg n2).trans ((if_neg n3).trans (ob_step hb ((if_neg nz1).trans (ob_step t1 ((if_neg nzt).trans ?_)))))
          rw [if_neg (show ¬ nI w = 0 from nI_ne0 (by omega) (by omega))]
          exact ob_step a1 (if_neg nz1)
        · show L1 ++ [(21, -nI n)] = L ++ clSteps w n (ps_E k (ps_p k 4) (p + 1)).2.2
          rw [sp, if_neg c0, hE, List.append_assoc]
        · show (L1 ++ [_]).length ≤ (ps_E k (ps_p k 4) (p + 1)).2.1
          rw [List.length_append]
          show L1.length + 1 ≤ _
          omega
  · rw [if_neg c] at hb ⊢
    refine ⟨S, ?_, dv, fv, L, h, fun z => by cases z⟩
    refine (if_neg n2).trans ((if_neg n3).trans (ob_step hb ?_))
    exact if_pos rfl
theorem ps_c_no (e : (ps_w k p).1 = none) : ps_c k p = (false, (ps_w k p).2, 0, 0, []) := by
  unfold ps_c
  rw [e]
theorem ps_c_so {w : Nat} (e : (ps_w k p).1 = some w) : ps_c k p = ps_k k w (ps_w k p).2 := by
  unfold ps_c
  rw [e]
theorem ps_k_n {w : Nat} (c : ¬ k p = 32) : ps_k k w p = (false, p, w, 0, []) := if_neg c
theorem ps_k_no {w : Nat} (c : k p = 32) (e : (ps_n k (p + 1)).1 = none) : ps_k k w p = (false, (ps_n k (p + 1)).2, w, 0, []) := by
  unfold ps_k
  rw [if_pos c, e]
theorem ps_k_so {w n : Nat} (c : k p = 32) (e : (ps_n k (p + 1)).1 = some n) : ps_k k w p = ps_e k w n (ps_n k (p + 1)).2 := by
  unfold ps_k
  rw [if_pos c, e]
theorem clause_c (hT : hs_T S0 N k) (ho : 40 ≤ o) (h : hs_C S0 o N dv fv S p L) (hp : p ≤ N) (hL : L.length ≤ p) : ∃ S', r_X5_learnClause S o = some (if (ps_c k p).1 = true then 1 else 0, S') ∧ cl_R S0 o N dv fv S' L (ps_c k p) := by
  have hN := hT.2.1
  have hw := word_c hT ho h hp
  obtain ⟨g1, g2, g3⟩ := ps_w_ok hT.1 hp
  unfold r_X5_learnClause
  cases e : (ps_w k p).1 with
  | none =>
    rw [e] at hw
    rw [ps_c_no e]
    refine ⟨_, ob_step hw (if_pos zm1), dv, fv, L, h.mv _, fun z => by cases z⟩
  | some w =>
    rw [e] at hw
    rw [ps_c_so e]
    obtain ⟨w3, g4⟩ := g3 w e
    generalize (ps_w k p).2 = p2 at hw g1 g2 g4
    have h' := h.mv p2
    have hb := goBy_c hT ho h' g2 (a := 32) (by decide)
    by_cases c : k p2 = 32
    · rw [if_pos c] at hb
      have hp1 : p2 < N := hT.1.lt c (by decide)
      have h'' := h'.mv (p2 + 1)
      obtain ⟨S3, n1, n2⟩ := num_c hT ho h'' hp1
      obtain ⟨m1, m2, m3⟩ := ps_n_ok hT.1 (p := p2 + 1) hp1
      cases e2 : (ps_n k (p2 + 1)).1 with
      | none =>
        rw [e2] at n1
        rw [ps_k_no c e2]
        refine ⟨S3, ob_step hw ?_, dv, fv, L, n2, fun z => by cases z⟩
        refine (if_neg (nI_pos (by omega))).trans (ob_step hb ((if_neg nz1).trans (ob_step n1 ?_)))
        show (if (0 : Int32) ≤ -1 then _ else some (0, S3)) = _
        exact if_neg nzm
      | some n =>
        rw [e2] at n1
        rw [ps_k_so c e2]
        obtain ⟨m4, m5⟩ := m3 n e2
        obtain ⟨S4, x1, x2⟩ := expr_c hT ho n2 m2 (by omega) w3 m4
        refine ⟨S4, ob_step hw ?_, x2⟩
        refine (if_neg (nI_pos (by omega))).trans (ob_step hb ((if_neg nz1).trans (ob_step n1 ?_)))
        refine (if_pos (nI_pos' (by omega))).trans ?_
        exact x1
    · rw [if_neg c] at hb
      rw [ps_k_n c]
      refine ⟨_, ob_step hw ?_, dv, fv, L, h', fun z => by cases z⟩
      refine (if_neg (nI_pos (by omega))).trans (ob_step hb ?_)
      exact if_pos rfl
end
