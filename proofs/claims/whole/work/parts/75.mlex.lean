/-! HOUSE: the model's signs, numbers, tests -/
def ms_T (S0 : St) (N : Nat) (k : Nat → Nat) : Prop := PK N k ∧ N ≤ 100 ∧ ∀ i, i < N → S0.1 84 i = nI (k i)
def opn : List Nat → Nat
  | [] => 0
  | x :: r => opn r + if x = 38 ∨ x = 124 then 0 else 1
def stk (g : Nat → Int32) : List Nat → Prop
  | [] => True
  | x :: r => g r.length = nI x ∧ x ≤ 127 ∧ stk g r
theorem stk_put {g : Nat → Int32} {m : Nat} {v : Int32} : ∀ {W : List Nat}, W.length ≤ m → stk g W → stk (upd g m v) W
  | [], _, _ => True.intro
  | x :: r, h, hs => by
    have h' : r.length + 1 ≤ m := h
    refine ⟨?_, hs.2.1, stk_put (by omega) hs.2.2⟩
    rw [upd_ne (by omega)]
    exact hs.1
/-- the model stands at p, has put out M (of this HOUSE), and W waits; all else is as in S0 -/
def ms_M (S0 : St) (t c N : Nat) (S : St) (p : Nat) (M : List Int32) (W : List Nat) : Prop :=
  S.1 76 13 = nI p ∧ S.1 76 12 = nI N ∧ S.1 76 23 = nI (100 * t + M.length) ∧ S.1 76 24 = nI W.length ∧ S.1 76 25 = nI (opn W) ∧ (∀ i x, M[i]? = some x → S.1 90 (100 * t + i) = x) ∧ stk (S.1 91) W ∧ (∀ i, i < 100 * t → S.1 90 i = S0.1 90 i) ∧ (∀ j, j ≠ 76 → j ≠ 89 → j ≠ 90 → j ≠ 91 → S.1 j = S0.1 j) ∧ (∀ i, i ≠ c → S.1 89 i = S0.1 89 i) ∧ (∀ j, j ≠ 13 → j ≠ 14 → j ≠ 23 → j ≠ 24 → j ≠ 25 → S.1 76 j = S0.1 76 j) ∧ S.2 = S0.2
def wh : List Int32 → List Nat → List Int32 × List Nat
  | M, [] => (M, [])
  | M, x :: r => if x = 33 then wh (M ++ [-33]) r else (M, x :: r)
def se (b : Bool) : List Int32 → List Nat → List Int32 × List Nat
  | M, [] => (M, [])
  | M, x :: r => if x = 38 then se b (M ++ [-38]) r else if x = 124 ∧ b = true then se b (M ++ [-124]) r else (M, x :: r)
theorem se_len (b : Bool) : ∀ (W : List Nat) (M : List Int32), (se b M W).1.length + (se b M W).2.length = M.length + W.length
  | [], M => rfl
  | x :: r, M => by
    show (if x = 38 then se b (M ++ [-38]) r else if x = 124 ∧ b = true then se b (M ++ [-124]) r else (M, x :: r)).1.length + (if x = 38 then se b (M ++ [-38]) r else if x = 124 ∧ b = true then se b (M ++ [-124]) r else (M, x :: r)).2.length = M.length + (r.length + 1)
    by_cases c : x = 38
    · rw [if_pos c, se_len b r, List.length_append]
      show M.length + 1 + _ = _
      omega
    rw [if_neg c]
    by_cases d : x = 124 ∧ b = true
    · rw [if_pos d, se_len b r, List.length_append]
      show M.length + 1 + _ = _
      omega
    · rw [if_neg d]
      rfl
theorem wh_len : ∀ (W : List Nat) (M : List Int32), (wh M W).1.length + (wh M W).2.length = M.length + W.length
  | [], M => rfl
  | x :: r, M => by
    show (if x = 33 then wh (M ++ [-33]) r else (M, x :: r)).1.length + (if x = 33 then wh (M ++ [-33]) r else (M, x :: r)).2.length = M.length + (r.length + 1)
    by_cases c : x = 33
    · rw [if_pos c, wh_len r, List.length_append]
      show M.length + 1 + _ = _
      omega
    · rw [if_neg c]
      rfl
theorem wh_no {M : List Int32} {x : Nat} {r : List Nat} (h : x ≠ 33) : wh M (x :: r) = (M, x :: r) := if_neg h
theorem sg_cs {N : Nat} {k : Nat → Nat} (hT : PK N k) (i : Nat) : (i < N ∧ sg N k i = nI (k i) ∧ k i ≤ 127) ∨ (sg N k i = -1 ∧ k i = 200) := by
  by_cases w : i < N
  · exact Or.inl ⟨w, if_pos w, hT.2 i w⟩
  · exact Or.inr ⟨if_neg w, hT.1 i (by omega)⟩
theorem pl_all : ∀ x, x < 128 → r_X12_place (nI x) = (match ps_l x with | some f => nI f | none => -1) := by decide +kernel
theorem pl_m {N : Nat} {k : Nat → Nat} (hT : PK N k) (i : Nat) : r_X12_place (sg N k i) = (match ps_l (k i) with | some f => nI f | none => -1) := by
  rcases sg_cs hT i with ⟨-, h1, h2⟩ | ⟨h1, h2⟩
  · rw [h1]
    exact pl_all _ (by omega)
  · rw [h1, h2]
    decide
theorem rel_all : ∀ x, x < 128 → r_X12_in (nI x) 60 62 = if 60 ≤ x ∧ x ≤ 62 then 1 else 0 := by decide +kernel
theorem rel_m {N : Nat} {k : Nat → Nat} (hT : PK N k) (i : Nat) : r_X12_in (sg N k i) 60 62 = if 60 ≤ k i ∧ k i ≤ 62 then 1 else 0 := by
  rcases sg_cs hT i with ⟨-, h1, h2⟩ | ⟨h1, h2⟩
  · rw [h1]
    exact rel_all _ (by omega)
  · rw [h1, h2]
    decide
theorem dig_all : ∀ x, x < 128 → r_X12_in (nI x) 48 57 = if ps_d x = true then 1 else 0 := by decide +kernel
theorem dig_m {N : Nat} {k : Nat → Nat} (hT : PK N k) (i : Nat) : r_X12_in (sg N k i) 48 57 = if ps_d (k i) = true then 1 else 0 := by
  rcases sg_cs hT i with ⟨-, h1, h2⟩ | ⟨h1, h2⟩
  · rw [h1]
    exact dig_all _ (by omega)
  · rw [h1, h2]
    decide
section
variable {S0 S : St} {t c N p : Nat} {k : Nat → Nat} {M : List Int32} {W : List Nat}
theorem ms_M.mv (h : ms_M S0 t c N S p M W) (q : Nat) : ms_M S0 t c N (sI S 76 13 (nI q)) q M W := by
  obtain ⟨h1, h2, h3, h4, h5, h6, h7, h8, h9, h10, h11, h12⟩ := h
  refine ⟨rfl, h2, h3, h4, h5, h6, h7, h8, fun j a b d e => ?_, h10, fun j a b d e f => ?_, h12⟩
  · rw [sI_ne a]
    exact h9 j a b d e
  · rw [sI_sl a]
    exact h11 j a b d e f
theorem ms_M.dg (h : ms_M S0 t c N S p M W) (v : Int32) : ms_M S0 t c N (sI S 76 14 v) p M W := by
  obtain ⟨h1, h2, h3, h4, h5, h6, h7, h8, h9, h10, h11, h12⟩ := h
  refine ⟨h1, h2, h3, h4, h5, h6, h7, h8, fun j a b d e => ?_, h10, fun j a b d e f => ?_, h12⟩
  · rw [sI_ne a]
    exact h9 j a b d e
  · rw [sI_sl b]
    exact h11 j a b d e f
theorem ms_M.to (h : ms_M S0 t c N S p M W) (v : Int32) : ms_M S0 t c N (sA S 89 (upd (S.1 89) c v)) p M W := by
  obtain ⟨h1, h2, h3, h4, h5, h6, h7, h8, h9, h10, h11, h12⟩ := h
  refine ⟨h1, h2, h3, h4, h5, h6, h7, h8, fun j a b d e => ?_, fun i hi => ?_, h11, h12⟩
  · rw [sA_ne b]
    exact h9 j a b d e
  · rw [sA_at, upd_ne hi]
    exact h10 i hi
/-- one more waits -/
theorem ms_M.ps (h : ms_M S0 t c N S p M W) (x : Nat) (hx : x ≤ 127) : ms_M S0 t c N (sI (sI (sA (sI S 76 25 (nI (opn (x :: W)))) 91 (upd (S.1 91) W.length (nI x))) 76 24 (nI (W.length + 1))) 76 13 (nI (p + 1))) (p + 1) M (x :: W) := by
  obtain ⟨h1, h2, h3, h4, h5, h6, h7, h8, h9, h10, h11, h12⟩ := h
  refine ⟨rfl, h2, h3, rfl, rfl, h6, ⟨upd_at _ _ _, hx, stk_put (Nat.le_refl _) h7⟩, h8, fun j a b d e => ?_, h10, fun j a b d e f => ?_, h12⟩
  · rw [sI_ne a, sI_ne a, sA_ne e, sI_ne a]
    exact h9 j a b d e
  · rw [sI_sl a, sI_sl e, sA_ne (by decide), sI_sl f]
    exact h11 j a b d e f
/-- the last that waits goes -/
theorem ms_M.po {x : Nat} (h : ms_M S0 t c N S p M (x :: W)) : ms_M S0 t c N (sI (sI S 76 24 (nI W.length)) 76 25 (nI (opn W))) p M W := by
  obtain ⟨h1, h2, h3, h4, h5, h6, h7, h8, h9, h10, h11, h12⟩ := h
  refine ⟨h1, h2, h3, rfl, rfl, h6, h7.2.2, h8, fun j a b d e => ?_, h10, fun j a b d e f => ?_, h12⟩
  · rw [sI_ne a, sI_ne a]
    exact h9 j a b d e
  · rw [sI_sl f, sI_sl e]
    exact h11 j a b d e f
theorem ms_M.p1 {x : Nat} (h : ms_M S0 t c N S p M (x :: W)) (hx : x = 38 ∨ x = 124) : ms_M S0 t c N (sI S 76 24 (nI W.length)) p M W := by
  obtain ⟨h1, h2, h3, h4, h5, h6, h7, h8, h9, h10, h11, h12⟩ := h
  refine ⟨h1, h2, h3, rfl, ?_, h6, h7.2.2, h8, fun j a b d e => ?_, h10, fun j a b d e f => ?_, h12⟩
  · show S.1 76 25 = nI (opn W)
    rw [h5]
    show nI (opn W + if x = 38 ∨ x = 124 then 0 else 1) = _
    rw [if_pos hx]
    rfl
  · rw [sI_ne a]
    exact h9 j a b d e
  · rw [sI_sl e]
    exact h11 j a b d e f
theorem emits_m (ht : t < 6) (h : ms_M S0 t c N S p M W) (hM : M.length < 100) (x : Int32) : ∃ S', r_X12_emits S x = some (0, S') ∧ ms_M S0 t c N S' p (M ++ [x]) W ∧ S'.1 76 14 = S.1 76 14 := by
  obtain ⟨h1, h2, h3, h4, h5, h6, h7, h8, h9, h10, h11, h12⟩ := h
  refine ⟨sI (sA S 90 (upd (S.1 90) (100 * t + M.length) x)) 76 23 (nI (100 * t + M.length + 1)), ?_, ⟨h1, h2, ?_, h4, h5, fun i y hy => ?_, h7, fun i hi => ?_, fun j a b d e => ?_, h10, fun j a b d e f => ?_, h12⟩, rfl⟩
  · unfold r_X12_emits
    rw [h3, gdN (show 100 * t + M.length < 600 by omega) (by decide), nI_clamp (by omega), nI_1]
  · rw [List.length_append]
    rfl
  · show upd (S.1 90) (100 * t + M.length) x (100 * t + i) = y
    rw [List.getElem?_append] at hy
    by_cases w : i < M.length
    · rw [if_pos w] at hy
      rw [upd_ne (by omega)]
      exact h6 i y hy
    · rw [if_neg w] at hy
      have e : i = M.length := by
        refine Nat.le_antisymm (Nat.le_of_not_lt fun z => ?_) (by omega)
        obtain ⟨m, hm⟩ : ∃ m, i - M.length = m + 1 := ⟨i - M.length - 1, by omega⟩
        rw [hm] at hy
        cases hy
      subst e
      rw [Nat.sub_self] at hy
      have e : x = y := Option.some.inj hy
      subst e
      exact upd_at _ _ _
  · show upd (S.1 90) (100 * t + M.length) x i = S0.1 90 i
    rw [upd_ne (by omega)]
    exact h8 i hi
  · rw [sI_ne a, sA_ne d]
    exact h9 j a b d e
  · rw [sI_sl d, sA_ne (by decide)]
    exact h11 j a b d e f
theorem sign_m (hT : ms_T S0 N k) (h : ms_M S0 t c N S p M W) (hp : p ≤ N) : r_X12_next S = some (sg N k p) := by
  have hN := hT.2.1
  obtain ⟨h1, h2, h3, h4, h5, h6, h7, h8, h9, h10, h11, h12⟩ := h
  unfold r_X12_next sg
  rw [h1, h2]
  by_cases w : p < N
  · rw [if_pos w, if_neg (nI_ge w (by omega)), gdN (show p < 100 by omega) (by decide), nI_clamp (by omega), h9 84 (by decide) (by decide) (by decide) (by decide), hT.2.2 p w]
  · rw [if_neg w, if_pos (nI_le (by omega) (by omega))]
theorem takes_m (hT : ms_T S0 N k) (h : ms_M S0 t c N S p M W) (hp : p ≤ N) {a : Nat} (ha : a ≤ 127) : r_X12_takes S (nI a) = some (if k p = a then (1, sI S 76 13 (nI (p + 1))) else (0, S)) := by
  unfold r_X12_takes
  rw [h.1, nI_1]
  refine ob_step (sign_m hT h hp) ?_
  rw [sg_if hT.1 ha]
  split <;> rfl
theorem isd_m (hT : ms_T S0 N k) (h : ms_M S0 t c N S p M W) (hp : p ≤ N) : r_X12_isDigit S = some (if ps_d (k p) = true then 1 else 0) := by
  unfold r_X12_isDigit
  refine ob_step (sign_m hT h hp) ?_
  rw [dig_m hT.1]
  exact gd01 _ _
theorem whole_m (ht : t < 6) : ∀ (W : List Nat) (n : Nat) (S : St) (M : List Int32), ms_M S0 t c N S p M W → W.length < n → M.length + W.length ≤ 100 → ∃ S', lp_X12_whole_0 n S = some S' ∧ ms_M S0 t c N S' p (wh M W).1 (wh M W).2
  | [], n, S, M, h, hn, hl => by
    obtain ⟨n, rfl⟩ : ∃ n', n = n' + 1 := ⟨n - 1, by omega⟩
    refine ⟨S, ?_, h⟩
    rw [lp_X12_whole_0, h.2.2.2.1]
    exact if_pos (by decide)
  | x :: r, n, S, M, h, hn, hl => by
    obtain ⟨n, rfl⟩ : ∃ n', n = n' + 1 := ⟨n - 1, by omega⟩
    have hl' : M.length + (r.length + 1) ≤ 100 := hl
    have hn' : r.length + 1 < n + 1 := hn
    have e24 : S.1 76 24 = nI (r.length + 1) := h.2.2.2.1
    have hx : S.1 91 r.length = nI x := h.2.2.2.2.2.2.1.1
    have ew : wh M (x :: r) = if x = 33 then wh (M ++ [-33]) r else (M, x :: r) := rfl
    rw [ew, lp_X12_whole_0, e24, if_neg (nI_nle (by omega) (by omega)), nI_pred, gdN (show r.length < 101 by omega) (by decide), nI_clamp (by omega), hx]
    by_cases w : x = 33
    · rw [if_pos w, if_pos (show nI x = 33 by rw [w]; rfl)]
      obtain ⟨S1, a1, a2, -⟩ := emits_m ht h (by omega) (-33)
      have e24' : S1.1 76 24 = nI (r.length + 1) := a2.2.2.2.1
      have e25' : S1.1 76 25 = nI (opn r + 1) := by
        rw [a2.2.2.2.2.1]
        show nI (opn r + if x = 38 ∨ x = 124 then 0 else 1) = _
        rw [if_neg (by omega)]
      obtain ⟨S2, b1, b2⟩ := whole_m ht r n (sI (sI S1 76 24 (nI r.length)) 76 25 (nI (opn r))) (M ++ [-33]) a2.po (by omega) (by
        rw [List.length_append]
        show M.length + 1 + r.length ≤ 100
        omega)
      refine ⟨S2, ob_step a1 ?_, b2⟩
      show lp_X12_whole_0 n (sI (sI S1 76 24 (S1.1 76 24 - 1)) 76 25 (S1.1 76 25 - 1)) = _
      rw [e24', e25', nI_pred, nI_pred]
      exact b1
    · rw [if_neg w]
      have hx33 : ¬ nI x = 33 := fun z => w ((nI_eq (by have := h.2.2.2.2.2.2.1.2.1; omega) (by decide)).mp (z.trans (show (33 : Int32) = nI 33 from rfl)))
      exact ⟨S, if_neg hx33, h⟩
theorem settle_m (ht : t < 6) {f1 : Int32} {b : Bool} (hf : f1 = 38 ↔ b = false) : ∀ (W : List Nat) (n : Nat) (S : St) (M : List Int32), ms_M S0 t c N S p M W → W.length < n → M.length + W.length ≤ 100 → ∃ S', lp_X12_settle_0 f1 n S = some S' ∧ ms_M S0 t c N S' p (se b M W).1 (se b M W).2
  | [], n, S, M, h, hn, hl => by
    obtain ⟨n, rfl⟩ : ∃ n', n = n' + 1 := ⟨n - 1, by omega⟩
    refine ⟨S, ?_, h⟩
    rw [lp_X12_settle_0, h.2.2.2.1]
    exact if_pos (by decide)
  | x :: r, n, S, M, h, hn, hl => by
    obtain ⟨n, rfl⟩ : ∃ n', n = n' + 1 := ⟨n - 1, by omega⟩
    have hl' : M.length + (r.length + 1) ≤ 100 := hl
    have hn' : r.length + 1 < n + 1 := hn
    have e24 : S.1 76 24 = nI (r.length + 1) := h.2.2.2.1
    have hx : S.1 91 r.length = nI x := h.2.2.2.2.2.2.1.1
    have hx7 : x ≤ 127 := h.2.2.2.2.2.2.1.2.1
    have ew : se b M (x :: r) = if x = 38 then se b (M ++ [-38]) r else if x = 124 ∧ b = true then se b (M ++ [-124]) r else (M, x :: r) := rfl
    have go : ∀ y : Int32, (x = 38 ∨ x = 124) → ∃ S', ((r_X12_emits (sI S 76 24 (nI r.length)) y).bind fun q1 => lp_X12_settle_0 f1 n q1.2) = some S' ∧ ms_M S0 t c N S' p (se b (M ++ [y]) r).1 (se b (M ++ [y]) r).2 := by
      intro y hy
      obtain ⟨S1, a1, a2, -⟩ := emits_m ht (h.p1 hy) (by omega) y
      obtain ⟨S2, b1, b2⟩ := settle_m ht hf r n S1 (M ++ [y]) a2 (by omega) (by
        rw [List.length_append]
        show M.length + 1 + r.length ≤ 100
        omega)
      exact ⟨S2, ob_step a1 b1, b2⟩
    have g1 : ∀ {α : Type} (z : Option α), gd (¬ (nI r.length < 0 ∨ 101 ≤ (nI r.length).toNatClampNeg)) z = z := fun z => gdN (show r.length < 101 by omega) (by decide)
    rw [ew, lp_X12_settle_0, e24, if_neg (nI_nle (by omega) (by omega)), nI_pred]
    simp only [gdN (show r.length < 101 by omega) (show 101 < 2 ^ 31 by decide), nI_clamp (show r.length < 2 ^ 31 by omega), gdM (show r.length < 101 by omega) (show r.length < 2 ^ 31 by omega)]
    rw [hx]
    by_cases w : x = 38
    · rw [if_pos w, if_pos (show nI x = 38 by rw [w]; rfl)]
      have e : -(nI x) = -38 := by rw [w]; rfl
      rw [e]
      exact go (-38) (Or.inl w)
    have n38 : ¬ nI x = 38 := fun z => w ((nI_eq (by omega) (by decide)).mp (z.trans (show (38 : Int32) = nI 38 from rfl)))
    rw [if_neg w, if_neg n38]
    by_cases v : x = 124
    · rw [if_pos (show nI x = 124 by rw [v]; rfl)]
      cases b with
      | false =>
        rw [if_pos (hf.mpr rfl), if_neg (fun z => by cases z.2)]
        exact ⟨S, rfl, h⟩
      | true =>
        rw [if_neg (fun z => by cases hf.mp z), if_pos ⟨v, rfl⟩]
        have e : -(nI x) = -124 := by rw [v]; rfl
        rw [e]
        exact go (-124) (Or.inr v)
    · have n124 : ¬ nI x = 124 := fun z => v ((nI_eq (by omega) (by decide)).mp (z.trans (show (124 : Int32) = nI 124 from rfl)))
      rw [if_neg n124, if_neg (fun z => v z.1)]
      exact ⟨S, rfl, h⟩
theorem num_ms (hT : ms_T S0 N k) (h : ms_M S0 t c N S p M W) (hp : p ≤ N) {n : Nat} {v1 : Int32} (h2 : ¬ (2 : Int32) ≤ v1) : lp_X12_takesNumber_16 (n + 1) v1 S = if ps_d (k p) = true then lp_X12_takesNumber_16 n (v1 + 1) (sI (sI S 76 14 (((10 : Int32) * S.1 76 14 + nI (k p)) - 48)) 76 13 (nI (p + 1))) else some S := by
  rw [lp_X12_takesNumber_16, if_neg h2]
  refine ob_step (isd_m hT h hp) ?_
  by_cases w : ps_d (k p) = true
  · obtain ⟨a1, a2, a3, a4, a5, a6⟩ := sg_dy hT.1 w
    rw [w, if_neg nzt, if_pos rfl]
    refine ob_step (sign_m hT h hp) ?_
    rw [a4, h.1, nI_1]
  · rw [if_neg w, if_neg w]
    exact if_pos rfl
theorem num_m (hT : ms_T S0 N k) (h : ms_M S0 t c N S p M W) (hp : p ≤ N) : ∃ S', r_X12_takesNumber S = some ((match (ps_n k p).1 with | some _ => 1 | none => 0), S') ∧ ms_M S0 t c N S' (ps_n k p).2 M W ∧ ∀ n, (ps_n k p).1 = some n → S'.1 76 14 = nI n := by
  unfold r_X12_takesNumber ps_n
  by_cases a : ps_d (k p) = true
  · obtain ⟨a1, a2, a3, -, -, -⟩ := sg_dy hT.1 a
    have e1 : ((10 : Int32) * 0 + nI (k p)) - 48 = nI (k p - 48) := by
      rw [show (10 : Int32) * 0 = nI 0 from by decide, nI_add, Nat.zero_add]
      exact nI_sub (b := 48) a2
    have h0 := h.dg 0
    have h1 := (h0.dg (nI (k p - 48))).mv (p + 1)
    by_cases b : ps_d (k (p + 1)) = true
    · obtain ⟨b1, b2, b3, -, -, -⟩ := sg_dy hT.1 b
      have e2 : ((10 : Int32) * nI (k p - 48) + nI (k (p + 1))) - 48 = nI (10 * (k p - 48) + (k (p + 1) - 48)) := by
        rw [show (10 : Int32) = nI 10 from rfl, nI_mul, nI_add]
        refine (nI_sub (b := 48) (by omega)).trans ?_
        congr 1
        omega
      rw [if_pos a, if_pos b]
      refine ⟨_, ?_, (h1.dg (nI (10 * (k p - 48) + (k (p + 1) - 48)))).mv (p + 2), fun n hn => ?_⟩
      · refine ob_step (isd_m hT h hp) ?_
        rw [a, if_neg nzt]
        refine ob_step (a := sI (sI (sI (sI (sI S 76 14 0) 76 14 (nI (k p - 48))) 76 13 (nI (p + 1))) 76 14 (nI (10 * (k p - 48) + (k (p + 1) - 48)))) 76 13 (nI (p + 2))) ?_ rfl
        rw [num_ms hT h0 hp (by decide), if_pos a]
        show lp_X12_takesNumber_16 3999 1 (sI (sI (sI S 76 14 0) 76 14 (((10 : Int32) * 0 + nI (k p)) - 48)) 76 13 (nI (p + 1))) = _
        rw [e1, num_ms hT h1 a1 (by decide), if_pos b]
        show lp_X12_takesNumber_16 3998 2 (sI (sI (sI (sI (sI S 76 14 0) 76 14 (nI (k p - 48))) 76 13 (nI (p + 1))) 76 14 (((10 : Int32) * nI (k p - 48) + nI (k (p + 1))) - 48)) 76 13 (nI (p + 2))) = _
        rw [e2, lp_X12_takesNumber_16]
        exact if_pos (by decide)
      · have := Option.some.inj hn
        rw [← this]
        rfl
    · rw [if_pos a, if_neg b]
      refine ⟨_, ?_, h1, fun n hn => ?_⟩
      · refine ob_step (isd_m hT h hp) ?_
        rw [a, if_neg nzt]
        refine ob_step (a := sI (sI (sI S 76 14 0) 76 14 (nI (k p - 48))) 76 13 (nI (p + 1))) ?_ rfl
        rw [num_ms hT h0 hp (by decide), if_pos a]
        show lp_X12_takesNumber_16 3999 1 (sI (sI (sI S 76 14 0) 76 14 (((10 : Int32) * 0 + nI (k p)) - 48)) 76 13 (nI (p + 1))) = _
        rw [e1, num_ms hT h1 a1 (by decide), if_neg b]
      · have := Option.some.inj hn
        rw [← this]
        rfl
  · rw [if_neg a]
    refine ⟨S, ?_, h, fun n hn => by cases hn⟩
    refine ob_step (isd_m hT h hp) ?_
    rw [if_neg a]
    exact if_pos rfl
theorem test_m (ht : t < 6) (hT : ms_T S0 N k) (h : ms_M S0 t c N S p M W) (hp : p ≤ N) (hl : M.length + W.length ≤ p) : ∃ S', r_X12_takesTest S = some (if (ps_t k p).1 = true then 1 else 0, S') ∧ ((ps_t k p).1 = true → ms_M S0 t c N S' (ps_t k p).2.1 (wh (M ++ (ps_t k p).2.2) W).1 (wh (M ++ (ps_t k p).2.2) W).2 ∧ (M ++ (ps_t k p).2.2).length + W.length ≤ (ps_t k p).2.1) ∧ ((ps_t k p).1 = false → ms_M S0 t c N S' (ps_t k p).2.1 M W) := by
  have hN := hT.2.1
  unfold r_X12_takesTest
  have h0 := sign_m hT h hp
  have hpl := pl_m hT.1 p
  cases e : ps_l (k p) with
  | none =>
    rw [e] at hpl
    rw [ps_t_no e]
    refine ⟨S, ob_step h0 ?_, fun z => by (cases z), fun _ => h⟩
    show (if 0 ≤ r_X12_place (sg N k p) then _ else some (0, S)) = _
    rw [hpl]
    exact if_neg nzm
  | some f =>
    rw [e] at hpl
    rw [ps_t_so e]
    obtain ⟨f1, f2⟩ := ps_l_lt e
    have hp1 : p < N := hT.1.lt rfl f1
    have h' := h.mv (p + 1)
    have h1 := sign_m hT h' hp1
    have hr := rel_m hT.1 (p + 1)
    have pre : ∀ y, ((r_X12_next (sI S 76 13 (nI (p + 1)))).bind fun q2 => if (r_X12_in q2 60 62) = 0 then some ((0 : Int32), sI S 76 13 (nI (p + 1))) else (r_X12_takesNumber (sI (sI S 76 13 (nI (p + 1))) 76 13 (nI (p + 1) + 1))).bind fun q3 => if q3.1 = 0 then some (0, q3.2) else (r_X12_emits q3.2 ((((1000 : Int32) * nI f) + ((100 : Int32) * (q2 - 60))) + (q3.2.1 76 14))).bind fun q4 => (r_X12_whole q4.2).bind fun q5 => some (1, q5.2)) = y → ((r_X12_next S).bind fun q1 => if 0 ≤ (r_X12_place q1) then (r_X12_next (sI S 76 13 ((S.1 76 13) + 1))).bind fun q2 => if (r_X12_in q2 60 62) = 0 then some (0, sI S 76 13 ((S.1 76 13) + 1)) else (r_X12_takesNumber (sI (sI S 76 13 ((S.1 76 13) + 1)) 76 13 (((S.1 76 13) + 1) + 1))).bind fun q3 => if q3.1 = 0 then some (0, q3.2) else (r_X12_emits q3.2 ((((1000 : Int32) * (r_X12_place q1)) + ((100 : Int32) * (q2 - 60))) + (q3.2.1 76 14))).bind fun q4 => (r_X12_whole q4.2).bind fun q5 => some (1, q5.2) else some (0, S)) = y := by
      intro y hy
      refine ob_step h0 ?_
      rw [hpl, h.1, nI_1]
      exact (if_pos (nI_pos' (by omega))).trans hy
    by_cases d : 60 ≤ k (p + 1) ∧ k (p + 1) ≤ 62
    · have hp2 : p + 1 < N := hT.1.lt rfl (by omega)
      rw [if_pos d] at hr
      rw [ps_u_y d]
      have h'' := h'.mv (p + 2)
      obtain ⟨S3, n1, n2, n3⟩ := num_m hT h'' hp2
      obtain ⟨a1, a2, a3⟩ := ps_n_ok hT.1 (p := p + 2) hp2
      cases e3 : (ps_n k (p + 2)).1 with
      | none =>
        rw [e3] at n1
        rw [ps_v_no e3]
        refine ⟨S3, pre _ (ob_step h1 ?_), fun z => by (cases z), fun _ => n2⟩
        rw [hr, if_neg nz1, nI_1]
        exact ob_step n1 (if_pos rfl)
      | some n =>
        rw [e3] at n1
        rw [ps_v_so e3]
        obtain ⟨b1, b2⟩ := a3 n e3
        have e14 := n3 n e3
        obtain ⟨S4, x1, x2, -⟩ := emits_m ht n2 (by omega) (nI (1000 * f + 100 * (k (p + 1) - 60) + n))
        obtain ⟨S5, y1, y2⟩ := whole_m ht W 4000 S4 _ x2 (by omega) (by
          rw [List.length_append]
          show M.length + 1 + W.length ≤ 100
          omega)
        refine ⟨S5, pre _ (ob_step h1 ?_), fun _ => ⟨y2, ?_⟩, fun z => by (cases z)⟩
        · rw [hr, if_neg nz1, nI_1]
          refine ob_step n1 ((if_neg nz1).trans ?_)
          show (r_X12_emits S3 ((((1000 : Int32) * nI f) + ((100 : Int32) * (sg N k (p + 1) - 60))) + (S3.1 76 14))).bind _ = _
          have es : sg N k (p + 1) - 60 = nI (k (p + 1) - 60) := by
            rw [show sg N k (p + 1) = nI (k (p + 1)) from if_pos hp2]
            exact nI_sub (b := 60) d.1
          rw [e14, es, show (1000 : Int32) = nI 1000 from rfl, show (100 : Int32) = nI 100 from rfl, nI_mul, nI_mul, nI_add, nI_add]
          refine ob_step x1 ?_
          have hw : r_X12_whole S4 = some (0, S5) := ob_step y1 rfl
          exact ob_step hw rfl
        · rw [List.length_append]
          show M.length + 1 + W.length ≤ (ps_n k (p + 2)).2
          omega
    · rw [if_neg d] at hr
      rw [ps_u_n d]
      refine ⟨_, pre _ (ob_step h1 ?_), fun z => by (cases z), fun _ => h'⟩
      rw [hr]
      exact if_pos rfl
end
