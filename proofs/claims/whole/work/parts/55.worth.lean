/-! SUPPERS: what the class reckons a row to be worth -/
def dg (r N j : Nat) : Nat := r / 8 ^ (N - 1 - j) % 8
theorem row_dg : ∀ r, r < 512 → ∀ N, N < 4 → ∀ j, j < 3 → j < N → r_X11_storyInRow (nI r) (nI N) (nI j) = nI (dg r N j) := by decide +kernel
theorem dg_8 (r N j : Nat) : dg r N j < 8 := Nat.mod_lt _ (by decide)
theorem lp_w38 {r N v s : Nat} {f3 : Int32} (hr : r < 512) (hN : N < 4) (hv : v < N) (hs : s < 8) : ∀ n i, i ≤ v → v < n + i → lp_X11_worthOfRow_38 (nI r) (nI N) f3 (nI v) (nI s) n (nI (maskB (dg r N) s i)) (nI i) = some (nI (maskB (dg r N) s v)) := by
  intro n
  induction n with
  | zero => intro i h1 h2; omega
  | succ n ih =>
    intro i h1 h2
    unfold lp_X11_worthOfRow_38
    by_cases w : i = v
    · subst w
      exact if_pos (nI_le (Nat.le_refl _) (by omega))
    have e := ih (i + 1) (by omega) (by omega)
    have hm := maskB_lt (dg r N) s i
    have hd := dg_8 r N i
    rw [if_neg (nI_ge (by omega) (by omega)), row_dg r hr N hN i (by omega) (by omega), nI_1]
    have e1 : maskB (dg r N) s (i + 1) = maskB (dg r N) s i + (if dg r N i = s then 2 ^ i else 0) := rfl
    rw [e1] at e
    by_cases z : dg r N i = s
    · rw [if_pos (by rw [z]), p2 (by omega), nI_or]
      rw [if_pos z] at e
      have h3 := Nat.two_pow_add_eq_or_of_lt hm 1
      rw [Nat.mul_one] at h3
      rw [Nat.or_comm, ← h3, Nat.add_comm]
      exact e
    · rw [if_neg (fun q => z ((nI_eq (by omega) (by omega)).mp q))]
      rw [if_neg z, Nat.add_zero] at e
      exact e
theorem lp_w5 {S S1 : St} {ns nh nd gap N r : Nat} {LV : Nat → Nat → Nat → Int32 → Nat → Int32} {tb : Int32} (n8 : ns ≤ 8) (hr : r < 512) (hN : N < 4) (c2 : S1.1 8 2 = nI ns) (h37 : ∀ u s j, u < N → s < ns → j < 2 ^ u → S1.1 37 (4 * (8 * u + s) + j) = WS S LV nh tb nd gap u s j) : ∀ n v, v ≤ N → N < n + v → ∃ x, lp_X11_worthOfRow_5 S1 (nI r) (nI N) n (rowW S LV nh tb nd gap (dg r N) v) (nI v) = some x ∧ ((∀ j, v ≤ j → j < N → dg r N j < ns) → x = (1, rowW S LV nh tb nd gap (dg r N) N)) ∧ ((∃ j, v ≤ j ∧ j < N ∧ ns ≤ dg r N j) → x.1 = 0) := by
  intro n
  induction n with
  | zero => intro v h1 h2; omega
  | succ n ih =>
    intro v h1 h2
    unfold lp_X11_worthOfRow_5
    by_cases w : v = N
    · subst w
      exact ⟨_, if_pos (nI_le (Nat.le_refl _) (by omega)), fun _ => rfl, fun ⟨j, a, b, _⟩ => by omega⟩
    have hv : v < N := by omega
    have hd := dg_8 r N v
    rw [if_neg (nI_ge (by omega) (by omega)), row_dg r hr N hN v (by omega) hv, nI_1]
    by_cases q : dg r N v < ns
    · have q1 : ¬ r_X11_isStory S1 (nI (dg r N v)) = 0 := by
        unfold r_X11_isStory
        rw [within_in, c2]
        exact ii_is (by omega) q
      have hm := maskB_lt (dg r N) (dg r N v) v
      have h4 : 2 ^ v ≤ 2 ^ 2 := Nat.pow_le_pow_right (by decide) (by omega)
      have hmk := lp_w38 (f3 := rowW S LV nh tb nd gap (dg r N) v) hr hN hv hd 4000 0 (Nat.zero_le _) (by omega)
      obtain ⟨x, x1, x2, x3⟩ := ih (v + 1) (by omega) (by omega)
      refine ⟨x, ?_, fun h => x2 (fun j a b => h j (by omega) b), fun ⟨j, a, b, c⟩ => x3 ⟨j, ?_, b, c⟩⟩
      · refine (if_neg q1).trans (ob_step hmk ?_)
        rw [place_n, gdN (show 4 * (8 * v + dg r N v) + maskB (dg r N) (dg r N v) v < 96 by omega) (by decide), nI_clamp (by omega), h37 v _ _ hv q hm]
        exact x1
      · by_cases y : j = v
        · subst y
          omega
        · omega
    · have q1 : r_X11_isStory S1 (nI (dg r N v)) = 0 := by
        by_cases z : r_X11_isStory S1 (nI (dg r N v)) = 0
        · exact z
        · exfalso
          unfold r_X11_isStory at z
          rw [within_in, c2] at z
          obtain ⟨s, hs, e⟩ := ii_lt (by omega) z
          have := (nI_eq (by omega) (by omega)).mp e
          omega
      refine ⟨(0, _), if_pos q1, fun h => absurd (h v (Nat.le_refl _) hv) q, fun _ => rfl⟩
theorem worth_c {S S1 : St} {ns nh nd gap N r : Nat} {LV : Nat → Nat → Nat → Int32 → Nat → Int32} {tb : Int32} (n8 : ns ≤ 8) (hr : r < 512) (hN : N < 4) (c2 : S1.1 8 2 = nI ns) (h37 : ∀ u s j, u < N → s < ns → j < 2 ^ u → S1.1 37 (4 * (8 * u + s) + j) = WS S LV nh tb nd gap u s j) : ((∀ j, j < N → dg r N j < ns) → r_X11_worthOfRow S1 (nI r) (nI N) = some (rowW S LV nh tb nd gap (dg r N) N)) ∧ ((∃ j, j < N ∧ ns ≤ dg r N j) → r_X11_worthOfRow S1 (nI r) (nI N) = some (-1000000)) := by
  obtain ⟨x, x1, x2, x3⟩ := lp_w5 (S := S) (S1 := S1) (nh := nh) (nd := nd) (gap := gap) (LV := LV) (tb := tb) n8 hr hN c2 h37 4000 0 (Nat.zero_le _) (by omega)
  constructor
  · intro h
    have hx := x2 (fun j _ b => h j b)
    subst hx
    unfold r_X11_worthOfRow
    exact ob_step x1 rfl
  · intro ⟨j, a, b⟩
    have hx := x3 ⟨j, Nat.zero_le _, a, b⟩
    unfold r_X11_worthOfRow
    refine ob_step x1 ?_
    show (if x.1 = 0 then some (-1000000) else some x.2) = _
    rw [if_pos hx]
