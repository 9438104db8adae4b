/-! SUPPERS: rows by number and rows by digits run alike -/
def valD (ns N r : Nat) : Bool := (List.range N).all fun j => decide (dg r N j < ns)
def valOf (bk : Nat → Nat) : Nat → Nat
  | 0 => 0
  | n + 1 => valOf bk n * 8 + bk n
def chk (ns N r : Nat) : Bool := !valD ns N r || (if (nxD ns N (dg r N)).1 = true then (decide (r < valOf (nxD ns N (dg r N)).2 N) && (decide (valOf (nxD ns N (dg r N)).2 N < 8 ^ N) && (valD ns N (valOf (nxD ns N (dg r N)).2 N) && ((List.range (valOf (nxD ns N (dg r N)).2 N - r - 1)).all (fun i => !valD ns N (r + 1 + i)) && (List.range N).all (fun j => decide (dg (valOf (nxD ns N (dg r N)).2 N) N j = (nxD ns N (dg r N)).2 j)))))) else (List.range (8 ^ N - r - 1)).all (fun i => !valD ns N (r + 1 + i)))
theorem chk_1 : ∀ ns, ns < 9 → ∀ r, r < 8 → chk ns 1 r = true := by decide +kernel
theorem chk_2 : ∀ ns, ns < 9 → ∀ r, r < 64 → chk ns 2 r = true := by decide +kernel
theorem chk_3 : ∀ ns, ns < 9 → ∀ r, r < 512 → chk ns 3 r = true := by decide +kernel
theorem chk_all {ns N r : Nat} (hn : ns ≤ 8) (h1 : 1 ≤ N) (h3 : N ≤ 3) (hr : r < 8 ^ N) : chk ns N r = true := by
  rcases (show N = 1 ∨ N = 2 ∨ N = 3 by omega) with rfl | rfl | rfl
  · exact chk_1 ns (by omega) r hr
  · exact chk_2 ns (by omega) r hr
  · exact chk_3 ns (by omega) r hr
theorem valD_iff {ns N r : Nat} : valD ns N r = true ↔ ∀ j, j < N → dg r N j < ns := by
  unfold valD
  rw [List.all_eq_true]
  constructor
  · intro h j hj
    exact of_decide_eq_true (h j (List.mem_range.mpr hj))
  · intro h j hj
    exact decide_eq_true (h j (List.mem_range.mp hj))
theorem chk_use {ns N r : Nat} (hn : ns ≤ 8) (h1 : 1 ≤ N) (h3 : N ≤ 3) (hr : r < 8 ^ N) (hv : valD ns N r = true) : ((nxD ns N (dg r N)).1 = true → ∃ r', r < r' ∧ r' < 8 ^ N ∧ valD ns N r' = true ∧ (∀ i, r < i → i < r' → valD ns N i = false) ∧ ∀ j, j < N → dg r' N j = (nxD ns N (dg r N)).2 j) ∧ ((nxD ns N (dg r N)).1 = false → ∀ i, r < i → i < 8 ^ N → valD ns N i = false) := by
  have h := chk_all hn h1 h3 hr
  unfold chk at h
  rw [hv] at h
  constructor
  · intro hb
    rw [if_pos hb] at h
    simp only [Bool.not_true, Bool.false_or, Bool.and_eq_true, decide_eq_true_eq, List.all_eq_true, List.mem_range, Bool.not_eq_true'] at h
    obtain ⟨a1, a2, a3, a4, a5⟩ := h
    refine ⟨_, a1, a2, a3, fun i b1 b2 => ?_, a5⟩
    have := a4 (i - r - 1) (by omega)
    rw [show r + 1 + (i - r - 1) = i by omega] at this
    exact this
  · intro hb i b1 b2
    rw [if_neg (by rw [hb]; exact Bool.false_ne_true)] at h
    simp only [Bool.not_true, Bool.false_or, List.all_eq_true, List.mem_range, Bool.not_eq_true'] at h
    have := h (i - r - 1) (by omega)
    rw [show r + 1 + (i - r - 1) = i by omega] at this
    exact this
