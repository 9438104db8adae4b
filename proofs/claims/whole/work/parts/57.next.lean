/-! SUPPERS: the model's next row -/
def setD (bk : Nat → Nat) (p x : Nat) : Nat → Nat := fun j => if j = p then x else bk j
def nxD (ns : Nat) : Nat → (Nat → Nat) → Bool × (Nat → Nat)
  | 0, bk => (false, bk)
  | p + 1, bk => if bk p + 1 < ns then (true, setD bk p (bk p + 1)) else nxD ns p (setD bk p 0)
theorem lp_next {ns : Nat} (n8 : ns ≤ 8) : ∀ p n S bk, p ≤ 3 → p < n → S.1 76 0 = nI ns → (∀ j, j < 3 → S.1 97 j = nI (bk j)) → (∀ j, j < 3 → bk j < 8) → ∃ g, lp_X12_nextRow_4 n (nI p + (-1)) S = some (if (nxD ns p bk).1 = true then 0 else 1, sA S 97 g) ∧ ∀ j, j < 3 → g j = nI ((nxD ns p bk).2 j) := by
  intro p
  induction p with
  | zero =>
    intro n S bk h1 h2 c3 h97 hb
    obtain ⟨m, rfl⟩ : ∃ m, n = m + 1 := ⟨n - 1, by omega⟩
    refine ⟨S.1 97, ?_, h97⟩
    rw [lp_X12_nextRow_4, if_pos (show nI 0 + (-1) < (0 : Int32) by decide), sA_self]
    rfl
  | succ p ih =>
    intro n S bk h1 h2 c3 h97 hb
    obtain ⟨m, rfl⟩ : ∃ m, n = m + 1 := ⟨n - 1, by omega⟩
    have hp : p < 3 := by omega
    have hbp := hb p hp
    rw [lp_X12_nextRow_4, nI_m1, if_neg (nI_pos (by omega))]
    simp only [gdN hp (show 3 < 2 ^ 31 by decide), nI_clamp (show p < 2 ^ 31 by omega), gdM hp (show p < 2 ^ 31 by omega)]
    rw [upd_at, h97 p hp, nI_1, c3]
    by_cases z : bk p + 1 < ns
    · refine ⟨upd (S.1 97) p (nI (bk p + 1)), ?_, fun j hj => ?_⟩
      · rw [if_neg (nI_ge z (by omega))]
        unfold nxD
        rw [if_pos z]
        rfl
      · unfold nxD
        rw [if_pos z]
        show upd (S.1 97) p (nI (bk p + 1)) j = nI (if j = p then bk p + 1 else bk j)
        by_cases y : j = p
        · subst y
          rw [upd_at, if_pos rfl]
        · rw [upd_ne y, if_neg y]
          exact h97 j hj
    · rw [if_pos (nI_le (by omega) (by omega))]
      obtain ⟨g, x1, x2⟩ := ih m (sA (sA S 97 (upd (S.1 97) p (nI (bk p + 1)))) 97 (upd (upd (S.1 97) p (nI (bk p + 1))) p 0)) (setD bk p 0) (by omega) (by omega) c3 (fun j hj => by
        show upd (upd (S.1 97) p (nI (bk p + 1))) p 0 j = nI (if j = p then 0 else bk j)
        by_cases y : j = p
        · subst y
          rw [upd_at, if_pos rfl]
          rfl
        · rw [upd_ne y, upd_ne y, if_neg y]
          exact h97 j hj) (fun j hj => by
        unfold setD
        split
        · omega
        · exact hb j hj)
      rw [sA_sA, sA_sA] at x1
      refine ⟨g, ?_, fun j hj => ?_⟩
      · unfold nxD
        rw [if_neg z]
        show lp_X12_nextRow_4 m (nI p + -1) (sA (sA S 97 (upd (S.1 97) p (nI (bk p + 1)))) 97 (upd (upd (S.1 97) p (nI (bk p + 1))) p 0)) = _
        rw [sA_sA]
        exact x1
      · unfold nxD
        rw [if_neg z]
        exact x2 j hj
theorem next_m {S : St} {ns N : Nat} {bk : Nat → Nat} (n8 : ns ≤ 8) (hN : N ≤ 3) (c3 : S.1 76 0 = nI ns) (h97 : ∀ j, j < 3 → S.1 97 j = nI (bk j)) (hb : ∀ j, j < 3 → bk j < 8) : ∃ g, r_X12_nextRow S (nI N) = some (if (nxD ns N bk).1 = true then 1 else 0, sA S 97 g) ∧ ∀ j, j < 3 → g j = nI ((nxD ns N bk).2 j) := by
  obtain ⟨g, x1, x2⟩ := lp_next n8 N 4000 S bk hN (by omega) c3 h97 hb
  refine ⟨g, ?_, x2⟩
  unfold r_X12_nextRow
  have x1' : lp_X12_nextRow_4 4000 (nI N - 1) S = some (if (nxD ns N bk).1 = true then 0 else 1, sA S 97 g) := by
    rw [Int32.sub_eq_add_neg]
    exact x1
  refine ob_step x1' ?_
  cases (nxD ns N bk).1 <;> rfl
