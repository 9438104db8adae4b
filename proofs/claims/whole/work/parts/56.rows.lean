/-! copies of rows and orders -/
theorem c_lp_X12_suppers_130 {f1 f2 f3 f4 f6 : Int32} : ∀ n k S, k ≤ 3 → 3 < n + k → lp_X12_suppers_130 f1 f2 f3 f4 f6 n (nI k) (sA S 98 (cp k (S.1 98) (S.1 97))) = some (sA S 98 (cp 3 (S.1 98) (S.1 97))) := by
  intro n
  induction n with
  | zero => intro k S h1 h2; omega
  | succ n ih =>
    intro k S h1 h2
    rw [lp_X12_suppers_130]
    by_cases w : k = 3
    · subst w
      exact if_pos (show (3 : Int32) ≤ nI 3 by decide)
    have hk : k < 3 := by omega
    rw [if_neg (nle_l (k := 3) hk (by decide)), nI_1]
    simp only [gdN hk (show 3 < 2 ^ 31 by decide), nI_clamp (show k < 2 ^ 31 by omega), gdM hk (show k < 2 ^ 31 by omega)]
    have key := ih (k + 1) S (by omega) (by omega)
    have e : (sA (sA S 98 (cp k (S.1 98) (S.1 97))) 98 (upd (cp k (S.1 98) (S.1 97)) k (S.1 97 k))) = sA S 98 (cp (k + 1) (S.1 98) (S.1 97)) := by
      rw [cp_s, sA_sA]
    show lp_X12_suppers_130 f1 f2 f3 f4 f6 n (nI (k + 1)) (sA (sA S 98 (cp k (S.1 98) (S.1 97))) 98 (upd (cp k (S.1 98) (S.1 97)) k (S.1 97 k))) = _
    rw [e]
    exact key
theorem cc_lp_X12_suppers_130 {f1 f2 f3 f4 f6 : Int32} (S : St) : lp_X12_suppers_130 f1 f2 f3 f4 f6 4000 0 S = some (sA S 98 (cp 3 (S.1 98) (S.1 97))) := by
  have := c_lp_X12_suppers_130 (f1 := f1) (f2 := f2) (f3 := f3) (f4 := f4) (f6 := f6) 4000 0 S (by omega) (by omega)
  rw [cp_0, sA_self] at this
  exact this
theorem c_lp_X12_seats_91 {f2 f3 f4 f5 : Int32} : ∀ n k S, k ≤ 6 → 6 < n + k → lp_X12_seats_91 f2 f3 f4 f5 n (nI k) (sA S 100 (cp k (S.1 100) (S.1 99))) = some (sA S 100 (cp 6 (S.1 100) (S.1 99))) := by
  intro n
  induction n with
  | zero => intro k S h1 h2; omega
  | succ n ih =>
    intro k S h1 h2
    rw [lp_X12_seats_91]
    by_cases w : k = 6
    · subst w
      exact if_pos (show (6 : Int32) ≤ nI 6 by decide)
    have hk : k < 6 := by omega
    rw [if_neg (nle_l (k := 6) hk (by decide)), nI_1]
    simp only [gdN hk (show 6 < 2 ^ 31 by decide), nI_clamp (show k < 2 ^ 31 by omega), gdM hk (show k < 2 ^ 31 by omega)]
    have key := ih (k + 1) S (by omega) (by omega)
    have e : (sA (sA S 100 (cp k (S.1 100) (S.1 99))) 100 (upd (cp k (S.1 100) (S.1 99)) k (S.1 99 k))) = sA S 100 (cp (k + 1) (S.1 100) (S.1 99)) := by
      rw [cp_s, sA_sA]
    show lp_X12_seats_91 f2 f3 f4 f5 n (nI (k + 1)) (sA (sA S 100 (cp k (S.1 100) (S.1 99))) 100 (upd (cp k (S.1 100) (S.1 99)) k (S.1 99 k))) = _
    rw [e]
    exact key
theorem cc_lp_X12_seats_91 {f2 f3 f4 f5 : Int32} (S : St) : lp_X12_seats_91 f2 f3 f4 f5 4000 0 S = some (sA S 100 (cp 6 (S.1 100) (S.1 99))) := by
  have := c_lp_X12_seats_91 (f2 := f2) (f3 := f3) (f4 := f4) (f5 := f5) 4000 0 S (by omega) (by omega)
  rw [cp_0, sA_self] at this
  exact this
theorem c_68 {f1 f2 f3 f4 : Int32} : ∀ n k S, k ≤ 3 → 3 < n + k → ∃ g, lp_X12_suppers_68 f1 f2 f3 f4 n (nI k) S = some (sA S 97 g) ∧ (∀ j, k ≤ j → j < 3 → g j = 0) ∧ ∀ j, j < k → g j = S.1 97 j := by
  intro n
  induction n with
  | zero => intro k S h1 h2; omega
  | succ n ih =>
    intro k S h1 h2
    unfold lp_X12_suppers_68
    by_cases w : k = 3
    · subst w
      refine ⟨S.1 97, ?_, fun j a b => by omega, fun _ _ => rfl⟩
      rw [if_pos (show (3 : Int32) ≤ nI 3 by decide), sA_self]
    have hk : k < 3 := by omega
    rw [if_neg (nle_l (k := 3) hk (by decide)), nI_1, gdN hk (by decide), nI_clamp (by omega)]
    obtain ⟨g, x1, x2, x3⟩ := ih (k + 1) (sA S 97 (upd (S.1 97) k 0)) (by omega) (by omega)
    rw [sA_sA] at x1
    refine ⟨g, x1, fun j a b => ?_, fun j a => ?_⟩
    · by_cases z : j = k
      · subst z
        rw [x3 j (by omega)]
        exact upd_at _ _ _
      · exact x2 j (by omega) b
    · rw [x3 j (by omega)]
      exact upd_ne (by omega)
