/-! SUPPERS: both loops -/
theorem lp_sup {S S1 : St} {hs : List Hr} {ns nh nd gap N : Nat} {KV : Nat → Nat → Int32 → Nat → Int32} {LV : Nat → Nat → Nat → Int32 → Nat → Int32} {tb f4 f4' : Int32} (hL : Lg S hs ns nh KV LV) (d1 : nh ≤ 6) (n8 : ns ≤ 8) (hT4 : ∀ i, i < 48 → ∃ k, k ≤ 999 ∧ S.1 82 i = nI k) (c2 : S1.1 8 2 = nI ns) (c3 : S.1 76 0 = nI ns) (d3 : S.1 76 1 = nI nh) (y1 : nd ≤ 9999) (y3 : S.1 76 2 = nI nd) (hg30 : gap ≤ 30) (hN1 : 1 ≤ N) (hN : N ≤ 3) (h37 : ∀ u s j, u < N → s < ns → j < 2 ^ u → S1.1 37 (4 * (8 * u + s) + j) = WS S LV nh tb nd gap u s j) : ∀ n m r (c5 c6 f v6 v7 : Int32) (cur : Nat → Nat) (b : Nat) S', Back S S' → r ≤ 8 ^ N → 8 ^ N < n + r → 8 ^ N < m + r → ((f = 1 ∧ c6 = -1000000) ∨ (f = 0 ∧ c6 = v6 ∧ c5 = nI b ∧ b < 512 ∧ (-1000000 : Int32) ≤ c6 ∧ ∀ j, j < N → S'.1 98 j = nI (dg b N j))) → ((v7 = 0 ∧ f = 0 ∧ ∀ i, r ≤ i → i < 8 ^ N → valD ns N i = false) ∨ (¬ v7 = 0 ∧ ∃ p, r ≤ p ∧ p < 8 ^ N ∧ valD ns N p = true ∧ (∀ i, r ≤ i → i < p → valD ns N i = false) ∧ (∀ j, j < 3 → S'.1 97 j = nI (cur j)) ∧ (∀ j, j < 3 → cur j < 8) ∧ ∀ j, j < N → cur j = dg p N j)) → ∃ b' w S'', b' < 512 ∧ lp_X11_suppers_82 S1 hs (nI N) f4 n c5 c6 (nI r) = some (nI b', w) ∧ lp_X12_suppers_97 tb (nI N) (nI gap) f4' m f v6 v7 S' = some (w, S'') ∧ Back S S'' ∧ ∀ j, j < N → S''.1 98 j = nI (dg b' N j) := by
  obtain ⟨e8, l8⟩ := p8 hN
  intro n
  induction n with
  | zero => intro m r c5 c6 f v6 v7 cur b S' _ h1 h2; omega
  | succ n ih =>
    intro m r c5 c6 f v6 v7 cur b S' hB h1 h2 h3 hR hP
    obtain ⟨m, rfl⟩ : ∃ m', m = m' + 1 := ⟨m - 1, by omega⟩
    unfold lp_X11_suppers_82
    rw [e8]
    by_cases w : r = 8 ^ N
    · rcases hP with ⟨k1, k2, -⟩ | ⟨-, p, k1, k2, -⟩
      · rcases hR with ⟨k, -⟩ | ⟨-, rfl, rfl, k3, -, k4⟩
        · rw [k2] at k
          exact absurd k (by decide)
        · refine ⟨b, c6, S', k3, if_pos (by rw [w]; exact nI_le (Nat.le_refl _) (by omega)), ?_, hB, k4⟩
          rw [lp_X12_suppers_97]
          exact if_pos k1
      · omega
    have hr : r < 8 ^ N := by omega
    obtain ⟨g1, g2⟩ := worth_c (S := S) (S1 := S1) (nh := nh) (nd := nd) (gap := gap) (LV := LV) (tb := tb) n8 (show r < 512 by omega) (show N < 4 by omega) c2 h37
    have hlow : (-1000000 : Int32) ≤ c6 := by
      rcases hR with ⟨-, rfl⟩ | ⟨-, -, -, -, k, -⟩
      · decide
      · exact k
    by_cases hv : valD ns N r = true
    rotate_left
    · have hvf : valD ns N r = false := by
        cases q : valD ns N r
        · rfl
        · exact absurd q hv
      have hex : ∃ j, j < N ∧ ns ≤ dg r N j := by
        refine Classical.byContradiction fun q => hv (valD_iff.mpr fun j hj => ?_)
        refine Nat.lt_of_not_le fun y => q ⟨j, hj, y⟩
      obtain ⟨b', u, S'', u1, u2, u3⟩ := ih (m + 1) (r + 1) c5 c6 f v6 v7 cur b S' hB (by omega) (by omega) (by omega) hR (by
        rcases hP with ⟨k1, k2, k3⟩ | ⟨k0, p, k1, k2, k3, k4, k5⟩
        · exact Or.inl ⟨k1, k2, fun i a => k3 i (by omega)⟩
        · refine Or.inr ⟨k0, p, ?_, k2, k3, fun i a => k4 i (by omega), k5⟩
          by_cases y : r = p
          · subst y
            rw [k3] at hvf
            cases hvf
          · omega)
      refine ⟨b', u, S'', u1, ?_, u3⟩
      refine (if_neg (nI_ge hr (by omega))).trans (ob_step (g2 hex) ?_)
      refine (if_pos hlow).trans ?_
      rw [nI_1]
      exact u2
    · rcases hP with ⟨-, -, k3⟩ | ⟨k0, p, k1, k2, k3, k4, k5, k6, k7⟩
      · rw [k3 r (Nat.le_refl _) hr] at hv
        cases hv
      have hpr : p = r := by
        by_cases y : r < p
        · have := k4 r (Nat.le_refl _) y
          rw [hv] at this
          cases this
        · omega
      subst hpr
      have hW := g1 (valD_iff.mp hv)
      have eW : rowW S LV nh tb nd gap cur N = rowW S LV nh tb nd gap (dg p N) N := rowW_cong N k7
      obtain ⟨nc1, nc2⟩ := nxD_cong (ns := ns) N cur (dg p N) k7
      obtain ⟨t1, t2⟩ := chk_use n8 hN1 hN hr hv
      have hsmW := rowW_sm (S := S) (nd := nd) (gap := gap) (tb := tb) (bk := dg p N) hL d1 N hN (valD_iff.mp hv)
      have hgt : (-1000000 : Int32) < rowW S LV nh tb nd gap (dg p N) N := Int32.lt_iff_toInt_lt.mpr (by
        have : (-1000000 : Int32).toInt = -1000000 := by decide
        have := hsmW.1
        omega)
      obtain ⟨S2, s1, s2, s3⟩ := sup_step (m := m) (f := f) (v6 := v6) (v7 := v7) (f4 := f4') (tb := tb) hL d1 n8 hT4 c3 d3 y1 y3 hg30 hN k6 hB k5 k0
      rw [eW, nc1] at s3
      have pend : ∀ f', f' = (0 : Int32) → (((if (nxD ns N (dg p N)).1 = true then (1 : Int32) else 0) = 0 ∧ f' = 0 ∧ ∀ i, p + 1 ≤ i → i < 8 ^ N → valD ns N i = false) ∨ (¬ (if (nxD ns N (dg p N)).1 = true then (1 : Int32) else 0) = 0 ∧ ∃ p', p + 1 ≤ p' ∧ p' < 8 ^ N ∧ valD ns N p' = true ∧ (∀ i, p + 1 ≤ i → i < p' → valD ns N i = false) ∧ (∀ j, j < 3 → S2.1 97 j = nI ((nxD ns N cur).2 j)) ∧ (∀ j, j < 3 → (nxD ns N cur).2 j < 8) ∧ ∀ j, j < N → (nxD ns N cur).2 j = dg p' N j)) := by
        intro f' hf'
        cases q : (nxD ns N (dg p N)).1 with
        | false => exact Or.inl ⟨rfl, hf', fun i a c => t2 q i (by omega) c⟩
        | true =>
          obtain ⟨p', a1, a2, a3, a4, a5⟩ := t1 q
          exact Or.inr ⟨by decide, p', a1, a2, a3, fun i a c => a4 i (by omega) c, s2, nxD_lt n8 N cur k6, fun j hj => (nc2 j hj).trans (a5 j hj).symm⟩
      rcases s3 with ⟨rfl, a2, a3, a4⟩ | ⟨a1, a3, a4⟩
      · rcases hR with ⟨k, -⟩ | ⟨-, rfl, rfl, z3, z4, z5⟩
        · exact absurd k (by decide)
        obtain ⟨b', u, S'', u1, u2, u3, u4⟩ := ih m (p + 1) (nI b) c6 0 c6 _ (nxD ns N cur).2 b S2 s1 (by omega) (by omega) (by omega) (Or.inr ⟨rfl, rfl, rfl, z3, z4, fun j hj => by rw [a4]; exact z5 j hj⟩) (pend 0 rfl)
        refine ⟨b', u, S'', u1, ?_, a3.trans u3, u4⟩
        refine (if_neg (nI_ge hr (by omega))).trans (ob_step hW ?_)
        refine (if_pos a2).trans ?_
        rw [nI_1]
        exact u2
      · obtain ⟨b', u, S'', u1, u2, u3, u4⟩ := ih m (p + 1) (nI p) (rowW S LV nh tb nd gap (dg p N) N) 0 (rowW S LV nh tb nd gap (dg p N) N) _ (nxD ns N cur).2 p S2 s1 (by omega) (by omega) (by omega) (Or.inr ⟨rfl, rfl, rfl, by omega, Int32.le_of_lt hgt, fun j hj => by rw [a4 j (by omega), k7 j hj]⟩) (pend 0 rfl)
        refine ⟨b', u, S'', u1, ?_, a3.trans u3, u4⟩
        refine (if_neg (nI_ge hr (by omega))).trans (ob_step hW ?_)
        have hnle : ¬ rowW S LV nh tb nd gap (dg p N) N ≤ c6 := by
          rcases hR with ⟨-, rfl⟩ | ⟨z1, rfl, -⟩
          · exact Int32.not_le.mpr hgt
          · rcases a1 with a1 | a1
            · exact absurd z1 a1
            · exact Int32.not_le.mpr a1
        refine (if_neg hnle).trans ?_
        rw [nI_1]
        exact u2
