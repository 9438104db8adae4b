/-! SUPPERS: one row of the model's loop -/
theorem Back.a {S S' : St} (h : Back S S') {k : Nat} (hk : mindL.elem k = true) (h1 : k ≠ 82) (h2 : k ≠ 83) (g : Nat → Int32) : Back S (sA S' k g) := by
  have h76 : (76 : Nat) ≠ k := fun z => by rw [← z] at hk; exact absurd hk (by decide)
  refine ⟨h.1.a hk g, ?_, ?_, ?_, ?_⟩
  · rw [sA_ne (fun z => h1 z.symm)]; exact h.2.1
  · rw [sA_ne (fun z => h2 z.symm)]; exact h.2.2.1
  · rw [sA_ne h76]; exact h.2.2.2.1
  · rw [sA_ne h76]; exact h.2.2.2.2
theorem sup_step {S : St} {hs : List Hr} {ns nh nd gap N : Nat} {KV : Nat → Nat → Int32 → Nat → Int32} {LV : Nat → Nat → Nat → Int32 → Nat → Int32} {cur : Nat → Nat} {tb f4 : Int32} (hL : Lg S hs ns nh KV LV) (d1 : nh ≤ 6) (n8 : ns ≤ 8) (hT4 : ∀ i, i < 48 → ∃ k, k ≤ 999 ∧ S.1 82 i = nI k) (c3 : S.1 76 0 = nI ns) (d3 : S.1 76 1 = nI nh) (y1 : nd ≤ 9999) (y3 : S.1 76 2 = nI nd) (hg30 : gap ≤ 30) (hN : N ≤ 3) (hb8 : ∀ j, j < 3 → cur j < 8) {S' : St} (hB : Back S S') (h97 : ∀ j, j < 3 → S'.1 97 j = nI (cur j)) {m : Nat} {f v6 v7 : Int32} (h7 : ¬ v7 = 0) : ∃ S'', Back S S'' ∧ (∀ j, j < 3 → S''.1 97 j = nI ((nxD ns N cur).2 j)) ∧ ((f = 0 ∧ rowW S LV nh tb nd gap cur N ≤ v6 ∧ lp_X12_suppers_97 tb (nI N) (nI gap) f4 (m + 1) f v6 v7 S' = lp_X12_suppers_97 tb (nI N) (nI gap) f4 m 0 v6 (if (nxD ns N cur).1 = true then 1 else 0) S'' ∧ S''.1 98 = S'.1 98) ∨ ((¬ f = 0 ∨ v6 < rowW S LV nh tb nd gap cur N) ∧ lp_X12_suppers_97 tb (nI N) (nI gap) f4 (m + 1) f v6 v7 S' = lp_X12_suppers_97 tb (nI N) (nI gap) f4 m 0 (rowW S LV nh tb nd gap cur N) (if (nxD ns N cur).1 = true then 1 else 0) S'' ∧ ∀ j, j < 3 → S''.1 98 j = nI (cur j))) := by
  obtain ⟨S2, x1, hB2, e97, e98⟩ := asRow_m tb hL d1 hT4 d3 y1 y3 hg30 hN (fun j hj => hb8 j (by omega)) hB (fun j hj => h97 j (by omega))
  have take : ∃ S'', Back S S'' ∧ (∀ j, j < 3 → S''.1 97 j = nI ((nxD ns N cur).2 j)) ∧ (∀ j, j < 3 → S''.1 98 j = nI (cur j)) ∧ ((lp_X12_suppers_130 tb (nI N) (nI gap) f4 (rowW S LV nh tb nd gap cur N) 4000 0 S2).bind fun q6 => (r_X12_nextRow q6 (nI N)).bind fun q7 => lp_X12_suppers_97 tb (nI N) (nI gap) f4 m 0 (rowW S LV nh tb nd gap cur N) q7.1 q7.2) = lp_X12_suppers_97 tb (nI N) (nI gap) f4 m 0 (rowW S LV nh tb nd gap cur N) (if (nxD ns N cur).1 = true then 1 else 0) S'' := by
    have hB3 := hB2.a (k := 98) rfl (by decide) (by decide) (cp 3 (S2.1 98) (S2.1 97))
    obtain ⟨g, z1, z2⟩ := next_m (S := sA S2 98 (cp 3 (S2.1 98) (S2.1 97))) (bk := cur) n8 hN (by rw [hB3.1.2.1 0 rfl]; exact c3) (fun j hj => by
      show S2.1 97 j = _
      rw [e97]
      exact h97 j hj) hb8
    refine ⟨sA (sA S2 98 (cp 3 (S2.1 98) (S2.1 97))) 97 g, hB3.a rfl (by decide) (by decide) g, z2, fun j hj => ?_, ?_⟩
    · show cp 3 (S2.1 98) (S2.1 97) j = _
      rw [cp_eq 3 _ _ j hj, e97]
      exact h97 j hj
    · refine ob_step (cc_lp_X12_suppers_130 S2) ?_
      exact ob_step z1 rfl
  by_cases hf : f = 0
  · by_cases hw : rowW S LV nh tb nd gap cur N ≤ v6
    · obtain ⟨g, z1, z2⟩ := next_m (S := S2) (bk := cur) n8 hN (by rw [hB2.1.2.1 0 rfl]; exact c3) (fun j hj => by
        rw [e97]
        exact h97 j hj) hb8
      refine ⟨sA S2 97 g, hB2.a rfl (by decide) (by decide) g, z2, Or.inl ⟨hf, hw, ?_, e98⟩⟩
      rw [lp_X12_suppers_97]
      refine (if_neg h7).trans (ob_step x1 ?_)
      refine (if_pos hf).trans ((if_pos hw).trans ?_)
      exact ob_step z1 rfl
    · obtain ⟨S'', y1', y2', y3', y4'⟩ := take
      refine ⟨S'', y1', y2', Or.inr ⟨Or.inr (Int32.not_le.mp hw), ?_, y3'⟩⟩
      rw [lp_X12_suppers_97]
      refine (if_neg h7).trans (ob_step x1 ?_)
      exact (if_pos hf).trans ((if_neg hw).trans y4')
  · obtain ⟨S'', y1', y2', y3', y4'⟩ := take
    refine ⟨S'', y1', y2', Or.inr ⟨Or.inl hf, ?_, y3'⟩⟩
    rw [lp_X12_suppers_97]
    refine (if_neg h7).trans (ob_step x1 ?_)
    exact (if_neg hf).trans y4'
