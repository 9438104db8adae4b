/-! SUPPERS: a next row depends on its digits alone; powers; a row's worth has bounds -/
theorem nxD_cong {ns : Nat} : ∀ p (a b : Nat → Nat), (∀ j, j < p → a j = b j) → (nxD ns p a).1 = (nxD ns p b).1 ∧ ∀ j, j < p → (nxD ns p a).2 j = (nxD ns p b).2 j
  | 0, _, _, _ => ⟨rfl, fun j h => absurd h (Nat.not_lt_zero j)⟩
  | p + 1, a, b, h => by
    unfold nxD
    rw [h p (Nat.lt_succ_self p)]
    by_cases z : b p + 1 < ns
    · rw [if_pos z, if_pos z]
      refine ⟨rfl, fun j hj => ?_⟩
      show (if j = p then b p + 1 else a j) = if j = p then b p + 1 else b j
      rw [h j hj]
    · rw [if_neg z, if_neg z]
      have e : ∀ j, j < p → setD a p 0 j = setD b p 0 j := by
        intro j hj
        unfold setD
        rw [h j (by omega)]
      have k := nxD_cong (ns := ns) p (setD a p 0) (setD b p 0) e
      refine ⟨k.1, fun j hj => ?_⟩
      by_cases y : j = p
      · subst y
        have far : ∀ q (c : Nat → Nat) i, q ≤ i → (nxD ns q c).2 i = c i := by
          intro q
          induction q with
          | zero => intro c i _; rfl
          | succ q ih =>
            intro c i hi
            unfold nxD
            split
            · exact if_neg (by omega)
            · rw [ih _ i (by omega)]
              exact if_neg (by omega)
        rw [far j _ j (Nat.le_refl _), far j _ j (Nat.le_refl _)]
        unfold setD
        rw [if_pos rfl, if_pos rfl]
      · exact k.2 j (by omega)
theorem p8 {N : Nat} (h3 : N ≤ 3) : (1 : Int32) <<< (((3 : Int32) * nI N) &&& 31) = nI (8 ^ N) ∧ 8 ^ N ≤ 512 := by
  rcases (show N = 0 ∨ N = 1 ∨ N = 2 ∨ N = 3 by omega) with rfl | rfl | rfl | rfl <;> exact ⟨by decide +kernel, by decide⟩
theorem rowW_sm {S : St} {hs : List Hr} {ns nh nd gap : Nat} {KV : Nat → Nat → Int32 → Nat → Int32} {LV : Nat → Nat → Nat → Int32 → Nat → Int32} {tb : Int32} {bk : Nat → Nat} (hL : Lg S hs ns nh KV LV) (d1 : nh ≤ 6) : ∀ v, v ≤ 3 → (∀ j, j < v → bk j < ns) → sm (rowW S LV nh tb nd gap bk v) (18000 * v)
  | 0, _, _ => sm_0 _
  | v + 1, hv, h => by
    have a := rowW_sm (S := S) (nd := nd) (gap := gap) (tb := tb) (bk := bk) hL d1 v (by omega) (fun j hj => h j (by omega))
    have b : sm (WS S LV nh tb nd gap v (bk v) (maskB bk (bk v) v)) 18000 := by
      refine sm_le (sumL_sm (b := 3000) (by omega) (by decide) (fun i hi => ?_)) (by omega)
      exact hL.2.1.1 i (bk v) _ _ _ hi (h v (by omega)) (Nat.min_le_left _ _)
    exact sm_le (sm_add a b (by omega)).1 (by omega)
