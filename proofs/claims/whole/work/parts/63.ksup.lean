theorem k_suppers : K20 Inv := by
  intro S hs a1 a2 a3 a4 hI
  obtain ⟨nb, hB, ⟨ns, nh, nd, nf, ne, ⟨⟨c1, c2, c3⟩, ⟨d1, d2, d3⟩, ⟨y1, y2, y3⟩, ⟨f1, f2, f3⟩, ⟨b1, b2, b3⟩, t1, t2⟩, hA, hT, hR, hF, hK, hW⟩, hIm, hTx, hTr, hTp, hHo, hL⟩ := id hI
  by_cases q1 : r_X12_in a4 (-1) 2 = 0
  · refine ⟨-10001, S, S, ?_, ?_, hI⟩
    · unfold r_X11_suppers
      rw [within_in, if_pos q1]
    · unfold r_X12_suppers
      rw [if_pos q1]
  by_cases q2 : r_X12_in a1 0 (((1 : Int32) <<< (nI nh &&& 31)) - 1) = 0
  · refine ⟨-10002, S, S, ?_, ?_, hI⟩
    · unfold r_X11_suppers r_X11_isTable r_X11_everybody
      rw [within_in, d2, if_neg q1, if_pos q2]
    · unfold r_X12_suppers r_X12_isTable
      rw [d3, if_neg q1, if_pos q2]
  by_cases q3 : r_X12_in a2 1 3 = 0
  · refine ⟨-10002, S, S, ?_, ?_, hI⟩
    · unfold r_X11_suppers r_X11_isTable r_X11_everybody
      rw [within_in, d2, if_neg q1, if_neg q2, if_pos q3]
    · unfold r_X12_suppers r_X12_isTable
      rw [d3, if_neg q1, if_neg q2, if_pos q3]
  by_cases q4 : r_X12_in a3 1 30 = 0
  · refine ⟨-10002, S, S, ?_, ?_, hI⟩
    · unfold r_X11_suppers r_X11_isTable r_X11_everybody
      rw [within_in, d2, if_neg q1, if_neg q2, if_neg q3, if_pos q4]
    · unfold r_X12_suppers r_X12_isTable
      rw [d3, if_neg q1, if_neg q2, if_neg q3, if_pos q4]
  by_cases q5 : a2 ≤ a4
  · refine ⟨-10005, S, S, ?_, ?_, hI⟩
    · unfold r_X11_suppers r_X11_isTable r_X11_everybody
      rw [within_in, d2, if_neg q1, if_neg q2, if_neg q3, if_neg q4, if_pos q5]
    · unfold r_X12_suppers r_X12_isTable
      rw [d3, if_neg q1, if_neg q2, if_neg q3, if_neg q4, if_neg (Int32.not_lt.mpr q5)]
      split <;> rfl
  by_cases q6 : nI ns = 0
  · refine ⟨-10005, S, S, ?_, ?_, hI⟩
    · unfold r_X11_suppers r_X11_isTable r_X11_everybody
      rw [within_in, d2, if_neg q1, if_neg q2, if_neg q3, if_neg q4, if_neg q5, c2, if_pos q6]
    · unfold r_X12_suppers r_X12_isTable
      rw [d3, if_neg q1, if_neg q2, if_neg q3, if_neg q4, c3, if_pos q6]
  obtain ⟨N, N1, N3, rfl⟩ := ii_nat (l := 1) (h := 3) (by decide) (by decide) q3
  obtain ⟨gap, -, g30, rfl⟩ := ii_nat (l := 1) (h := 30) (by decide) (by decide) q4
  have hns : 0 < ns := by
    rcases Nat.eq_zero_or_pos ns with z | z
    · subst z
      exact absurd rfl q6
    · exact z
  obtain ⟨KV, LV, hLg⟩ := lg_of hI c3 d3 c1 d1
  obtain ⟨g, gw, hg, hgw⟩ := weigh_s hLg d1 c1 hT.2.2.2 d2 c2 y1 y2 a1 g30 N3
  have hM1 : Mind S (sA (sA S 33 g) 37 gw) := ((Mind.rf S).a rfl g).a rfl gw
  obtain ⟨z, zc, z1, -⟩ := c_68 (f1 := a1) (f2 := nI N) (f3 := nI gap) (f4 := a4) 4000 0 (sA (sA S 33 g) 37 gw) (by omega) (by omega)
  have hB0 : Back S (sA (sA (sA S 33 g) 37 gw) 97 z) := ⟨hM1.a rfl z, rfl, rfl, rfl, rfl⟩
  have d0 : ∀ j, dg 0 N j = 0 := by
    intro j
    unfold dg
    rw [Nat.zero_div]
  obtain ⟨e8, l8⟩ := p8 N3
  have hp8 : 0 < 8 ^ N := Nat.pow_pos (by decide)
  obtain ⟨b', w, S'', u1, u2, u3, u4, u5⟩ := lp_sup (S1 := sA (sA S 33 g) 37 gw) (hs := hs) (tb := a1) (f4 := a4) (f4' := a4) hLg d1 c1 hT.2.2.2 c2 c3 d3 y1 y3 g30 N1 N3 hgw 4000 4000 0 0 (-1000000) 1 0 1 (fun _ => 0) 0 (sA (sA (sA S 33 g) 37 gw) 97 z) hB0 (Nat.zero_le _) (by omega) (by omega) (Or.inl ⟨rfl, rfl⟩) (Or.inr ⟨by decide, 0, Nat.le_refl _, hp8, valD_iff.mpr (fun j _ => by rw [d0]; exact hns), fun i _ b => absurd b (Nat.not_lt_zero _), fun j hj => z1 j (Nat.zero_le _) hj, fun _ _ => by decide, fun j _ => (d0 j).symm⟩)
  refine ⟨if 0 ≤ a4 then r_X11_storyInRow (nI b') (nI N) a4 else w, sA (sA S 33 g) 37 gw, S'', ?_, ?_, hI.mind u4.1 u4.2.1 u4.2.2.1 u4.2.2.2.1 u4.2.2.2.2⟩
  · unfold r_X11_suppers r_X11_isTable r_X11_everybody
    rw [within_in, d2, if_neg q1, if_neg q2, if_neg q3, if_neg q4, if_neg q5, c2, if_neg q6]
    refine ob_step hg (ob_step u2 ?_)
    split <;> rfl
  · unfold r_X12_suppers r_X12_isTable
    show (if r_X12_in a4 (-1) 2 = 0 then _ else if r_X12_in a1 0 (((1 : Int32) <<< (S.1 76 1 &&& 31)) - 1) = 0 then _ else if r_X12_in (nI N) 1 3 = 0 then _ else if r_X12_in (nI gap) 1 30 = 0 then _ else if S.1 76 0 = 0 then _ else if a4 < nI N then _ else _) = _
    rw [d3, if_neg q1, if_neg q2, if_neg q3, if_neg q4, c3, if_neg q6, if_pos (Int32.not_le.mp q5)]
    refine ob_step zc (ob_step u3 ?_)
    by_cases y : 0 ≤ a4
    · rw [if_pos y, if_pos y]
      obtain ⟨-, h2⟩ := ii_yes q1
      obtain ⟨k, -, k2, rfl⟩ := ii_nat (a := a4) (l := 0) (h := 2) (by decide) (by decide) (ii_of y h2)
      have kN : k < N := by
        refine Nat.lt_of_not_le fun v => q5 ((nI_leI (by omega) (by omega)).mpr v)
      rw [gdN (show k < 3 by omega) (by decide), nI_clamp (by omega), row_dg b' u1 N (by omega) k (by omega) kN, u5 k kN]
    · rw [if_neg y, if_neg y]
