/-! EASY: the calls that neither laugh nor parse -/
theorem k_at : K3 Inv := by
  intro S hs a1 a2 hI
  obtain ⟨nb, hB, ⟨ns, nh, nd, nf, ne, ⟨⟨c1, c2, c3⟩, ⟨d1, d2, d3⟩, ⟨y1, y2, y3⟩, ⟨f1, f2, f3⟩, ⟨b1, b2, b3⟩, t1, t2⟩, hA, hT, hR, hF, hK, hW⟩, hIm, hTx, hTr, hTp, hHo, hL⟩ := id hI
  unfold r_X11_at r_X12_at r_X11_isStory r_X12_isStory
  rw [within_in, c2, c3]
  by_cases q : r_X12_in a1 0 (nI ns - 1) = 0
  · exact ⟨-1, by rw [if_pos q], by rw [if_pos q]⟩
  · obtain ⟨s, h1, rfl⟩ := ii_lt (by omega) q
    simp only [if_neg q, gdM (show s < 8 by omega) (by omega), nI_clamp (show s < 2 ^ 31 by omega)]
    by_cases z0 : a2 = 0
    · simp only [if_pos z0]
      exact ⟨_, rfl, by rw [hA.1 s (by omega)]⟩
    · by_cases z1 : a2 = 1
      · simp only [if_neg z0, if_pos z1]
        exact ⟨_, rfl, by rw [hA.2.1 s (by omega)]⟩
      · simp only [if_neg z0, if_neg z1]
        exact ⟨_, rfl, rfl⟩
theorem k_good : K4 Inv := by
  intro S hs a1 a2 hI
  obtain ⟨nb, hB, ⟨ns, nh, nd, nf, ne, ⟨⟨c1, c2, c3⟩, ⟨d1, d2, d3⟩, ⟨y1, y2, y3⟩, ⟨f1, f2, f3⟩, ⟨b1, b2, b3⟩, t1, t2⟩, hA, hT, hR, hF, hK, hW⟩, hIm, hTx, hTr, hTp, hHo, hL⟩ := id hI
  unfold r_X11_good r_X11_isStory r_X11_isGood
  rw [within_in, c2]
  by_cases q : r_X12_in a1 0 (nI ns - 1) = 0
  · refine ⟨-1, S, S, by rw [if_pos q], ?_, hI⟩
    unfold r_X12_good r_X12_isStory
    rw [c3, if_pos q]
  · by_cases q2 : r_X12_in a2 1 30 = 0
    · refine ⟨-2, S, S, by rw [if_neg q, if_pos q2], ?_, hI⟩
      unfold r_X12_good r_X12_isStory
      rw [c3, if_neg q, if_pos q2]
    · obtain ⟨s, h1, rfl⟩ := ii_lt (by omega) q
      obtain ⟨g, g1, g2, rfl⟩ := ii_nat (l := 1) (h := 30) (by decide) (by decide) q2
      have e8 : s < 8 := by omega
      refine ⟨S.1 9 s, sA S 9 (upd (S.1 9) s (nI g)), sA (sA S 9 (upd (S.1 9) s (nI g))) 77 (upd (S.1 77) s (nI g)), ?_, ?_, ⟨nb, hB, ⟨ns, nh, nd, nf, ne, ⟨⟨c1, c2, c3⟩, ⟨d1, d2, d3⟩, ⟨y1, y2, y3⟩, ⟨f1, f2, f3⟩, ⟨b1, b2, b3⟩, t1, t2⟩, ⟨hA.1.upd s (nI g), hA.2.1, fun j hj => ?_⟩, hT, hR, hF, hK, hW⟩, hIm, hTx, hTr, hTp, hHo, hL⟩⟩
      · simp only [if_neg q, if_neg q2, gdM e8 (by omega), nI_clamp (show s < 2 ^ 31 by omega)]
      · unfold r_X12_good r_X12_isStory
        show (if r_X12_in (nI s) 0 (S.1 76 0 - 1) = 0 then _ else _) = _
        rw [c3]
        simp only [if_neg q, if_neg q2, gdM e8 (by omega), nI_clamp (show s < 2 ^ 31 by omega)]
        show some (S.1 77 s, _) = _
        rw [hA.1 s e8]
        rfl
      · show ∃ k, k ≤ 30 ∧ upd (S.1 77) s (nI g) j = nI k
        by_cases e : j = s
        · subst e
          exact ⟨g, g2, upd_at _ _ _⟩
        · rw [upd_ne e]
          exact hA.2.2 j hj
theorem k_pass : K10 Inv := by
  intro S hs a1 hI
  obtain ⟨nb, hB, ⟨ns, nh, nd, nf, ne, ⟨⟨c1, c2, c3⟩, ⟨d1, d2, d3⟩, ⟨y1, y2, y3⟩, ⟨f1, f2, f3⟩, ⟨b1, b2, b3⟩, t1, t2⟩, hA, hT, hR, hF, hK, hW⟩, hIm, hTx, hTr, hTp, hHo, hL⟩ := id hI
  unfold r_X11_pass r_X12_pass
  rw [within_in]
  by_cases q : r_X12_in a1 0 99 = 0
  · exact ⟨-2, S, S, by rw [if_pos q], by rw [if_pos q], hI⟩
  · obtain ⟨g, g1, g2, rfl⟩ := ii_nat (l := 0) (h := 99) (by decide) (by decide) q
    rw [y2, nI_add, show (9999 : Int32) = nI 9999 from rfl]
    by_cases q2 : nI (nd + g) ≤ nI 9999
    · refine ⟨nI (nd + g), sI S 8 0 (nI (nd + g)), sI (sI S 8 0 (nI (nd + g))) 76 2 (nI (nd + g)), by rw [if_neg q, if_pos q2], ?_, ⟨nb, hB, ⟨ns, nh, nd + g, nf, ne, ⟨⟨c1, c2, c3⟩, ⟨d1, d2, d3⟩, ⟨(nI_leI (by omega) (by decide)).mp q2, rfl, rfl⟩, ⟨f1, f2, f3⟩, ⟨b1, b2, b3⟩, t1, t2⟩, hA, hT, hR, hF, hK, hW⟩, hIm, hTx, hTr, hTp, hHo, hL⟩⟩
      rw [if_neg q]
      show (if S.1 76 2 + nI g ≤ nI 9999 then some (S.1 76 2 + nI g, sI _ 76 2 (S.1 76 2 + nI g)) else _) = _
      rw [y3, nI_add, if_pos q2]
    · refine ⟨-3, S, S, by rw [if_neg q, if_neg q2], ?_, hI⟩
      rw [if_neg q, y3, nI_add, if_neg q2]
theorem k_count : K35 Inv := by
  intro S hs a1 hI
  obtain ⟨nb, hB, ⟨ns, nh, nd, nf, ne, ⟨⟨c1, c2, c3⟩, ⟨d1, d2, d3⟩, ⟨y1, y2, y3⟩, ⟨f1, f2, f3⟩, ⟨b1, b2, b3⟩, t1, t2⟩, hA, hT, hR, hF, hK, hW⟩, hIm, hTx, hTr, hTp, hHo, hL⟩ := id hI
  obtain ⟨n, hn, e1, e2, -⟩ := hTx
  obtain ⟨n2, hn2, e3, e4, -⟩ := hTr
  unfold r_X11_count r_X12_count
  rw [c2, c3, d2, d3, f2, f3, b2, b3, hB.2.1, hB.2.2, e1, e2, e3, e4]
theorem k_book : K27 Inv := by
  intro S hs a1 hI
  obtain ⟨nb, hB, ⟨ns, nh, nd, nf, ne, ⟨⟨c1, c2, c3⟩, ⟨d1, d2, d3⟩, ⟨y1, y2, y3⟩, ⟨f1, f2, f3⟩, ⟨b1, b2, b3⟩, t1, t2⟩, hA, hT, hR, hF, hK, hW⟩, hIm, hTx, hTr, hTp, hHo, hL⟩ := id hI
  by_cases z : a1 = -1
  · refine ⟨0, sI S 8 5 0, sI (sI S 8 5 0) 76 40 0, ?_, ?_, ⟨nb, hB, ⟨ns, nh, nd, nf, 0, ⟨⟨c1, c2, c3⟩, ⟨d1, d2, d3⟩, ⟨y1, y2, y3⟩, ⟨f1, f2, f3⟩, ⟨Nat.zero_le _, rfl, rfl⟩, t1, t2⟩, hA, hT, hR, hF, ⟨hK.1, fun k h => absurd h (Nat.not_lt_zero k)⟩, hW⟩, hIm, hTx, hTr, hTp, hHo, hL⟩⟩
    · unfold r_X11_book
      rw [if_pos z]
    · unfold r_X12_book
      rw [if_pos z]
  · by_cases q : r_X12_in a1 0 (nI ns - 1) = 0
    · refine ⟨-1, S, S, ?_, ?_, hI⟩
      · unfold r_X11_book r_X11_isStory
        rw [within_in, c2, if_neg z, if_pos q]
      · unfold r_X12_book r_X12_isStory
        rw [c3, if_neg z, if_pos q]
    · obtain ⟨s, h1, rfl⟩ := ii_lt (by omega) q
      by_cases q2 : ne = 10
      · subst q2
        refine ⟨-4, S, S, ?_, ?_, hI⟩
        · unfold r_X11_book r_X11_isStory
          rw [within_in, c2, if_neg z, if_neg q, b2, if_neg (by decide)]
        · unfold r_X12_book r_X12_isStory
          rw [c3, if_neg z, if_neg q, b3, if_pos (by decide)]
      · have e10 : ne < 10 := by omega
        refine ⟨nI ne + 1, sI (sA S 17 (upd (S.1 17) ne (nI s))) 8 5 (nI ne + 1), sI (sA (sI (sA S 17 (upd (S.1 17) ne (nI s))) 8 5 (nI ne + 1)) 103 (upd (S.1 103) ne (nI s))) 76 40 (nI ne + 1), ?_, ?_, ⟨nb, hB, ⟨ns, nh, nd, nf, ne + 1, ⟨⟨c1, c2, c3⟩, ⟨d1, d2, d3⟩, ⟨y1, y2, y3⟩, ⟨f1, f2, f3⟩, ⟨by omega, (nI_succ ne).symm, (nI_succ ne).symm⟩, t1, t2⟩, hA, hT, hR, hF, ⟨hK.1.upd ne (nI s), fun k hk => ?_⟩, hW⟩, hIm, hTx, hTr, hTp, hHo, hL⟩⟩
        · unfold r_X11_book r_X11_isStory
          rw [within_in, c2, if_neg z, if_neg q, b2, if_pos (lt_l e10 (by decide)), gdN e10 (by decide), nI_clamp (by omega)]
        · unfold r_X12_book r_X12_isStory
          show (if nI s = -1 then _ else if r_X12_in (nI s) 0 (S.1 76 0 - 1) = 0 then _ else if S.1 76 40 = 10 then _ else gd (¬ (S.1 76 40 < 0 ∨ 10 ≤ (S.1 76 40).toNatClampNeg)) (some (S.1 76 40 + 1, sI (sA _ 103 (upd (S.1 103) (S.1 76 40).toNatClampNeg (nI s))) 76 40 (S.1 76 40 + 1)))) = _
          rw [c3, if_neg z, if_neg q, b3, if_neg (ne_l q2 (by omega) (by decide)), gdN e10 (by decide), nI_clamp (by omega)]
        · show ∃ z, z < ns ∧ upd (S.1 103) ne (nI s) k = nI z
          by_cases e : k = ne
          · subst e
            exact ⟨s, h1, upd_at _ _ _⟩
          · rw [upd_ne e]
            exact hK.2 k (by omega)
theorem lp_story {S : St} {ns : Nat} (hn : ns < 8) (e : S.1 76 0 = nI ns) (z : ∀ h, h < 6 → S.1 82 (8 * h + ns) = 0) : ∀ n v, v ≤ 6 → 6 < n + v → lp_X12_story_59 n (nI v) S = some S := by
  intro n
  induction n with
  | zero => intro v h1 h2; omega
  | succ n ih =>
    intro v h1 h2
    show (if 6 ≤ nI v then some S else gd (¬ ((8 * nI v + S.1 76 0) < 0 ∨ 48 ≤ (8 * nI v + S.1 76 0).toNatClampNeg)) (lp_X12_story_59 n (nI v + 1) (sA S 82 (upd (S.1 82) (8 * nI v + S.1 76 0).toNatClampNeg 0)))) = some S
    by_cases q : v = 6
    · subst q
      rw [if_pos (le_l (k := 6) (by omega) (by omega))]
    · rw [if_neg (nle_l (k := 6) (by omega) (by omega)), e, nI_8, gdN (by omega) (by decide), nI_clamp (by omega), upd_same (z v (by omega)), sA_self, nI_1]
      exact ih (v + 1) (by omega) (by omega)
theorem k_story : K0 Inv := by
  intro S hs a1 a2 hI
  obtain ⟨nb, hB, ⟨ns, nh, nd, nf, ne, ⟨⟨c1, c2, c3⟩, ⟨d1, d2, d3⟩, ⟨y1, y2, y3⟩, ⟨f1, f2, f3⟩, ⟨b1, b2, b3⟩, t1, t2⟩, hA, hT, hR, hF, hK, hW⟩, hIm, hTx, hTr, hTp, hHo, hL⟩ := id hI
  by_cases q : r_X12_in a1 1 30 = 0
  · exact ⟨-2, S, S, by unfold r_X11_story r_X11_isGood; rw [within_in, if_pos q], by unfold r_X12_story; rw [if_pos q], hI⟩
  by_cases q2 : r_X12_in a2 1 9 = 0
  · exact ⟨-2, S, S, by unfold r_X11_story r_X11_isGood; rw [within_in, if_neg q, if_pos q2], by unfold r_X12_story; rw [if_neg q, if_pos q2], hI⟩
  by_cases q3 : ns = 8
  · subst q3
    refine ⟨-4, S, S, ?_, ?_, hI⟩
    · unfold r_X11_story r_X11_isGood
      rw [within_in, if_neg q, if_neg q2, c2, if_neg (by decide)]
    · unfold r_X12_story
      rw [if_neg q, if_neg q2, c3, if_pos (by decide)]
  have e8 : ns < 8 := by omega
  obtain ⟨g, g1, g2, rfl⟩ := ii_nat (l := 1) (h := 30) (by decide) (by decide) q
  refine ⟨nI ns, sI (sA (sA S 9 (upd (S.1 9) ns (nI g))) 10 (upd (S.1 10) ns a2)) 8 2 (nI ns + 1), sI (sA (sA (sI (sA (sA S 9 (upd (S.1 9) ns (nI g))) 10 (upd (S.1 10) ns a2)) 8 2 (nI ns + 1)) 77 (upd (S.1 77) ns (nI g))) 78 (upd (S.1 78) ns a2)) 76 0 (nI ns + 1), ?_, ?_, ⟨nb, hB, ⟨ns + 1, nh, nd, nf, ne, ⟨⟨by omega, (nI_succ ns).symm, (nI_succ ns).symm⟩, ⟨d1, d2, d3⟩, ⟨y1, y2, y3⟩, ⟨f1, f2, f3⟩, ⟨b1, b2, b3⟩, t1, t2⟩, ⟨hA.1.upd ns (nI g), hA.2.1.upd ns a2, fun j hj => ?_⟩, ⟨hT.1, hT.2.1, fun h s e1 e2 e3 => hT.2.2.1 h s e1 e2 (by omega), hT.2.2.2⟩, hR, ⟨hF.1, hF.2.1, fun k hk => (hF.2.2 k hk).imp fun s z => ⟨by omega, z.2⟩⟩, ⟨hK.1, fun k hk => (hK.2 k hk).imp fun s z => ⟨by omega, z.2⟩⟩, hW⟩, hIm, hTx, hTr, hTp, hHo, hL⟩⟩
  · unfold r_X11_story r_X11_isGood
    rw [within_in, if_neg q, if_neg q2, c2, if_pos (lt_l e8 (by decide)), gdN e8 (by decide), gdN e8 (by decide), nI_clamp (by omega)]
  · unfold r_X12_story
    show (if r_X12_in (nI g) 1 30 = 0 then _ else if r_X12_in a2 1 9 = 0 then _ else if S.1 76 0 = 8 then _ else gd (¬ (S.1 76 0 < 0 ∨ 8 ≤ (S.1 76 0).toNatClampNeg)) (gd (¬ (S.1 76 0 < 0 ∨ 8 ≤ (S.1 76 0).toNatClampNeg)) ((lp_X12_story_59 4000 0 (sA (sA _ 77 (upd (S.1 77) (S.1 76 0).toNatClampNeg (nI g))) 78 (upd (S.1 78) (S.1 76 0).toNatClampNeg a2))).bind fun q1 => some (((q1.1 76 0) + 1) - 1, sI q1 76 0 ((q1.1 76 0) + 1))))) = _
    rw [if_neg q, if_neg q2, c3, if_neg (ne_l q3 (by omega) (by decide)), gdN e8 (by decide), gdN e8 (by decide), nI_clamp (by omega)]
    have key : ∀ S' : St, S'.1 76 0 = nI ns → S'.1 82 = S.1 82 → lp_X12_story_59 4000 0 S' = some S' := fun S' z1 z2 => lp_story e8 z1 (fun h hh => by rw [z2]; exact hT.2.2.1 h ns hh e8 (Or.inr (Nat.le_refl _))) 4000 0 (by omega) (by omega)
    rw [key]
    · show some ((S.1 76 0 + 1) - 1, sI _ 76 0 (S.1 76 0 + 1)) = _
      rw [sub_one_one, c3]
    · exact c3
    · rfl
  · show ∃ k, k ≤ 30 ∧ upd (S.1 77) ns (nI g) j = nI k
    by_cases e : j = ns
    · subst e
      exact ⟨g, g2, upd_at _ _ _⟩
    · rw [upd_ne e]
      exact hA.2.2 j (by omega)
theorem k_had : K5 Inv := by
  intro S hs a1 a2 a3 hI
  obtain ⟨nb, hB, ⟨ns, nh, nd, nf, ne, ⟨⟨c1, c2, c3⟩, ⟨d1, d2, d3⟩, ⟨y1, y2, y3⟩, ⟨f1, f2, f3⟩, ⟨b1, b2, b3⟩, t1, t2⟩, hA, hT, hR, hF, hK, hW⟩, hIm, hTx, hTr, hTp, hHo, hL⟩ := id hI
  by_cases q : r_X12_in a1 0 (nI nh - 1) = 0
  · refine ⟨-1, S, S, ?_, ?_, hI⟩
    · unfold r_X11_had
      rw [at_no d2 q]
    · unfold r_X12_had r_X12_isHearer
      rw [d3, if_pos q]
  obtain ⟨h, hh, rfl⟩ := ii_lt (by omega) q
  obtain ⟨k, v, k6, v9, ek, ev, hat⟩ := at_yes d1 d2 hW hh
  by_cases q1 : r_X12_in a2 0 (nI ns - 1) = 0
  · refine ⟨-1, S, S, ?_, ?_, hI⟩
    · unfold r_X11_had r_X11_isStory
      rw [hat, within_in, c2, if_pos q1]
    · unfold r_X12_had r_X12_isHearer r_X12_isStory
      rw [d3, if_neg q, c3, if_pos q1]
  obtain ⟨s, hsn, rfl⟩ := ii_lt (by omega) q1
  by_cases q2 : r_X12_in a3 0 99 = 0
  · refine ⟨-2, S, S, ?_, ?_, hI⟩
    · unfold r_X11_had r_X11_isStory
      rw [hat, within_in, c2, if_neg q1, if_pos q2]
    · unfold r_X12_had r_X12_isHearer r_X12_isStory
      rw [d3, if_neg q, c3, if_neg q1, if_pos q2]
  obtain ⟨g, g1, g2, rfl⟩ := ii_nat (l := 0) (h := 99) (by decide) (by decide) q2
  have e48 : 8 * h + s < 48 := by omega
  refine ⟨S.1 12 (8 * h + s), sA (sA S 12 (upd (S.1 12) (8 * h + s) (nI g))) 13 (upd (S.1 13) (8 * h + s) (S.1 8 0)), sA (sA (sA (sA S 12 (upd (S.1 12) (8 * h + s) (nI g))) 13 (upd (S.1 13) (8 * h + s) (S.1 8 0))) 82 (upd (S.1 82) (8 * h + s) (nI g))) 83 (upd (S.1 83) (8 * h + s) (S.1 76 2)), ?_, ?_, ⟨nb, hB, ⟨ns, nh, nd, nf, ne, ⟨⟨c1, c2, c3⟩, ⟨d1, d2, d3⟩, ⟨y1, y2, y3⟩, ⟨f1, f2, f3⟩, ⟨b1, b2, b3⟩, t1, t2⟩, hA, ⟨hT.1.upd _ _, ?_, ?_, ?_⟩, hR, hF, hK, hW⟩, hIm, hTx, hTr, hTp, hHo, hL⟩⟩
  · unfold r_X11_had r_X11_isStory
    rw [hat, within_in, c2, if_neg q1, if_neg q2]
    unfold r_X11_timesOf r_X11_setHad
    rw [nI_8', gdN e48 (by decide), gdN e48 (by decide), gdN e48 (by decide), nI_clamp (by omega)]
    rfl
  · unfold r_X12_had r_X12_isHearer r_X12_isStory
    show (if r_X12_in (nI h) 0 (S.1 76 1 - 1) = 0 then _ else if r_X12_in (nI s) 0 (S.1 76 0 - 1) = 0 then _ else if r_X12_in (nI g) 0 99 = 0 then _ else _) = _
    rw [d3, if_neg q, c3, if_neg q1, if_neg q2, nI_8, gdN e48 (by decide), gdN e48 (by decide), gdN e48 (by decide), nI_clamp (by omega)]
    show some (S.1 82 (8 * h + s), _) = _
    rw [hT.1 _ e48]
    rfl
  · show EqB 48 (upd (S.1 13) (8 * h + s) (S.1 8 0)) (upd (S.1 83) (8 * h + s) (S.1 76 2))
    rw [y2, y3]
    exact hT.2.1.upd _ _
  · intro h' s' e1 e2 e3
    show upd (S.1 82) (8 * h + s) (nI g) (8 * h' + s') = 0
    rw [upd_ne (by omega)]
    exact hT.2.2.1 h' s' e1 e2 e3
  · intro i hi
    show ∃ k, k ≤ 999 ∧ upd (S.1 82) (8 * h + s) (nI g) i = nI k
    by_cases e : i = 8 * h + s
    · subst e
      exact ⟨g, by omega, upd_at _ _ _⟩
    · rw [upd_ne e]
      exact hT.2.2.2 i hi
theorem inst9 : ∀ k, k ≤ 6 → ((bif instB 9 (kC (nI k)) then (1 : Int32) else 0) = 0 ↔ k ≠ 6) := by decide +kernel
theorem k_row : K6 Inv := by
  intro S hs a1 a2 a3 hI
  obtain ⟨nb, hB, ⟨ns, nh, nd, nf, ne, ⟨⟨c1, c2, c3⟩, ⟨d1, d2, d3⟩, ⟨y1, y2, y3⟩, ⟨f1, f2, f3⟩, ⟨b1, b2, b3⟩, t1, t2⟩, hA, hT, hR, hF, hK, hW⟩, hIm, hTx, hTr, hTp, hHo, hL⟩ := id hI
  by_cases q : r_X12_in a1 0 (nI nh - 1) = 0
  · refine ⟨-1, S, S, ?_, ?_, hI⟩
    · unfold r_X11_row
      rw [at_no d2 q]
    · unfold r_X12_row r_X12_isHearer
      rw [d3, if_pos q]
  obtain ⟨h, hh, rfl⟩ := ii_lt (by omega) q
  obtain ⟨k, v, k6, v9, ek, ev, hat⟩ := at_yes d1 d2 hW hh
  by_cases q1 : r_X12_in a2 0 3 = 0
  · refine ⟨-1, S, S, ?_, ?_, hI⟩
    · unfold r_X11_row
      rw [hat, within_in, if_pos q1]
    · unfold r_X12_row r_X12_isHearer
      rw [d3, if_neg q, if_pos q1]
  obtain ⟨p, p1, p3, rfl⟩ := ii_nat (l := 0) (h := 3) (by decide) (by decide) q1
  by_cases q2 : r_X12_in a3 1 9 = 0
  · refine ⟨-2, S, S, ?_, ?_, hI⟩
    · unfold r_X11_row
      rw [hat, within_in, if_neg q1, if_pos q2]
    · unfold r_X12_row r_X12_isHearer
      rw [d3, if_neg q, if_neg q1, if_pos q2]
  obtain ⟨g, g1, g2, rfl⟩ := ii_nat (l := 1) (h := 9) (by decide) (by decide) q2
  by_cases q3 : k = 6
  · have e24 : 4 * h + p < 24 := by omega
    refine ⟨S.1 14 (4 * h + p), sA S 14 (upd (S.1 14) (4 * h + p) (nI g)), sA (sA S 14 (upd (S.1 14) (4 * h + p) (nI g))) 81 (upd (S.1 81) (4 * h + p) (nI g)), ?_, ?_, ⟨nb, hB, ⟨ns, nh, nd, nf, ne, ⟨⟨c1, c2, c3⟩, ⟨d1, d2, d3⟩, ⟨y1, y2, y3⟩, ⟨f1, f2, f3⟩, ⟨b1, b2, b3⟩, t1, t2⟩, hA, hT, ⟨?_, ?_, ?_⟩, hF, hK, hW⟩, hIm, hTx, hTr, hTp, hHo, hL⟩⟩
    · unfold r_X11_row
      rw [hat, within_in, if_neg q1, if_neg q2, if_neg (fun z => (inst9 k k6).mp z q3), nI_4', gdN e24 (by decide), gdN e24 (by decide), nI_clamp (by omega)]
    · unfold r_X12_row r_X12_isHearer
      show (if r_X12_in (nI h) 0 (S.1 76 1 - 1) = 0 then _ else if r_X12_in (nI p) 0 3 = 0 then _ else if r_X12_in (nI g) 1 9 = 0 then _ else gd _ (if S.1 79 (nI h).toNatClampNeg = 6 then _ else _)) = _
      rw [d3, if_neg q, if_neg q1, if_neg q2, gdN (show h < 6 by omega) (by decide), nI_clamp (show h < 2 ^ 31 by omega), ek, q3, if_pos (by decide), nI_4, gdN e24 (by decide), gdN e24 (by decide), nI_clamp (by omega)]
      show some (S.1 81 (4 * h + p), _) = _
      rw [hR.1 _ (by omega)]
      rfl
    · intro i hi
      show upd (S.1 14) (4 * h + p) (nI g) i = upd (S.1 81) (4 * h + p) (nI g) i
      by_cases e : i = 4 * h + p
      · subst e
        rw [upd_at, upd_at]
      · rw [upd_ne e, upd_ne e]
        exact hR.1 i hi
    · intro i hi
      show ∃ k, 1 ≤ k ∧ k ≤ 9 ∧ upd (S.1 81) (4 * h + p) (nI g) i = nI k
      by_cases e : i = 4 * h + p
      · subst e
        exact ⟨g, g1, g2, upd_at _ _ _⟩
      · rw [upd_ne e]
        exact hR.2.1 i hi
    · intro i hi h24
      show upd (S.1 14) (4 * h + p) (nI g) i = 1
      rw [upd_ne (by omega)]
      exact hR.2.2 i hi h24
  · refine ⟨-3, S, S, ?_, ?_, hI⟩
    · unfold r_X11_row
      rw [hat, within_in, if_neg q1, if_neg q2, if_pos ((inst9 k k6).mpr q3)]
    · unfold r_X12_row r_X12_isHearer
      rw [d3, if_neg q, if_neg q1, if_neg q2, gdN (show h < 6 by omega) (by decide), nI_clamp (show h < 2 ^ 31 by omega), ek, if_neg (ne_l q3 (by omega) (by decide))]
theorem nar_b : ∀ c, c ≤ 127 → vp_nar .byte (nI c).toInt8.toInt32 = nI c := by decide +kernel
theorem k_feed : K7 Inv := by
  intro S hs a1 hI
  obtain ⟨nb, hB, ⟨ns, nh, nd, nf, ne, ⟨⟨c1, c2, c3⟩, ⟨d1, d2, d3⟩, ⟨y1, y2, y3⟩, ⟨f1, f2, f3⟩, ⟨b1, b2, b3⟩, t1, t2⟩, hA, hT, hR, hF, hK, hW⟩, hIm, hTx, hTr, hTp, hHo, hL⟩ := id hI
  obtain ⟨n, x1, x2, x3, x4⟩ := hTx
  by_cases q : r_X12_in a1 0 127 = 0
  · refine ⟨-2, S, S, ?_, ?_, hI⟩
    · unfold r_X11_feed
      rw [within_in, if_pos q]
    · unfold r_X12_feed
      rw [if_pos q]
  obtain ⟨g, g1, g2, rfl⟩ := ii_nat (l := 0) (h := 127) (by decide) (by decide) q
  by_cases q2 : n = 100
  · subst q2
    refine ⟨-4, S, S, ?_, ?_, hI⟩
    · unfold r_X11_feed
      rw [within_in, if_neg q, x2, if_neg (by decide)]
    · unfold r_X12_feed
      rw [if_neg q, x3, if_pos (by decide)]
  have e100 : n < 100 := by omega
  refine ⟨nI n + 1, sI (sA S 28 (upd (S.1 28) n (nI g))) 7 4 (nI n + 1), sI (sA (sI (sA S 28 (upd (S.1 28) n (nI g))) 7 4 (nI n + 1)) 84 (upd (S.1 84) n (nI g))) 76 12 (nI n + 1), ?_, ?_, ⟨nb, hB, ⟨ns, nh, nd, nf, ne, ⟨⟨c1, c2, c3⟩, ⟨d1, d2, d3⟩, ⟨y1, y2, y3⟩, ⟨f1, f2, f3⟩, ⟨b1, b2, b3⟩, t1, t2⟩, hA, hT, hR, hF, hK, hW⟩, hIm, ⟨n + 1, by omega, (nI_succ n).symm, (nI_succ n).symm, ?_⟩, hTr, hTp, hHo, hL⟩⟩
  · unfold r_X11_feed
    rw [within_in, if_neg q, x2, if_pos (lt_l e100 (by decide)), gdN e100 (by decide), nI_clamp (by omega), nar_b g g2]
  · unfold r_X12_feed
    show (if r_X12_in (nI g) 0 127 = 0 then _ else if S.1 76 12 = 100 then _ else gd (¬ (S.1 76 12 < 0 ∨ 100 ≤ (S.1 76 12).toNatClampNeg)) (some (S.1 76 12 + 1, sI (sA _ 84 (upd (S.1 84) (S.1 76 12).toNatClampNeg (nI g))) 76 12 (S.1 76 12 + 1)))) = _
    rw [if_neg q, x3, if_neg (ne_l q2 (by omega) (by decide)), gdN e100 (by decide), nI_clamp (by omega)]
  · intro i hi
    show ∃ c, c ≤ 127 ∧ upd (S.1 28) n (nI g) i = nI c ∧ upd (S.1 84) n (nI g) i = nI c
    by_cases e : i = n
    · subst e
      exact ⟨g, g2, upd_at _ _ _, upd_at _ _ _⟩
    · rw [upd_ne e, upd_ne e]
      exact x4 i (by omega)
