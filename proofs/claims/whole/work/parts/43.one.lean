/-! ONE: of, guess, tell -/
theorem kn_one {S : St} {KV : Nat → Nat → Int32 → Nat → Int32} {nh s d h : Nat} (h6 : nh ≤ 6) (hh : h < nh) : KN S KV nh s ((1 : Int32) <<< (nI h &&& 31)) d = 0 ↔ KV h (tmO (S.1 82) h s) (S.1 83 (8 * h + s)) d = 0 := by
  have hk : KN S KV nh s ((1 : Int32) <<< (nI h &&& 31)) d = nI (orS (fun j => tbl ((1 : Int32) <<< (nI h &&& 31)) j && !decide (KV j (tmO (S.1 82) j s) (S.1 83 (8 * j + s)) d = 0)) nh) := orK_S _ nh (by omega)
  have hlt := orS_lt (fun j => tbl ((1 : Int32) <<< (nI h &&& 31)) j && !decide (KV j (tmO (S.1 82) j s) (S.1 83 (8 * j + s)) d = 0)) nh
  have h64 : 2 ^ nh ≤ 2 ^ 6 := Nat.pow_le_pow_right (by decide) h6
  rw [hk]
  constructor
  · intro z
    have z2 := orS_zero.mp ((nI_eq (a := orS (fun j => tbl ((1 : Int32) <<< (nI h &&& 31)) j && !decide (KV j (tmO (S.1 82) j s) (S.1 83 (8 * j + s)) d = 0)) nh) (b := 0) (by omega) (by omega)).mp z) h hh
    rw [tb_one h (by omega) h (by omega)] at z2
    simpa using z2
  · intro z
    have : orS (fun j => tbl ((1 : Int32) <<< (nI h &&& 31)) j && !decide (KV j (tmO (S.1 82) j s) (S.1 83 (8 * j + s)) d = 0)) nh = 0 := by
      refine orS_zero.mpr fun j hj => ?_
      show (tbl ((1 : Int32) <<< (nI h &&& 31)) j && !decide (KV j (tmO (S.1 82) j s) (S.1 83 (8 * j + s)) d = 0)) = false
      rw [tb_one h (by omega) j (by omega)]
      by_cases e : j = h
      · subst e
        rw [z]
        simp
      · rw [decide_eq_false e]
        rfl
    rw [this]
    rfl
theorem k_of : K2 Inv := by
  intro S hs a1 a2 hI
  obtain ⟨nb, hB, ⟨ns, nh, nd, nf, ne, ⟨⟨c1, c2, c3⟩, ⟨d1, d2, d3⟩, ⟨y1, y2, y3⟩, ⟨f1, f2, f3⟩, ⟨b1, b2, b3⟩, t1, t2⟩, hA, hT, hR, hF, hK, hW⟩, hIm, hTx, hTr, hTp, hHo, hL⟩ := id hI
  by_cases q : r_X12_in a1 0 (nI nh - 1) = 0
  · refine ⟨-1, S, S, ?_, ?_, hI⟩
    · unfold r_X11_of
      rw [at_no d2 q]
    · unfold r_X12_of r_X12_isHearer
      rw [d3, if_pos q]
  obtain ⟨h, hh, rfl⟩ := ii_lt (by omega) q
  obtain ⟨k, v, k6, v9, ek, ev, hat⟩ := at_yes d1 d2 hW hh
  have h6 : h < 6 := by omega
  by_cases z0 : a2 = 0
  · refine ⟨nI k, S, S, ?_, ?_, hI⟩
    · unfold r_X11_of
      rw [hat, if_pos z0]
    · unfold r_X12_of r_X12_isHearer
      rw [d3, if_neg q, if_pos z0, if_pos z0, gdN h6 (by decide), nI_clamp (by omega), ek]
  by_cases z1 : a2 = 1
  · refine ⟨nI v, S, S, ?_, ?_, hI⟩
    · unfold r_X11_of
      rw [hat, if_neg z0, if_pos z1]
    · unfold r_X12_of r_X12_isHearer
      rw [d3, if_neg q, if_neg z0, if_pos z1, if_neg z0, gdN h6 (by decide), nI_clamp (by omega), ev]
  by_cases q1 : r_X12_in a2 10 39 = 0
  · refine ⟨-1, S, S, ?_, ?_, hI⟩
    · unfold r_X11_of
      rw [hat, within_in, if_neg z0, if_neg z1, if_pos q1]
    · unfold r_X12_of r_X12_isHearer
      rw [d3, if_neg q, if_neg z0, if_neg z1, if_pos q1]
  obtain ⟨w, w1, w2, rfl⟩ := ii_nat (l := 10) (h := 39) (by decide) (by decide) q1
  have er : nI w - nI w / 10 * 10 = nI (w % 10) := nI_rem (b := 10) (by omega) (by decide) (by decide)
  have ed : nI w / 10 = nI (w / 10) := nI_div (b := 10) (by omega) (by decide) (by decide)
  by_cases q2 : r_X12_in (nI (w % 10)) 0 (nI ns - 1) = 0
  · refine ⟨-1, S, S, ?_, ?_, hI⟩
    · unfold r_X11_of r_X11_isStory
      rw [hat, within_in, if_neg z0, if_neg z1, if_neg q1, er, c2, if_pos q2]
    · unfold r_X12_of r_X12_isHearer r_X12_isStory
      rw [d3, if_neg q, if_neg z0, if_neg z1, if_neg q1, er, c3, if_pos q2]
  have hsn : w % 10 < ns := by
    obtain ⟨s, hs, e⟩ := ii_lt (by omega) q2
    have := (nI_eq (show w % 10 < 2 ^ 31 by omega) (by omega)).mp e
    omega
  have hs8 : w % 10 < 8 := by omega
  obtain ⟨KV, LV, hL⟩ := lg_of hI c3 d3 c1 d1
  have hTm := TmOk.of hT.2.2.2 d1 hs8
  have eT : S.1 12 (8 * h + w % 10) = S.1 82 (8 * h + w % 10) := hT.1 _ (by omega)
  by_cases c10 : w / 10 = 1
  · refine ⟨S.1 82 (8 * h + w % 10), S, S, ?_, ?_, hI⟩
    · unfold r_X11_of r_X11_isStory
      rw [hat, within_in, if_neg z0, if_neg z1, if_neg q1, er, c2, if_neg q2, ed, if_pos (show nI (w / 10) = 1 by rw [c10]; rfl), times_at (by omega), eT]
      rfl
    · unfold r_X12_of r_X12_isHearer r_X12_isStory
      rw [d3, if_neg q, if_neg z0, if_neg z1, if_neg q1, er, c3, if_neg q2, if_neg (nle_l (k := 20) (by omega) (by decide)), nI_8, gdN (show 8 * h + w % 10 < 48 by omega) (by decide), nI_clamp (by omega)]
  by_cases c20 : w / 10 = 2
  · have hkc := knowers_c hL d1 hT.2.2.2 hT.1 hT.2.1 d2 ((1 : Int32) <<< (nI h &&& 31)) hs8 (show nd < 20000 by omega) (Mind.rf S)
    have hkm := ((hL.2.2 S (Mind.rf S) h hh).1 (w % 10) (tmO (S.1 82) h (w % 10)) nd hs8 (hTm h hh).2 (by omega) (hTm h hh).1 y3).1
    refine ⟨if KV h (tmO (S.1 82) h (w % 10)) (S.1 83 (8 * h + w % 10)) nd = 0 then 0 else 1, S, S, ?_, ?_, hI⟩
    · unfold r_X11_of r_X11_isStory
      rw [hat, within_in, if_neg z0, if_neg z1, if_neg q1, er, c2, if_neg q2, ed, if_neg (show ¬ nI (w / 10) = 1 by rw [c20]; decide), if_pos (show nI (w / 10) = 2 by rw [c20]; rfl), y2, hkc]
      show (if _ then _ else _) = _
      by_cases y : KV h (tmO (S.1 82) h (w % 10)) (S.1 83 (8 * h + w % 10)) nd = 0
      · rw [if_pos y, if_pos ((kn_one d1 hh).mpr y)]
      · rw [if_neg y, if_neg (fun z => y ((kn_one d1 hh).mp z))]
    · unfold r_X12_of r_X12_isHearer r_X12_isStory
      rw [d3, if_neg q, if_neg z0, if_neg z1, if_neg q1, er, c3, if_neg q2, if_pos (le_l (k := 20) (by omega) (by omega)), if_neg (nle_l (k := 30) (by omega) (by decide)), hkm]
      show (if _ then _ else _) = _
      split <;> rfl
  · obtain ⟨MV, dT, fT, hv⟩ := hv_of hI
    have hS := hv.b
    obtain ⟨-, -, -, hcg, -, -⟩ := id hv
    obtain ⟨-, -, -, -, -, hmc⟩ := hS S (Mind.rf S)
    obtain ⟨g, hg⟩ := hmc (kC (nI k), nI k, nI h, nI v) (w % 10) (nI (tmO (S.1 82) h (w % 10))) (nI nd) hs8
    obtain ⟨-, -, -, -, hmm, -⟩ := hS (sA S 33 g) ((Mind.rf S).a rfl g)
    obtain ⟨g', hg'⟩ := hmm h (w % 10) _ (facts_m (S' := sA S 33 g) (k := k) (tm := tmO (S.1 82) h (w % 10)) (d := nd) h6 hs8 ek rfl (hTm h hh).1 y3 (hTm h hh).2)
    have eMV : MV (fcC (nI h) (nI k) (S.1 9 (w % 10)) (nI (tmO (S.1 82) h (w % 10))) (nI nd) (w % 10)) = MV (fcT (nI k) (S.1 77 (w % 10)) (nI (tmO (S.1 82) h (w % 10))) (nI nd) h (w % 10)) := by
      refine hcg _ _ fun l hl => ?_
      rw [hA.1 _ hs8]
      match l, hl with
      | 0, _ => rfl
      | 1, _ => rfl
      | 2, _ => rfl
      | 3, _ => rfl
      | 4, _ => rfl
      | 5, _ => rfl
      | l + 6, h => exact absurd h (by omega)
    refine ⟨(1000 : Int32) + MV (fcT (nI k) (S.1 77 (w % 10)) (nI (tmO (S.1 82) h (w % 10))) (nI nd) h (w % 10)), sA S 33 g, sA (sA S 33 g) 93 g', ?_, ?_, hI.sc g g'⟩
    · unfold r_X11_of r_X11_isStory
      rw [hat, within_in, if_neg z0, if_neg z1, if_neg q1, er, c2, if_neg q2, ed, if_neg (ne_l (k := 1) c10 (by omega) (by decide)), if_neg (ne_l (k := 2) c20 (by omega) (by decide)), times_at (by omega), eT, (hTm h hh).1, y2]
      show (r_X11_moodThen S (kC (nI k), nI k, nI h, nI v) (nI (w % 10)) (nI (tmO (S.1 82) h (w % 10))) (nI nd)).bind _ = _
      rw [hg]
      show some ((1000 : Int32) + MV (fcC (nI h) (nI k) (S.1 9 (w % 10)) (nI (tmO (S.1 82) h (w % 10))) (nI nd) (w % 10)), _) = _
      rw [eMV]
    · unfold r_X12_of r_X12_isHearer r_X12_isStory
      show (if r_X12_in (nI h) 0 (S.1 76 1 - 1) = 0 then _ else if nI w = 0 then _ else if nI w = 1 then _ else if r_X12_in (nI w) 10 39 = 0 then _ else if r_X12_in (nI w - nI w / 10 * 10) 0 (S.1 76 0 - 1) = 0 then _ else _) = _
      rw [d3, if_neg q, if_neg z0, if_neg z1, if_neg q1, er, c3, if_neg q2, if_pos (le_l (k := 20) (by omega) (by omega)), if_pos (le_l (k := 30) (by omega) (by omega)), hg']
      show some (MV _ + 1000, _) = _
      rw [Int32.add_comm]
      rfl
/-- guess: both loops -/
theorem lp_guess {S : St} {hs : List Hr} {ns nh nf nd h : Nat} {KV : Nat → Nat → Int32 → Nat → Int32} {LV : Nat → Nat → Nat → Int32 → Nat → Int32} (hL : Lg S hs ns nh KV LV) (n8 : ns ≤ 8) (d1 : nh ≤ 6) (hT4 : ∀ i, i < 48 → ∃ k, k ≤ 999 ∧ S.1 82 i = nI k) (y2 : S.1 8 0 = nI nd) (y3 : S.1 76 2 = nI nd) (y1 : nd ≤ 9999) (f1 : nf ≤ 6) (f2 : S.1 8 4 = nI nf) (f3 : S.1 76 37 = nI nf) (hF : CorF (S.1 15) (S.1 16) (S.1 101) (S.1 102) nf ns) (hh : h < nh) : ∀ n k acc S1 S2, Mind S S1 → Mind S S2 → S2.1 82 = S.1 82 → S2.1 83 = S.1 83 → S2.1 76 2 = S.1 76 2 → nf < n + k → k ≤ nf → ∃ v g g', lp_X11_guess_14 hs (nI h) n acc (nI k) S1 = some (v, sA S1 33 g) ∧ lp_X12_guess_14 (nI h) n acc (nI k) S2 = some (v, sA S2 93 g') := by
  intro n
  induction n with
  | zero => intro k _ _ _ _ _ _ _ _ h1 h2; omega
  | succ n ih =>
    intro k acc S1 S2 hM1 hM2 e82 e83 e2 h1 h2
    unfold lp_X11_guess_14 lp_X12_guess_14
    rw [hM1.1 8 (by decide) rfl, f2, hM2.2.1 37 rfl, f3, in_has]
    by_cases w : k = nf
    · subst w
      exact ⟨acc, S1.1 33, S2.1 93, by rw [if_pos (nI_le (Nat.le_refl _) (by omega)), sA_self], by rw [if_pos (nI_le (Nat.le_refl _) (by omega)), sA_self]⟩
    have hk : k < nf := by omega
    have hk6 : k < 6 := by omega
    obtain ⟨s, hs1, es⟩ := hF.2.2 k hk
    have hs8 : s < 8 := by omega
    rw [if_neg (nI_ge (by omega) (by omega)), if_neg (nI_ge (by omega) (by omega)), nI_1]
    simp only [gdN hk6 (show 6 < 2 ^ 31 by decide), nI_clamp (show k < 2 ^ 31 by omega), gdM hk6 (show k < 2 ^ 31 by omega)]
    rw [hM1.1 16 (by decide) rfl, hM1.1 15 (by decide) rfl, hM2.1 101 (by decide) rfl, hM2.1 102 (by decide) rfl, hF.1 k hk6, hF.2.1 k hk6, es, Int32.or_zero]
    have hTm := TmOk.of hT4 d1 hs8
    by_cases q : r_X12_has (S.1 102 k) (nI h) = 0
    · rw [if_pos q, if_pos q]
      exact ih (k + 1) acc S1 S2 hM1 hM2 e82 e83 e2 (by omega) (by omega)
    · rw [if_neg q, if_neg q]
      obtain ⟨g, hg⟩ := (hL.2.2 S1 hM1 h hh).2.2 s nd 0 0 (tmO (S.1 82) h s) hs8 (by omega) (by decide) (hTm h hh).1 (hTm h hh).2
      obtain ⟨g', hg'⟩ := ((hL.2.2 S2 hM2 h hh).1 s (tmO (S.1 82) h s) nd hs8 (hTm h hh).2 (by omega) (by rw [e82]; exact (hTm h hh).1) (e2.trans y3)).2
      rw [if_pos rfl, Nat.add_zero, Nat.min_eq_right (hTm h hh).2] at hg
      unfold r_X11_laughNow
      have hg2 : r_X11_laughThen S1 hs (nI h) (nI s) (S1.1 8 0) 0 0 = some (LV h s (tmO (S.1 82) h s) (S.1 83 (8 * h + s)) nd, sA S1 33 g) := by
        rw [hM1.1 8 (by decide) rfl, y2]
        exact hg
      rw [hg2, hg', e83]
      show ∃ v u u', (if LV h s (tmO (S.1 82) h s) (S.1 83 (8 * h + s)) nd < 0 then _ else _) = _ ∧ (if LV h s (tmO (S.1 82) h s) (S.1 83 (8 * h + s)) nd < 0 then _ else _) = _
      by_cases z : LV h s (tmO (S.1 82) h s) (S.1 83 (8 * h + s)) nd < 0
      · rw [if_pos z, if_pos z]
        obtain ⟨v, u, u', x1, x2⟩ := ih (k + 1) acc (sA S1 33 g) (sA S2 93 g') (hM1.a rfl g) (hM2.a rfl g') e82 e83 e2 (by omega) (by omega)
        rw [sA_sA] at x1 x2
        exact ⟨v, u, u', x1, x2⟩
      · rw [if_neg z, if_neg z]
        obtain ⟨v, u, u', x1, x2⟩ := ih (k + 1) (acc ||| ((1 : Int32) <<< (nI s &&& 31))) (sA S1 33 g) (sA S2 93 g') (hM1.a rfl g) (hM2.a rfl g') e82 e83 e2 (by omega) (by omega)
        rw [sA_sA] at x1 x2
        refine ⟨v, u, u', x1, ?_⟩
        show lp_X12_guess_14 (nI h) n (acc ||| ((1 : Int32) <<< (S2.1 101 k &&& 31))) _ _ = _
        rw [hM2.1 101 (by decide) rfl, es]
        exact x2
theorem k_guess : K24 Inv := by
  intro S hs a1 hI
  obtain ⟨nb, hB, ⟨ns, nh, nd, nf, ne, ⟨⟨c1, c2, c3⟩, ⟨d1, d2, d3⟩, ⟨y1, y2, y3⟩, ⟨f1, f2, f3⟩, ⟨b1, b2, b3⟩, t1, t2⟩, hA, hT, hR, hF, hK, hW⟩, hIm, hTx, hTr, hTp, hHo, hL⟩ := id hI
  by_cases q : r_X12_in a1 0 (nI nh - 1) = 0
  · refine ⟨-1, S, S, ?_, ?_, hI⟩
    · unfold r_X11_guess
      rw [at_no d2 q]
    · unfold r_X12_guess r_X12_isHearer
      rw [d3, if_pos q]
  obtain ⟨h, hh, rfl⟩ := ii_lt (by omega) q
  obtain ⟨k, v, k6, v9, ek, ev, hat⟩ := at_yes d1 d2 hW hh
  obtain ⟨KV, LV, hL⟩ := lg_of hI c3 d3 c1 d1
  obtain ⟨r, g, _, x1, _⟩ := lp_guess hL c1 d1 hT.2.2.2 y2 y3 y1 f1 f2 f3 hF hh 4000 0 0 S S (Mind.rf S) (Mind.rf S) rfl rfl rfl (by omega) (by omega)
  obtain ⟨r', _, g', y1', x2⟩ := lp_guess hL c1 d1 hT.2.2.2 y2 y3 y1 f1 f2 f3 hF hh 4000 0 0 S (sA S 33 g) (Mind.rf S) ((Mind.rf S).a rfl g) rfl rfl rfl (by omega) (by omega)
  have er : r = r' := congrArg Prod.fst (Option.some.inj (x1.symm.trans y1'))
  subst er
  refine ⟨r, sA S 33 g, sA (sA S 33 g) 93 g', ?_, ?_, hI.sc g g'⟩
  · unfold r_X11_guess
    rw [hat]
    have x1' : lp_X11_guess_14 hs (nI h) 4000 0 0 S = _ := x1
    rw [x1']
    rfl
  · unfold r_X12_guess r_X12_isHearer
    show (if r_X12_in (nI h) 0 (S.1 76 1 - 1) = 0 then _ else _) = _
    have x2' : lp_X12_guess_14 (nI h) 4000 0 0 (sA S 33 g) = _ := x2
    rw [d3, if_neg q, x2']
    rfl
