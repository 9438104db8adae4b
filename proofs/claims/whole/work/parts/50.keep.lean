/-! KEEP -/
def KR (t : Prop) (c5 c6 m5 m6 : Int32) : Prop := (t ∧ c5 = 0 ∧ c6 = -1000000 ∧ m5 = -1 ∧ m6 = 0) ∨ (c5 = m5 ∧ c6 = m6 ∧ ¬ m5 < 0)
def Back (S S' : St) : Prop := Mind S S' ∧ S'.1 82 = S.1 82 ∧ S'.1 83 = S.1 83 ∧ S'.1 76 2 = S.1 76 2 ∧ S'.1 76 28 = S.1 76 28
theorem lp_keep_in {S S1 : St} {hs : List Hr} {ns nh nd c : Nat} {KV : Nat → Nat → Int32 → Nat → Int32} {LV : Nat → Nat → Nat → Int32 → Nat → Int32} (hL : Lg S hs ns nh KV LV) (d1 : nh ≤ 6) (n8 : ns ≤ 8) (hT4 : ∀ i, i < 48 → ∃ k, k ≤ 999 ∧ S.1 82 i = nI k) (c2 : S1.1 8 2 = nI ns) (c3 : S.1 76 0 = nI ns) (d3 : S.1 76 1 = nI nh) (y1 : nd ≤ 9999) (y3 : S.1 76 2 = nI nd) (hc : c ≤ 60) {t1 t2 f4 f4' : Int32} (h34 : ∀ j, j < ns → S1.1 34 j = LN S LV nh j t1 nd) (h35 : ∀ j, j < ns → S1.1 35 j = LN S LV nh j t2 (nd + c)) {p : Nat} (hp : p < ns) : ∀ n q c5 c6 m5 m6 S', Back S S' → q ≤ ns → ns < n + q → KR (p = 0 ∧ q ≤ 1) c5 c6 m5 m6 → ∃ c5' c6' m5' m6' S'', lp_X11_keep_118 S1 hs f4 (nI p) n c5 c6 (nI q) = some (c5', c6') ∧ lp_X12_keep_79 t1 t2 (nI c) f4' (nI p) n m5 m6 (nI q) S' = some (m5', m6', S'') ∧ KR (p = 0 ∧ ns ≤ 1) c5' c6' m5' m6' ∧ Back S S'' := by
  intro n
  induction n with
  | zero => intro q c5 c6 m5 m6 S' _ h1 h2; omega
  | succ n ih =>
    intro q c5 c6 m5 m6 S' hB h1 h2 hR
    obtain ⟨hM, e82, e83, e2, e28⟩ := id hB
    unfold lp_X11_keep_118
    rw [lp_X12_keep_79, c2, hM.2.1 0 rfl, c3]
    by_cases w : q = ns
    · subst w
      exact ⟨c5, c6, m5, m6, S', if_pos (nI_le (Nat.le_refl _) (by omega)), if_pos (nI_le (Nat.le_refl _) (by omega)), hR, hB⟩
    have hq : q < ns := by omega
    rw [if_neg (nI_ge (by omega) (by omega)), if_neg (nI_ge (by omega) (by omega)), gdN (show p < 8 by omega) (by decide), gdN (show q < 8 by omega) (by decide), nI_clamp (by omega), nI_clamp (by omega), h34 p hp, h35 q hq, nI_1]
    by_cases z : p = q
    · subst z
      rw [if_pos rfl, if_pos rfl]
      refine ih (p + 1) c5 c6 m5 m6 S' hB (by omega) (by omega) ?_
      rcases hR with ⟨⟨k1, k2⟩, k⟩ | k
      · exact Or.inl ⟨⟨k1, by omega⟩, k⟩
      · exact Or.inr k
    have zn : ¬ nI p = nI q := fun y => z ((nI_eq (by omega) (by omega)).mp y)
    rw [if_neg zn, if_neg zn]
    have hA0 : Away S (sv S') := sv_away hM e82 e83 e2
    have hTp : TmOk ((sv S').1 82) nh p := by
      show TmOk (S'.1 82) nh p
      rw [e82]
      exact TmOk.of hT4 d1 (by omega)
    obtain ⟨g, hg⟩ := tells_m hL d1 (s := p) (d := nd) t1 (by omega) (by omega) hA0.1.m (by rw [hA0.1.2.1 1 rfl]; exact d3) (show S'.1 76 2 = _ by rw [e2]; exact y3) hTp
    have eF : LN (sv S') LV nh p t1 nd = LN S LV nh p t1 nd := by
      unfold LN
      show sumL (fun h => LV h p (tmO (S'.1 82) h p) (S'.1 83 (8 * h + p)) nd) (tbl t1) nh = _
      rw [e82, e83]
    rw [eF] at hg
    have hA1 : Away S (sA (sA (sA (sv S') 93 g) 82 (tmU ((sv S').1 82) t1 nh p)) 83 (laU ((sv S').1 83) t1 nh p nd)) := hA0.tells d1
    generalize hX : (sA (sA (sA (sv S') 93 g) 82 (tmU ((sv S').1 82) t1 nh p)) 83 (laU ((sv S').1 83) t1 nh p nd)) = X at hg hA1
    have x82 : ∀ h, X.1 82 (8 * h + q) = S.1 82 (8 * h + q) := by
      intro h
      rw [← hX]
      show tlG (tlF fun h => tmO (S'.1 82) h p) (S'.1 82) t1 p nh (8 * h + q) = _
      rw [tlG_hs (by omega), if_neg (fun y => z y.1.symm), e82]
    have x83 : ∀ h, X.1 83 (8 * h + q) = S.1 83 (8 * h + q) := by
      intro h
      rw [← hX]
      show tlG (fun _ => nI nd) (S'.1 83) t1 p nh (8 * h + q) = _
      rw [tlG_hs (by omega), if_neg (fun y => z y.1.symm), e83]
    have x2 : X.1 76 2 = nI nd := by
      rw [← hX]
      show S'.1 76 2 = _
      rw [e2]
      exact y3
    have x28 : X.1 76 28 = S.1 76 28 := by
      rw [← hX]
      exact e28
    have hA2 : Away S (sI X 76 2 (X.1 76 2 + nI c)) := hA1.i2 rfl (by decide) _
    have ht : ∀ h, tmO (X.1 82) h q = tmO (S.1 82) h q := by
      intro h
      unfold tmO
      rw [x82]
    obtain ⟨g2, hg2⟩ := laughter_m (S' := sI X 76 2 (X.1 76 2 + nI c)) hL d1 (s := q) (d := nd + c) t2 (by omega) (by omega) hA2.1.m (by rw [hA2.1.2.1 1 rfl]; exact d3) (by show X.1 76 2 + nI c = _; rw [x2, nI_add]) (by
      intro h hh
      show X.1 82 (8 * h + q) = nI (tmO (X.1 82) h q) ∧ tmO (X.1 82) h q ≤ 999
      rw [ht, x82]
      exact TmOk.of hT4 d1 (by omega) h hh)
    have eG : sumL (fun h => LV h q (tmO ((sI X 76 2 (X.1 76 2 + nI c)).1 82) h q) ((sI X 76 2 (X.1 76 2 + nI c)).1 83 (8 * h + q)) (nd + c)) (tbl t2) nh = LN S LV nh q t2 (nd + c) := by
      unfold LN
      refine sumL_cong fun h _ => ?_
      show LV h q (tmO (X.1 82) h q) (X.1 83 (8 * h + q)) (nd + c) = _
      rw [ht, x83]
    rw [eG] at hg2
    have hA3 : Away S (sA (sI X 76 2 (X.1 76 2 + nI c)) 93 g2) := hA2.a2 rfl (by decide) (by decide) (by decide) (by decide) _
    obtain ⟨b1, b2, b3, b4, b5⟩ := pb_back hA3
    have hB2 : Back S (pb (sA (sI X 76 2 (X.1 76 2 + nI c)) 93 g2)) := ⟨b1, b2, b3, b4, b5.trans x28⟩
    have hmod : ∀ (K1 K2 K3 : Option (Int32 × Int32 × St)) (f : Int32 → Option (Int32 × Int32 × St)), True := fun _ _ _ _ => trivial
    have hsmF : sm (LN S LV nh p t1 nd) 18000 := sm_le (sumL_sm (b := 3000) (by omega) (by decide) (fun h hh => hL.2.1.1 h p _ _ _ hh hp (TmOk.of hT4 d1 (by omega) h hh).2)) (by omega)
    have hsmG : sm (LN S LV nh q t2 (nd + c)) 18000 := sm_le (sumL_sm (b := 3000) (by omega) (by decide) (fun h hh => hL.2.1.1 h q _ _ _ hh hq (TmOk.of hT4 d1 (by omega) h hh).2)) (by omega)
    have hsum := (sm_add hsmF hsmG (by decide)).1
    have hstep : ∀ v : Option (Int32 × Int32 × St), (if m5 < 0 then lp_X12_keep_79 t1 t2 (nI c) f4' (nI p) n (((10 : Int32) * nI p) + nI q) (LN S LV nh p t1 nd + LN S LV nh q t2 (nd + c)) (nI (q + 1)) (pb (sA (sI X 76 2 (X.1 76 2 + nI c)) 93 g2)) else if m6 < LN S LV nh p t1 nd + LN S LV nh q t2 (nd + c) then lp_X12_keep_79 t1 t2 (nI c) f4' (nI p) n (((10 : Int32) * nI p) + nI q) (LN S LV nh p t1 nd + LN S LV nh q t2 (nd + c)) (nI (q + 1)) (pb (sA (sI X 76 2 (X.1 76 2 + nI c)) 93 g2)) else lp_X12_keep_79 t1 t2 (nI c) f4' (nI p) n m5 m6 (nI (q + 1)) (pb (sA (sI X 76 2 (X.1 76 2 + nI c)) 93 g2))) = v → ((r_X12_save S').bind fun q1 => (r_X12_tells q1.2 (nI p) t1).bind fun q2 => (r_X12_laughter (sI q2.2 76 2 ((q2.2.1 76 2) + nI c)) (nI q) t2).bind fun q3 => (r_X12_putBack q3.2).bind fun q4 => if m5 < 0 then lp_X12_keep_79 t1 t2 (nI c) f4' (nI p) n (((10 : Int32) * nI p) + nI q) (q2.1 + q3.1) (nI (q + 1)) q4.2 else if m6 < (q2.1 + q3.1) then lp_X12_keep_79 t1 t2 (nI c) f4' (nI p) n (((10 : Int32) * nI p) + nI q) (q2.1 + q3.1) (nI (q + 1)) q4.2 else lp_X12_keep_79 t1 t2 (nI c) f4' (nI p) n m5 m6 (nI (q + 1)) q4.2) = v := by
      intro v hv
      refine ob_step (save_m S') ?_
      refine ob_step hg ?_
      refine ob_step hg2 ?_
      refine ob_step (put_m _) ?_
      exact hv
    have e10 : ((10 : Int32) * nI p) + nI q = nI (10 * p + q) := by
      rw [show (10 : Int32) = nI 10 from rfl, nI_mul, nI_add]
    rw [e10] at hstep ⊢
    generalize LN S LV nh p t1 nd + LN S LV nh q t2 (nd + c) = FG at hsum hstep ⊢
    have take := ih (q + 1) (nI (10 * p + q)) FG (nI (10 * p + q)) FG _ hB2 (by omega) (by omega) (Or.inr ⟨rfl, rfl, nI_pos (by omega)⟩)
    rcases hR with ⟨⟨k1, k2⟩, rfl, rfl, rfl, rfl⟩ | ⟨rfl, rfl, k⟩
    · obtain ⟨c5', c6', m5', m6', S'', x1, x2, x3, x4⟩ := take
      refine ⟨c5', c6', m5', m6', S'', ?_, hstep _ ?_, x3, x4⟩
      · rw [if_neg (Int32.not_le.mpr (Int32.lt_iff_toInt_lt.mpr (by
          have : (-1000000 : Int32).toInt = -1000000 := by decide
          have := hsum.1
          omega)))]
        exact x1
      · rw [if_pos (show (-1 : Int32) < 0 by decide)]
        exact x2
    · by_cases y : FG ≤ c6
      · obtain ⟨c5', c6', m5', m6', S'', x1, x2, x3, x4⟩ := ih (q + 1) c5 c6 c5 c6 _ hB2 (by omega) (by omega) (Or.inr ⟨rfl, rfl, k⟩)
        refine ⟨c5', c6', m5', m6', S'', ?_, hstep _ ?_, x3, x4⟩
        · rw [if_pos y]
          exact x1
        · rw [if_neg k, if_neg (Int32.not_lt.mpr y)]
          exact x2
      · obtain ⟨c5', c6', m5', m6', S'', x1, x2, x3, x4⟩ := take
        refine ⟨c5', c6', m5', m6', S'', ?_, hstep _ ?_, x3, x4⟩
        · rw [if_neg y]
          exact x1
        · rw [if_neg k, if_pos (Int32.not_le.mp y)]
          exact x2
theorem lp_keep_out {S S1 : St} {hs : List Hr} {ns nh nd c : Nat} {KV : Nat → Nat → Int32 → Nat → Int32} {LV : Nat → Nat → Nat → Int32 → Nat → Int32} (hL : Lg S hs ns nh KV LV) (d1 : nh ≤ 6) (n8 : ns ≤ 8) (n2 : 2 ≤ ns) (hT4 : ∀ i, i < 48 → ∃ k, k ≤ 999 ∧ S.1 82 i = nI k) (c2 : S1.1 8 2 = nI ns) (c3 : S.1 76 0 = nI ns) (d3 : S.1 76 1 = nI nh) (y1 : nd ≤ 9999) (y3 : S.1 76 2 = nI nd) (hc : c ≤ 60) {t1 t2 f4 f4' : Int32} (h34 : ∀ j, j < ns → S1.1 34 j = LN S LV nh j t1 nd) (h35 : ∀ j, j < ns → S1.1 35 j = LN S LV nh j t2 (nd + c)) : ∀ n p c5 c6 m5 m6 S', Back S S' → p ≤ ns → ns < n + p → KR (p = 0) c5 c6 m5 m6 → ∃ c5' c6' S'', lp_X11_keep_103 S1 hs f4 n c5 c6 (nI p) = some (c5', c6') ∧ lp_X12_keep_67 t1 t2 (nI c) f4' n m5 m6 (nI p) S' = some (c5', c6', S'') ∧ Back S S'' := by
  intro n
  induction n with
  | zero => intro p c5 c6 m5 m6 S' _ h1 h2; omega
  | succ n ih =>
    intro p c5 c6 m5 m6 S' hB h1 h2 hR
    unfold lp_X11_keep_103
    rw [lp_X12_keep_67, c2, hB.1.2.1 0 rfl, c3]
    by_cases w : p = ns
    · subst w
      rcases hR with ⟨k, -⟩ | ⟨rfl, rfl, -⟩
      · omega
      · exact ⟨c5, c6, S', if_pos (nI_le (Nat.le_refl _) (by omega)), if_pos (nI_le (Nat.le_refl _) (by omega)), hB⟩
    have hp : p < ns := by omega
    rw [if_neg (nI_ge (by omega) (by omega)), if_neg (nI_ge (by omega) (by omega)), nI_1]
    obtain ⟨a5, a6, b5, b6, S2, x1, x2, x3, x4⟩ := lp_keep_in (f4 := f4) (f4' := f4') hL d1 n8 hT4 c2 c3 d3 y1 y3 hc h34 h35 hp 4000 0 c5 c6 m5 m6 S' hB (Nat.zero_le _) (by omega) (by
      rcases hR with ⟨k, k'⟩ | k
      · exact Or.inl ⟨⟨k, by omega⟩, k'⟩
      · exact Or.inr k)
    have x3' : KR (p + 1 = 0) a5 a6 b5 b6 := by
      rcases x3 with ⟨⟨-, k⟩, -⟩ | k
      · omega
      · exact Or.inr k
    obtain ⟨r5, r6, S3, u1, u2, u3⟩ := ih (p + 1) a5 a6 b5 b6 S2 x4 (by omega) (by omega) x3'
    refine ⟨r5, r6, S3, ?_, ?_, u3⟩
    · exact ob_step x1 u1
    · exact ob_step x2 u2
theorem k_keep : K19 Inv := by
  intro S hs a1 a2 a3 a4 hI
  obtain ⟨nb, hB, ⟨ns, nh, nd, nf, ne, ⟨⟨c1, c2, c3⟩, ⟨d1, d2, d3⟩, ⟨y1, y2, y3⟩, ⟨f1, f2, f3⟩, ⟨b1, b2, b3⟩, t1, t2⟩, hA, hT, hR, hF, hK, hW⟩, hIm, hTx, hTr, hTp, hHo, hL⟩ := id hI
  by_cases q1 : r_X12_in a4 0 1 = 0
  · refine ⟨-10001, S, S, ?_, ?_, hI⟩
    · unfold r_X11_keep
      rw [within_in, if_pos q1]
    · unfold r_X12_keep
      rw [if_pos q1]
  by_cases q2 : r_X12_in a1 0 (((1 : Int32) <<< (nI nh &&& 31)) - 1) = 0
  · refine ⟨-10002, S, S, ?_, ?_, hI⟩
    · unfold r_X11_keep r_X11_isTable r_X11_everybody
      rw [within_in, d2, if_neg q1, if_pos q2]
    · unfold r_X12_keep r_X12_isTable
      rw [d3, if_neg q1, if_pos q2]
  by_cases q3 : r_X12_in a2 0 (((1 : Int32) <<< (nI nh &&& 31)) - 1) = 0
  · refine ⟨-10002, S, S, ?_, ?_, hI⟩
    · unfold r_X11_keep r_X11_isTable r_X11_everybody
      rw [within_in, d2, if_neg q1, if_neg q2, if_pos q3]
    · unfold r_X12_keep r_X12_isTable
      rw [d3, if_neg q1, if_neg q2, if_pos q3]
  by_cases q4 : r_X12_in a3 1 60 = 0
  · refine ⟨-10002, S, S, ?_, ?_, hI⟩
    · unfold r_X11_keep r_X11_isTable r_X11_everybody
      rw [within_in, d2, if_neg q1, if_neg q2, if_neg q3, if_pos q4]
    · unfold r_X12_keep r_X12_isTable
      rw [d3, if_neg q1, if_neg q2, if_neg q3, if_pos q4]
  by_cases q5 : 2 ≤ ns
  rotate_left
  · refine ⟨-10005, S, S, ?_, ?_, hI⟩
    · unfold r_X11_keep r_X11_isTable r_X11_everybody
      rw [within_in, d2, if_neg q1, if_neg q2, if_neg q3, if_neg q4, c2, if_neg (nle_l (k := 2) (by omega) (by decide))]
    · unfold r_X12_keep r_X12_isTable
      rw [d3, if_neg q1, if_neg q2, if_neg q3, if_neg q4, c3, if_neg (nle_l (k := 2) (by omega) (by decide))]
  obtain ⟨c, -, c60, rfl⟩ := ii_nat (l := 1) (h := 60) (by decide) (by decide) q4
  obtain ⟨KV, LV, hLg⟩ := lg_of hI c3 d3 c1 d1
  obtain ⟨g, gw, hg, hgw⟩ := w34 hLg d1 hT.2.2.2 d2 c1 c2 (d := nd) a1 (by omega) (Mind.rf S)
  have hM1 : Mind S (sA (sA S 33 g) 34 gw) := ((Mind.rf S).a rfl g).a rfl gw
  obtain ⟨g2, gw2, hg2, hgw2⟩ := w35 hLg d1 hT.2.2.2 d2 c1 c2 (d := nd + c) a2 (by omega) hM1
  have hM2 : Mind S (sA (sA (sA (sA S 33 g) 34 gw) 33 g2) 35 gw2) := (hM1.a rfl g2).a rfl gw2
  obtain ⟨r5, r6, S3, x1, x2, hB3⟩ := lp_keep_out (S1 := sA (sA (sA (sA S 33 g) 34 gw) 33 g2) 35 gw2) (f4 := a4) (f4' := a4) hLg d1 c1 q5 hT.2.2.2 c2 c3 d3 y1 y3 c60 hgw hgw2 4000 0 0 (-1000000) (-1) 0 (sA (sA (sA (sA S 33 g) 34 gw) 33 g2) 35 gw2) ⟨hM2, rfl, rfl, rfl, rfl⟩ (Nat.zero_le _) (by omega) (Or.inl ⟨rfl, rfl, rfl, rfl, rfl⟩)
  refine ⟨if a4 = 0 then r5 else r6, sA (sA (sA (sA S 33 g) 34 gw) 33 g2) 35 gw2, S3, ?_, ?_, hI.mind hB3.1 hB3.2.1 hB3.2.2.1 hB3.2.2.2.1 hB3.2.2.2.2⟩
  · unfold r_X11_keep r_X11_isTable r_X11_everybody
    rw [within_in, d2, if_neg q1, if_neg q2, if_neg q3, if_neg q4, c2, if_pos (le_l (k := 2) q5 (by omega)), y2]
    refine ob_step hg ?_
    have hg2' : r_X11_weigh_35 (sA (sA S 33 g) 34 gw) hs a2 (S.1 8 0 + nI c) = some (0, sA (sA (sA (sA S 33 g) 34 gw) 33 g2) 35 gw2) := by
      rw [y2, nI_add]
      exact hg2
    refine ob_step hg2' ?_
    refine ob_step x1 ?_
    show (if a4 = 0 then some (r5, _) else some (r6, _)) = _
    split <;> rfl
  · unfold r_X12_keep r_X12_isTable
    show (if r_X12_in a4 0 1 = 0 then _ else if r_X12_in a1 0 (((1 : Int32) <<< (S.1 76 1 &&& 31)) - 1) = 0 then _ else if r_X12_in a2 0 (((1 : Int32) <<< (S.1 76 1 &&& 31)) - 1) = 0 then _ else if r_X12_in (nI c) 1 60 = 0 then _ else if 2 ≤ S.1 76 0 then _ else _) = _
    rw [d3, if_neg q1, if_neg q2, if_neg q3, if_neg q4, c3, if_pos (le_l (k := 2) q5 (by omega))]
    refine ob_step x2 ?_
    show (if a4 = 0 then some (r5, _) else some (r6, _)) = _
    split <;> rfl
