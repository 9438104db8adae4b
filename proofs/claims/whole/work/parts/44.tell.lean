/-! TELL -/
theorem sA_sw (S : St) {a b : Nat} (h : a ≠ b) (g g' : Nat → Int32) : sA (sA S a g) b g' = sA (sA S b g') a g := by
  have e : uF (uF S.1 a g) b g' = uF (uF S.1 b g') a g := by
    funext k
    unfold uF
    cases h1 : Nat.beq k b with
    | false => rfl
    | true =>
      cases h2 : Nat.beq k a with
      | false => rfl
      | true => exact absurd ((Nat.eq_of_beq_eq_true h2).symm.trans (Nat.eq_of_beq_eq_true h1)) h
  show (uF (uF S.1 a g) b g', S.2.1, S.2.2) = (uF (uF S.1 b g') a g, S.2.1, S.2.2)
  rw [e]
def tlG (F : Nat → Int32) (g : Nat → Int32) (tb : Int32) (s n : Nat) : Nat → Int32 := fun i => if i % 8 = s ∧ i / 8 < n ∧ tbl tb (i / 8) = true then F (i / 8) else g i
theorem tlG_0 (F g : Nat → Int32) (tb : Int32) (s : Nat) : tlG F g tb s 0 = g := by
  funext i
  unfold tlG
  rw [if_neg (fun z => absurd z.2.1 (Nat.not_lt_zero _))]
theorem tlG_no (F g : Nat → Int32) {tb : Int32} (s : Nat) {n : Nat} (q : r_X12_has tb (nI n) = 0) : tlG F g tb s (n + 1) = tlG F g tb s n := by
  funext i
  unfold tlG
  by_cases w : i / 8 = n
  · rw [if_neg (fun z => ?_), if_neg (fun z => ?_)]
    · have := z.2.1
      omega
    · have := z.2.2
      rw [w, tbl_no q] at this
      cases this
  · by_cases z : i % 8 = s ∧ i / 8 < n ∧ tbl tb (i / 8) = true
    · rw [if_pos z, if_pos ⟨z.1, by have := z.2.1; omega, z.2.2⟩]
    · rw [if_neg z, if_neg (fun y => z ⟨y.1, by have := y.2.1; omega, y.2.2⟩)]
theorem tlG_yes (F g : Nat → Int32) {tb : Int32} {s n : Nat} (hs8 : s < 8) (q : ¬ r_X12_has tb (nI n) = 0) : upd (tlG F g tb s n) (8 * n + s) (F n) = tlG F g tb s (n + 1) := by
  funext i
  by_cases w : i = 8 * n + s
  · subst w
    rw [upd_at]
    unfold tlG
    have e1 : (8 * n + s) % 8 = s := by omega
    have e2 : (8 * n + s) / 8 = n := by omega
    rw [e1, e2, if_pos ⟨rfl, Nat.lt_succ_self n, tbl_yes q⟩]
  · rw [upd_ne w]
    unfold tlG
    by_cases z : i % 8 = s ∧ i / 8 < n ∧ tbl tb (i / 8) = true
    · rw [if_pos z, if_pos ⟨z.1, by have := z.2.1; omega, z.2.2⟩]
    · rw [if_neg z, if_neg (fun y => z ⟨y.1, by have := y.2.1; have := y.1; omega, y.2.2⟩)]
theorem tlG_at (F g : Nat → Int32) (tb : Int32) {s n : Nat} (hs8 : s < 8) : tlG F g tb s n (8 * n + s) = g (8 * n + s) := by
  unfold tlG
  rw [if_neg (fun z => by have := z.2.1; omega)]
def tlF (t : Nat → Nat) : Nat → Int32 := fun h => nI (min 999 (t h + 1))
theorem lp_tells {s nh d : Nat} {tb x : Int32} {t : Nat → Nat} {g82 g83 : Nat → Int32} (hs8 : s < 8) (h6 : nh ≤ 6) (ht : ∀ h, h < nh → g82 (8 * h + s) = nI (t h) ∧ t h ≤ 999) : ∀ n h S', S'.1 76 1 = nI nh → S'.1 76 2 = nI d → S'.1 82 = tlG (tlF t) g82 tb s h → S'.1 83 = tlG (fun _ => nI d) g83 tb s h → h ≤ nh → nh < n + h → lp_X12_tells_10 (nI s) tb x n (nI h) S' = some (sA (sA S' 82 (tlG (tlF t) g82 tb s nh)) 83 (tlG (fun _ => nI d) g83 tb s nh)) := by
  intro n
  induction n with
  | zero => intro h S' _ _ _ _ h1 h2; omega
  | succ n ih =>
    intro h S' e1 e2 e82 e83 h1 h2
    unfold lp_X12_tells_10
    rw [e1]
    by_cases w : h = nh
    · subst w
      rw [if_pos (nI_le (Nat.le_refl _) (by omega)), ← e82, ← e83, sA_self]
      show _ = some (sA S' 83 (S'.1 83))
      rw [sA_self]
    have hh : h < nh := by omega
    have h48 : 8 * h + s < 48 := by omega
    rw [if_neg (nI_ge (by omega) (by omega)), nI_1]
    by_cases q : r_X12_has tb (nI h) = 0
    · rw [if_pos q]
      exact ih (h + 1) S' e1 e2 (by rw [e82, tlG_no _ _ _ q]) (by rw [e83, tlG_no _ _ _ q]) (by omega) (by omega)
    · rw [if_neg q]
      simp only [nI_8, gdN h48 (show 48 < 2 ^ 31 by decide), nI_clamp (show 8 * h + s < 2 ^ 31 by omega), gdM h48 (show 8 * h + s < 2 ^ 31 by omega)]
      rw [e2, e82, e83, tlG_at _ _ _ hs8, (ht h hh).1, nI_1]
      have hF : (if (999 : Int32) ≤ nI (t h) then (999 : Int32) else nI (t h + 1)) = tlF t h := by
        unfold tlF
        by_cases z : 999 ≤ t h
        · rw [if_pos (le_l (k := 999) z (by have := (ht h hh).2; omega)), Nat.min_eq_left (by omega)]
          rfl
        · rw [if_neg (nle_l (k := 999) (by omega) (by decide)), Nat.min_eq_right (by omega)]
      have key := ih (h + 1) (sA (sA S' 82 (tlG (tlF t) g82 tb s (h + 1))) 83 (tlG (fun _ => nI d) g83 tb s (h + 1))) e1 e2 rfl rfl (by omega) (by omega)
      have e3 : sA (sA (sA (sA S' 82 (tlG (tlF t) g82 tb s (h + 1))) 83 (tlG (fun _ => nI d) g83 tb s (h + 1))) 82 (tlG (tlF t) g82 tb s nh)) 83 (tlG (fun _ => nI d) g83 tb s nh) = sA (sA S' 82 (tlG (tlF t) g82 tb s nh)) 83 (tlG (fun _ => nI d) g83 tb s nh) := by
        rw [sA_sw _ (a := 83) (b := 82) (by decide), sA_sA, sA_sA]
      rw [e3] at key
      by_cases z : (999 : Int32) ≤ nI (t h)
      · rw [if_pos z] at hF ⊢
        rw [hF, tlG_yes _ _ hs8 q]
        have := tlG_yes (fun _ => nI d) g83 (n := h) hs8 q
        rw [this]
        exact key
      · rw [if_neg z] at hF ⊢
        rw [hF, tlG_yes _ _ hs8 q]
        have := tlG_yes (fun _ => nI d) g83 (n := h) hs8 q
        rw [this]
        exact key
theorem lp_tell {hs : List Hr} {s nh d : Nat} {tb x : Int32} {t : Nat → Nat} {g82 g83 : Nat → Int32} (hs8 : s < 8) (h6 : nh ≤ 6) (ht : ∀ h, h < nh → g82 (8 * h + s) = nI (t h) ∧ t h ≤ 999) : ∀ n h S', S'.1 8 3 = nI nh → S'.1 8 0 = nI d → S'.1 12 = tlG (tlF t) g82 tb s h → S'.1 13 = tlG (fun _ => nI d) g83 tb s h → h ≤ nh → nh < n + h → lp_X11_tell_34 hs (nI s) tb x n (nI h) S' = some (sA (sA S' 12 (tlG (tlF t) g82 tb s nh)) 13 (tlG (fun _ => nI d) g83 tb s nh)) := by
  intro n
  induction n with
  | zero => intro h S' _ _ _ _ h1 h2; omega
  | succ n ih =>
    intro h S' e1 e2 e82 e83 h1 h2
    unfold lp_X11_tell_34
    rw [e1, in_has]
    by_cases w : h = nh
    · subst w
      rw [if_pos (nI_le (Nat.le_refl _) (by omega)), ← e82, ← e83, sA_self]
      show _ = some (sA S' 13 (S'.1 13))
      rw [sA_self]
    have hh : h < nh := by omega
    have h48 : 8 * h + s < 48 := by omega
    rw [if_neg (nI_ge (by omega) (by omega)), nI_1]
    by_cases q : r_X12_has tb (nI h) = 0
    · rw [if_pos q]
      exact ih (h + 1) S' e1 e2 (by rw [e82, tlG_no _ _ _ q]) (by rw [e83, tlG_no _ _ _ q]) (by omega) (by omega)
    · rw [if_neg q, times_at h48, e82, tlG_at _ _ _ hs8, (ht h hh).1]
      show (r_X11_setHad S' (nI h) (nI s) (if nI (t h) + 1 < (999 : Int32) then nI (t h) + 1 else (999 : Int32))).bind _ = _
      have hF : (if nI (t h) + 1 < (999 : Int32) then nI (t h) + 1 else (999 : Int32)) = tlF t h := by
        unfold tlF
        rw [nI_1]
        by_cases z : t h + 1 < 999
        · rw [if_pos (lt_l z (by decide)), Nat.min_eq_right (by omega)]
        · rw [if_neg (nlt_l (k := 999) (by omega) (by have := (ht h hh).2; omega)), Nat.min_eq_left (by omega)]
          rfl
      rw [hF]
      unfold r_X11_setHad
      simp only [nI_8', gdN h48 (show 48 < 2 ^ 31 by decide), nI_clamp (show 8 * h + s < 2 ^ 31 by omega), gdM h48 (show 8 * h + s < 2 ^ 31 by omega)]
      rw [e2, e82, e83, tlG_yes _ _ hs8 q]
      have := tlG_yes (fun _ => nI d) g83 (n := h) hs8 q
      rw [this]
      have key := ih (h + 1) (sA (sA S' 12 (tlG (tlF t) g82 tb s (h + 1))) 13 (tlG (fun _ => nI d) g83 tb s (h + 1))) e1 e2 rfl rfl (by omega) (by omega)
      have e3 : sA (sA (sA (sA S' 12 (tlG (tlF t) g82 tb s (h + 1))) 13 (tlG (fun _ => nI d) g83 tb s (h + 1))) 12 (tlG (tlF t) g82 tb s nh)) 13 (tlG (fun _ => nI d) g83 tb s nh) = sA (sA S' 12 (tlG (tlF t) g82 tb s nh)) 13 (tlG (fun _ => nI d) g83 tb s nh) := by
        rw [sA_sw _ (a := 13) (b := 12) (by decide), sA_sA, sA_sA]
      rw [e3] at key
      exact key
/-- the times after a telling at a table -/
def tmU (g : Nat → Int32) (tb : Int32) (nh s : Nat) : Nat → Int32 := tlG (tlF fun h => tmO g h s) g tb s nh
def laU (g : Nat → Int32) (tb : Int32) (nh s d : Nat) : Nat → Int32 := tlG (fun _ => nI d) g tb s nh
theorem tells_m {S : St} {hs : List Hr} {ns nh : Nat} {KV : Nat → Nat → Int32 → Nat → Int32} {LV : Nat → Nat → Nat → Int32 → Nat → Int32} (hL : Lg S hs ns nh KV LV) (h6 : nh ≤ 6) {s d : Nat} (tb : Int32) (hs8 : s < 8) (hd : d < 20000) {S' : St} (hM : MindM S S') (e1 : S'.1 76 1 = nI nh) (e2 : S'.1 76 2 = nI d) (hT : TmOk (S'.1 82) nh s) : ∃ g, r_X12_tells S' (nI s) tb = some (LN S' LV nh s tb d, sA (sA (sA S' 93 g) 82 (tmU (S'.1 82) tb nh s)) 83 (laU (S'.1 83) tb nh s d)) := by
  obtain ⟨g, hg⟩ := laughter_m hL h6 tb hs8 hd hM e1 e2 hT
  refine ⟨g, ?_⟩
  unfold r_X12_tells
  rw [hg]
  have := lp_tells (x := LN S' LV nh s tb d) (tb := tb) (d := d) (g83 := S'.1 83) hs8 h6 hT 4000 0 (sA S' 93 g) e1 e2 (tlG_0 _ _ _ _).symm (tlG_0 _ _ _ _).symm (Nat.zero_le _) (by omega)
  show (lp_X12_tells_10 (nI s) tb (LN S' LV nh s tb d) 4000 (nI 0) (sA S' 93 g)).bind _ = _
  rw [this]
  rfl
theorem tlG_EqB {F g g' : Nat → Int32} {tb : Int32} {s n m : Nat} (h : EqB m g g') : EqB m (tlG F g tb s n) (tlG F g' tb s n) := by
  intro i hi
  unfold tlG
  split
  · rfl
  · exact h i hi
theorem tmU_999 {g : Nat → Int32} {tb : Int32} {nh s : Nat} (h : ∀ i, i < 48 → ∃ k, k ≤ 999 ∧ g i = nI k) : ∀ i, i < 48 → ∃ k, k ≤ 999 ∧ tmU g tb nh s i = nI k := by
  intro i hi
  unfold tmU tlG
  split
  · exact ⟨_, Nat.min_le_left _ _, rfl⟩
  · exact h i hi
theorem k_tell : K11 Inv := by
  intro S hs a1 a2 hI
  obtain ⟨nb, hB, ⟨ns, nh, nd, nf, ne, ⟨⟨c1, c2, c3⟩, ⟨d1, d2, d3⟩, ⟨y1, y2, y3⟩, ⟨f1, f2, f3⟩, ⟨b1, b2, b3⟩, t1, t2⟩, hA, hT, hR, hF, hK, hW⟩, hIm, hTx, hTr, hTp, hHo, hL⟩ := id hI
  by_cases q1 : r_X12_in a1 0 (nI ns - 1) = 0
  · refine ⟨-10001, S, S, ?_, ?_, hI⟩
    · unfold r_X11_tell r_X11_isStory
      rw [within_in, c2, if_pos q1]
    · unfold r_X12_tell r_X12_isStory
      rw [c3, if_pos q1]
  obtain ⟨s, hsn, rfl⟩ := ii_lt (by omega) q1
  by_cases q3 : r_X12_in a2 0 (((1 : Int32) <<< (nI nh &&& 31)) - 1) = 0
  · refine ⟨-10002, S, S, ?_, ?_, hI⟩
    · unfold r_X11_tell r_X11_isStory r_X11_isTable r_X11_everybody
      rw [within_in, c2, d2, if_neg q1, if_pos q3]
    · unfold r_X12_tell r_X12_isStory r_X12_isTable
      rw [c3, d3, if_neg q1, if_pos q3]
  obtain ⟨KV, LV, hLg⟩ := lg_of hI c3 d3 c1 d1
  have hs8 : s < 8 := by omega
  have hTm := TmOk.of hT.2.2.2 d1 hs8
  obtain ⟨g, hg⟩ := laughter_c0 hLg d1 hT.2.2.2 d2 a2 hs8 (show nd < 20000 by omega) (Mind.rf S)
  have hc := lp_tell (hs := hs) (x := LN S LV nh s a2 nd) (tb := a2) (d := nd) (t := fun h => tmO (S.1 82) h s) (g82 := S.1 12) (g83 := S.1 13) hs8 d1 (fun h hh => ⟨by rw [hT.1 _ (by omega)]; exact (hTm h hh).1, (hTm h hh).2⟩) 4000 0 (sA S 33 g) d2 y2 (tlG_0 _ _ _ _).symm (tlG_0 _ _ _ _).symm (Nat.zero_le _) (by omega)
  obtain ⟨g', hg'⟩ := tells_m (S' := sA (sA (sA S 33 g) 12 (tlG (tlF fun h => tmO (S.1 82) h s) (S.1 12) a2 s nh)) 13 (tlG (fun _ => nI nd) (S.1 13) a2 s nh)) hLg d1 (d := nd) a2 hs8 (by omega) (((Mind.rf S).m.a rfl g).lo (by decide) _ |>.lo (by decide) _) d3 y3 hTm
  have H1 : r_X11_tell S hs (nI s) a2 = some (LN S LV nh s a2 nd, sA (sA (sA S 33 g) 12 (tlG (tlF fun h => tmO (S.1 82) h s) (S.1 12) a2 s nh)) 13 (tlG (fun _ => nI nd) (S.1 13) a2 s nh)) := by
    unfold r_X11_tell r_X11_isStory r_X11_isTable r_X11_everybody
    rw [within_in, c2, d2, if_neg q1, if_neg q3]
    unfold r_X11_laughter
    rw [y2, hg]
    show (lp_X11_tell_34 hs (nI s) a2 (LN S LV nh s a2 nd) 4000 (nI 0) (sA S 33 g)).bind _ = _
    rw [hc]
    rfl
  have H2 : r_X12_tell (sA (sA (sA S 33 g) 12 (tlG (tlF fun h => tmO (S.1 82) h s) (S.1 12) a2 s nh)) 13 (tlG (fun _ => nI nd) (S.1 13) a2 s nh)) (nI s) a2 = some (LN S LV nh s a2 nd, sA (sA (sA (sA (sA (sA S 33 g) 12 (tlG (tlF fun h => tmO (S.1 82) h s) (S.1 12) a2 s nh)) 13 (tlG (fun _ => nI nd) (S.1 13) a2 s nh)) 93 g') 82 (tmU (S.1 82) a2 nh s)) 83 (laU (S.1 83) a2 nh s nd)) := by
    unfold r_X12_tell r_X12_isStory r_X12_isTable
    show (if r_X12_in (nI s) 0 (S.1 76 0 - 1) = 0 then _ else if r_X12_in a2 0 (((1 : Int32) <<< (S.1 76 1 &&& 31)) - 1) = 0 then _ else _) = _
    rw [c3, d3, if_neg q1, if_neg q3, hg']
    rfl
  refine ⟨_, _, _, H1, H2, ?_⟩
  refine ⟨nb, hB, ⟨ns, nh, nd, nf, ne, ⟨⟨c1, c2, c3⟩, ⟨d1, d2, d3⟩, ⟨y1, y2, y3⟩, ⟨f1, f2, f3⟩, ⟨b1, b2, b3⟩, t1, t2⟩, hA, ⟨?_, ?_, ?_, ?_⟩, hR, hF, hK, hW⟩, hIm, hTx, hTr, hTp, hHo, hL⟩
  · exact tlG_EqB hT.1
  · show EqB 48 (tlG (fun _ => nI nd) (S.1 13) a2 s nh) (tlG (fun _ => nI nd) (S.1 83) a2 s nh)
    exact tlG_EqB hT.2.1
  · intro h s' x1 x2 x3
    show tlG _ (S.1 82) a2 s nh (8 * h + s') = 0
    unfold tlG
    rw [if_neg (fun z => by have := z.1; have := z.2.1; omega)]
    exact hT.2.2.1 h s' x1 x2 x3
  · exact tmU_999 hT.2.2.2
