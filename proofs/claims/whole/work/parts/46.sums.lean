/-! SUMS: sets of stories, evening, spared -/
theorem so34 {S' : St} {t : Int32} : ∀ n j acc, j ≤ 8 → 8 < n + j → lp_X11_sumOf_34_4 S' t n (acc + sumL (S'.1 34) (tbl t) j) (nI j) = some (acc + sumL (S'.1 34) (tbl t) 8) := by
  intro n
  induction n with
  | zero => intro j acc h1 h2; omega
  | succ n ih =>
    intro j acc h1 h2
    unfold lp_X11_sumOf_34_4
    rw [in_has]
    by_cases w : j = 8
    · subst w
      rw [if_pos (show (8 : Int32) ≤ nI 8 by decide)]
    have hj : j < 8 := by omega
    rw [if_neg (nle_l (k := 8) hj (by decide)), nI_1, gdN hj (by decide), nI_clamp (by omega)]
    have e := ih (j + 1) acc (by omega) (by omega)
    have e2 : sumL (S'.1 34) (tbl t) (j + 1) = sumL (S'.1 34) (tbl t) j + (if tbl t j then S'.1 34 j else 0) := rfl
    by_cases q : r_X12_has t (nI j) = 0
    · rw [if_pos q]
      rw [e2, tbl_no q, if_neg (by decide), Int32.add_zero] at e
      exact e
    · rw [if_neg q]
      rw [e2, tbl_yes q, if_pos rfl, ← Int32.add_assoc] at e
      exact e
theorem sumOf_34 (S' : St) (t : Int32) : r_X11_sumOf_34 S' t = some (sumL (S'.1 34) (tbl t) 8) := by
  unfold r_X11_sumOf_34
  have := so34 (S' := S') (t := t) 4000 0 0 (by omega) (by omega)
  rw [Int32.zero_add] at this
  have h2 : lp_X11_sumOf_34_4 S' t 4000 0 0 = _ := this
  rw [h2, show (0 : Int32) + sumL (S'.1 34) (tbl t) 8 = sumL (S'.1 34) (tbl t) 8 from Int32.zero_add _]
  rfl
theorem so10 {S' : St} {t : Int32} : ∀ n j acc, j ≤ 8 → 8 < n + j → lp_X11_sumOf_10_4 S' t n (acc + sumL (S'.1 10) (tbl t) j) (nI j) = some (acc + sumL (S'.1 10) (tbl t) 8) := by
  intro n
  induction n with
  | zero => intro j acc h1 h2; omega
  | succ n ih =>
    intro j acc h1 h2
    unfold lp_X11_sumOf_10_4
    rw [in_has]
    by_cases w : j = 8
    · subst w
      rw [if_pos (show (8 : Int32) ≤ nI 8 by decide)]
    have hj : j < 8 := by omega
    rw [if_neg (nle_l (k := 8) hj (by decide)), nI_1, gdN hj (by decide), nI_clamp (by omega)]
    have e := ih (j + 1) acc (by omega) (by omega)
    have e2 : sumL (S'.1 10) (tbl t) (j + 1) = sumL (S'.1 10) (tbl t) j + (if tbl t j then S'.1 10 j else 0) := rfl
    by_cases q : r_X12_has t (nI j) = 0
    · rw [if_pos q]
      rw [e2, tbl_no q, if_neg (by decide), Int32.add_zero] at e
      exact e
    · rw [if_neg q]
      rw [e2, tbl_yes q, if_pos rfl, ← Int32.add_assoc] at e
      exact e
theorem sumOf_10 (S' : St) (t : Int32) : r_X11_sumOf_10 S' t = some (sumL (S'.1 10) (tbl t) 8) := by
  unfold r_X11_sumOf_10
  have := so10 (S' := S') (t := t) 4000 0 0 (by omega) (by omega)
  rw [Int32.zero_add] at this
  have h2 : lp_X11_sumOf_10_4 S' t 4000 0 0 = _ := this
  rw [h2, show (0 : Int32) + sumL (S'.1 10) (tbl t) 8 = sumL (S'.1 10) (tbl t) 8 from Int32.zero_add _]
  rfl
theorem so36 {S' : St} {t : Int32} : ∀ n j acc, j ≤ 6 → 6 < n + j → lp_X11_sumOf_36_4 S' t n (acc + sumL (S'.1 36) (tbl t) j) (nI j) = some (acc + sumL (S'.1 36) (tbl t) 6) := by
  intro n
  induction n with
  | zero => intro j acc h1 h2; omega
  | succ n ih =>
    intro j acc h1 h2
    unfold lp_X11_sumOf_36_4
    rw [in_has]
    by_cases w : j = 6
    · subst w
      rw [if_pos (show (6 : Int32) ≤ nI 6 by decide)]
    have hj : j < 6 := by omega
    rw [if_neg (nle_l (k := 6) hj (by decide)), nI_1, gdN hj (by decide), nI_clamp (by omega)]
    have e := ih (j + 1) acc (by omega) (by omega)
    have e2 : sumL (S'.1 36) (tbl t) (j + 1) = sumL (S'.1 36) (tbl t) j + (if tbl t j then S'.1 36 j else 0) := rfl
    by_cases q : r_X12_has t (nI j) = 0
    · rw [if_pos q]
      rw [e2, tbl_no q, if_neg (by decide), Int32.add_zero] at e
      exact e
    · rw [if_neg q]
      rw [e2, tbl_yes q, if_pos rfl, ← Int32.add_assoc] at e
      exact e
theorem sumOf_36 (S' : St) (t : Int32) : r_X11_sumOf_36 S' t = some (sumL (S'.1 36) (tbl t) 6) := by
  unfold r_X11_sumOf_36
  have := so36 (S' := S') (t := t) 4000 0 0 (by omega) (by omega)
  rw [Int32.zero_add] at this
  have h2 : lp_X11_sumOf_36_4 S' t 4000 0 0 = _ := this
  rw [h2, show (0 : Int32) + sumL (S'.1 36) (tbl t) 6 = sumL (S'.1 36) (tbl t) 6 from Int32.zero_add _]
  rfl
theorem tbl_tb : ∀ k, k < 256 → ∀ j, j < 8 → tbl (nI k) j = Nat.testBit k j := by decide +kernel
theorem tbl_hi {k n j : Nat} (hk : k < 2 ^ n) (hn : n ≤ 8) (hj : j < 8) (h : n ≤ j) : tbl (nI k) j = false := by
  have h1 : 2 ^ n ≤ 2 ^ 8 := Nat.pow_le_pow_right (by decide) hn
  rw [tbl_tb k (by omega) j hj]
  exact Nat.testBit_lt_two_pow (Nat.lt_of_lt_of_le hk (Nat.pow_le_pow_right (by decide) h))
theorem sumL_cut {L L' : Nat → Int32} {tb : Nat → Bool} {n : Nat} (hL : ∀ j, j < n → L j = L' j) : ∀ m, (∀ j, n ≤ j → j < n + m → tb j = false) → sumL L tb (n + m) = sumL L' tb n
  | 0, _ => sumL_cong hL
  | m + 1, h => by
    show sumL L tb (n + m) + (if tb (n + m) then L (n + m) else 0) = _
    rw [sumL_cut hL m (fun j h1 h2 => h j h1 (by omega)), h (n + m) (by omega) (by omega), if_neg (by decide), Int32.add_zero]
theorem sum34 {S' : St} {L : Nat → Int32} {ns k : Nat} (n8 : ns ≤ 8) (hk : k < 2 ^ ns) (h : ∀ j, j < ns → S'.1 34 j = L j) : r_X11_sumOf_34 S' (nI k) = some (sumL L (tbl (nI k)) ns) := by
  rw [sumOf_34, show (8 : Nat) = ns + (8 - ns) by omega, sumL_cut h (8 - ns) (fun j h1 h2 => tbl_hi hk n8 (by omega) h1)]
theorem sum10 {S' : St} {L : Nat → Int32} {ns k : Nat} (n8 : ns ≤ 8) (hk : k < 2 ^ ns) (h : ∀ j, j < ns → S'.1 10 j = L j) : r_X11_sumOf_10 S' (nI k) = some (sumL L (tbl (nI k)) ns) := by
  rw [sumOf_10, show (8 : Nat) = ns + (8 - ns) by omega, sumL_cut h (8 - ns) (fun j h1 h2 => tbl_hi hk n8 (by omega) h1)]
theorem sum36 {S' : St} {L : Nat → Int32} {nh k : Nat} (n6 : nh ≤ 6) (hk : k < 2 ^ nh) (h : ∀ j, j < nh → S'.1 36 j = L j) : r_X11_sumOf_36 S' (nI k) = some (sumL L (tbl (nI k)) nh) := by
  rw [sumOf_36, show (6 : Nat) = nh + (6 - nh) by omega, sumL_cut h (6 - nh) (fun j h1 h2 => tbl_hi hk (by omega) (by omega) h1)]
theorem p2 {n : Nat} (h : n < 32) : (1 : Int32) <<< (nI n &&& 31) = nI (2 ^ n) := by
  rw [show (1 : Int32) = nI 1 from rfl, nI_shl h, Nat.shiftLeft_eq, Nat.one_mul]
theorem p2_256 {n : Nat} (h : n ≤ 8) : 2 ^ n ≤ 256 := by
  have h1 : 2 ^ n ≤ 2 ^ 8 := Nat.pow_le_pow_right (by decide) h
  omega
/-- the model's table of what each story gives -/
theorem lp_lay {S : St} {hs : List Hr} {ns nh : Nat} {KV : Nat → Nat → Int32 → Nat → Int32} {LV : Nat → Nat → Nat → Int32 → Nat → Int32} (hL : Lg S hs ns nh KV LV) (d1 : nh ≤ 6) (n8 : ns ≤ 8) (hT4 : ∀ i, i < 48 → ∃ k, k ≤ 999 ∧ S.1 82 i = nI k) (c3 : S.1 76 0 = nI ns) (d3 : S.1 76 1 = nI nh) {d : Nat} (tb : Int32) (hd : d < 20000) (y3 : S.1 76 2 = nI d) : ∀ n s S', MindM S S' → S'.1 82 = S.1 82 → S'.1 83 = S.1 83 → S'.1 76 2 = S.1 76 2 → s ≤ ns → ns < n + s → (∀ j, j < s → S'.1 94 j = LN S LV nh j tb d) → ∃ g gw, lp_X12_layFun_2 tb n (nI s) S' = some (sA (sA S' 93 g) 94 gw) ∧ ∀ j, j < ns → gw j = LN S LV nh j tb d := by
  intro n
  induction n with
  | zero => intro s S' _ _ _ _ h1 h2; omega
  | succ n ih =>
    intro s S' hM e82 e83 e2 h1 h2 hj
    unfold lp_X12_layFun_2
    rw [hM.2 0 rfl, c3]
    by_cases w : s = ns
    · subst w
      refine ⟨S'.1 93, S'.1 94, ?_, hj⟩
      rw [if_pos (nI_le (Nat.le_refl _) (by omega)), sA_self, sA_self]
    have hs8 : s < 8 := by omega
    obtain ⟨g, hg⟩ := laughter_m hL d1 tb hs8 hd hM (by rw [hM.2 1 rfl]; exact d3) (e2.trans y3) (by rw [e82]; exact TmOk.of hT4 d1 hs8)
    rw [e82, e83] at hg
    have hg2 : r_X12_laughter S' (nI s) tb = some (LN S LV nh s tb d, sA S' 93 g) := hg
    rw [if_neg (nI_ge (by omega) (by omega)), nI_1, hg2]
    show ∃ u gw, gd (¬ (nI s < 0 ∨ 8 ≤ (nI s).toNatClampNeg)) (lp_X12_layFun_2 tb n (nI (s + 1)) (sA (sA S' 93 g) 94 (upd (S'.1 94) (nI s).toNatClampNeg (LN S LV nh s tb d)))) = some (sA (sA S' 93 u) 94 gw) ∧ ∀ j, j < ns → gw j = LN S LV nh j tb d
    rw [gdN hs8 (by decide), nI_clamp (by omega)]
    obtain ⟨g2, gw, x1, x2⟩ := ih (s + 1) (sA (sA S' 93 g) 94 (upd (S'.1 94) s (LN S LV nh s tb d))) ((hM.a rfl g).a rfl _) e82 e83 e2 (by omega) (by omega) (fun j hjs => by
      show upd (S'.1 94) s (LN S LV nh s tb d) j = _
      by_cases z : j = s
      · subst z
        exact upd_at _ _ _
      · rw [upd_ne z]
        exact hj j (by omega))
    refine ⟨g2, gw, ?_, x2⟩
    rw [x1, sA_sw _ (a := 94) (b := 93) (by decide), sA_sA, sA_sA]
theorem lay_m {S : St} {hs : List Hr} {ns nh : Nat} {KV : Nat → Nat → Int32 → Nat → Int32} {LV : Nat → Nat → Nat → Int32 → Nat → Int32} (hL : Lg S hs ns nh KV LV) (d1 : nh ≤ 6) (n8 : ns ≤ 8) (hT4 : ∀ i, i < 48 → ∃ k, k ≤ 999 ∧ S.1 82 i = nI k) (c3 : S.1 76 0 = nI ns) (d3 : S.1 76 1 = nI nh) {d : Nat} (tb : Int32) (hd : d < 20000) (y3 : S.1 76 2 = nI d) {S' : St} (hM : MindM S S') (e82 : S'.1 82 = S.1 82) (e83 : S'.1 83 = S.1 83) (e2 : S'.1 76 2 = S.1 76 2) : ∃ g gw, r_X12_layFun S' tb = some (0, sA (sA S' 93 g) 94 gw) ∧ ∀ j, j < ns → gw j = LN S LV nh j tb d := by
  obtain ⟨g, gw, x1, x2⟩ := lp_lay hL d1 n8 hT4 c3 d3 tb hd y3 4000 0 S' hM e82 e83 e2 (Nat.zero_le _) (by omega) (fun j h => absurd h (Nat.not_lt_zero _))
  refine ⟨g, gw, ?_, x2⟩
  unfold r_X12_layFun
  have x1' : lp_X12_layFun_2 tb 4000 0 S' = _ := x1
  rw [x1']
  rfl
theorem lp_ev71 {S' : St} {ns : Nat} {L G : Nat → Int32} (n8 : ns ≤ 8) (c3 : S'.1 76 0 = nI ns) (h94 : ∀ j, j < ns → S'.1 94 j = L j) (h78 : ∀ j, j < ns → S'.1 78 j = G j) {f2 f3 f4 f5 t : Int32} : ∀ n s, s ≤ ns → ns < n + s → lp_X12_evening_71 S' f2 f3 f4 f5 t n (sumL L (tbl t) s) (sumL G (tbl t) s) (nI s) = some (sumL L (tbl t) ns, sumL G (tbl t) ns) := by
  intro n
  induction n with
  | zero => intro s h1 h2; omega
  | succ n ih =>
    intro s h1 h2
    unfold lp_X12_evening_71
    rw [c3]
    by_cases w : s = ns
    · subst w
      rw [if_pos (nI_le (Nat.le_refl _) (by omega))]
    have hs8 : s < 8 := by omega
    have e := ih (s + 1) (by omega) (by omega)
    have e1 : sumL L (tbl t) (s + 1) = sumL L (tbl t) s + (if tbl t s then L s else 0) := rfl
    have e2 : sumL G (tbl t) (s + 1) = sumL G (tbl t) s + (if tbl t s then G s else 0) := rfl
    rw [e1, e2] at e
    rw [if_neg (nI_ge (by omega) (by omega)), nI_1]
    simp only [gdN hs8 (show 8 < 2 ^ 31 by decide), nI_clamp (show s < 2 ^ 31 by omega), gdM hs8 (show s < 2 ^ 31 by omega)]
    rw [h94 s (by omega), h78 s (by omega)]
    by_cases q : r_X12_has t (nI s) = 0
    · rw [if_pos q, if_pos q]
      rw [tbl_no q] at e
      exact e
    · rw [if_neg q, if_neg q]
      rw [tbl_yes q] at e
      exact e
theorem lp_even {S1 S2 : St} {hs : List Hr} {ns : Nat} {L G : Nat → Int32} {f2 f3 : Int32} (n8 : ns ≤ 8) (c2 : S1.1 8 2 = nI ns) (c3 : S2.1 76 0 = nI ns) (h34 : ∀ j, j < ns → S1.1 34 j = L j) (h10 : ∀ j, j < ns → S1.1 10 j = G j) (h94 : ∀ j, j < ns → S2.1 94 j = L j) (h78 : ∀ j, j < ns → S2.1 78 j = G j) : ∀ n k v w, k ≤ 2 ^ ns → 2 ^ ns < n + k → ∃ r, lp_X11_evening_60 S1 hs f2 f3 n v w (nI k) = some r ∧ lp_X12_evening_51 S2 f2 f3 n v w (nI k) = some r := by
  intro n
  have h256 := p2_256 n8
  induction n with
  | zero => intro k v w h1 h2; omega
  | succ n ih =>
    intro k v w h1 h2
    unfold lp_X11_evening_60 lp_X12_evening_51
    rw [c2, c3, p2 (by omega)]
    by_cases z : k = 2 ^ ns
    · rw [z, if_pos (nI_le (Nat.le_refl _) (by omega)), if_pos (nI_le (Nat.le_refl _) (by omega))]
      exact ⟨_, rfl, rfl⟩
    have hk : k < 2 ^ ns := by omega
    have hm := lp_ev71 (f2 := f2) (f3 := f3) (f4 := v) (f5 := w) (t := nI k) n8 c3 h94 h78 4000 0 (Nat.zero_le _) (by omega)
    have hm2 : lp_X12_evening_71 S2 f2 f3 v w (nI k) 4000 0 0 0 = _ := hm
    rw [if_neg (nI_ge hk (by omega)), if_neg (nI_ge hk (by omega)), nI_1, sum34 n8 hk h34, sum10 n8 hk h10, hm2]
    generalize sumL L (tbl (nI k)) ns = F
    generalize sumL G (tbl (nI k)) ns = M
    show ∃ r, (if F ≤ w then lp_X11_evening_60 S1 hs f2 f3 n v w (nI (k + 1)) else if f2 < M then lp_X11_evening_60 S1 hs f2 f3 n v w (nI (k + 1)) else lp_X11_evening_60 S1 hs f2 f3 n (nI k) F (nI (k + 1))) = some r ∧ (if f2 < M then lp_X12_evening_51 S2 f2 f3 n v w (nI (k + 1)) else if w < F then lp_X12_evening_51 S2 f2 f3 n (nI k) F (nI (k + 1)) else lp_X12_evening_51 S2 f2 f3 n v w (nI (k + 1))) = some r
    have i1 := ih (k + 1) v w (by omega) (by omega)
    have i2 := ih (k + 1) (nI k) F (by omega) (by omega)
    by_cases y1 : F ≤ w
    · rw [if_pos y1]
      by_cases y2 : f2 < M
      · rw [if_pos y2]
        exact i1
      · rw [if_neg y2, if_neg (Int32.not_lt.mpr y1)]
        exact i1
    · rw [if_neg y1]
      by_cases y2 : f2 < M
      · rw [if_pos y2, if_pos y2]
        exact i1
      · rw [if_neg y2, if_neg y2, if_pos (Int32.not_le.mp y1)]
        exact i2
theorem k_evening : K17 Inv := by
  intro S hs a1 a2 a3 hI
  obtain ⟨nb, hB, ⟨ns, nh, nd, nf, ne, ⟨⟨c1, c2, c3⟩, ⟨d1, d2, d3⟩, ⟨y1, y2, y3⟩, ⟨f1, f2, f3⟩, ⟨b1, b2, b3⟩, t1, t2⟩, hA, hT, hR, hF, hK, hW⟩, hIm, hTx, hTr, hTp, hHo, hL⟩ := id hI
  by_cases q2 : r_X12_in a3 0 1 = 0
  · refine ⟨-10001, S, S, ?_, ?_, hI⟩
    · unfold r_X11_evening
      rw [within_in, if_pos q2]
    · unfold r_X12_evening
      rw [if_pos q2]
  by_cases q3 : r_X12_in a1 0 (((1 : Int32) <<< (nI nh &&& 31)) - 1) = 0
  · refine ⟨-10002, S, S, ?_, ?_, hI⟩
    · unfold r_X11_evening r_X11_isTable r_X11_everybody
      rw [within_in, d2, if_neg q2, if_pos q3]
    · unfold r_X12_evening r_X12_isTable
      rw [d3, if_neg q2, if_pos q3]
  by_cases q4 : r_X12_in a2 1 40 = 0
  · refine ⟨-10002, S, S, ?_, ?_, hI⟩
    · unfold r_X11_evening r_X11_isTable r_X11_everybody
      rw [within_in, d2, if_neg q2, if_neg q3, if_pos q4]
    · unfold r_X12_evening r_X12_isTable
      rw [d3, if_neg q2, if_neg q3, if_pos q4]
  obtain ⟨KV, LV, hLg⟩ := lg_of hI c3 d3 c1 d1
  obtain ⟨g, gw, hg, hgw⟩ := w34 hLg d1 hT.2.2.2 d2 c1 c2 (d := nd) a1 (by omega) (Mind.rf S)
  have hM1 : Mind S (sA (sA S 33 g) 34 gw) := ((Mind.rf S).a rfl g).a rfl gw
  obtain ⟨g', gw', hg', hgw'⟩ := lay_m hLg d1 c1 hT.2.2.2 c3 d3 (d := nd) a1 (by omega) y3 hM1.m rfl rfl rfl
  have hM2 : Mind S (sA (sA (sA (sA S 33 g) 34 gw) 93 g') 94 gw') := (hM1.a rfl g').a rfl gw'
  have h256 := p2_256 c1
  have hpos : 0 < 2 ^ ns := Nat.two_pow_pos ns
  obtain ⟨r, x1, x2⟩ := lp_even (S1 := sA (sA S 33 g) 34 gw) (S2 := sA (sA (sA (sA S 33 g) 34 gw) 93 g') 94 gw') (hs := hs) (f2 := a2) (f3 := a3) (L := fun j => LN S LV nh j a1 nd) (G := S.1 78) c1 c2 c3 hgw (fun j hj => hA.2.1 j (by omega)) hgw' (fun j hj => rfl) 4000 1 0 0 (by omega) (by omega)
  refine ⟨if a3 = 0 then r.1 else r.2, sA (sA S 33 g) 34 gw, sA (sA (sA (sA S 33 g) 34 gw) 93 g') 94 gw', ?_, ?_, hI.mind hM2 rfl rfl rfl rfl⟩
  · unfold r_X11_evening r_X11_isTable r_X11_everybody
    rw [within_in, d2, if_neg q2, if_neg q3, if_neg q4, y2, hg]
    show (lp_X11_evening_60 (sA (sA S 33 g) 34 gw) hs a2 a3 4000 0 0 (nI 1)).bind _ = _
    rw [x1]
    show (if a3 = 0 then some (r.1, _) else some (r.2, _)) = _
    split <;> rfl
  · unfold r_X12_evening r_X12_isTable
    show (if r_X12_in a3 0 1 = 0 then _ else if r_X12_in a1 0 (((1 : Int32) <<< (S.1 76 1 &&& 31)) - 1) = 0 then _ else if r_X12_in a2 1 40 = 0 then _ else _) = _
    rw [d3, if_neg q2, if_neg q3, if_neg q4, hg']
    show (lp_X12_evening_51 (sA (sA (sA (sA S 33 g) 34 gw) 93 g') 94 gw') a2 a3 4000 0 0 (nI 1)).bind _ = _
    rw [x2]
    show (if a3 = 0 then some (r.1, _) else some (r.2, _)) = _
    split <;> rfl
