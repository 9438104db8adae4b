/-! ASK: of, told, laugh, would, fresh, again -/
theorem Inv.mind {S S' : St} {hs : List Hr} (hI : Inv S hs) (hM : Mind S S') (e82 : S'.1 82 = S.1 82) (e83 : S'.1 83 = S.1 83) (e2 : S'.1 76 2 = S.1 76 2) (e28 : S'.1 76 28 = S.1 76 28) : Inv S' hs := by
  obtain ⟨nb, hB, ⟨ns, nh, nd, nf, ne, ⟨⟨c1, c2, c3⟩, ⟨d1, d2, d3⟩, ⟨y1, y2, y3⟩, ⟨f1, f2, f3⟩, ⟨b1, b2, b3⟩, t1, t2⟩, hA, hT, hR, hF, hK, hW⟩, hIm, hTx, hTr, hTp, hHo, hL⟩ := id hI
  have g : ∀ o, o ≠ 76 → o ≠ 82 → o ≠ 83 → (mindL.elem o = true → o ∈ scrL ∨ o = 82 ∨ o = 83) := by
    intro o _ _ _ h
    have := List.mem_of_elem_eq_true h
    simp only [mindL, List.mem_cons, List.not_mem_nil, or_false] at this
    rcases this with rfl | rfl | rfl | rfl | rfl | rfl | rfl | rfl | rfl | rfl | rfl | rfl | rfl | rfl | rfl | rfl | rfl <;> first | (left; decide) | (right; decide)
  refine hI.of (fun o h1 h2 => ?_) (fun j h => ?_) (by rw [hM.2.2]) ?_ ?_
  · by_cases w1 : o = 82
    · subst w1
      exact e82
    by_cases w2 : o = 83
    · subst w2
      exact e83
    refine hM.1 o h1 ?_
    cases hq : mindL.elem o with
    | false => rfl
    | true => rcases g o h1 w1 w2 hq with z | z | z <;> exact absurd z (by assumption)
  · by_cases w : j = 2
    · subst w
      exact e2
    by_cases w2 : j = 28
    · subst w2
      exact e28
    refine hM.2.1 j ?_
    cases hq : mind76.elem j with
    | false => rfl
    | true =>
      have := List.mem_of_elem_eq_true hq
      simp only [mind76, List.mem_cons, List.not_mem_nil, or_false] at this
      rcases this with rfl | rfl | rfl
      · exact absurd rfl w
      · exact absurd rfl w2
      · exact absurd (by decide) h
  · rw [hM.1 30 (by decide) rfl, hM.1 31 (by decide) rfl, hM.1 114 (by decide) rfl, hM.2.1 59 rfl]
    exact hTr
  · unfold Tps at hTp ⊢
    rw [hM.2.2, hM.1 64 (by decide) rfl, hM.1 66 (by decide) rfl, hM.1 68 (by decide) rfl, hM.1 70 (by decide) rfl, hM.1 72 (by decide) rfl, hM.1 74 (by decide) rfl, hM.1 115 (by decide) rfl, hM.1 116 (by decide) rfl]
    exact hTp
theorem Inv.sc {S : St} {hs : List Hr} (hI : Inv S hs) (g g' : Nat → Int32) : Inv (sA (sA S 33 g) 93 g') hs := hI.mind (((Mind.rf S).a rfl g).a rfl g') rfl rfl rfl rfl
theorem k_told : K9 Inv := by
  intro S hs a1 hI
  obtain ⟨nb, hB, ⟨ns, nh, nd, nf, ne, ⟨⟨c1, c2, c3⟩, ⟨d1, d2, d3⟩, ⟨y1, y2, y3⟩, ⟨f1, f2, f3⟩, ⟨b1, b2, b3⟩, t1, t2⟩, hA, hT, hR, hF, hK, hW⟩, hIm, hTx, hTr, hTp, hHo, hL⟩ := id hI
  obtain ⟨MV, dT, fT, hv⟩ := hv_of hI
  have hS := hv.b
  obtain ⟨l1, l2, l3, l4, -, -⟩ := hS S (Mind.rf S)
  unfold r_X11_told r_X12_told
  rw [l1, l2, l3, l4, y2, y3]
  by_cases z0 : a1 = 0
  · rw [if_pos z0]
    exact ⟨_, rfl, rfl⟩
  · rw [if_neg z0]
    by_cases z1 : a1 = 1
    · rw [if_pos z1]
      exact ⟨_, rfl, rfl⟩
    · rw [if_neg z1]
      by_cases z2 : a1 = 2
      · rw [if_pos z2]
        exact ⟨_, rfl, rfl⟩
      · rw [if_neg z2]
        exact ⟨_, rfl, rfl⟩
theorem k_laugh : K12 Inv := by
  intro S hs a1 a2 hI
  obtain ⟨nb, hB, ⟨ns, nh, nd, nf, ne, ⟨⟨c1, c2, c3⟩, ⟨d1, d2, d3⟩, ⟨y1, y2, y3⟩, ⟨f1, f2, f3⟩, ⟨b1, b2, b3⟩, t1, t2⟩, hA, hT, hR, hF, hK, hW⟩, hIm, hTx, hTr, hTp, hHo, hL⟩ := id hI
  by_cases q : r_X12_in a1 0 (nI nh - 1) = 0
  · refine ⟨-10001, S, S, ?_, ?_, hI⟩
    · unfold r_X11_laugh
      rw [at_no d2 q]
    · unfold r_X12_laugh r_X12_isHearer
      rw [d3, if_pos q]
  obtain ⟨h, hh, rfl⟩ := ii_lt (by omega) q
  obtain ⟨k, v, k6, v9, ek, ev, hat⟩ := at_yes d1 d2 hW hh
  by_cases q1 : r_X12_in a2 0 (nI ns - 1) = 0
  · refine ⟨-10001, S, S, ?_, ?_, hI⟩
    · unfold r_X11_laugh r_X11_isStory
      rw [hat, within_in, c2, if_pos q1]
    · unfold r_X12_laugh r_X12_isHearer r_X12_isStory
      rw [d3, if_neg q, c3, if_pos q1]
  obtain ⟨s, hsn, rfl⟩ := ii_lt (by omega) q1
  obtain ⟨KV, LV, hL⟩ := lg_of hI c3 d3 c1 d1
  have hTm := TmOk.of hT.2.2.2 d1 (show s < 8 by omega)
  obtain ⟨g, hg⟩ := (hL.2.2 S (Mind.rf S) h hh).2.2 s nd 0 0 (tmO (S.1 82) h s) (by omega) (by omega) (by decide) (hTm h hh).1 (hTm h hh).2
  obtain ⟨g', hg'⟩ := ((hL.2.2 (sA S 33 g) ((Mind.rf S).a rfl g) h hh).1 s (tmO (S.1 82) h s) nd (by omega) (hTm h hh).2 (by omega) (hTm h hh).1 y3).2
  rw [if_pos rfl, Nat.add_zero, Nat.min_eq_right (hTm h hh).2] at hg
  refine ⟨LV h s (tmO (S.1 82) h s) (S.1 83 (8 * h + s)) nd, sA S 33 g, sA (sA S 33 g) 93 g', ?_, ?_, hI.sc g g'⟩
  · unfold r_X11_laugh r_X11_isStory
    rw [hat, within_in, c2, if_neg q1]
    unfold r_X11_laughNow
    rw [y2]
    have hg2 : r_X11_laughThen S hs (nI h) (nI s) (nI nd) 0 0 = _ := hg
    rw [hg2]
    rfl
  · unfold r_X12_laugh r_X12_isHearer r_X12_isStory
    show (if r_X12_in (nI h) 0 (S.1 76 1 - 1) = 0 then _ else if r_X12_in (nI s) 0 (S.1 76 0 - 1) = 0 then _ else _) = _
    rw [d3, if_neg q, c3, if_neg q1, hg']
    rfl
/-- sets of HEARERS as numbers -/
def orS (K : Nat → Bool) : Nat → Nat
  | 0 => 0
  | n + 1 => orS K n + (if K n then 2 ^ n else 0)
theorem orS_lt (K : Nat → Bool) : ∀ n, orS K n < 2 ^ n
  | 0 => Nat.one_pos
  | n + 1 => by
    have := orS_lt K n
    show orS K n + _ < _
    rw [Nat.pow_succ]
    split <;> omega
theorem orK_S (K : Nat → Bool) : ∀ n, n ≤ 30 → orK K n = nI (orS K n)
  | 0, _ => rfl
  | n + 1, h => by
    show (if K n then orK K n ||| ((1 : Int32) <<< (nI n &&& 31)) else orK K n) = nI (orS K n + _)
    rw [orK_S K n (by omega)]
    have hlt := orS_lt K n
    cases K n
    · rfl
    · rw [if_pos rfl, if_pos rfl, show (1 : Int32) = nI 1 from rfl, nI_shl (by omega), nI_or, Nat.shiftLeft_eq, Nat.one_mul, Nat.or_comm]
      congr 1
      have := Nat.two_pow_add_eq_or_of_lt hlt 1
      rw [Nat.mul_one] at this
      rw [← this, Nat.add_comm]
theorem orS_zero {K : Nat → Bool} : ∀ {n : Nat}, orS K n = 0 ↔ ∀ j, j < n → K j = false
  | 0 => ⟨fun _ j h => absurd h (Nat.not_lt_zero j), fun _ => rfl⟩
  | n + 1 => by
    show orS K n + _ = 0 ↔ _
    constructor
    · intro h j hj
      have h1 : orS K n = 0 := by omega
      by_cases w : j = n
      · subst w
        cases hk : K j
        · rfl
        · rw [hk] at h
          simp at h
      · exact orS_zero.mp h1 j (by omega)
    · intro h
      rw [orS_zero.mpr (fun j hj => h j (by omega)), h n (by omega)]
      rfl
theorem ones_64 : ∀ n, n < 64 → r_X12_ones (nI n) = some (r_J6_bitCount_0f7a4 (nI n)) := by decide +kernel
theorem tb_one : ∀ h, h < 6 → ∀ j, j < 6 → tbl ((1 : Int32) <<< (nI h &&& 31)) j = decide (j = h) := by decide +kernel
theorem k_would : K13 Inv := by
  intro S hs a1 a2 a3 hI
  obtain ⟨nb, hB, ⟨ns, nh, nd, nf, ne, ⟨⟨c1, c2, c3⟩, ⟨d1, d2, d3⟩, ⟨y1, y2, y3⟩, ⟨f1, f2, f3⟩, ⟨b1, b2, b3⟩, t1, t2⟩, hA, hT, hR, hF, hK, hW⟩, hIm, hTx, hTr, hTp, hHo, hL⟩ := id hI
  by_cases q1 : r_X12_in a1 0 (nI ns - 1) = 0
  · refine ⟨-10001, S, S, ?_, ?_, hI⟩
    · unfold r_X11_would r_X11_isStory
      rw [within_in, c2, if_pos q1]
    · unfold r_X12_would r_X12_isStory
      rw [c3, if_pos q1]
  obtain ⟨s, hsn, rfl⟩ := ii_lt (by omega) q1
  by_cases q2 : r_X12_in a3 0 1 = 0
  · refine ⟨-10001, S, S, ?_, ?_, hI⟩
    · unfold r_X11_would r_X11_isStory
      rw [within_in, c2, if_neg q1, if_pos q2]
    · unfold r_X12_would r_X12_isStory
      rw [c3, if_neg q1, if_pos q2]
  by_cases q3 : r_X12_in a2 0 (((1 : Int32) <<< (nI nh &&& 31)) - 1) = 0
  · refine ⟨-10002, S, S, ?_, ?_, hI⟩
    · unfold r_X11_would r_X11_isStory r_X11_isTable r_X11_everybody
      rw [within_in, c2, d2, if_neg q1, if_neg q2, if_pos q3]
    · unfold r_X12_would r_X12_isStory r_X12_isTable
      rw [c3, d3, if_neg q1, if_neg q2, if_pos q3]
  obtain ⟨KV, LV, hL⟩ := lg_of hI c3 d3 c1 d1
  have hs8 : s < 8 := by omega
  have hTm := TmOk.of hT.2.2.2 d1 hs8
  by_cases z : a3 = 0
  · obtain ⟨g, hg⟩ := laughter_c0 hL d1 hT.2.2.2 d2 a2 hs8 (show nd < 20000 by omega) (Mind.rf S)
    obtain ⟨g', hg'⟩ := laughter_m (S' := sA S 33 g) hL d1 (d := nd) a2 hs8 (by omega) ((Mind.rf S).a rfl g).m d3 y3 hTm
    refine ⟨LN S LV nh s a2 nd, sA S 33 g, sA (sA S 33 g) 93 g', ?_, ?_, hI.sc g g'⟩
    · unfold r_X11_would r_X11_isStory r_X11_isTable r_X11_everybody
      rw [within_in, c2, d2, if_neg q1, if_neg q2, if_neg q3, if_pos z]
      unfold r_X11_laughter
      rw [y2, hg]
      rfl
    · unfold r_X12_would r_X12_isStory r_X12_isTable
      show (if r_X12_in (nI s) 0 (S.1 76 0 - 1) = 0 then _ else if r_X12_in a3 0 1 = 0 then _ else if r_X12_in a2 0 (((1 : Int32) <<< (S.1 76 1 &&& 31)) - 1) = 0 then _ else if a3 = 0 then _ else _) = _
      rw [c3, d3, if_neg q1, if_neg q2, if_neg q3, if_pos z, hg']
      rfl
  · have hkc := knowers_c hL d1 hT.2.2.2 hT.1 hT.2.1 d2 a2 hs8 (show nd < 20000 by omega) (Mind.rf S)
    have hkm := knowing_m hL d1 (d := nd) a2 hs8 (by omega) (Mind.rf S).m d3 y3 hTm
    have hk : KN S KV nh s a2 nd = nI (orS (fun h => tbl a2 h && !decide (KV h (tmO (S.1 82) h s) (S.1 83 (8 * h + s)) nd = 0)) nh) := orK_S _ nh (by omega)
    have hlt := orS_lt (fun h => tbl a2 h && !decide (KV h (tmO (S.1 82) h s) (S.1 83 (8 * h + s)) nd = 0)) nh
    have h64 : 2 ^ nh ≤ 2 ^ 6 := Nat.pow_le_pow_right (by decide) d1
    refine ⟨r_J6_bitCount_0f7a4 (nI (orS (fun h => tbl a2 h && !decide (KV h (tmO (S.1 82) h s) (S.1 83 (8 * h + s)) nd = 0)) nh)), S, S, ?_, ?_, hI⟩
    rotate_left
    · unfold r_X12_would r_X12_isStory r_X12_isTable
      rw [c3, d3, if_neg q1, if_neg q2, if_neg q3, if_neg z, hkm, hk]
      show (r_X12_ones (nI _)).bind _ = _
      rw [ones_64 _ (by omega)]
      rfl
    · unfold r_X11_would r_X11_isStory r_X11_isTable r_X11_everybody
      rw [within_in, c2, d2, if_neg q1, if_neg q2, if_neg q3, if_neg z, y2, hkc, hk]
      rfl
theorem k_fresh : K15 Inv := by
  intro S hs a1 hI
  obtain ⟨nb, hB, ⟨ns, nh, nd, nf, ne, ⟨⟨c1, c2, c3⟩, ⟨d1, d2, d3⟩, ⟨y1, y2, y3⟩, ⟨f1, f2, f3⟩, ⟨b1, b2, b3⟩, t1, t2⟩, hA, hT, hR, hF, hK, hW⟩, hIm, hTx, hTr, hTp, hHo, hL⟩ := id hI
  by_cases q1 : r_X12_in a1 0 (nI ns - 1) = 0
  · refine ⟨-1, ?_, ?_⟩
    · unfold r_X11_fresh r_X11_isStory
      rw [within_in, c2, if_pos q1]
    · unfold r_X12_fresh r_X12_isStory
      rw [c3, if_pos q1]
  obtain ⟨s, hsn, rfl⟩ := ii_lt (by omega) q1
  obtain ⟨KV, LV, hL⟩ := lg_of hI c3 d3 c1 d1
  have hs8 : s < 8 := by omega
  have hTm := TmOk.of hT.2.2.2 d1 hs8
  have hkc := knowers_c hL d1 hT.2.2.2 hT.1 hT.2.1 d2 (((1 : Int32) <<< (nI nh &&& 31)) - 1) hs8 (show nd < 20000 by omega) (Mind.rf S)
  have hkm := knowing_m hL d1 (d := nd) (((1 : Int32) <<< (nI nh &&& 31)) - 1) hs8 (by omega) (Mind.rf S).m d3 y3 hTm
  unfold r_X11_fresh r_X11_isStory r_X11_everybody r_X12_fresh r_X12_isStory
  rw [within_in, c2, c3, d2, d3, y2, if_neg q1, if_neg q1, hkc, hkm]
  exact ⟨_, rfl, rfl⟩
theorem lp_again_m {S : St} {hs : List Hr} {ns nh : Nat} {KV : Nat → Nat → Int32 → Nat → Int32} {LV : Nat → Nat → Nat → Int32 → Nat → Int32} (hL : Lg S hs ns nh KV LV) (h6 : nh ≤ 6) (hT : ∀ i, i < 48 → ∃ k, k ≤ 999 ∧ S.1 82 i = nI k) (e3 : S.1 8 3 = nI nh) (d3 : S.1 76 1 = nI nh) (e12 : EqB 48 (S.1 12) (S.1 82)) (e13 : EqB 48 (S.1 13) (S.1 83)) {s nd : Nat} {tb : Int32} (hs8 : s < 8) (hd : nd ≤ 9999) (y2 : S.1 8 0 = nI nd) : ∀ n v, v ≤ 100 → 101 < n + v → ∀ S' : St, Mind S S' → S'.1 82 = S.1 82 → S'.1 83 = S.1 83 → S'.1 76 28 = S.1 76 28 → ∃ r S'', lp_X11_again_23 S hs (nI s) tb n (nI v) = some r ∧ lp_X12_again_33 (nI s) tb (nI nd) n (-5) (nI v) S' = some (if r.1 = 0 then r.2 else -5, S'') ∧ Mind S S'' ∧ S''.1 82 = S.1 82 ∧ S''.1 83 = S.1 83 ∧ S''.1 76 28 = S.1 76 28 := by
  intro n
  induction n with
  | zero => intro v h1 h2; omega
  | succ n ih =>
    intro v h1 h2 S' hM e82 e83 e28
    unfold lp_X11_again_23
    rw [lp_X12_again_33]
    by_cases w : v = 100
    · subst w
      refine ⟨(1, nI 100), S', ?_, ?_, hM, e82, e83, e28⟩
      · rw [if_pos (by decide)]
      · rw [if_pos (by decide)]
        rfl
    · rw [if_neg (show ¬ (99 : Int32) < nI v from fun z => by have := (nI_ltI (a := 99) (by decide) (by omega)).mp z; omega), if_neg (nle_l (k := 100) (by omega) (by decide)), if_neg (show ¬ (0 : Int32) ≤ -5 by decide), y2, nI_add, knowers_c hL h6 hT e12 e13 e3 tb hs8 (show nd + v < 20000 by omega) (Mind.rf S)]
      have hM2 : Mind S (sI S' 76 2 (nI (nd + v))) := hM.i rfl _
      have hkm := knowing_m hL h6 (s := s) (d := nd + v) tb hs8 (by omega) hM2.m (by show S'.1 76 1 = _; rw [hM.2.1 1 rfl, d3]) rfl (by show TmOk (S'.1 82) nh s; rw [e82]; exact TmOk.of hT h6 hs8)
      rw [hkm]
      have ek : KN (sI S' 76 2 (nI (nd + v))) KV nh s tb (nd + v) = KN S KV nh s tb (nd + v) := by
        unfold KN
        show orK (fun h => tbl tb h && !decide (KV h (tmO (S'.1 82) h s) (S'.1 83 (8 * h + s)) (nd + v) = 0)) nh = _
        rw [e82, e83]
      rw [ek]
      show ∃ r S'', (if KN S KV nh s tb (nd + v) = 0 then some (0, nI v) else lp_X11_again_23 S hs (nI s) tb n (nI v + 1)) = some r ∧ (if KN S KV nh s tb (nd + v) = 0 then lp_X12_again_33 (nI s) tb (nI nd) n (nI v) (nI v + 1) (sI S' 76 2 (nI (nd + v))) else lp_X12_again_33 (nI s) tb (nI nd) n (-5) (nI v + 1) (sI S' 76 2 (nI (nd + v)))) = some (if r.1 = 0 then r.2 else -5, S'') ∧ _
      by_cases k : KN S KV nh s tb (nd + v) = 0
      · rw [if_pos k, if_pos k]
        obtain ⟨m, rfl⟩ : ∃ m, n = m + 1 := ⟨n - 1, by omega⟩
        refine ⟨(0, nI v), sI S' 76 2 (nI (nd + v)), rfl, ?_, hM2, e82, e83, e28⟩
        rw [lp_X12_again_33]
        by_cases y : v + 1 = 100
        · rw [nI_1, if_pos (le_l (k := 100) (by omega) (by omega))]
          rfl
        · rw [nI_1, if_neg (nle_l (k := 100) (by omega) (by decide)), if_pos (nI_pos' (by omega))]
          rfl
      · rw [if_neg k, if_neg k, nI_1]
        exact ih (v + 1) (by omega) (by omega) _ hM2 e82 e83 e28
theorem k_again : K16 Inv := by
  intro S hs a1 a2 hI
  obtain ⟨nb, hB, ⟨ns, nh, nd, nf, ne, ⟨⟨c1, c2, c3⟩, ⟨d1, d2, d3⟩, ⟨y1, y2, y3⟩, ⟨f1, f2, f3⟩, ⟨b1, b2, b3⟩, t1, t2⟩, hA, hT, hR, hF, hK, hW⟩, hIm, hTx, hTr, hTp, hHo, hL⟩ := id hI
  by_cases q1 : r_X12_in a1 0 (nI ns - 1) = 0
  · refine ⟨-1, S, ?_, ?_, hI⟩
    · unfold r_X11_again r_X11_isStory
      rw [within_in, c2, if_pos q1]
    · unfold r_X12_again r_X12_isStory
      rw [c3, if_pos q1]
  obtain ⟨s, hsn, rfl⟩ := ii_lt (by omega) q1
  by_cases q3 : r_X12_in a2 0 (((1 : Int32) <<< (nI nh &&& 31)) - 1) = 0
  · refine ⟨-2, S, ?_, ?_, hI⟩
    · unfold r_X11_again r_X11_isStory r_X11_isTable r_X11_everybody
      rw [within_in, c2, d2, if_neg q1, if_pos q3]
    · unfold r_X12_again r_X12_isStory r_X12_isTable
      rw [c3, d3, if_neg q1, if_pos q3]
  obtain ⟨KV, LV, hL⟩ := lg_of hI c3 d3 c1 d1
  obtain ⟨r, S'', h1, h2, hM, e82, e83, e28⟩ := lp_again_m hL d1 hT.2.2.2 d2 d3 hT.1 hT.2.1 (s := s) (nd := nd) (tb := a2) (by omega) y1 y2 4000 0 (by omega) (by omega) S (Mind.rf S) rfl rfl rfl
  refine ⟨if r.1 = 0 then r.2 else -5, sI S'' 76 2 (nI nd), ?_, ?_, hI.mind (hM.i rfl _) e82 e83 y3.symm e28⟩
  · unfold r_X11_again r_X11_isStory r_X11_isTable r_X11_everybody
    rw [within_in, c2, d2, if_neg q1, if_neg q3]
    have h1' : lp_X11_again_23 S hs (nI s) a2 4000 0 = _ := h1
    rw [h1']
    show (if r.1 = 0 then some r.2 else some (-5)) = _
    split <;> rfl
  · unfold r_X12_again r_X12_isStory r_X12_isTable
    rw [c3, d3, y3, if_neg q1, if_neg q3]
    have h2' : lp_X12_again_33 (nI s) a2 (nI nd) 4000 (-5) 0 S = _ := h2
    rw [h2']
    rfl
