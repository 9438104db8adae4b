/-! SPARED, ODDS, MEAN -/
theorem sumL_one {L : Nat → Int32} {h : Nat} (h6 : h < 6) : ∀ n, n ≤ 6 → sumL L (tbl ((1 : Int32) <<< (nI h &&& 31))) n = if h < n then L h else 0
  | 0, _ => by rw [if_neg (Nat.not_lt_zero _)]; rfl
  | n + 1, hn => by
    show sumL L _ n + (if tbl ((1 : Int32) <<< (nI h &&& 31)) n then L n else 0) = _
    rw [sumL_one h6 n (by omega), tb_one h h6 n (by omega)]
    by_cases z : n = h
    · subst z
      rw [if_neg (Nat.lt_irrefl _), if_pos (decide_eq_true rfl), if_pos (Nat.lt_succ_self _), Int32.zero_add]
    · rw [if_neg (show ¬ decide (n = h) = true from fun q => z (of_decide_eq_true q)), Int32.add_zero]
      by_cases y : h < n
      · rw [if_pos y, if_pos (by omega)]
      · rw [if_neg y, if_neg (by omega)]
theorem ones_256 : ∀ n, n < 256 → r_X12_ones (nI n) = some (r_J6_bitCount_0f7a4 (nI n)) := by decide +kernel
theorem bits_full : ∀ c, c ≤ 8 → r_J6_bitCount_0f7a4 (nI (2 ^ c - 1)) = nI c := by decide +kernel
theorem lp_sp105 {S' : St} {ns : Nat} {L : Nat → Int32} (n8 : ns ≤ 8) (c3 : S'.1 76 0 = nI ns) (h94 : ∀ j, j < ns → S'.1 94 j = L j) {f2 f3 f4 t : Int32} : ∀ n s, s ≤ ns → ns < n + s → lp_X12_spared_105 S' f2 f3 f4 t n (sumL L (tbl t) s) (nI s) = some (sumL L (tbl t) ns) := by
  intro n
  induction n with
  | zero => intro s h1 h2; omega
  | succ n ih =>
    intro s h1 h2
    unfold lp_X12_spared_105
    rw [c3]
    by_cases w : s = ns
    · subst w
      rw [if_pos (nI_le (Nat.le_refl _) (by omega))]
    have hs8 : s < 8 := by omega
    have e := ih (s + 1) (by omega) (by omega)
    have e1 : sumL L (tbl t) (s + 1) = sumL L (tbl t) s + (if tbl t s then L s else 0) := rfl
    rw [e1] at e
    rw [if_neg (nI_ge (by omega) (by omega)), nI_1]
    simp only [gdN hs8 (show 8 < 2 ^ 31 by decide), nI_clamp (show s < 2 ^ 31 by omega), gdM hs8 (show s < 2 ^ 31 by omega)]
    rw [h94 s (by omega)]
    by_cases q : r_X12_has t (nI s) = 0
    · rw [if_pos q]
      rw [tbl_no q] at e
      exact e
    · rw [if_neg q]
      rw [tbl_yes q] at e
      exact e
theorem lp_spare {S1 S2 : St} {hs : List Hr} {ns c : Nat} {L : Nat → Int32} (n8 : ns ≤ 8) (hc : c ≤ ns) (c2 : S1.1 8 2 = nI ns) (c3 : S2.1 76 0 = nI ns) (h34 : ∀ j, j < ns → S1.1 34 j = L j) (h94 : ∀ j, j < ns → S2.1 94 j = L j) (hsm : ∀ j, j < ns → sm (L j) 3000) : ∀ n k f v w, k ≤ 2 ^ ns → 2 ^ ns < n + k → ((f = (0 : Int32) ∧ v = w) ∨ (f = 1 ∧ v = (1000000 : Int32) ∧ k ≤ 2 ^ c - 1)) → ∃ r, lp_X11_spared_65 S1 hs (nI c) n v (nI k) = some r ∧ lp_X12_spared_75 S2 (nI c) n f w (nI k) = some r := by
  intro n
  have h256 := p2_256 n8
  have hcn : 2 ^ c ≤ 2 ^ ns := Nat.pow_le_pow_right (by decide) hc
  have hc0 : 0 < 2 ^ c := Nat.two_pow_pos c
  induction n with
  | zero => intro k f v w h1 h2; omega
  | succ n ih =>
    intro k f v w h1 h2 hf
    unfold lp_X11_spared_65 lp_X12_spared_75
    rw [c2, c3, p2 (by omega)]
    by_cases z : k = 2 ^ ns
    · rw [z, if_pos (nI_le (Nat.le_refl _) (by omega)), if_pos (nI_le (Nat.le_refl _) (by omega))]
      rcases hf with ⟨-, rfl⟩ | ⟨-, -, h⟩
      · exact ⟨_, rfl, rfl⟩
      · omega
    have hk : k < 2 ^ ns := by omega
    have hm : lp_X12_spared_105 S2 (nI c) f w (nI k) 4000 0 0 = some (sumL L (tbl (nI k)) ns) := lp_sp105 (f2 := nI c) (f3 := f) (f4 := w) (t := nI k) n8 c3 h94 4000 0 (Nat.zero_le _) (by omega)
    have hF : sm (sumL L (tbl (nI k)) ns) 24000 := sm_le (sumL_sm (by omega) (by decide) hsm) (by omega)
    rw [if_neg (nI_ge hk (by omega)), if_neg (nI_ge hk (by omega)), nI_1, sum34 n8 hk h34, ones_256 k (by omega), hm]
    generalize sumL L (tbl (nI k)) ns = F at hF
    show ∃ r, (if r_J6_bitCount_0f7a4 (nI k) = nI c then lp_X11_spared_65 S1 hs (nI c) n (if F < v then F else v) (nI (k + 1)) else lp_X11_spared_65 S1 hs (nI c) n v (nI (k + 1))) = some r ∧ (if r_J6_bitCount_0f7a4 (nI k) = nI c then (if f = 0 then if F < w then lp_X12_spared_75 S2 (nI c) n 0 F (nI (k + 1)) else lp_X12_spared_75 S2 (nI c) n f w (nI (k + 1)) else lp_X12_spared_75 S2 (nI c) n 0 F (nI (k + 1))) else lp_X12_spared_75 S2 (nI c) n f w (nI (k + 1))) = some r
    by_cases y : r_J6_bitCount_0f7a4 (nI k) = nI c
    · rw [if_pos y, if_pos y]
      rcases hf with ⟨rfl, rfl⟩ | ⟨rfl, rfl, h⟩
      · rw [if_pos rfl]
        by_cases x : F < v
        · rw [if_pos x, if_pos x]
          exact ih (k + 1) 0 F F (by omega) (by omega) (Or.inl ⟨rfl, rfl⟩)
        · rw [if_neg x, if_neg x]
          exact ih (k + 1) 0 v v (by omega) (by omega) (Or.inl ⟨rfl, rfl⟩)
      · rw [if_neg (show ¬ (1 : Int32) = 0 by decide), if_pos (show F < 1000000 from Int32.lt_iff_toInt_lt.mpr (by
          have : (1000000 : Int32).toInt = 1000000 := by decide
          have := hF.2
          omega))]
        exact ih (k + 1) 0 F F (by omega) (by omega) (Or.inl ⟨rfl, rfl⟩)
    · rw [if_neg y, if_neg y]
      refine ih (k + 1) f v w (by omega) (by omega) ?_
      rcases hf with h | ⟨e1, e2, h⟩
      · exact Or.inl h
      · refine Or.inr ⟨e1, e2, ?_⟩
        by_cases x : k = 2 ^ c - 1
        · exact absurd (by rw [x]; exact bits_full c (by omega)) y
        · omega
theorem lp_sp41 {S : St} {hs : List Hr} {ns nh : Nat} {KV : Nat → Nat → Int32 → Nat → Int32} {LV : Nat → Nat → Nat → Int32 → Nat → Int32} (hL : Lg S hs ns nh KV LV) (n8 : ns ≤ 8) (d1 : nh ≤ 6) (hT4 : ∀ i, i < 48 → ∃ k, k ≤ 999 ∧ S.1 82 i = nI k) (c3 : S.1 76 0 = nI ns) {d h : Nat} {f2 : Int32} (hh : h < nh) (hd : d < 20000) (y3 : S.1 76 2 = nI d) : ∀ n s S', MindM S S' → S'.1 82 = S.1 82 → S'.1 83 = S.1 83 → S'.1 76 2 = S.1 76 2 → s ≤ ns → ns < n + s → (∀ j, j < s → S'.1 94 j = LV h j (tmO (S.1 82) h j) (S.1 83 (8 * h + j)) d) → ∃ g gw, lp_X12_spared_41 (nI h) f2 n (nI s) S' = some (sA (sA S' 93 g) 94 gw) ∧ ∀ j, j < ns → gw j = LV h j (tmO (S.1 82) h j) (S.1 83 (8 * h + j)) d := by
  intro n
  induction n with
  | zero => intro s S' _ _ _ _ h1 h2; omega
  | succ n ih =>
    intro s S' hM e82 e83 e2 h1 h2 hj
    unfold lp_X12_spared_41
    rw [hM.2 0 rfl, c3]
    by_cases w : s = ns
    · subst w
      refine ⟨S'.1 93, S'.1 94, ?_, hj⟩
      rw [if_pos (nI_le (Nat.le_refl _) (by omega)), sA_self, sA_self]
    have hs8 : s < 8 := by omega
    have hTm := TmOk.of hT4 d1 hs8
    obtain ⟨g, hg⟩ := (hL.2.1.2 S' hM h hh s (tmO (S.1 82) h s) d hs8 (hTm h hh).2 hd (by rw [e82]; exact (hTm h hh).1) (e2.trans y3)).2
    rw [e83] at hg
    rw [if_neg (nI_ge (by omega) (by omega)), nI_1, hg]
    show ∃ u gw, gd (¬ (nI s < 0 ∨ 8 ≤ (nI s).toNatClampNeg)) (lp_X12_spared_41 (nI h) f2 n (nI (s + 1)) (sA (sA S' 93 g) 94 (upd (S'.1 94) (nI s).toNatClampNeg (LV h s (tmO (S.1 82) h s) (S.1 83 (8 * h + s)) d)))) = some (sA (sA S' 93 u) 94 gw) ∧ ∀ j, j < ns → gw j = LV h j (tmO (S.1 82) h j) (S.1 83 (8 * h + j)) d
    rw [gdN hs8 (by decide), nI_clamp (by omega)]
    obtain ⟨g2, gw, x1, x2⟩ := ih (s + 1) (sA (sA S' 93 g) 94 (upd (S'.1 94) s (LV h s (tmO (S.1 82) h s) (S.1 83 (8 * h + s)) d))) ((hM.a rfl g).a rfl _) e82 e83 e2 (by omega) (by omega) (fun j hjs => by
      show upd (S'.1 94) s (LV h s (tmO (S.1 82) h s) (S.1 83 (8 * h + s)) d) j = _
      by_cases z : j = s
      · subst z
        exact upd_at _ _ _
      · rw [upd_ne z]
        exact hj j (by omega))
    refine ⟨g2, gw, ?_, x2⟩
    rw [x1, sA_sw _ (a := 94) (b := 93) (by decide), sA_sA, sA_sA]
theorem k_spared : K22 Inv := by
  intro S hs a1 a2 hI
  obtain ⟨nb, hB, ⟨ns, nh, nd, nf, ne, ⟨⟨c1, c2, c3⟩, ⟨d1, d2, d3⟩, ⟨y1, y2, y3⟩, ⟨f1, f2, f3⟩, ⟨b1, b2, b3⟩, t1, t2⟩, hA, hT, hR, hF, hK, hW⟩, hIm, hTx, hTr, hTp, hHo, hL⟩ := id hI
  by_cases q : r_X12_in a1 0 (nI nh - 1) = 0
  · refine ⟨-10001, S, S, ?_, ?_, hI⟩
    · unfold r_X11_spared
      rw [at_no d2 q]
    · unfold r_X12_spared r_X12_isHearer
      rw [d3, if_pos q]
  obtain ⟨h, hh, rfl⟩ := ii_lt (by omega) q
  obtain ⟨k, v, k6, v9, ek, ev, hat⟩ := at_yes d1 d2 hW hh
  by_cases q1 : r_X12_in a2 0 8 = 0
  · refine ⟨-10002, S, S, ?_, ?_, hI⟩
    · unfold r_X11_spared
      rw [hat, within_in, if_pos q1]
    · unfold r_X12_spared r_X12_isHearer
      rw [d3, if_neg q, if_pos q1]
  obtain ⟨c, -, c8, rfl⟩ := ii_nat (l := 0) (h := 8) (by decide) (by decide) q1
  by_cases q2 : nI c ≤ nI ns
  rotate_left
  · refine ⟨-10005, S, S, ?_, ?_, hI⟩
    · unfold r_X11_spared
      rw [hat, within_in, if_neg q1, c2, if_neg q2]
    · unfold r_X12_spared r_X12_isHearer
      rw [d3, if_neg q, if_neg q1, c3, if_neg q2]
  have hc : c ≤ ns := (nI_leI (by omega) (by omega)).mp q2
  obtain ⟨KV, LV, hLg⟩ := lg_of hI c3 d3 c1 d1
  obtain ⟨g, gw, hg, hgw⟩ := w34 hLg d1 hT.2.2.2 d2 c1 c2 (d := nd) ((1 : Int32) <<< (nI h &&& 31)) (by omega) (Mind.rf S)
  have hM1 : Mind S (sA (sA S 33 g) 34 gw) := ((Mind.rf S).a rfl g).a rfl gw
  obtain ⟨g', gw', hg', hgw'⟩ := lp_sp41 hLg c1 d1 hT.2.2.2 c3 (d := nd) (f2 := nI c) hh (by omega) y3 4000 0 (sA (sA S 33 g) 34 gw) hM1.m rfl rfl rfl (Nat.zero_le _) (by omega) (fun j h => absurd h (Nat.not_lt_zero _))
  have hM2 : Mind S (sA (sA (sA (sA S 33 g) 34 gw) 93 g') 94 gw') := (hM1.a rfl g').a rfl gw'
  have h34 : ∀ j, j < ns → gw j = LV h j (tmO (S.1 82) h j) (S.1 83 (8 * h + j)) nd := by
    intro j hj
    rw [hgw j hj]
    unfold LN
    rw [sumL_one (by omega) nh d1, if_pos hh]
  have hpos : 0 < 2 ^ c := Nat.two_pow_pos c
  have h256 := p2_256 c1
  obtain ⟨r, x1, x2⟩ := lp_spare (S1 := sA (sA S 33 g) 34 gw) (S2 := sA (sA (sA (sA S 33 g) 34 gw) 93 g') 94 gw') (hs := hs) (c := c) (L := fun j => LV h j (tmO (S.1 82) h j) (S.1 83 (8 * h + j)) nd) c1 hc c2 c3 h34 hgw' (fun j hj => hLg.2.1.1 h j _ _ _ hh hj (TmOk.of hT.2.2.2 d1 (by omega) h hh).2) 4000 0 1 1000000 0 (Nat.zero_le _) (by omega) (Or.inr ⟨rfl, rfl, by omega⟩)
  refine ⟨r, sA (sA S 33 g) 34 gw, sA (sA (sA (sA S 33 g) 34 gw) 93 g') 94 gw', ?_, ?_, hI.mind hM2 rfl rfl rfl rfl⟩
  · unfold r_X11_spared
    rw [hat, within_in, if_neg q1, c2, if_pos q2, y2, hg]
    show (lp_X11_spared_65 (sA (sA S 33 g) 34 gw) hs (nI c) 4000 1000000 (nI 0)).bind _ = _
    rw [x1]
    rfl
  · unfold r_X12_spared r_X12_isHearer
    show (if r_X12_in (nI h) 0 (S.1 76 1 - 1) = 0 then _ else if r_X12_in (nI c) 0 8 = 0 then _ else if nI c ≤ S.1 76 0 then (lp_X12_spared_41 (nI h) (nI c) 4000 (nI 0) (sA (sA S 33 g) 34 gw)).bind _ else _) = _
    rw [d3, if_neg q, if_neg q1, c3, if_pos q2, hg']
    show (lp_X12_spared_75 (sA (sA (sA (sA S 33 g) 34 gw) 93 g') 94 gw') (nI c) 4000 1 0 (nI 0)).bind _ = _
    rw [x2]
    rfl
/-- lowest terms -/
theorem remI {x : Int32} {v : Nat} (hx : sm x 200000) (hv : 1 ≤ v) (hv2 : v ≤ 64) : (x - x / nI v * nI v = 0) ↔ v ∣ x.toInt.natAbs := by
  obtain ⟨h1, h2⟩ := hx
  have ev : (nI v).toInt = v := nI_toInt (by omega)
  have e0 : (x / nI v).toInt = x.toInt.tdiv v := by
    have ha := Int.natAbs_tdiv_le_natAbs x.toInt v
    rw [Int32.toInt_div, ev, Int.bmod_def]
    generalize x.toInt.tdiv v = q at ha ⊢
    omega
  have e2 : x.toInt.tdiv v * v = x.toInt - x.toInt.tmod v := by
    have := Int.tmod_def x.toInt v
    rw [Int.mul_comm] at this
    generalize x.toInt.tdiv v * v = q at this ⊢
    omega
  have hb : (x.toInt.tmod v).natAbs ≤ x.toInt.natAbs := by
    rw [Int.natAbs_tmod]
    exact Nat.mod_le _ _
  have hs := Int.natAbs_tmod x.toInt v
  have e1 : (x - x / nI v * nI v).toInt = x.toInt.tmod v := by
    rw [Int32.toInt_sub, Int32.toInt_mul, e0, ev, e2]
    generalize x.toInt.tmod v = r at hb ⊢
    rw [Int.bmod_def, Int.bmod_def]
    have h3 : ((if (x.toInt - r) % ((2 : Nat) ^ 32 : Nat) < ((2 : Nat) ^ 32 + 1 : Nat) / 2 then (x.toInt - r) % ((2 : Nat) ^ 32 : Nat) else (x.toInt - r) % ((2 : Nat) ^ 32 : Nat) - ((2 : Nat) ^ 32 : Nat)) : Int) = x.toInt - r ∨ True := Or.inr trivial
    omega
  constructor
  · intro z
    rw [z] at e1
    have e3 : (0 : Int32).toInt = 0 := by decide
    rw [e3] at e1
    rw [← e1] at hs
    simp at hs
    exact Nat.dvd_of_mod_eq_zero hs.symm
  · intro z
    apply Int32.toInt_inj.mp
    rw [e1, show (0 : Int32).toInt = 0 by decide]
    have : (x.toInt.tmod v).natAbs = 0 := by
      rw [hs]
      simp
      exact Nat.mod_eq_zero_of_dvd z
    omega
theorem lp_part {x f2 : Int32} {m : Nat} (hx : sm x 200000) (hm : 1 ≤ m) (hm2 : m ≤ 64) : ∀ n k b, 2 ≤ k → k ≤ m + 1 → m + 1 < n + k → 1 ≤ b → b ∣ x.toInt.natAbs → b ∣ m → (∀ e, e < k → e ∣ x.toInt.natAbs → e ∣ m → e ≤ b) → lp_X11_partOf_5 x (nI m) f2 n (nI b) (nI k) = some (nI (Nat.gcd x.toInt.natAbs m)) := by
  intro n
  induction n with
  | zero => intro k b h1 h2 h3; omega
  | succ n ih =>
    intro k b h1 h2 h3 hb1 hb2 hb3 hb4
    unfold lp_X11_partOf_5
    by_cases w : k = m + 1
    · rw [if_pos (nI_lt (by omega) (by omega))]
      have g1 : b ≤ Nat.gcd x.toInt.natAbs m := Nat.le_of_dvd (Nat.gcd_pos_of_pos_right _ hm) (Nat.dvd_gcd hb2 hb3)
      have g2 := hb4 (Nat.gcd x.toInt.natAbs m) (by have := Nat.le_of_dvd hm (Nat.gcd_dvd_right x.toInt.natAbs m); omega) (Nat.gcd_dvd_left _ _) (Nat.gcd_dvd_right _ _)
      rw [show b = Nat.gcd x.toInt.natAbs m by omega]
    rw [if_neg (nI_nlt (by omega) (by omega)), gd_pos (nI_ne0 (by omega) (by omega)), gd_pos (nI_ne0 (by omega) (by omega)), nI_1]
    have nxt : ∀ b', (b' = b ∨ (b' = k)) → 1 ≤ b' → b' ∣ x.toInt.natAbs → b' ∣ m → (k ∣ x.toInt.natAbs → k ∣ m → b' = k) → (b' = k ∨ b' = b) → lp_X11_partOf_5 x (nI m) f2 n (nI b') (nI (k + 1)) = some (nI (Nat.gcd x.toInt.natAbs m)) := by
      intro b' _ z1 z2 z3 z4 z5
      refine ih (k + 1) b' (by omega) (by omega) (by omega) z1 z2 z3 (fun e he e1 e2 => ?_)
      by_cases y : e = k
      · subst y
        rw [z4 e1 e2]
        exact Nat.le_refl _
      · rcases z5 with rfl | rfl
        · omega
        · exact hb4 e (by omega) e1 e2
    by_cases d1 : x - x / nI k * nI k = 0
    · rw [if_pos d1]
      have d1' := (remI hx (by omega) (by omega)).mp d1
      rw [nI_rem (by omega) (by omega) (by omega)]
      by_cases d2 : m % k = 0
      · rw [if_pos (by rw [d2]; rfl)]
        exact nxt k (Or.inr rfl) (by omega) d1' (Nat.dvd_of_mod_eq_zero d2) (fun _ _ => rfl) (Or.inl rfl)
      · have hlt := Nat.mod_lt m (show 0 < k by omega)
        rw [if_neg (nI_ne0 (by omega) (by omega))]
        exact nxt b (Or.inl rfl) hb1 hb2 hb3 (fun _ q => absurd (Nat.mod_eq_zero_of_dvd q) d2) (Or.inr rfl)
    · rw [if_neg d1]
      exact nxt b (Or.inl rfl) hb1 hb2 hb3 (fun q _ => absurd ((remI hx (by omega) (by omega)).mpr q) d1) (Or.inr rfl)
theorem lp_div : ∀ n a b, a < 2 ^ 31 → b < 2 ^ 31 → b < n → lp_X12_divisor_14 n (nI a) (nI b) = some (nI (Nat.gcd b a)) := by
  intro n
  induction n with
  | zero => intro a b _ _ h; omega
  | succ n ih =>
    intro a b h1 h2 h3
    unfold lp_X12_divisor_14
    by_cases z : b = 0
    · subst z
      rw [if_pos (show nI 0 = 0 from rfl), Nat.gcd_zero_left]
    · have hlt := Nat.mod_lt a (show 0 < b by omega)
      rw [if_neg (nI_ne0 (by omega) (by omega)), gd_pos (nI_ne0 (by omega) (by omega)), nI_rem h1 (by omega) h2, ih b (a % b) h2 (by omega) (by omega), Nat.gcd_rec b a]
theorem parts {x a3 : Int32} {m : Nat} (hx : sm x 200000) (hm : 1 ≤ m) (hm2 : m ≤ 64) : ∃ p, r_X11_partOf x (nI m) a3 = some p ∧ r_X12_lowest x (nI m) a3 = some p.toInt64 := by
  have hg0 : 0 < Nat.gcd x.toInt.natAbs m := Nat.gcd_pos_of_pos_right _ hm
  have hg1 := Nat.le_of_dvd hm (Nat.gcd_dvd_right x.toInt.natAbs m)
  have hc : lp_X11_partOf_5 x (nI m) a3 4000 1 2 = some (nI (Nat.gcd x.toInt.natAbs m)) := lp_part hx hm hm2 4000 2 1 (by omega) (by omega) (by omega) (by omega) (Nat.one_dvd _) (Nat.one_dvd _) (fun e h _ _ => by omega)
  have hd : r_X12_divisor x (nI m) = some (nI (Nat.gcd x.toInt.natAbs m)) := by
    unfold r_X12_divisor
    obtain ⟨h1, h2⟩ := hx
    have e0 : (0 : Int32).toInt = 0 := by decide
    by_cases z : 0 ≤ x
    · rw [if_pos z]
      have z1 := Int32.le_iff_toInt_le.mp z
      have ex : x = nI x.toInt.natAbs := by
        apply Int32.toInt_inj.mp
        rw [nI_toInt (by omega)]
        omega
      have := lp_div 4000 x.toInt.natAbs m (by omega) (by omega) (by omega)
      rw [← ex] at this
      rw [this, Nat.gcd_comm]
      rfl
    · rw [if_neg z]
      have z1 := Int32.lt_iff_toInt_lt.mp (Int32.not_le.mp z)
      have ex : -x = nI x.toInt.natAbs := by
        apply Int32.toInt_inj.mp
        rw [nI_toInt (by omega), Int32.toInt_neg, Int.bmod_def]
        omega
      have := lp_div 4000 x.toInt.natAbs m (by omega) (by omega) (by omega)
      rw [ex, this, Nat.gcd_comm]
      rfl
  unfold r_X11_partOf r_X12_lowest
  rw [hc, hd]
  have hne := nI_ne0 (show 1 ≤ Nat.gcd x.toInt.natAbs m by omega) (by omega)
  by_cases z : a3 = 0
  · refine ⟨x / nI (Nat.gcd x.toInt.natAbs m), ?_, ?_⟩
    · exact (if_pos z).trans (gd_pos hne)
    · exact (if_pos z).trans (gd_pos hne)
  · refine ⟨nI m / nI (Nat.gcd x.toInt.natAbs m), ?_, ?_⟩
    · exact (if_neg z).trans (gd_pos hne)
    · exact (if_neg z).trans (gd_pos hne)
theorem lp_od23 {S : St} {hs : List Hr} {ns nh : Nat} {KV : Nat → Nat → Int32 → Nat → Int32} {LV : Nat → Nat → Nat → Int32 → Nat → Int32} (hL : Lg S hs ns nh KV LV) (d1 : nh ≤ 6) (hT4 : ∀ i, i < 48 → ∃ k, k ≤ 999 ∧ S.1 82 i = nI k) (d2 : S.1 8 3 = nI nh) {d s : Nat} {f2 : Int32} (hs8 : s < 8) (hd : d < 20000) (y2 : S.1 8 0 = nI d) : ∀ n h S', Mind S S' → h ≤ nh → nh < n + h → (∀ j, j < h → S'.1 36 j = LV j s (tmO (S.1 82) j s) (S.1 83 (8 * j + s)) d) → ∃ g gw, lp_X11_odds_23 hs (nI s) f2 n (nI h) S' = some (sA (sA S' 33 g) 36 gw) ∧ ∀ j, j < nh → gw j = LV j s (tmO (S.1 82) j s) (S.1 83 (8 * j + s)) d := by
  intro n
  induction n with
  | zero => intro h S' _ h1 h2; omega
  | succ n ih =>
    intro h S' hM h1 h2 hj
    unfold lp_X11_odds_23
    rw [hM.1 8 (by decide) rfl, d2]
    by_cases w : h = nh
    · subst w
      refine ⟨S'.1 33, S'.1 36, ?_, hj⟩
      rw [if_pos (nI_le (Nat.le_refl _) (by omega)), sA_self, sA_self]
    have hh : h < nh := by omega
    have hTm := TmOk.of hT4 d1 hs8
    obtain ⟨g, hg⟩ := (hL.2.2 S' hM h hh).2.2 s d 0 0 (tmO (S.1 82) h s) hs8 hd (by decide) (hTm h hh).1 (hTm h hh).2
    rw [if_pos rfl, Nat.add_zero, Nat.min_eq_right (hTm h hh).2] at hg
    have hg2 : r_X11_laughNow S' hs (nI h) (nI s) = some (LV h s (tmO (S.1 82) h s) (S.1 83 (8 * h + s)) d, sA S' 33 g) := by
      unfold r_X11_laughNow
      rw [hM.1 8 (by decide) rfl, y2]
      have hg3 : r_X11_laughThen S' hs (nI h) (nI s) (nI d) 0 0 = _ := hg
      rw [hg3]
      rfl
    rw [if_neg (nI_ge (by omega) (by omega)), nI_1, hg2]
    show ∃ u gw, gd (¬ (nI h < 0 ∨ 6 ≤ (nI h).toNatClampNeg)) (lp_X11_odds_23 hs (nI s) f2 n (nI (h + 1)) (sA (sA S' 33 g) 36 (upd (S'.1 36) (nI h).toNatClampNeg (LV h s (tmO (S.1 82) h s) (S.1 83 (8 * h + s)) d)))) = some (sA (sA S' 33 u) 36 gw) ∧ ∀ j, j < nh → gw j = LV j s (tmO (S.1 82) j s) (S.1 83 (8 * j + s)) d
    rw [gdN (show h < 6 by omega) (by decide), nI_clamp (by omega)]
    obtain ⟨g2, gw, x1, x2⟩ := ih (h + 1) (sA (sA S' 33 g) 36 (upd (S'.1 36) h (LV h s (tmO (S.1 82) h s) (S.1 83 (8 * h + s)) d))) ((hM.a rfl g).a rfl _) (by omega) (by omega) (fun j hjs => by
      show upd (S'.1 36) h (LV h s (tmO (S.1 82) h s) (S.1 83 (8 * h + s)) d) j = _
      by_cases z : j = h
      · subst z
        exact upd_at _ _ _
      · rw [upd_ne z]
        exact hj j (by omega))
    refine ⟨g2, gw, ?_, x2⟩
    rw [x1, sA_sw _ (a := 36) (b := 33) (by decide), sA_sA, sA_sA]
theorem lp_od {S S1 : St} {hs : List Hr} {ns nh : Nat} {KV : Nat → Nat → Int32 → Nat → Int32} {LV : Nat → Nat → Nat → Int32 → Nat → Int32} (hL : Lg S hs ns nh KV LV) (d1 : nh ≤ 6) (hT4 : ∀ i, i < 48 → ∃ k, k ≤ 999 ∧ S.1 82 i = nI k) (d3 : S.1 76 1 = nI nh) {d s : Nat} {f2 f4 : Int32} (hs8 : s < 8) (hd : d < 20000) (y3 : S.1 76 2 = nI d) (h36 : ∀ j, j < nh → S1.1 36 j = LV j s (tmO (S.1 82) j s) (S.1 83 (8 * j + s)) d) : ∀ n k v S2, MindM S S2 → S2.1 82 = S.1 82 → S2.1 83 = S.1 83 → S2.1 76 2 = S.1 76 2 → k ≤ 2 ^ nh → 2 ^ nh < n + k → v ≤ k → ∃ r g, r ≤ 2 ^ nh ∧ lp_X11_odds_68 S1 hs f2 (nI (2 ^ nh)) n (nI v) (nI k) = some (nI r) ∧ lp_X12_odds_27 (nI s) f4 n (nI v) (nI k) S2 = some (nI r, sA S2 93 g) := by
  intro n
  have h64 : 2 ^ nh ≤ 2 ^ 6 := Nat.pow_le_pow_right (by decide) d1
  induction n with
  | zero => intro k v S2 _ _ _ _ h1 h2; omega
  | succ n ih =>
    intro k v S2 hM e82 e83 e2 h1 h2 h3
    unfold lp_X11_odds_68 lp_X12_odds_27
    rw [hM.2 1 rfl, d3, p2 (by omega)]
    by_cases z : k = 2 ^ nh
    · refine ⟨v, S2.1 93, by omega, ?_, ?_⟩
      · rw [z, if_pos (nI_le (Nat.le_refl _) (by omega))]
      · rw [z, if_pos (nI_le (Nat.le_refl _) (by omega)), sA_self]
    have hk : k < 2 ^ nh := by omega
    obtain ⟨g, hg⟩ := laughter_m hL d1 (d := d) (nI k) hs8 hd hM (by rw [hM.2 1 rfl]; exact d3) (e2.trans y3) (by rw [e82]; exact TmOk.of hT4 d1 hs8)
    rw [e82, e83] at hg
    rw [if_neg (nI_ge hk (by omega)), if_neg (nI_ge hk (by omega)), nI_1, Int32.add_zero, sum36 d1 hk h36, hg]
    generalize sumL (fun h => LV h s (tmO (S.1 82) h s) (S.1 83 (8 * h + s)) d) (tbl (nI k)) nh = F
    show ∃ r g', r ≤ 2 ^ nh ∧ (if F ≤ 0 then lp_X11_odds_68 S1 hs f2 (nI (2 ^ nh)) n (nI v) (nI (k + 1)) else lp_X11_odds_68 S1 hs f2 (nI (2 ^ nh)) n (nI v + 1) (nI (k + 1))) = some (nI r) ∧ (if F ≤ 0 then lp_X12_odds_27 (nI s) f4 n (nI v) (nI (k + 1)) (sA S2 93 g) else lp_X12_odds_27 (nI s) f4 n (nI v + 1) (nI (k + 1)) (sA S2 93 g)) = some (nI r, sA S2 93 g')
    rw [nI_1]
    by_cases y : F ≤ 0
    · rw [if_pos y, if_pos y]
      obtain ⟨r, g', x0, x1, x2⟩ := ih (k + 1) v (sA S2 93 g) (hM.a rfl g) e82 e83 e2 (by omega) (by omega) (by omega)
      rw [sA_sA] at x2
      exact ⟨r, g', x0, x1, x2⟩
    · rw [if_neg y, if_neg y]
      obtain ⟨r, g', x0, x1, x2⟩ := ih (k + 1) (v + 1) (sA S2 93 g) (hM.a rfl g) e82 e83 e2 (by omega) (by omega) (by omega)
      rw [sA_sA] at x2
      exact ⟨r, g', x0, x1, x2⟩
theorem k_odds : K25 Inv := by
  intro S hs a1 a2 hI
  obtain ⟨nb, hB, ⟨ns, nh, nd, nf, ne, ⟨⟨c1, c2, c3⟩, ⟨d1, d2, d3⟩, ⟨y1, y2, y3⟩, ⟨f1, f2, f3⟩, ⟨b1, b2, b3⟩, t1, t2⟩, hA, hT, hR, hF, hK, hW⟩, hIm, hTx, hTr, hTp, hHo, hL⟩ := id hI
  by_cases q1 : r_X12_in a1 0 (nI ns - 1) = 0
  · refine ⟨-9223372036854775808, S, S, ?_, ?_, hI⟩
    · unfold r_X11_odds r_X11_isStory
      rw [within_in, c2, if_pos q1]
    · unfold r_X12_odds r_X12_isStory
      rw [c3, if_pos q1]
  obtain ⟨s, hsn, rfl⟩ := ii_lt (by omega) q1
  by_cases q2 : r_X12_in a2 0 1 = 0
  · refine ⟨-9223372036854775808, S, S, ?_, ?_, hI⟩
    · unfold r_X11_odds r_X11_isStory
      rw [within_in, c2, if_neg q1, if_pos q2]
    · unfold r_X12_odds r_X12_isStory
      rw [c3, if_neg q1, if_pos q2]
  obtain ⟨KV, LV, hLg⟩ := lg_of hI c3 d3 c1 d1
  have hs8 : s < 8 := by omega
  obtain ⟨g, gw, hg, hgw⟩ := lp_od23 hLg d1 hT.2.2.2 d2 (d := nd) (f2 := a2) hs8 (by omega) y2 4000 0 S (Mind.rf S) (Nat.zero_le _) (by omega) (fun j h => absurd h (Nat.not_lt_zero _))
  have hM1 : Mind S (sA (sA S 33 g) 36 gw) := ((Mind.rf S).a rfl g).a rfl gw
  have h64 : 2 ^ nh ≤ 2 ^ 6 := Nat.pow_le_pow_right (by decide) d1
  have hpos : 0 < 2 ^ nh := Nat.two_pow_pos nh
  obtain ⟨r, g', x0, x1, x2⟩ := lp_od (S1 := sA (sA S 33 g) 36 gw) hLg d1 hT.2.2.2 d3 (d := nd) (f2 := a2) (f4 := a2) hs8 (by omega) y3 hgw 4000 0 0 (sA (sA S 33 g) 36 gw) hM1.m rfl rfl rfl (Nat.zero_le _) (by omega) (Nat.zero_le _)
  have hM2 : Mind S (sA (sA (sA S 33 g) 36 gw) 93 g') := hM1.a rfl g'
  obtain ⟨p, p1, p2'⟩ := parts (x := nI r) (a3 := a2) (m := 2 ^ nh) (sm_nI (by omega) (by decide)) (by omega) (by omega)
  refine ⟨p.toInt64, sA (sA S 33 g) 36 gw, sA (sA (sA S 33 g) 36 gw) 93 g', ?_, ?_, hI.mind hM2 rfl rfl rfl rfl⟩
  · unfold r_X11_odds r_X11_isStory
    rw [within_in, c2, if_neg q1, if_neg q2]
    have hg' : lp_X11_odds_23 hs (nI s) a2 4000 0 S = _ := hg
    rw [hg']
    show (lp_X11_odds_68 (sA (sA S 33 g) 36 gw) hs a2 ((1 : Int32) <<< (S.1 8 3 &&& 31)) 4000 (nI 0) (nI 0)).bind (fun q4 => (r_X11_partOf q4 ((1 : Int32) <<< (S.1 8 3 &&& 31)) a2).bind fun q5 => some (q5.toInt64, sA (sA S 33 g) 36 gw)) = _
    rw [d2, p2 (by omega), x1]
    show (r_X11_partOf (nI r) (nI (2 ^ nh)) a2).bind _ = _
    rw [p1]
    rfl
  · unfold r_X12_odds r_X12_isStory
    show (if r_X12_in (nI s) 0 (S.1 76 0 - 1) = 0 then _ else if r_X12_in a2 0 1 = 0 then _ else (lp_X12_odds_27 (nI s) a2 4000 (nI 0) (nI 0) (sA (sA S 33 g) 36 gw)).bind _) = _
    rw [c3, if_neg q1, if_neg q2, x2]
    show (r_X12_lowest (nI r) ((1 : Int32) <<< (S.1 76 1 &&& 31)) a2).bind _ = _
    rw [d3, p2 (by omega), p2']
    rfl
theorem lp_mean {S : St} {hs : List Hr} {ns nh : Nat} {KV : Nat → Nat → Int32 → Nat → Int32} {LV : Nat → Nat → Nat → Int32 → Nat → Int32} (hL : Lg S hs ns nh KV LV) (d1 : nh ≤ 6) (n8 : ns ≤ 8) (hT4 : ∀ i, i < 48 → ∃ k, k ≤ 999 ∧ S.1 82 i = nI k) (c3 : S.1 76 0 = nI ns) (d3 : S.1 76 1 = nI nh) {d : Nat} {f2 : Int32} {tb : Int32} (hd : d < 20000) (y3 : S.1 76 2 = nI d) : ∀ n s S', MindM S S' → S'.1 82 = S.1 82 → S'.1 83 = S.1 83 → S'.1 76 2 = S.1 76 2 → s ≤ ns → ns < n + s → ∃ g, lp_X12_mean_34 tb f2 n (sumL (fun j => LN S LV nh j tb d) (fun _ => true) s) (nI s) S' = some (sumL (fun j => LN S LV nh j tb d) (fun _ => true) ns, sA S' 93 g) := by
  intro n
  induction n with
  | zero => intro s S' _ _ _ _ h1 h2; omega
  | succ n ih =>
    intro s S' hM e82 e83 e2 h1 h2
    unfold lp_X12_mean_34
    rw [hM.2 0 rfl, c3]
    by_cases w : s = ns
    · subst w
      exact ⟨S'.1 93, by rw [if_pos (nI_le (Nat.le_refl _) (by omega)), sA_self]⟩
    have hs8 : s < 8 := by omega
    obtain ⟨g, hg⟩ := laughter_m hL d1 (d := d) tb hs8 hd hM (by rw [hM.2 1 rfl]; exact d3) (e2.trans y3) (by rw [e82]; exact TmOk.of hT4 d1 hs8)
    rw [e82, e83] at hg
    have hg2 : r_X12_laughter S' (nI s) tb = some (LN S LV nh s tb d, sA S' 93 g) := hg
    rw [if_neg (nI_ge (by omega) (by omega)), nI_1, hg2]
    obtain ⟨g', x⟩ := ih (s + 1) (sA S' 93 g) (hM.a rfl g) e82 e83 e2 (by omega) (by omega)
    rw [sA_sA] at x
    exact ⟨g', x⟩
theorem sumL_all {L : Nat → Int32} {tb : Nat → Bool} : ∀ {n : Nat}, (∀ j, j < n → tb j = true) → sumL L tb n = sumL L (fun _ => true) n
  | 0, _ => rfl
  | n + 1, h => by
    show sumL L tb n + _ = sumL L _ n + _
    rw [sumL_all (fun j hj => h j (by omega)), h n (by omega)]
theorem tbl_full : ∀ n, n ≤ 8 → ∀ j, j < 8 → j < n → tbl (nI (2 ^ n - 1)) j = true := by decide +kernel
theorem k_mean : K26 Inv := by
  intro S hs a1 a2 hI
  obtain ⟨nb, hB, ⟨ns, nh, nd, nf, ne, ⟨⟨c1, c2, c3⟩, ⟨d1, d2, d3⟩, ⟨y1, y2, y3⟩, ⟨f1, f2, f3⟩, ⟨b1, b2, b3⟩, t1, t2⟩, hA, hT, hR, hF, hK, hW⟩, hIm, hTx, hTr, hTp, hHo, hL⟩ := id hI
  by_cases q3 : r_X12_in a1 0 (((1 : Int32) <<< (nI nh &&& 31)) - 1) = 0
  · refine ⟨-9223372036854775808, S, S, ?_, ?_, hI⟩
    · unfold r_X11_mean r_X11_isTable r_X11_everybody
      rw [within_in, d2, if_pos q3]
    · unfold r_X12_mean r_X12_isTable
      rw [d3, if_pos q3]
  by_cases q2 : r_X12_in a2 0 1 = 0
  · refine ⟨-9223372036854775808, S, S, ?_, ?_, hI⟩
    · unfold r_X11_mean r_X11_isTable r_X11_everybody
      rw [within_in, d2, if_neg q3, if_pos q2]
    · unfold r_X12_mean r_X12_isTable
      rw [d3, if_neg q3, if_pos q2]
  by_cases z : ns = 0
  · subst z
    refine ⟨-9223372036854775808, S, S, ?_, ?_, hI⟩
    · unfold r_X11_mean r_X11_isTable r_X11_everybody
      rw [within_in, d2, if_neg q3, if_neg q2, c2, if_pos (show nI 0 = 0 from rfl)]
    · unfold r_X12_mean r_X12_isTable
      rw [d3, if_neg q3, if_neg q2, c3, if_pos (show nI 0 = 0 from rfl)]
  obtain ⟨KV, LV, hLg⟩ := lg_of hI c3 d3 c1 d1
  obtain ⟨g, gw, hg, hgw⟩ := w34 hLg d1 hT.2.2.2 d2 c1 c2 (d := nd) a1 (by omega) (Mind.rf S)
  have hM1 : Mind S (sA (sA S 33 g) 34 gw) := ((Mind.rf S).a rfl g).a rfl gw
  obtain ⟨g', x⟩ := lp_mean hLg d1 c1 hT.2.2.2 c3 d3 (d := nd) (f2 := a2) (tb := a1) (by omega) y3 4000 0 (sA (sA S 33 g) 34 gw) hM1.m rfl rfl rfl (Nat.zero_le _) (by omega)
  have hM2 : Mind S (sA (sA (sA S 33 g) 34 gw) 93 g') := hM1.a rfl g'
  have hpos : 0 < 2 ^ ns := Nat.two_pow_pos ns
  have hF : sm (sumL (fun j => LN S LV nh j a1 nd) (fun _ => true) ns) 200000 := by
    refine sm_le (sumL_sm (b := 18000) (by omega) (by decide) (fun j hj => ?_)) (by omega)
    refine sm_le (sumL_sm (b := 3000) (by omega) (by decide) (fun h hh => ?_)) (by omega)
    exact hLg.2.1.1 h j _ _ _ hh hj (TmOk.of hT.2.2.2 d1 (by omega) h hh).2
  obtain ⟨p, p1, p2'⟩ := parts (a3 := a2) (m := ns) hF (by omega) (by omega)
  have hsum : r_X11_sumOf_34 (sA (sA S 33 g) 34 gw) (((1 : Int32) <<< (nI ns &&& 31)) - 1) = some (sumL (fun j => LN S LV nh j a1 nd) (fun _ => true) ns) := by
    rw [p2 (by omega), show (1 : Int32) = nI 1 from rfl, nI_sub (show 1 ≤ 2 ^ ns by omega), sum34 c1 (by omega) hgw, sumL_all (fun j hj => tbl_full ns c1 j (by omega) hj)]
  refine ⟨p.toInt64, sA (sA S 33 g) 34 gw, sA (sA (sA S 33 g) 34 gw) 93 g', ?_, ?_, hI.mind hM2 rfl rfl rfl rfl⟩
  · unfold r_X11_mean r_X11_isTable r_X11_everybody
    rw [within_in, d2, if_neg q3, if_neg q2, c2, if_neg (nI_ne0 (by omega) (by omega)), y2, hg]
    show (r_X11_sumOf_34 (sA (sA S 33 g) 34 gw) (((1 : Int32) <<< (S.1 8 2 &&& 31)) - 1)).bind (fun q2 => (r_X11_partOf q2 (S.1 8 2) a2).bind fun q3 => some (q3.toInt64, sA (sA S 33 g) 34 gw)) = _
    rw [c2, hsum]
    show (r_X11_partOf _ (nI ns) a2).bind _ = _
    rw [p1]
    rfl
  · unfold r_X12_mean r_X12_isTable
    show (if r_X12_in a1 0 (((1 : Int32) <<< (S.1 76 1 &&& 31)) - 1) = 0 then _ else if r_X12_in a2 0 1 = 0 then _ else if S.1 76 0 = 0 then _ else (lp_X12_mean_34 a1 a2 4000 0 (nI 0) (sA (sA S 33 g) 34 gw)).bind _) = _
    have x' : lp_X12_mean_34 a1 a2 4000 0 (nI 0) (sA (sA S 33 g) 34 gw) = _ := x
    rw [d3, if_neg q3, if_neg q2, c3, if_neg (nI_ne0 (by omega) (by omega)), x']
    show (r_X12_lowest _ (S.1 76 0) a2).bind _ = _
    rw [c3, p2']
    rfl
