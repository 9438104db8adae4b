/-! SUPPERS: the class's table of what a story gives at a supper, by those suppers before that had it -/
def mcB (m : Nat) : Nat := m % 2 + m / 2
def WS (S : St) (LV : Nat → Nat → Nat → Int32 → Nat → Int32) (nh : Nat) (tb : Int32) (nd gap u s m : Nat) : Int32 := sumL (fun h => LV h s (min 999 (tmO (S.1 82) h s + mcB m)) (if mcB m = 0 then S.1 83 (8 * h + s) else nI (nd + m / 2 * gap)) (nd + u * gap)) (tbl tb) nh
theorem bc_4 : ∀ m, m < 4 → r_J6_bitCount_0f7a4 (nI m) = nI (mcB m) := by decide +kernel
theorem sh_4 : ∀ m, m < 4 → nI m >>> ((1 : Int32) &&& 31) = nI (m / 2) := by decide +kernel
theorem place_n (u s m : Nat) : r_X11_supperPlace (nI u) (nI s) (nI m) = nI (4 * (8 * u + s) + m) := by
  unfold r_X11_supperPlace
  rw [nI_8', nI_4']
section SUP
variable {S : St} {hs : List Hr} {ns nh nd : Nat} {KV : Nat → Nat → Int32 → Nat → Int32} {LV : Nat → Nat → Nat → Int32 → Nat → Int32}
theorem lp_w27 (hL : Lg S hs ns nh KV LV) (d1 : nh ≤ 6) (n8 : ns ≤ 8) (hT4 : ∀ i, i < 48 → ∃ k, k ≤ 999 ∧ S.1 82 i = nI k) (d2 : S.1 8 3 = nI nh) (y1 : nd ≤ 9999) (y2 : S.1 8 0 = nI nd) {tb f2 : Int32} {gap u s : Nat} (hg30 : gap ≤ 30) (hu : u < 3) (hsn : s < ns) : ∀ n m T, Mind S T → m ≤ 2 ^ u → 2 ^ u < n + m → ∃ g gw, lp_X11_weighSuppers_27 hs tb f2 (nI gap) (nI u) (nI s) n (nI m) T = some (sA (sA T 33 g) 37 gw) ∧ (∀ j, m ≤ j → j < 2 ^ u → gw (4 * (8 * u + s) + j) = WS S LV nh tb nd gap u s j) ∧ ∀ i, ¬ (4 * (8 * u + s) + m ≤ i ∧ i < 4 * (8 * u + s) + 4) → gw i = T.1 37 i := by
  intro n
  have h4 : 2 ^ u ≤ 2 ^ 2 := Nat.pow_le_pow_right (by decide) (by omega)
  induction n with
  | zero => intro m T _ h1 h2; omega
  | succ n ih =>
    intro m T hM h1 h2
    unfold lp_X11_weighSuppers_27
    rw [p2 (by omega)]
    by_cases w : m = 2 ^ u
    · refine ⟨T.1 33, T.1 37, ?_, fun j h3 h4 => by omega, fun _ _ => rfl⟩
      rw [w, if_pos (nI_le (Nat.le_refl _) (by omega)), sA_self, sA_self]
    have hm : m < 2 ^ u := by omega
    have hgm : m / 2 * gap ≤ 1 * 30 := Nat.mul_le_mul (by omega) hg30
    have hug : u * gap ≤ 2 * 30 := Nat.mul_le_mul (by omega) hg30
    have hmc : mcB m ≤ 9 := by
      unfold mcB
      omega
    obtain ⟨g, hg⟩ := laughter_c hL d1 hT4 d2 (s := s) (d := nd + u * gap) (more := mcB m) tb (nI (nd + m / 2 * gap)) (by omega) (by omega) hmc hM
    rw [if_neg (nI_ge hm (by omega)), hM.1 8 (by decide) rfl, y2, bc_4 m (by omega), sh_4 m (by omega), nI_mul, nI_mul, nI_add, nI_add, nI_1, place_n]
    have hg' : r_X11_laughterThen T hs (nI s) tb (nI (nd + u * gap)) (nI (mcB m)) (nI (nd + m / 2 * gap)) = some (WS S LV nh tb nd gap u s m, sA T 33 g) := hg
    have hpl : 4 * (8 * u + s) + m < 96 := by omega
    obtain ⟨g2, gw, x1, x2, x3⟩ := ih (m + 1) (sA (sA T 33 g) 37 (upd (T.1 37) (4 * (8 * u + s) + m) (WS S LV nh tb nd gap u s m))) ((hM.a rfl g).a rfl _) (by omega) (by omega)
    refine ⟨g2, gw, ob_step hg' ?_, fun j h5 h6 => ?_, fun i hi => ?_⟩
    · show gd (¬ (nI (4 * (8 * u + s) + m) < 0 ∨ 96 ≤ (nI (4 * (8 * u + s) + m)).toNatClampNeg)) (lp_X11_weighSuppers_27 hs tb f2 (nI gap) (nI u) (nI s) n (nI (m + 1)) (sA (sA T 33 g) 37 (upd (T.1 37) (nI (4 * (8 * u + s) + m)).toNatClampNeg (WS S LV nh tb nd gap u s m)))) = _
      rw [gdN hpl (by decide), nI_clamp (by omega), x1, sA_sw _ (a := 37) (b := 33) (by decide), sA_sA, sA_sA]
    · by_cases z : j = m
      · subst z
        rw [x3 _ (by omega)]
        exact upd_at _ _ _
      · exact x2 j (by omega) h6
    · rw [x3 i (by omega)]
      exact upd_ne (by omega)
theorem lp_w12 (hL : Lg S hs ns nh KV LV) (d1 : nh ≤ 6) (n8 : ns ≤ 8) (hT4 : ∀ i, i < 48 → ∃ k, k ≤ 999 ∧ S.1 82 i = nI k) (d2 : S.1 8 3 = nI nh) (c2 : S.1 8 2 = nI ns) (y1 : nd ≤ 9999) (y2 : S.1 8 0 = nI nd) {tb f2 : Int32} {gap u : Nat} (hg30 : gap ≤ 30) (hu : u < 3) : ∀ n s T, Mind S T → s ≤ ns → ns < n + s → ∃ g gw, lp_X11_weighSuppers_12 hs tb f2 (nI gap) (nI u) n (nI s) T = some (sA (sA T 33 g) 37 gw) ∧ (∀ s' j, s ≤ s' → s' < ns → j < 2 ^ u → gw (4 * (8 * u + s') + j) = WS S LV nh tb nd gap u s' j) ∧ ∀ i, ¬ (4 * (8 * u + s) ≤ i ∧ i < 4 * (8 * u + ns)) → gw i = T.1 37 i := by
  intro n
  have h4 : 2 ^ u ≤ 2 ^ 2 := Nat.pow_le_pow_right (by decide) (by omega)
  induction n with
  | zero => intro s T _ h1 h2; omega
  | succ n ih =>
    intro s T hM h1 h2
    unfold lp_X11_weighSuppers_12
    rw [hM.1 8 (by decide) rfl, c2]
    by_cases w : s = ns
    · subst w
      refine ⟨T.1 33, T.1 37, ?_, fun s' j h3 h4 => by omega, fun _ _ => rfl⟩
      rw [if_pos (nI_le (Nat.le_refl _) (by omega)), sA_self, sA_self]
    have hsn : s < ns := by omega
    obtain ⟨g, gw, x1, x2, x3⟩ := lp_w27 (f2 := f2) (tb := tb) hL d1 n8 hT4 d2 y1 y2 hg30 hu hsn 4000 0 T hM (Nat.zero_le _) (by omega)
    obtain ⟨g2, gw2, z1, z2, z3⟩ := ih (s + 1) (sA (sA T 33 g) 37 gw) ((hM.a rfl g).a rfl _) (by omega) (by omega)
    rw [if_neg (nI_ge (by omega) (by omega)), nI_1]
    refine ⟨g2, gw2, ?_, fun s' j h5 h6 h7 => ?_, fun i hi => ?_⟩
    · refine ob_step x1 ?_
      rw [z1, sA_sw _ (a := 37) (b := 33) (by decide), sA_sA, sA_sA]
    · by_cases z : s' = s
      · subst z
        rw [z3 _ (by omega)]
        exact x2 j (Nat.zero_le _) h7
      · exact z2 s' j (by omega) h6 h7
    · rw [z3 i (by omega)]
      exact x3 i (by omega)
theorem lp_w3 (hL : Lg S hs ns nh KV LV) (d1 : nh ≤ 6) (n8 : ns ≤ 8) (hT4 : ∀ i, i < 48 → ∃ k, k ≤ 999 ∧ S.1 82 i = nI k) (d2 : S.1 8 3 = nI nh) (c2 : S.1 8 2 = nI ns) (y1 : nd ≤ 9999) (y2 : S.1 8 0 = nI nd) {tb : Int32} {gap N : Nat} (hg30 : gap ≤ 30) (hN : N ≤ 3) : ∀ n u T, Mind S T → u ≤ N → N < n + u → ∃ g gw, lp_X11_weighSuppers_3 hs tb (nI N) (nI gap) n (nI u) T = some (sA (sA T 33 g) 37 gw) ∧ (∀ u' s' j, u ≤ u' → u' < N → s' < ns → j < 2 ^ u' → gw (4 * (8 * u' + s') + j) = WS S LV nh tb nd gap u' s' j) ∧ ∀ i, i < 32 * u → gw i = T.1 37 i := by
  intro n
  induction n with
  | zero => intro u T _ h1 h2; omega
  | succ n ih =>
    intro u T hM h1 h2
    unfold lp_X11_weighSuppers_3
    by_cases w : u = N
    · subst w
      refine ⟨T.1 33, T.1 37, ?_, fun u' s' j h3 h4 => by omega, fun _ _ => rfl⟩
      rw [if_pos (nI_le (Nat.le_refl _) (by omega)), sA_self, sA_self]
    have hu : u < N := by omega
    obtain ⟨g, gw, x1, x2, x3⟩ := lp_w12 (f2 := nI N) (tb := tb) hL d1 n8 hT4 d2 c2 y1 y2 hg30 (show u < 3 by omega) 4000 0 T hM (Nat.zero_le _) (by omega)
    obtain ⟨g2, gw2, z1, z2, z3⟩ := ih (u + 1) (sA (sA T 33 g) 37 gw) ((hM.a rfl g).a rfl _) (by omega) (by omega)
    rw [if_neg (nI_ge (by omega) (by omega)), nI_1]
    refine ⟨g2, gw2, ?_, fun u' s' j h5 h6 h7 h8 => ?_, fun i hi => ?_⟩
    · refine ob_step x1 ?_
      rw [z1, sA_sw _ (a := 37) (b := 33) (by decide), sA_sA, sA_sA]
    · by_cases z : u' = u
      · subst z
        have h4 : 2 ^ u' ≤ 2 ^ 2 := Nat.pow_le_pow_right (by decide) (by omega)
        rw [z3 _ (by omega)]
        exact x2 s' j (Nat.zero_le _) h7 h8
      · exact z2 u' s' j (by omega) h6 h7 h8
    · rw [z3 i (by omega)]
      exact x3 i (by omega)
theorem weigh_s (hL : Lg S hs ns nh KV LV) (d1 : nh ≤ 6) (n8 : ns ≤ 8) (hT4 : ∀ i, i < 48 → ∃ k, k ≤ 999 ∧ S.1 82 i = nI k) (d2 : S.1 8 3 = nI nh) (c2 : S.1 8 2 = nI ns) (y1 : nd ≤ 9999) (y2 : S.1 8 0 = nI nd) (tb : Int32) {gap N : Nat} (hg30 : gap ≤ 30) (hN : N ≤ 3) : ∃ g gw, r_X11_weighSuppers S hs tb (nI N) (nI gap) = some (0, sA (sA S 33 g) 37 gw) ∧ ∀ u' s' j, u' < N → s' < ns → j < 2 ^ u' → gw (4 * (8 * u' + s') + j) = WS S LV nh tb nd gap u' s' j := by
  obtain ⟨g, gw, x1, x2, -⟩ := lp_w3 (tb := tb) hL d1 n8 hT4 d2 c2 y1 y2 hg30 hN 4000 0 S (Mind.rf S) (Nat.zero_le _) (by omega)
  refine ⟨g, gw, ?_, fun u' s' j => x2 u' s' j (Nat.zero_le _)⟩
  unfold r_X11_weighSuppers
  exact ob_step x1 rfl
end SUP
