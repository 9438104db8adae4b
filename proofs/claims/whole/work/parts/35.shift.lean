/-! SHIFT, HEARER -/
theorem run_no {S : St} {o sz : Nat} (e : S.1 o 2 = nI sz) (hs : sz ≤ 60) {a b : Int32} (h : ¬ r_X8_hasRun S o a b = 0) : ∃ i n, a = nI i ∧ b = nI n ∧ i + n ≤ sz := by
  unfold r_X8_hasRun at h
  rw [e] at h
  by_cases z1 : a < 0
  · rw [if_pos z1] at h
    exact absurd rfl h
  · rw [if_neg z1] at h
    by_cases z2 : b < 0
    · rw [if_pos z2] at h
      exact absurd rfl h
    · rw [if_neg z2] at h
      obtain ⟨i, hi, rfl⟩ := nI_of z1
      obtain ⟨n, hn, rfl⟩ := nI_of z2
      by_cases z3 : nI sz - nI i < nI n
      · rw [if_pos z3] at h
        exact absurd rfl h
      · rw [Int32.lt_iff_toInt_lt, sub_toInt (by omega) hi, nI_toInt hn] at z3
        exact ⟨i, n, rfl, rfl, by omega⟩
theorem run_yes {S : St} {o sz : Nat} (e : S.1 o 2 = nI sz) (hs : sz ≤ 60) {i n : Nat} (h : i + n ≤ sz) : ¬ r_X8_hasRun S o (nI i) (nI n) = 0 := by
  unfold r_X8_hasRun
  rw [e, if_neg (nI_pos (by omega)), if_neg (nI_pos (by omega)), if_neg]
  · decide
  · rw [Int32.lt_iff_toInt_lt, sub_toInt (by omega) (by omega), nI_toInt (by omega)]
    omega
theorem lp_sh1 {t i len : Nat} (f3 f4 : Int32) (h1 : 60 * t + i + len ≤ 360) (h2 : len ≤ 60) : ∀ n v, v ≤ len → len < n + v → ∀ S : St, ∃ g, lp_X12_shift_104 (nI t) (nI i) f3 f4 (nI len) n (nI v) S = some (sG S 118 g) ∧ (∀ k, k < v → g k = S.2.1 118 k) ∧ ∀ k, v ≤ k → k < len → g k = S.2.1 117 (60 * t + i + k) := by
  intro n
  induction n with
  | zero => intro v h1 h2; omega
  | succ n ih =>
    intro v q1 q2 S
    show ∃ g, (if nI len ≤ nI v then some S else gd (¬ ((((60 : Int32) * nI t) + nI i + nI v) < 0 ∨ 360 ≤ (((60 : Int32) * nI t) + nI i + nI v).toNatClampNeg)) (gd (¬ (nI v < 0 ∨ 60 ≤ (nI v).toNatClampNeg)) (lp_X12_shift_104 (nI t) (nI i) f3 f4 (nI len) n (nI v + 1) (sG S 118 (vp_updL (S.2.1 118) (nI v).toNatClampNeg ((S.2.1 117) (((60 : Int32) * nI t) + nI i + nI v).toNatClampNeg)))))) = _ ∧ _
    by_cases q : v = len
    · subst q
      refine ⟨S.2.1 118, ?_, fun _ _ => rfl, fun k h3 h4 => by omega⟩
      rw [if_pos (nI_le (Nat.le_refl _) (by omega))]
      show some S = some (S.1, uF S.2.1 118 (S.2.1 118), S.2.2)
      rw [uF_self]
    · rw [if_neg (nI_ge (by omega) (by omega)), nI_60, nI_add, gdN (show 60 * t + i + v < 360 by omega) (by decide), gdN (show v < 60 by omega) (by decide), nI_clamp (show v < 2 ^ 31 by omega), nI_clamp (show 60 * t + i + v < 2 ^ 31 by omega), nI_1]
      obtain ⟨g, g1, g2, g3⟩ := ih (v + 1) (by omega) (by omega) (sG S 118 (vp_updL (S.2.1 118) v (S.2.1 117 (60 * t + i + v))))
      refine ⟨g, ?_, fun k hk => ?_, fun k h3 h4 => ?_⟩
      · rw [g1]
        show some (S.1, uF (uF S.2.1 118 _) 118 g, S.2.2) = some (S.1, uF S.2.1 118 g, S.2.2)
        rw [uF_uF]
      · rw [g2 k (by omega), sG_at, updL_ne (by omega)]
      · by_cases w : k = v
        · subst w
          rw [g2 k (by omega), sG_at, updL_at]
        · rw [g3 k (by omega) h4, sG_ne (by decide)]
theorem lp_sh2 {o j len : Nat} (h1 : 60 * o + j + len ≤ 360) (h2 : len ≤ 60) : ∀ n v, v ≤ len → len < n + v → ∀ S : St, ∃ g, lp_X12_shift_141 (nI o) (nI j) (nI len) n (nI v) S = some (sG S 117 g) ∧ (∀ k, k < 60 * o + j + v ∨ 60 * o + j + len ≤ k → g k = S.2.1 117 k) ∧ ∀ k, v ≤ k → k < len → g (60 * o + j + k) = S.2.1 118 k := by
  intro n
  induction n with
  | zero => intro v h1 h2; omega
  | succ n ih =>
    intro v q1 q2 S
    show ∃ g, (if nI len ≤ nI v then some S else gd (¬ (nI v < 0 ∨ 60 ≤ (nI v).toNatClampNeg)) (gd (¬ ((((60 : Int32) * nI o) + nI j + nI v) < 0 ∨ 360 ≤ (((60 : Int32) * nI o) + nI j + nI v).toNatClampNeg)) (lp_X12_shift_141 (nI o) (nI j) (nI len) n (nI v + 1) (sG S 117 (vp_updL (S.2.1 117) (((60 : Int32) * nI o) + nI j + nI v).toNatClampNeg ((S.2.1 118) (nI v).toNatClampNeg)))))) = _ ∧ _
    by_cases q : v = len
    · subst q
      refine ⟨S.2.1 117, ?_, fun _ _ => rfl, fun k h3 h4 => by omega⟩
      rw [if_pos (nI_le (Nat.le_refl _) (by omega))]
      show some S = some (S.1, uF S.2.1 117 (S.2.1 117), S.2.2)
      rw [uF_self]
    · rw [if_neg (nI_ge (by omega) (by omega)), nI_60, nI_add, gdN (show v < 60 by omega) (by decide), gdN (show 60 * o + j + v < 360 by omega) (by decide), nI_clamp (show v < 2 ^ 31 by omega), nI_clamp (show 60 * o + j + v < 2 ^ 31 by omega), nI_1]
      obtain ⟨g, g1, g2, g3⟩ := ih (v + 1) (by omega) (by omega) (sG S 117 (vp_updL (S.2.1 117) (60 * o + j + v) (S.2.1 118 v)))
      refine ⟨g, ?_, fun k hk => ?_, fun k h3 h4 => ?_⟩
      · rw [g1]
        show some (S.1, uF (uF S.2.1 117 _) 117 g, S.2.2) = some (S.1, uF S.2.1 117 g, S.2.2)
        rw [uF_uF]
      · rw [g2 k (by omega), sG_at, updL_ne (by omega)]
      · by_cases w : k = v
        · subst w
          rw [g2 _ (by omega), sG_at, updL_at]
        · rw [g3 k (by omega) h4, sG_ne (by decide)]
theorem k_shift : K39 Inv := by
  intro S hs a1 a2 a3 a4 a5 hI
  obtain ⟨nb, hB, ⟨ns, nh, nd, nf, ne, ⟨⟨c1, c2, c3⟩, ⟨d1, d2, d3⟩, ⟨y1, y2, y3⟩, ⟨f1, f2, f3⟩, ⟨b1, b2, b3⟩, t1, t2⟩, hA, hT, hR, hF, hK, hW⟩, hIm, hTx, hTr, hTp, hHo, hL⟩ := id hI
  by_cases q : r_X12_in a1 0 5 = 0
  · refine ⟨-1, S, S, ?_, ?_, hI⟩
    · unfold r_X11_shift
      rw [tp_no q]
      show ((r_X11_tapeAt S a3).bind fun q2 => oN q2 (some ((-1 : Int32), S)) (fun _ => some ((-1 : Int32), S))) = _
      by_cases q2 : r_X12_in a3 0 5 = 0
      · rw [tp_no q2]
        rfl
      · obtain ⟨o, ho, rfl⟩ := ii_5 q2
        rw [tp_yes ho]
        rfl
    · unfold r_X12_shift r_X12_isTape
      rw [if_pos q]
  obtain ⟨t, ht, rfl⟩ := ii_5 q
  by_cases q2 : r_X12_in a3 0 5 = 0
  · refine ⟨-1, S, S, ?_, ?_, hI⟩
    · unfold r_X11_shift
      rw [tp_yes ht]
      show ((r_X11_tapeAt S a3).bind _) = _
      rw [tp_no q2]
      rfl
    · unfold r_X12_shift r_X12_isTape
      rw [if_neg q, if_pos q2]
  obtain ⟨o, ho, rfl⟩ := ii_5 q2
  obtain ⟨sz, s1, s2, s3, s4, s5, s6⟩ := Tps_iff.mp hTp t ht
  obtain ⟨zz, u1, u2, u3, u4, u5, u6⟩ := Tps_iff.mp hTp o ho
  have e11 : r_X11_shift S (nI t) a2 (nI o) a4 a5 = if S.1 115 t = -1 then some (-11, S) else if S.1 115 o = -1 then some (-11, S) else if S.1 115 t = S.1 115 o then (if r_X8_hasRun S (64 + 2 * t) a2 a5 = 0 then some (-13, S) else if r_X8_hasRun S (64 + 2 * o) a4 a5 = 0 then some (-13, S) else gd ((¬ a2 < 0 ∧ ¬ a4 < 0 ∧ ¬ a5 < 0 ∧ a2.toNatClampNeg + a5.toNatClampNeg ≤ 60 ∧ a4.toNatClampNeg + a5.toNatClampNeg ≤ 60)) (some (a5, sG S (64 + 2 * o + 1) (va_cpy (S.2.1 (64 + 2 * t + 1)) (S.2.1 (64 + 2 * o + 1)) a2.toNatClampNeg a4.toNatClampNeg a5.toNatClampNeg)))) else some (-12, S) := by
    unfold r_X11_shift
    rw [tp_yes ht]
    show ((r_X11_tapeAt S (nI o)).bind _) = _
    rw [tp_yes ho]
    show (if S.1 (64 + 2 * t) 1 = -1 then _ else if S.1 (64 + 2 * o) 1 = -1 then _ else if S.1 (64 + 2 * t) 1 = S.1 (64 + 2 * o) 1 then _ else _) = _
    rw [s2, u2]
  have e12 : ∀ S' : St, S'.1 115 = S.1 115 → S'.1 116 = S.1 116 → r_X12_shift S' (nI t) a2 (nI o) a4 a5 = if S.1 115 t < 0 then some (-11, S') else if 0 ≤ S.1 115 o then (if S.1 115 t = S.1 115 o then (if a5 < 0 then some (-13, S') else if a2 < 0 then some (-13, S') else if a4 < 0 then some (-13, S') else if (nI sz - a5) < a2 then some (-13, S') else if a4 ≤ (nI zz - a5) then (lp_X12_shift_104 (nI t) a2 (nI o) a4 a5 4000 0 S').bind (fun q1 => (lp_X12_shift_141 (nI o) a4 a5 4000 0 q1).bind fun q2 => some (a5, q2)) else some (-13, S')) else some (-12, S')) else some (-11, S') := by
    intro S' z1 z2
    unfold r_X12_shift r_X12_isTape
    rw [if_neg q, if_neg q2, gdN ht (by decide), gdN ho (by decide), gdN ht (by decide), gdN ho (by decide), gdN ht (by decide), gdN ho (by decide), nI_clamp (by omega), nI_clamp (by omega), z1, z2, s4, u4]
  rcases s5 with ⟨h1, h2⟩ | ⟨k, hk4, h1⟩
  · refine ⟨-11, S, S, ?_, ?_, hI⟩
    · rw [e11, if_pos h1]
    · rw [e12 S rfl rfl, h1, if_pos (by decide)]
  rcases u5 with ⟨h3, h4⟩ | ⟨k', hk4', h3⟩
  · refine ⟨-11, S, S, ?_, ?_, hI⟩
    · rw [e11, h1, if_neg (m1_ne hk4), if_pos h3]
    · rw [e12 S rfl rfl, h1, if_neg (nI_pos (by omega)), h3, if_neg (by decide)]
  by_cases w : nI k = nI k'
  · by_cases R1 : r_X8_hasRun S (64 + 2 * t) a2 a5 = 0 ∨ r_X8_hasRun S (64 + 2 * o) a4 a5 = 0
    · refine ⟨-13, S, S, ?_, ?_, hI⟩
      · rw [e11, h1, if_neg (m1_ne hk4), h3, if_neg (m1_ne hk4'), if_pos w]
        by_cases R : r_X8_hasRun S (64 + 2 * t) a2 a5 = 0
        · rw [if_pos R]
        · rw [if_neg R, if_pos (R1.resolve_left R)]
      · rw [e12 S rfl rfl, h1, if_neg (nI_pos (by omega)), h3, if_pos (nI_pos' (by omega)), if_pos w]
        by_cases x1 : a5 < 0
        · rw [if_pos x1]
        by_cases x2 : a2 < 0
        · rw [if_neg x1, if_pos x2]
        by_cases x3 : a4 < 0
        · rw [if_neg x1, if_neg x2, if_pos x3]
        obtain ⟨n, hn, rfl⟩ := nI_of x1
        obtain ⟨i, hi, rfl⟩ := nI_of x2
        obtain ⟨j, hj, rfl⟩ := nI_of x3
        rw [if_neg x1, if_neg x2, if_neg x3]
        by_cases x4 : nI sz - nI n < nI i
        · rw [if_pos x4]
        rw [if_neg x4]
        by_cases x5 : nI j ≤ nI zz - nI n
        · exfalso
          rw [Int32.lt_iff_toInt_lt, sub_toInt (by omega) hn, nI_toInt hi] at x4
          rw [Int32.le_iff_toInt_le, sub_toInt (by omega) hn, nI_toInt hj] at x5
          rcases R1 with R | R
          · exact run_yes s3 s1 (by omega) R
          · exact run_yes u3 u1 (by omega) R
        · rw [if_neg x5]
    · have R2 : ¬ r_X8_hasRun S (64 + 2 * t) a2 a5 = 0 := fun z => R1 (Or.inl z)
      have R3 : ¬ r_X8_hasRun S (64 + 2 * o) a4 a5 = 0 := fun z => R1 (Or.inr z)
      obtain ⟨i, n, rfl, rfl, hin⟩ := run_no s3 s1 R2
      obtain ⟨j, n', rfl, en, hjn⟩ := run_no u3 u1 R3
      have e : n' = n := by
        by_cases hb : n' < 2 ^ 31
        · exact ((nI_eq (by omega) hb).mp en).symm
        · omega
      subst e
      obtain ⟨g, g1, -, g3⟩ := lp_sh1 (t := t) (i := i) (len := n') (nI o) (nI j) (by omega) (by omega) 4000 0 (by omega) (by omega) (sG S (64 + 2 * o + 1) (va_cpy (S.2.1 (64 + 2 * t + 1)) (S.2.1 (64 + 2 * o + 1)) i j n'))
      obtain ⟨f, k1, k2, k3⟩ := lp_sh2 (o := o) (j := j) (len := n') (by omega) (by omega) 4000 0 (by omega) (by omega) (sG (sG S (64 + 2 * o + 1) (va_cpy (S.2.1 (64 + 2 * t + 1)) (S.2.1 (64 + 2 * o + 1)) i j n')) 118 g)
      refine ⟨nI n', sG S (64 + 2 * o + 1) (va_cpy (S.2.1 (64 + 2 * t + 1)) (S.2.1 (64 + 2 * o + 1)) i j n'), sG (sG (sG S (64 + 2 * o + 1) (va_cpy (S.2.1 (64 + 2 * t + 1)) (S.2.1 (64 + 2 * o + 1)) i j n')) 118 g) 117 f, ?_, ?_, hI.of (fun _ _ _ => rfl) (fun _ _ => rfl) rfl hTr (Tps_iff.mpr fun t' ht' => ?_)⟩
      · rw [e11, h1, if_neg (m1_ne hk4), h3, if_neg (m1_ne hk4'), if_pos w, if_neg R2, if_neg R3, nI_clamp (by omega), nI_clamp (by omega), nI_clamp (by omega), gd_pos]
        exact ⟨nI_pos (by omega), nI_pos (by omega), nI_pos (by omega), by omega, by omega⟩
      · rw [e12 (sG S _ _) rfl rfl, h1, if_neg (nI_pos (by omega)), h3, if_pos (nI_pos' (by omega)), if_pos w, if_neg (nI_pos (by omega)), if_neg (nI_pos (by omega)), if_neg (nI_pos (by omega)), if_neg, if_pos]
        · rw [show nI 0 = (0 : Int32) from rfl] at g1 k1
          rw [g1]
          show (lp_X12_shift_141 (nI o) (nI j) (nI n') 4000 0 (sG (sG S _ _) 118 g)).bind _ = _
          rw [k1]
          rfl
        · rw [Int32.le_iff_toInt_le, sub_toInt (by omega) (by omega), nI_toInt (by omega)]
          omega
        · rw [Int32.lt_iff_toInt_lt, sub_toInt (by omega) (by omega), nI_toInt (by omega)]
          omega
      · have ot := Tps_iff.mp hTp t' ht'
        obtain ⟨sy, v1, v2, v3, v4, v5, v6⟩ := ot
        refine ⟨sy, v1, v2, v3, v4, v5, fun x hx => ?_⟩
        have z117 : (sG (sG S (64 + 2 * o + 1) (va_cpy (S.2.1 (64 + 2 * t + 1)) (S.2.1 (64 + 2 * o + 1)) i j n')) 118 g).2.1 117 = S.2.1 117 := by
          rw [sG_ne (by decide), sG_ne (by omega)]
        rw [sG_ne (show 64 + 2 * t' + 1 ≠ 117 by omega), sG_ne (show 64 + 2 * t' + 1 ≠ 118 by omega), sG_at]
        by_cases e : t' = o
        · subst e
          rw [sG_at]
          unfold va_cpy
          by_cases y : j ≤ x ∧ x < j + n'
          · rw [if_pos y]
            have h5 := k3 (x - j) (Nat.zero_le _) (by omega)
            rw [show 60 * t' + j + (x - j) = 60 * t' + x by omega, sG_at] at h5
            rw [h5, g3 (x - j) (Nat.zero_le _) (by omega), sG_ne (a := 117) (by omega), s6 (i + (x - j)) (by omega), Nat.add_assoc]
          · rw [if_neg y, k2 _ (by omega), z117]
            exact v6 x hx
        · rw [sG_ne (by omega), k2 _ (by omega), z117]
          exact v6 x hx
  · refine ⟨-12, S, S, ?_, ?_, hI⟩
    · rw [e11, h1, if_neg (m1_ne hk4), h3, if_neg (m1_ne hk4'), if_neg w]
    · rw [e12 S rfl rfl, h1, if_neg (nI_pos (by omega)), h3, if_pos (nI_pos' (by omega)), if_neg w]
theorem lp_hr1 {nh : Nat} (hn : nh < 6) : ∀ n v, v ≤ 4 → 4 < n + v → ∀ S : St, S.1 76 1 = nI nh → ∃ g, lp_X12_hearer_61 n (nI v) S = some (sA S 81 g) ∧ (∀ i, i < 4 * nh + v → g i = S.1 81 i) ∧ (∀ i, 4 * nh + v ≤ i → i < 4 * nh + 4 → g i = 1) := by
  intro n
  induction n with
  | zero => intro v h1 h2; omega
  | succ n ih =>
    intro v h1 h2 S e
    show ∃ g, (if 4 ≤ nI v then some S else gd (¬ (((4 : Int32) * (S.1 76 1) + nI v) < 0 ∨ 24 ≤ ((4 : Int32) * (S.1 76 1) + nI v).toNatClampNeg)) (lp_X12_hearer_61 n (nI v + 1) (sA S 81 (upd (S.1 81) ((4 : Int32) * (S.1 76 1) + nI v).toNatClampNeg 1)))) = _ ∧ _
    by_cases q : v = 4
    · subst q
      refine ⟨S.1 81, ?_, fun _ _ => rfl, fun k h3 h4 => by omega⟩
      rw [if_pos (by decide), sA_self]
    · rw [if_neg (nle_l (k := 4) (by omega) (by omega)), e, nI_4, gdN (show 4 * nh + v < 24 by omega) (by decide), nI_clamp (by omega), nI_1]
      obtain ⟨g, g1, g2, g3⟩ := ih (v + 1) (by omega) (by omega) (sA S 81 (upd (S.1 81) (4 * nh + v) 1)) e
      refine ⟨g, ?_, fun k hk => ?_, fun k h3 h4 => ?_⟩
      · rw [g1, sA_sA]
      · rw [g2 k (by omega), sA_at, upd_ne (by omega)]
      · by_cases w : k = 4 * nh + v
        · subst w
          rw [g2 _ (by omega), sA_at, upd_at]
        · exact g3 k (by omega) h4
theorem lp_hr2 {S : St} {nh : Nat} (hn : nh < 6) (e : S.1 76 1 = nI nh) (z : ∀ s, s < 8 → S.1 82 (8 * nh + s) = 0) : ∀ n v, v ≤ 8 → 8 < n + v → lp_X12_hearer_88 n (nI v) S = some S := by
  intro n
  induction n with
  | zero => intro v h1 h2; omega
  | succ n ih =>
    intro v h1 h2
    show (if 8 ≤ nI v then some S else gd (¬ ((8 * (S.1 76 1) + nI v) < 0 ∨ 48 ≤ (8 * (S.1 76 1) + nI v).toNatClampNeg)) (lp_X12_hearer_88 n (nI v + 1) (sA S 82 (upd (S.1 82) (8 * (S.1 76 1) + nI v).toNatClampNeg 0)))) = some S
    by_cases q : v = 8
    · subst q
      rw [if_pos (by decide)]
    · rw [if_neg (nle_l (k := 8) (by omega) (by omega)), e, nI_8, gdN (by omega) (by decide), nI_clamp (by omega), upd_same (z v (by omega)), sA_self, nI_1]
      exact ih (v + 1) (by omega) (by omega)
theorem k_hearer : K1 Inv := by
  intro S hs a1 a2 hI
  obtain ⟨nb, hB, ⟨ns, nh, nd, nf, ne, ⟨⟨c1, c2, c3⟩, ⟨d1, d2, d3⟩, ⟨y1, y2, y3⟩, ⟨f1, f2, f3⟩, ⟨b1, b2, b3⟩, t1, t2⟩, hA, hT, hR, hF, hK, hW⟩, hIm, hTx, hTr, hTp, hHo, hL⟩ := id hI
  by_cases q : r_X12_in a1 0 6 = 0
  · exact ⟨-1, S, hs, S, by unfold r_X11_hearer; rw [within_in, if_pos q], by unfold r_X12_hearer; rw [if_pos q], hI⟩
  by_cases q2 : r_X12_in a2 0 9 = 0
  · exact ⟨-2, S, hs, S, by unfold r_X11_hearer; rw [within_in, if_neg q, if_pos q2], by unfold r_X12_hearer; rw [if_neg q, if_pos q2], hI⟩
  by_cases q3 : nh = 6
  · subst q3
    refine ⟨-4, S, hs, S, ?_, ?_, hI⟩
    · unfold r_X11_hearer
      rw [within_in, if_neg q, if_neg q2, d2, if_neg (by decide)]
    · unfold r_X12_hearer
      rw [if_neg q, if_neg q2, d3, if_pos (by decide)]
  have e6 : nh < 6 := by omega
  obtain ⟨k, -, hk, rfl⟩ := ii_nat (l := 0) (h := 6) (by decide) (by decide) q
  obtain ⟨v, -, hv, rfl⟩ := ii_nat (l := 0) (h := 9) (by decide) (by decide) q2
  obtain ⟨g, g1, g2, g3⟩ := lp_hr1 e6 4000 0 (by omega) (by omega) (sA (sA (sI (sQ S 11 (va_up (S.2.2 11) nh (some (119 + hs.length)))) 8 3 (nI nh + 1)) 79 (upd (S.1 79) nh (nI k))) 80 (upd (S.1 80) nh (nI v))) d3
  refine ⟨nI nh, sI (sQ S 11 (va_up (S.2.2 11) nh (some (119 + hs.length)))) 8 3 (nI nh + 1), hs ++ [(kC (nI k), nI k, nI nh, nI v)], sI (sA (sA (sA (sI (sQ S 11 (va_up (S.2.2 11) nh (some (119 + hs.length)))) 8 3 (nI nh + 1)) 79 (upd (S.1 79) nh (nI k))) 80 (upd (S.1 80) nh (nI v))) 81 g) 76 1 (nI nh + 1), ?_, ?_, ⟨nb, hB, ⟨ns, nh + 1, nd, nf, ne, ⟨⟨c1, c2, c3⟩, ⟨by omega, (nI_succ nh).symm, (nI_succ nh).symm⟩, ⟨y1, y2, y3⟩, ⟨f1, f2, f3⟩, ⟨b1, b2, b3⟩, t1, t2⟩, hA, ⟨hT.1, hT.2.1, fun h s e1 e2 e3 => hT.2.2.1 h s e1 e2 (by omega), hT.2.2.2⟩, ⟨?_, ?_, ?_⟩, hF, hK, ⟨?_, ?_⟩⟩, ?_, hTx, hTr, hTp, hHo, hL⟩⟩
  · unfold r_X11_hearer
    rw [within_in, if_neg q, if_neg q2, d2, if_pos (lt_l e6 (by decide)), gdN e6 (by decide), nI_clamp (by omega)]
  · unfold r_X12_hearer
    show (if r_X12_in (nI k) 0 6 = 0 then _ else if r_X12_in (nI v) 0 9 = 0 then _ else if S.1 76 1 = 6 then _ else gd (¬ (S.1 76 1 < 0 ∨ 6 ≤ (S.1 76 1).toNatClampNeg)) (gd (¬ (S.1 76 1 < 0 ∨ 6 ≤ (S.1 76 1).toNatClampNeg)) ((lp_X12_hearer_61 4000 0 (sA (sA (sI (sQ S 11 (va_up (S.2.2 11) nh (some (119 + hs.length)))) 8 3 (nI nh + 1)) 79 (upd (S.1 79) (S.1 76 1).toNatClampNeg (nI k))) 80 (upd (S.1 80) (S.1 76 1).toNatClampNeg (nI v)))).bind fun q1 => (lp_X12_hearer_88 4000 0 q1).bind fun q2 => some (((q2.1 76 1) + 1) - 1, sI q2 76 1 ((q2.1 76 1) + 1))))) = _
    rw [if_neg q, if_neg q2, d3, if_neg (ne_l q3 (by omega) (by decide)), gdN e6 (by decide), gdN e6 (by decide), nI_clamp (by omega)]
    rw [show nI 0 = (0 : Int32) from rfl] at g1
    rw [g1]
    have key : ∀ S' : St, S'.1 76 1 = nI nh → S'.1 82 = S.1 82 → lp_X12_hearer_88 4000 0 S' = some S' := fun S' z1 z2 => lp_hr2 e6 z1 (fun s hs => by rw [z2]; exact hT.2.2.1 nh s e6 hs (Or.inl (Nat.le_refl _))) 4000 0 (by omega) (by omega)
    show (lp_X12_hearer_88 4000 0 (sA (sA (sA (sI (sQ S 11 (va_up (S.2.2 11) nh (some (119 + hs.length)))) 8 3 (nI nh + 1)) 79 (upd (S.1 79) nh (nI k))) 80 (upd (S.1 80) nh (nI v))) 81 g)).bind _ = _
    rw [key]
    · show some ((S.1 76 1 + 1) - 1, sI _ 76 1 (S.1 76 1 + 1)) = _
      rw [sub_one_one, d3]
    · exact d3
    · rfl
  · intro i hi
    show S.1 14 i = g i
    by_cases w : i < 4 * nh
    · rw [g2 i (by omega), hR.1 i w]
      rfl
    · rw [g3 i (by omega) (by omega), hR.2.2 i (by omega) (by omega)]
  · intro i hi
    show ∃ k, 1 ≤ k ∧ k ≤ 9 ∧ g i = nI k
    by_cases w : i < 4 * nh
    · rw [g2 i (by omega)]
      exact hR.2.1 i w
    · exact ⟨1, by omega, by omega, g3 i (by omega) (by omega)⟩
  · intro i h1 h2
    exact hR.2.2 i (by omega) h2
  · intro h hh
    show ∃ a k_1 v_1, k_1 ≤ 6 ∧ v_1 ≤ 9 ∧ upd (S.1 79) nh (nI k) h = nI k_1 ∧ upd (S.1 80) nh (nI v) h = nI v_1 ∧ va_up (S.2.2 11) nh (some (119 + hs.length)) h = some a ∧ _
    by_cases w : h = nh
    · subst w
      exact ⟨119 + hs.length, k, v, hk, hv, upd_at _ _ _, upd_at _ _ _, if_pos rfl, hq_new hs _ (kC_fam _)⟩
    · rw [upd_ne w, upd_ne w]
      obtain ⟨a, k2, v2, x1, x2, x3, x4, x5, x6⟩ := hW.1 h (by omega)
      exact ⟨a, k2, v2, x1, x2, x3, x4, (if_neg w).trans x5, hq_app _ x6⟩
  · intro h hh
    show va_up (S.2.2 11) nh (some (119 + hs.length)) h = none ∨ ∃ a q, va_up (S.2.2 11) nh (some (119 + hs.length)) h = some a ∧ _
    by_cases w : h = nh
    · subst w
      exact Or.inr ⟨119 + hs.length, _, if_pos rfl, hq_new hs _ (kC_fam _)⟩
    · rcases hW.2 h hh with z | ⟨a, q, z1, z2⟩
      · exact Or.inl ((if_neg w).trans z)
      · exact Or.inr ⟨a, q, (if_neg w).trans z1, hq_app _ z2⟩
  · rcases hIm with h | ⟨h1, h2, h3⟩
    · exact Or.inl h
    · exact Or.inr ⟨h1, h2, h3.app _⟩
