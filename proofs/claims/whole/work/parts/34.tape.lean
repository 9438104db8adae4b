/-! TAPES: item, tape, shift, judge -/
theorem updL_at (f : Nat → Int64) (k : Nat) (x : Int64) : vp_updL f k x k = x := if_pos rfl
theorem updL_ne {f : Nat → Int64} {k j : Nat} {x : Int64} (h : j ≠ k) : vp_updL f k x j = f j := if_neg h
theorem ne_scr {S : St} {t : Nat} (ht : t < 6) (o : Nat) (h : o ∉ scrL) : o ≠ 64 + 2 * t := by
  intro z
  subst z
  apply h
  match t, ht with
  | 0, _ => decide
  | 1, _ => decide
  | 2, _ => decide
  | 3, _ => decide
  | 4, _ => decide
  | 5, _ => decide
  | t + 6, ht => exact absurd ht (by omega)
theorem m1_ne {k : Nat} (h : k ≤ 4) : ¬ nI k = -1 := by
  intro z
  rw [← Int32.toInt_inj, nI_toInt (by omega)] at z
  have : (-1 : Int32).toInt = -1 := by decide
  omega
theorem narrow_eq (S : St) (o : Nat) {k : Nat} (hk : k ≤ 4) (e : S.1 o 1 = nI k) (z : Int64) : r_X8_fitted S o z = r_X12_narrow (nI k) z := by
  unfold r_X8_fitted r_X12_narrow
  rw [e]
  match k, hk with
  | 0, _ => rfl
  | 1, _ => rfl
  | 2, _ => rfl
  | 3, _ => rfl
  | 4, _ => rfl
  | k + 5, h => exact absurd h (by omega)
theorem k_item : K37 Inv := by
  intro S hs a1 a2 a3 hI
  obtain ⟨nb, hB, ⟨ns, nh, nd, nf, ne, ⟨⟨c1, c2, c3⟩, ⟨d1, d2, d3⟩, ⟨y1, y2, y3⟩, ⟨f1, f2, f3⟩, ⟨b1, b2, b3⟩, t1, t2⟩, hA, hT, hR, hF, hK, hW⟩, hIm, hTx, hTr, hTp, hHo, hL⟩ := id hI
  by_cases q : r_X12_in a1 0 5 = 0
  · refine ⟨-1, S, S, ?_, ?_, hI⟩
    · unfold r_X11_item
      rw [tp_no q]
      rfl
    · unfold r_X12_item r_X12_isTape
      rw [if_pos q]
  obtain ⟨t, ht, rfl⟩ := ii_5 q
  obtain ⟨sz, s1, s2, s3, s4, s5, s6⟩ := Tps_iff.mp hTp t ht
  have e11 : r_X11_item S (nI t) a2 a3 = if S.1 115 t = -1 then some (-11, S) else if r_X12_in a2 0 (nI sz - 1) = 0 then some (-13, S) else gd (¬ (a2 < 0 ∨ 60 ≤ a2.toNatClampNeg)) (some (1, sG S (64 + 2 * t + 1) (vp_updL (S.2.1 (64 + 2 * t + 1)) a2.toNatClampNeg (r_X8_fitted S (64 + 2 * t) a3)))) := by
    unfold r_X11_item
    rw [tp_yes ht, within_in]
    show (if S.1 (64 + 2 * t) 1 = -1 then _ else if r_X12_in a2 0 (S.1 (64 + 2 * t) 2 - 1) = 0 then _ else _) = _
    rw [s2, s3]
  have e12 : ∀ S' : St, S'.1 115 = S.1 115 → S'.1 116 = S.1 116 → r_X12_item S' (nI t) a2 a3 = if 0 ≤ S.1 115 t then (if r_X12_in a2 0 (nI sz - 1) = 0 then some (-13, S') else gd (¬ ((((60 : Int32) * nI t) + a2) < 0 ∨ 360 ≤ (((60 : Int32) * nI t) + a2).toNatClampNeg)) (some (1, sG S' 117 (vp_updL (S'.2.1 117) (((60 : Int32) * nI t) + a2).toNatClampNeg (r_X12_narrow (S.1 115 t) a3))))) else some (-11, S') := by
    intro S' z1 z2
    unfold r_X12_item r_X12_isTape
    rw [if_neg q, gdN ht (by decide), gdN ht (by decide), gdN ht (by decide), nI_clamp (by omega), z1, z2, s4]
  rcases s5 with ⟨h1, h2⟩ | ⟨k, hk4, h1⟩
  · refine ⟨-11, S, S, ?_, ?_, hI⟩
    · rw [e11, if_pos h1]
    · rw [e12 S rfl rfl, h1, if_neg (by decide)]
  · by_cases q2 : r_X12_in a2 0 (nI sz - 1) = 0
    · refine ⟨-13, S, S, ?_, ?_, hI⟩
      · rw [e11, h1, if_neg (m1_ne hk4), if_pos q2]
      · rw [e12 S rfl rfl, h1, if_pos (nI_pos' (by omega)), if_pos q2]
    · obtain ⟨i, hi, rfl⟩ := ii_lt (by omega) q2
      refine ⟨1, sG S (64 + 2 * t + 1) (vp_updL (S.2.1 (64 + 2 * t + 1)) i (r_X12_narrow (nI k) a3)), sG (sG S (64 + 2 * t + 1) (vp_updL (S.2.1 (64 + 2 * t + 1)) i (r_X12_narrow (nI k) a3))) 117 (vp_updL (S.2.1 117) (60 * t + i) (r_X12_narrow (nI k) a3)), ?_, ?_, hI.of (fun o h1 h2 => rfl) (fun _ _ => rfl) rfl hTr (Tps_iff.mpr fun t' ht' => ?_)⟩
      · rw [e11, h1, if_neg (m1_ne hk4), if_neg q2, gdN (show i < 60 by omega) (by decide), nI_clamp (by omega), narrow_eq S _ hk4 (by rw [s2, h1])]
      · rw [e12 (sG S (64 + 2 * t + 1) _) rfl rfl, h1, if_pos (nI_pos' (by omega)), if_neg q2, nI_60, gdN (by omega) (by decide), nI_clamp (by omega), sG_ne (by omega)]
      · have o := Tps_iff.mp hTp t' ht'
        rw [sG_at, sG_ne (by omega)]
        by_cases e : t' = t
        · subst e
          rw [sG_at]
          obtain ⟨sz', s1', s2', s3', s4', s5', s6'⟩ := o
          refine ⟨sz', s1', s2', s3', s4', s5', fun k' hk' => ?_⟩
          by_cases w : k' = i
          · subst w
            rw [updL_at, updL_at]
          · rw [updL_ne w, updL_ne (by omega)]
            exact s6' k' hk'
        · rw [sG_ne (by omega)]
          exact o.cong rfl rfl rfl rfl (fun k' hk' => updL_ne (by omega))
theorem lp_renew {S : St} (o : Nat) : ∀ n v, v ≤ 60 → 60 < n + v → ∀ S : St, ∃ g, lp_X8_renew_24 o n (nI v) S = some (sG S (o + 1) g) ∧ (∀ k, k < v → g k = S.2.1 (o + 1) k) ∧ ∀ k, v ≤ k → k < 60 → g k = 0 := by
  intro n
  induction n with
  | zero => intro v h1 h2; omega
  | succ n ih =>
    intro v h1 h2 S
    show ∃ g, (if 60 ≤ nI v then some S else gd (¬ (nI v < 0 ∨ 60 ≤ (nI v).toNatClampNeg)) (lp_X8_renew_24 o n (nI v + 1) (sG S (o + 1) (vp_updL (S.2.1 (o + 1)) (nI v).toNatClampNeg 0)))) = _ ∧ _
    by_cases q : v = 60
    · subst q
      refine ⟨S.2.1 (o + 1), ?_, fun _ _ => rfl, fun k h3 h4 => by omega⟩
      rw [if_pos (le_l (k := 60) (by omega) (by omega))]
      show some S = some (S.1, uF S.2.1 (o + 1) (S.2.1 (o + 1)), S.2.2)
      rw [uF_self]
    · rw [if_neg (nle_l (k := 60) (by omega) (by omega)), gdN (show v < 60 by omega) (by decide), nI_clamp (by omega), nI_1]
      obtain ⟨g, g1, g2, g3⟩ := ih (v + 1) (by omega) (by omega) (sG S (o + 1) (vp_updL (S.2.1 (o + 1)) v 0))
      refine ⟨g, ?_, fun k hk => ?_, fun k h3 h4 => ?_⟩
      · rw [g1]
        show some (S.1, uF (uF S.2.1 (o + 1) _) (o + 1) g, S.2.2) = some (S.1, uF S.2.1 (o + 1) g, S.2.2)
        rw [uF_uF]
      · rw [g2 k (by omega), sG_at, updL_ne (by omega)]
      · by_cases w : k = v
        · subst w
          rw [g2 k (by omega), sG_at, updL_at]
        · exact g3 k (by omega) h4
theorem lp_tape {t : Nat} (ht : t < 6) : ∀ n v, v ≤ 60 → 60 < n + v → ∀ S : St, ∃ g, lp_X12_tape_69 (nI t) n (nI v) S = some (sG S 117 g) ∧ (∀ k, k < 60 * t + v → g k = S.2.1 117 k) ∧ (∀ k, 60 * t + v ≤ k → k < 60 * t + 60 → g k = 0) ∧ ∀ k, 60 * t + 60 ≤ k → g k = S.2.1 117 k := by
  intro n
  induction n with
  | zero => intro v h1 h2; omega
  | succ n ih =>
    intro v h1 h2 S
    show ∃ g, (if 60 ≤ nI v then some S else gd (¬ ((60 * nI t + nI v) < 0 ∨ 360 ≤ (60 * nI t + nI v).toNatClampNeg)) (lp_X12_tape_69 (nI t) n (nI v + 1) (sG S 117 (vp_updL (S.2.1 117) (60 * nI t + nI v).toNatClampNeg 0)))) = _ ∧ _
    by_cases q : v = 60
    · subst q
      refine ⟨S.2.1 117, ?_, fun _ _ => rfl, fun k h3 h4 => by omega, fun _ _ => rfl⟩
      rw [if_pos (le_l (k := 60) (by omega) (by omega))]
      show some S = some (S.1, uF S.2.1 117 (S.2.1 117), S.2.2)
      rw [uF_self]
    · rw [if_neg (nle_l (k := 60) (by omega) (by omega)), nI_60, gdN (show 60 * t + v < 360 by omega) (by decide), nI_clamp (by omega), nI_1]
      obtain ⟨g, g1, g2, g3, g4⟩ := ih (v + 1) (by omega) (by omega) (sG S 117 (vp_updL (S.2.1 117) (60 * t + v) 0))
      refine ⟨g, ?_, fun k hk => ?_, fun k h3 h4 => ?_, fun k h3 => ?_⟩
      · rw [g1]
        show some (S.1, uF (uF S.2.1 117 _) 117 g, S.2.2) = some (S.1, uF S.2.1 117 g, S.2.2)
        rw [uF_uF]
      · rw [g2 k (by omega), sG_at, updL_ne (by omega)]
      · by_cases w : k = 60 * t + v
        · subst w
          rw [g2 _ (by omega), sG_at, updL_at]
        · exact g3 k (by omega) h4
      · rw [g4 k h3, sG_at, updL_ne (by omega)]
/-- a TAPE made new, on both sides -/
theorem tape_new {S : St} {hs : List Hr} (hI : Inv S hs) {t : Nat} (ht : t < 6) (so : Int32) {sz : Nat} (hsz : sz ≤ 60) (hso : (so = -1 ∧ sz = 0) ∨ ∃ k, k ≤ 4 ∧ so = nI k) : ∃ S1 S2, (∀ x : Int32, (if (0 : Int32) < (if 60 < x then 60 else x) then (if 60 < x then 60 else x) else (0 : Int32)) = nI sz → r_X8_renew S (64 + 2 * t) so x = some (0, S1)) ∧ lp_X12_tape_69 (nI t) 4000 0 (sA (sA S1 115 (upd (S1.1 115) t so)) 116 (upd (S1.1 116) t (nI sz))) = some S2 ∧ Inv S2 hs := by
  obtain ⟨nb, hB, ⟨ns, nh, nd, nf, ne, ⟨⟨c1, c2, c3⟩, ⟨d1, d2, d3⟩, ⟨y1, y2, y3⟩, ⟨f1, f2, f3⟩, ⟨b1, b2, b3⟩, t1, t2⟩, hA, hT, hR, hF, hK, hW⟩, hIm, hTx, hTr, hTp, hHo, hL⟩ := id hI
  obtain ⟨g, g1, -, g3⟩ := lp_renew (S := S) (64 + 2 * t) 4000 0 (by omega) (by omega) (sI (sI S (64 + 2 * t) 1 so) (64 + 2 * t) 2 (nI sz))
  obtain ⟨w, w1, w2, w3, w4⟩ := lp_tape ht 4000 0 (by omega) (by omega) (sA (sA (sG (sI (sI S (64 + 2 * t) 1 so) (64 + 2 * t) 2 (nI sz)) (64 + 2 * t + 1) g) 115 (upd (S.1 115) t so)) 116 (upd (S.1 116) t (nI sz)))
  refine ⟨sG (sI (sI S (64 + 2 * t) 1 so) (64 + 2 * t) 2 (nI sz)) (64 + 2 * t + 1) g, sG (sA (sA (sG (sI (sI S (64 + 2 * t) 1 so) (64 + 2 * t) 2 (nI sz)) (64 + 2 * t + 1) g) 115 (upd (S.1 115) t so)) 116 (upd (S.1 116) t (nI sz))) 117 w, fun x hx => ?_, ?_, ?_⟩
  rotate_left
  · have e1 : (sG (sI (sI S (64 + 2 * t) 1 so) (64 + 2 * t) 2 (nI sz)) (64 + 2 * t + 1) g).1 115 = S.1 115 := by
      show (sI (sI S (64 + 2 * t) 1 so) (64 + 2 * t) 2 (nI sz)).1 115 = _
      rw [sI_ne (by omega), sI_ne (by omega)]
    have e2 : (sG (sI (sI S (64 + 2 * t) 1 so) (64 + 2 * t) 2 (nI sz)) (64 + 2 * t + 1) g).1 116 = S.1 116 := by
      show (sI (sI S (64 + 2 * t) 1 so) (64 + 2 * t) 2 (nI sz)).1 116 = _
      rw [sI_ne (by omega), sI_ne (by omega)]
    rw [e1, e2]
    exact w1
  · have fr : ∀ o, o ≠ 115 → o ≠ 116 → o ≠ 64 + 2 * t → (sG (sA (sA (sG (sI (sI S (64 + 2 * t) 1 so) (64 + 2 * t) 2 (nI sz)) (64 + 2 * t + 1) g) 115 (upd (S.1 115) t so)) 116 (upd (S.1 116) t (nI sz))) 117 w).1 o = S.1 o := by
      intro o h1 h2 h3
      show (sA (sA (sG (sI (sI S (64 + 2 * t) 1 so) (64 + 2 * t) 2 (nI sz)) (64 + 2 * t + 1) g) 115 (upd (S.1 115) t so)) 116 (upd (S.1 116) t (nI sz))).1 o = S.1 o
      rw [sA_ne h2, sA_ne h1]
      show (sI (sI S (64 + 2 * t) 1 so) (64 + 2 * t) 2 (nI sz)).1 o = S.1 o
      rw [sI_ne h3, sI_ne h3]
    refine hI.of (fun o h1 h2 => fr o (fun z => h2 (by rw [z]; decide)) (fun z => h2 (by rw [z]; decide)) (ne_scr (S := S) ht o h2)) (fun j _ => by rw [fr 76 (by decide) (by decide) (by omega)]) rfl ?_ (Tps_iff.mpr fun t' ht' => ?_)
    · rw [fr 30 (by decide) (by decide) (by omega), fr 31 (by decide) (by decide) (by omega), fr 76 (by decide) (by decide) (by omega), fr 114 (by decide) (by decide) (by omega)]
      exact hTr
    · have o := Tps_iff.mp hTp t' ht'
      by_cases e : t' = t
      · subst e
        refine ⟨sz, hsz, ?_, ?_, ?_, ?_, ?_⟩
        · show (sA (sA (sG (sI (sI S (64 + 2 * t') 1 so) (64 + 2 * t') 2 (nI sz)) (64 + 2 * t' + 1) g) 115 (upd (S.1 115) t' so)) 116 (upd (S.1 116) t' (nI sz))).1 (64 + 2 * t') 1 = upd (S.1 115) t' so t'
          rw [sA_ne (by omega), sA_ne (by omega), upd_at]
          show (sI (sI S (64 + 2 * t') 1 so) (64 + 2 * t') 2 (nI sz)).1 (64 + 2 * t') 1 = so
          rw [sI_sl (by decide), sI_at]
        · show (sA (sA (sG (sI (sI S (64 + 2 * t') 1 so) (64 + 2 * t') 2 (nI sz)) (64 + 2 * t' + 1) g) 115 (upd (S.1 115) t' so)) 116 (upd (S.1 116) t' (nI sz))).1 (64 + 2 * t') 2 = nI sz
          rw [sA_ne (by omega), sA_ne (by omega)]
          show (sI (sI S (64 + 2 * t') 1 so) (64 + 2 * t') 2 (nI sz)).1 (64 + 2 * t') 2 = nI sz
          rw [sI_at]
        · exact upd_at _ _ _
        · show (upd (S.1 115) t' so t' = -1 ∧ sz = 0) ∨ ∃ k, k ≤ 4 ∧ upd (S.1 115) t' so t' = nI k
          rw [upd_at]
          exact hso
        · intro k hk
          rw [sG_ne (show 64 + 2 * t' + 1 ≠ 117 by omega), sG_at]
          show (sG (sI (sI S (64 + 2 * t') 1 so) (64 + 2 * t') 2 (nI sz)) (64 + 2 * t' + 1) g).2.1 (64 + 2 * t' + 1) k = w (60 * t' + k)
          rw [sG_at, g3 k (Nat.zero_le _) hk, w3 _ (by omega) (by omega)]
      · refine o.cong (fr _ (by omega) (by omega) (by omega)) ?_ ?_ ?_ ?_
        · rw [sG_ne (by omega)]
          show (sG (sI (sI S (64 + 2 * t) 1 so) (64 + 2 * t) 2 (nI sz)) (64 + 2 * t + 1) g).2.1 (64 + 2 * t' + 1) = _
          rw [sG_ne (by omega)]
          rfl
        · exact upd_ne e
        · exact upd_ne e
        · intro k hk
          rw [sG_at]
          have z : (sA (sA (sG (sI (sI S (64 + 2 * t) 1 so) (64 + 2 * t) 2 (nI sz)) (64 + 2 * t + 1) g) 115 (upd (S.1 115) t so)) 116 (upd (S.1 116) t (nI sz))).2.1 117 = S.2.1 117 := by
            show (sG (sI (sI S (64 + 2 * t) 1 so) (64 + 2 * t) 2 (nI sz)) (64 + 2 * t + 1) g).2.1 117 = _
            rw [sG_ne (by omega)]
            rfl
          rcases Nat.lt_or_ge t' t with h | h
          · rw [w2 _ (by omega), z]
          · rw [w4 _ (by omega), z]
  · unfold r_X8_renew
    rw [hx]
    have z := g1
    rw [show nI 0 = (0 : Int32) from rfl] at z
    rw [z]
    rfl
theorem nlt_60 {n : Nat} (h : n ≤ 60) : ¬ (60 : Int32) < nI n := fun z => by
  have := (nI_ltI (a := 60) (by decide) (by omega)).mp z
  omega
theorem k_tape : K36 Inv := by
  intro S hs a1 a2 a3 hI
  by_cases q : r_X12_in a1 0 5 = 0
  · refine ⟨-1, S, S, ?_, ?_, hI⟩
    · unfold r_X11_tape
      rw [tp_no q]
      rfl
    · unfold r_X12_tape r_X12_isTape
      rw [if_pos q]
  obtain ⟨t, ht, rfl⟩ := ii_5 q
  have e11 : r_X11_tape S (nI t) a2 a3 = if a2 = -1 then (r_X8_renew S (64 + 2 * t) (-1) 0).bind (fun q3 => some (1, q3.2)) else if r_X12_in a2 0 4 = 0 then some (-2, S) else if a3 ≤ 60 then (if 0 ≤ a3 then (r_X8_renew S (64 + 2 * t) a2 a3).bind (fun q2 => some (1, q2.2)) else some (-14, S)) else some (-2, S) := by
    unfold r_X11_tape
    rw [tp_yes ht, within_in]
    rfl
  have lt0 : ∀ k, k ≤ 4 → ¬ nI k < 0 := fun k hk => nI_pos (by omega)
  by_cases z : a2 = -1
  · subst z
    obtain ⟨S1, S2, h1, h2, h3⟩ := tape_new hI ht (-1) (sz := 0) (by omega) (Or.inl ⟨rfl, rfl⟩)
    refine ⟨1, S1, S2, ?_, ?_, h3⟩
    · rw [e11, if_pos rfl, h1 0 (by decide)]
      rfl
    · unfold r_X12_tape r_X12_isTape
      rw [if_neg q, if_neg (by decide), if_pos (by decide), if_pos (by decide), gdN ht (by decide), if_neg (by decide), gdN ht (by decide), nI_clamp (by omega)]
      have h2' : lp_X12_tape_69 (nI t) 4000 0 (sA (sA S1 115 (upd (S1.1 115) t (-1))) 116 (upd (S1.1 116) t 0)) = some S2 := h2
      rw [h2']
      rfl
  by_cases q1 : r_X12_in a2 0 4 = 0
  · refine ⟨-2, S, S, ?_, ?_, hI⟩
    · rw [e11, if_neg z, if_pos q1]
    · unfold r_X12_tape r_X12_isTape
      rw [if_neg q, if_pos]
      rcases ii_no q1 with h | h
      · refine ii_lo ?_
        rw [Int32.lt_iff_toInt_lt] at h ⊢
        have e0 : (0 : Int32).toInt = 0 := by decide
        have e1 : (-1 : Int32).toInt = -1 := by decide
        have e2 : a2.toInt ≠ -1 := fun w => z (Int32.toInt_inj.mp (by rw [w, e1]))
        omega
      · exact ii_gt h
  obtain ⟨k, -, hk, rfl⟩ := ii_nat (l := 0) (h := 4) (by decide) (by decide) q1
  have q3 : ¬ r_X12_in (nI k) (-1) 4 = 0 := by
    refine ii_of ?_ (nI_le (b := 4) hk (by decide))
    rw [Int32.le_iff_toInt_le, nI_toInt (by omega)]
    have e1 : (-1 : Int32).toInt = -1 := by decide
    omega
  by_cases w1 : a3 ≤ 60
  · by_cases w2 : 0 ≤ a3
    · obtain ⟨sz, hsz, rfl⟩ := nI_of2 (M := 60) (n := 60) (by decide) (Int32.not_lt.mpr w2) w1
      obtain ⟨S1, S2, h1, h2, h3⟩ := tape_new hI ht (nI k) hsz (Or.inr ⟨k, hk, rfl⟩)
      refine ⟨1, S1, S2, ?_, ?_, h3⟩
      · rw [e11, if_neg z, if_neg q1, if_pos w1, if_pos w2, h1 (nI sz) (by
          rw [if_neg (nlt_60 hsz)]
          by_cases y : sz = 0
          · subst y
            decide
          · rw [if_pos (show (0 : Int32) < nI sz from nI_lt (a := 0) (by omega) (by omega))])]
        rfl
      · unfold r_X12_tape r_X12_isTape
        rw [if_neg q, if_neg q3, if_neg (lt0 k hk), if_pos w1, if_neg (lt0 k hk), if_pos w2, gdN ht (by decide), if_pos (nI_pos' (by omega)), gdN ht (by decide), nI_clamp (by omega), h2]
        rfl
    · refine ⟨-14, S, S, ?_, ?_, hI⟩
      · rw [e11, if_neg z, if_neg q1, if_pos w1, if_neg w2]
      · unfold r_X12_tape r_X12_isTape
        rw [if_neg q, if_neg q3, if_neg (lt0 k hk), if_pos w1, if_neg (lt0 k hk), if_neg w2]
  · refine ⟨-2, S, S, ?_, ?_, hI⟩
    · rw [e11, if_neg z, if_neg q1, if_neg w1]
    · unfold r_X12_tape r_X12_isTape
      rw [if_neg q, if_neg q3, if_neg (lt0 k hk), if_neg w1]
theorem sub_toInt {a b : Nat} (ha : a < 2 ^ 31) (hb : b < 2 ^ 31) : (nI a - nI b).toInt = (a : Int) - b := by
  rw [Int32.toInt_sub, nI_toInt (by omega), nI_toInt (by omega), Int.bmod_def]
  omega
theorem lg_eq0 (x y : Int64) : lg_cmp x y = 0 ↔ x = y := by
  unfold lg_cmp
  by_cases h : x > y
  · rw [if_pos h]
    constructor
    · intro z
      exact absurd z (by decide)
    · intro z
      subst z
      exact absurd h Int64.lt_irrefl
  · rw [if_neg h]
    by_cases h2 : x = y
    · rw [if_pos h2]
      exact ⟨fun _ => h2, fun _ => rfl⟩
    · rw [if_neg h2]
      exact ⟨fun z => absurd z (by decide), fun z => absurd z h2⟩
theorem times_at {S : St} {h s : Nat} (hh : 8 * h + s < 48) : r_X11_timesOf S (nI h) (nI s) = some (S.1 12 (8 * h + s)) := by
  unfold r_X11_timesOf
  rw [nI_8', gdN hh (by decide), nI_clamp (by omega)]
theorem lp_judge {S : St} {hs : List Hr} (hI : Inv S hs) {t : Nat} (ht : t < 6) (a2 : Int32) : ∀ n v, v ≤ 8 → 8 < n + v → ∃ r, lp_X11_judge_34 S (64 + 2 * t) a2 n (nI v) = some r ∧ lp_X12_judge_34 S (nI t) a2 n (nI v) = some r := by
  obtain ⟨nb, hB, ⟨ns, nh, nd, nf, ne, ⟨⟨c1, c2, c3⟩, ⟨d1, d2, d3⟩, ⟨y1, y2, y3⟩, ⟨f1, f2, f3⟩, ⟨b1, b2, b3⟩, t1, t2⟩, hA, hT, hR, hF, hK, hW⟩, hIm, hTx, hTr, hTp, hHo, hL⟩ := id hI
  obtain ⟨sz, s1, s2, s3, s4, s5, s6⟩ := Tps_iff.mp hTp t ht
  intro n
  induction n with
  | zero => intro v h1 h2; omega
  | succ n ih =>
    intro v h1 h2
    unfold lp_X11_judge_34 lp_X12_judge_34
    rw [c2, c3]
    by_cases w : nI ns ≤ nI v
    · exact ⟨_, if_pos w, if_pos w⟩
    · have w' : v < ns := by
        have := mt (fun z => nI_le z (by omega)) w
        omega
      rw [if_neg w, if_neg w, gdN ht (by decide), nI_clamp (show t < 2 ^ 31 by omega)]
      by_cases z0 : a2 < 0
      · refine ⟨_, if_pos z0, ?_⟩
        by_cases y : S.1 115 t < 0
        · rw [if_pos y]
        · rw [if_neg y, if_pos z0]
      · obtain ⟨i, hi, rfl⟩ := nI_of z0
        rw [if_neg z0, s3]
        have cmp1 : nI i < nI sz - nI v ↔ i + v < sz := by
          rw [Int32.lt_iff_toInt_lt, sub_toInt (by omega) (by omega), nI_toInt hi]
          omega
        have cmp2 : nI i ≤ nI sz - nI v - 1 ↔ i + v < sz := by
          rw [Int32.le_iff_toInt_le, Int32.toInt_sub, sub_toInt (by omega) (by omega), nI_toInt hi]
          have : (1 : Int32).toInt = 1 := by decide
          rw [this, Int.bmod_def]
          omega
        by_cases y : i + v < sz
        · have ys : ¬ S.1 115 t < 0 := by
            rcases s5 with ⟨-, h0⟩ | ⟨k, hk4, h1⟩
            · omega
            · rw [h1]
              exact nI_pos (by omega)
          rw [if_pos (cmp1.mpr y), if_neg ys, if_neg z0, s4, gdM ht (by omega), if_pos (cmp2.mpr y), nI_60, nI_add, nI_add, gdN (show 60 * t + i + v < 360 by omega) (by decide), nI_clamp (show i + v < 2 ^ 31 by omega), nI_clamp (show 60 * t + i + v < 2 ^ 31 by omega), d2, d3, nI_1]
          have e6 := s6 (i + v) (by omega)
          rw [← Nat.add_assoc] at e6
          obtain ⟨r, r1, r2⟩ := ih (v + 1) (by omega) (by omega)
          have gi : gd (¬ (nI (i + v) < 0 ∨ 60 ≤ i + v)) = fun (k : Option (Nat × Int32)) => k := funext fun k => gdM (by omega) (by omega)
          by_cases x : nI nh = 0
          · rw [if_pos x, if_pos x, gi, e6, show (0 : Int32).toInt64 = 0 from by decide]
            by_cases u : lg_cmp (S.2.1 117 (60 * t + i + v)) 0 = 0
            · rw [if_pos u, if_pos u]
              exact ⟨r, r1, r2⟩
            · rw [if_neg u, if_neg u]
              exact ⟨_, rfl, rfl⟩
          · rw [if_neg x, if_neg x]
            have tm : r_X11_timesOf S 0 (nI v) = some (S.1 12 (8 * 0 + v)) := times_at (h := 0) (by omega)
            rw [tm, gdN (show v < 48 by omega) (by decide), nI_clamp (show v < 2 ^ 31 by omega)]
            show ∃ r, gd (¬ (nI (i + v) < 0 ∨ 60 ≤ i + v)) (if lg_cmp (S.2.1 (64 + 2 * t + 1) (i + v)) (S.1 12 (8 * 0 + v)).toInt64 = 0 then _ else _) = _ ∧ _
            rw [gi, e6, show 8 * 0 + v = v by omega, hT.1 v (by omega)]
            by_cases u : lg_cmp (S.2.1 117 (60 * t + i + v)) (S.1 82 v).toInt64 = 0
            · show ∃ r, (if lg_cmp (S.2.1 117 (60 * t + i + v)) (S.1 82 v).toInt64 = 0 then _ else _) = _ ∧ (if lg_cmp (S.2.1 117 (60 * t + i + v)) (S.1 82 v).toInt64 = 0 then _ else _) = _
              rw [if_pos u, if_pos u]
              exact ⟨r, r1, r2⟩
            · show ∃ r, (if lg_cmp (S.2.1 117 (60 * t + i + v)) (S.1 82 v).toInt64 = 0 then _ else _) = _ ∧ (if lg_cmp (S.2.1 117 (60 * t + i + v)) (S.1 82 v).toInt64 = 0 then _ else _) = _
              rw [if_neg u, if_neg u]
              exact ⟨_, rfl, rfl⟩
        · rw [if_neg (fun h => y (cmp1.mp h)), if_neg z0, s4, gdM ht (by omega), if_neg (fun h => y (cmp2.mp h))]
          refine ⟨_, rfl, ?_⟩
          split <;> rfl
theorem k_judge : K29 Inv := by
  intro S hs a1 a2 hI
  obtain ⟨nb, hB, ⟨ns, nh, nd, nf, ne, ⟨⟨c1, c2, c3⟩, ⟨d1, d2, d3⟩, ⟨y1, y2, y3⟩, ⟨f1, f2, f3⟩, ⟨b1, b2, b3⟩, t1, t2⟩, hA, hT, hR, hF, hK, hW⟩, hIm, hTx, hTr, hTp, hHo, hL⟩ := id hI
  by_cases q : r_X12_in a1 0 5 = 0
  · refine ⟨-1, ?_, ?_⟩
    · unfold r_X11_judge
      rw [tp_no q]
      rfl
    · unfold r_X12_judge r_X12_isTape
      rw [if_pos q]
  obtain ⟨t, ht, rfl⟩ := ii_5 q
  obtain ⟨sz, s1, s2, s3, s4, s5, s6⟩ := Tps_iff.mp hTp t ht
  obtain ⟨r, r1, r2⟩ := lp_judge hI ht a2 4000 0 (by omega) (by omega)
  rw [show nI 0 = (0 : Int32) from rfl] at r1 r2
  unfold r_X11_judge r_X12_judge r_X12_isTape
  rw [tp_yes ht, if_neg q, gdN ht (by decide), gdN ht (by decide), nI_clamp (by omega), r2]
  show ∃ v, (if S.1 (64 + 2 * t) 1 = -1 then (lp_X11_judge_34 S (64 + 2 * t) a2 4000 0).bind _ else if S.1 (64 + 2 * t) 1 = 2 then (lp_X11_judge_34 S (64 + 2 * t) a2 4000 0).bind _ else some (-12)) = some v ∧ _
  rw [r1, s2]
  rcases s5 with ⟨h1, h2⟩ | ⟨k, hk4, h1⟩
  · rw [h1, if_pos rfl, if_pos (by decide)]
    show ∃ v, (if r.1 = 0 then some ((100 : Int32) + r.2) else if r.1 = 1 then some r.2 else some (-5)) = some v ∧ (if r.1 = 0 then some ((100 : Int32) + r.2) else if r.1 = 1 then some r.2 else some (-5)) = some v
    split
    · exact ⟨_, rfl, rfl⟩
    · split
      · exact ⟨_, rfl, rfl⟩
      · exact ⟨_, rfl, rfl⟩
  · rw [h1, if_neg (m1_ne hk4), if_neg (nI_pos (show k < 2 ^ 31 by omega))]
    by_cases y : nI k = 2
    · rw [if_pos y]
      show ∃ v, (if r.1 = 0 then some ((100 : Int32) + r.2) else if r.1 = 1 then some r.2 else some (-5)) = some v ∧ (if r.1 = 0 then some ((100 : Int32) + r.2) else if r.1 = 1 then some r.2 else some (-5)) = some v
      split
      · exact ⟨_, rfl, rfl⟩
      · split
        · exact ⟨_, rfl, rfl⟩
        · exact ⟨_, rfl, rfl⟩
    · rw [if_neg y]
      exact ⟨_, rfl, rfl⟩
