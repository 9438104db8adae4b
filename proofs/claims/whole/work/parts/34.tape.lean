/-! TAPES: item, tape, shift, judge -/
theorem updL_at (f : Nat → Int64) (k : Nat) (x : Int64) : vp_updL f k x k = x := if_pos rfl
theorem updL_ne {f : Nat → Int64} {k j : Nat} {x : Int64} (h : j ≠ k) : vp_updL f k x j = f j := if_neg h
theorem ne_scr {S : St} {t : Nat} (ht : t < 6) (o : Nat) (h : o ∉ scrL) : o ≠ 64 + 2 * t := by
  intro z
  subst z
  apply h
  match t, ht with
  | 0, _ => decide
  | 1, _ => decide
  | 2, _ => decide
  | 3, _ => decide
  | 4, _ => decide
  | 5, _ => decide
  | t + 6, ht => exact absurd ht (by omega)
theorem m1_ne {k : Nat} (h : k ≤ 4) : ¬ nI k = -1 := by
  intro z
  rw [← Int32.toInt_inj, nI_toInt (by omega)] at z
  have : (-1 : Int32).toInt = -1 := by decide
  omega
theorem narrow_eq (S : St) (o : Nat) {k : Nat} (hk : k ≤ 4) (e : S.1 o 1 = nI k) (z : Int64) : r_X8_fitted S o z = r_X12_narrow (nI k) z := by
  unfold r_X8_fitted r_X12_narrow
  rw [e]
  match k, hk with
  | 0, _ => rfl
  | 1, _ => rfl
  | 2, _ => rfl
  | 3, _ => rfl
  | 4, _ => rfl
  | k + 5, h => exact absurd h (by omega)
theorem k_item : K37 Inv := by
  intro S hs a1 a2 a3 hI
  obtain ⟨nb, hB, ⟨ns, nh, nd, nf, ne, ⟨⟨c1, c2, c3⟩, ⟨d1, d2, d3⟩, ⟨y1, y2, y3⟩, ⟨f1, f2, f3⟩, ⟨b1, b2, b3⟩, t1, t2⟩, hA, hT, hR, hF, hK, hW⟩, hIm, hTx, hTr, hTp, hHo, hL⟩ := id hI
  by_cases q : r_X12_in a1 0 5 = 0
  · refine ⟨-1, S, S, ?_, ?_, hI⟩
    · unfold r_X11_item
      rw [tp_no q]
      rfl
    · unfold r_X12_item r_X12_isTape
      rw [if_pos q]
  obtain ⟨t, ht, rfl⟩ := ii_5 q
  obtain ⟨sz, s1, s2, s3, s4, s5, s6⟩ := Tps_iff.mp hTp t ht
  have e11 : r_X11_item S (nI t) a2 a3 = if S.1 115 t = -1 then some (-11, S) else if r_X12_in a2 0 (nI sz - 1) = 0 then some (-13, S) else gd (¬ (a2 < 0 ∨ 60 ≤ a2.toNatClampNeg)) (some (1, sG S (64 + 2 * t + 1) (vp_updL (S.2.1 (64 + 2 * t + 1)) a2.toNatClampNeg (r_X8_fitted S (64 + 2 * t) a3)))) := by
    unfold r_X11_item
    rw [tp_yes ht, within_in]
    show (if S.1 (64 + 2 * t) 1 = -1 then _ else if r_X12_in a2 0 (S.1 (64 + 2 * t) 2 - 1) = 0 then _ else _) = _
    rw [s2, s3]
  have e12 : ∀ S' : St, S'.1 115 = S.1 115 → S'.1 116 = S.1 116 → r_X12_item S' (nI t) a2 a3 = if 0 ≤ S.1 115 t then (if r_X12_in a2 0 (nI sz - 1) = 0 then some (-13, S') else gd (¬ ((((60 : Int32) * nI t) + a2) < 0 ∨ 360 ≤ (((60 : Int32) * nI t) + a2).toNatClampNeg)) (some (1, sG S' 117 (vp_updL (S'.2.1 117) (((60 : Int32) * nI t) + a2).toNatClampNeg (r_X12_narrow (S.1 115 t) a3))))) else some (-11, S') := by
    intro S' z1 z2
    unfold r_X12_item r_X12_isTape
    rw [if_neg q, gdN ht (by decide), gdN ht (by decide), gdN ht (by decide), nI_clamp (by omega), z1, z2, s4]
  rcases s5 with ⟨h1, h2⟩ | ⟨k, hk4, h1⟩
  · refine ⟨-11, S, S, ?_, ?_, hI⟩
    · rw [e11, if_pos h1]
    · rw [e12 S rfl rfl, h1, if_neg (by decide)]
  · by_cases q2 : r_X12_in a2 0 (nI sz - 1) = 0
    · refine ⟨-13, S, S, ?_, ?_, hI⟩
      · rw [e11, h1, if_neg (m1_ne hk4), if_pos q2]
      · rw [e12 S rfl rfl, h1, if_pos (nI_pos' (by omega)), if_pos q2]
    · obtain ⟨i, hi, rfl⟩ := ii_lt (by omega) q2
      refine ⟨1, sG S (64 + 2 * t + 1) (vp_updL (S.2.1 (64 + 2 * t + 1)) i (r_X12_narrow (nI k) a3)), sG (sG S (64 + 2 * t + 1) (vp_updL (S.2.1 (64 + 2 * t + 1)) i (r_X12_narrow (nI k) a3))) 117 (vp_updL (S.2.1 117) (60 * t + i) (r_X12_narrow (nI k) a3)), ?_, ?_, hI.of (fun o h1 h2 => rfl) (fun _ _ => rfl) rfl hTr (Tps_iff.mpr fun t' ht' => ?_)⟩
      · rw [e11, h1, if_neg (m1_ne hk4), if_neg q2, gdN (show i < 60 by omega) (by decide), nI_clamp (by omega), narrow_eq S _ hk4 (by rw [s2, h1])]
      · rw [e12 (sG S (64 + 2 * t + 1) _) rfl rfl, h1, if_pos (nI_pos' (by omega)), if_neg q2, nI_60, gdN (by omega) (by decide), nI_clamp (by omega), sG_ne (by omega)]
      · have o := Tps_iff.mp hTp t' ht'
        rw [sG_at, sG_ne (by omega)]
        by_cases e : t' = t
        · subst e
          rw [sG_at]
          obtain ⟨sz', s1', s2', s3', s4', s5', s6'⟩ := o
          refine ⟨sz', s1', s2', s3', s4', s5', fun k' hk' => ?_⟩
          by_cases w : k' = i
          · subst w
            rw [updL_at, updL_at]
          · rw [updL_ne w, updL_ne (by omega)]
            exact s6' k' hk'
        · rw [sG_ne (by omega)]
          exact o.cong rfl rfl rfl rfl (fun k' hk' => updL_ne (by omega))
theorem lp_renew {S : St} (o : Nat) : ∀ n v, v ≤ 60 → 60 < n + v → ∀ S : St, ∃ g, lp_X8_renew_24 o n (nI v) S = some (sG S (o + 1) g) ∧ (∀ k, k < v → g k = S.2.1 (o + 1) k) ∧ ∀ k, v ≤ k → k < 60 → g k = 0 := by
  intro n
  induction n with
  | zero => intro v h1 h2; omega
  | succ n ih =>
    intro v h1 h2 S
    show ∃ g, (if 60 ≤ nI v then some S else gd (¬ (nI v < 0 ∨ 60 ≤ (nI v).toNatClampNeg)) (lp_X8_renew_24 o n (nI v + 1) (sG S (o + 1) (vp_updL (S.2.1 (o + 1)) (nI v).toNatClampNeg 0)))) = _ ∧ _
    by_cases q : v = 60
    · subst q
      refine ⟨S.2.1 (o + 1), ?_, fun _ _ => rfl, fun k h3 h4 => by omega⟩
      rw [if_pos (le_l (k := 60) (by omega) (by omega))]
      show some S = some (S.1, uF S.2.1 (o + 1) (S.2.1 (o + 1)), S.2.2)
      rw [uF_self]
    · rw [if_neg (nle_l (k := 60) (by omega) (by omega)), gdN (show v < 60 by omega) (by decide), nI_clamp (by omega), nI_1]
      obtain ⟨g, g1, g2, g3⟩ := ih (v + 1) (by omega) (by omega) (sG S (o + 1) (vp_updL (S.2.1 (o + 1)) v 0))
      refine ⟨g, ?_, fun k hk => ?_, fun k h3 h4 => ?_⟩
      · rw [g1]
        show some (S.1, uF (uF S.2.1 (o + 1) _) (o + 1) g, S.2.2) = some (S.1, uF S.2.1 (o + 1) g, S.2.2)
        rw [uF_uF]
      · rw [g2 k (by omega), sG_at, updL_ne (by omega)]
      · by_cases w : k = v
        · subst w
          rw [g2 k (by omega), sG_at, updL_at]
        · exact g3 k (by omega) h4
theorem lp_tape {t : Nat} (ht : t < 6) : ∀ n v, v ≤ 60 → 60 < n + v → ∀ S : St, ∃ g, lp_X12_tape_69 (nI t) n (nI v) S = some (sG S 117 g) ∧ (∀ k, k < 60 * t + v → g k = S.2.1 117 k) ∧ (∀ k, 60 * t + v ≤ k → k < 60 * t + 60 → g k = 0) ∧ ∀ k, 60 * t + 60 ≤ k → g k = S.2.1 117 k := by
  intro n
  induction n with
  | zero => intro v h1 h2; omega
  | succ n ih =>
    intro v h1 h2 S
    show ∃ g, (if 60 ≤ nI v then some S else gd (¬ ((60 * nI t + nI v) < 0 ∨ 360 ≤ (60 * nI t + nI v).toNatClampNeg)) (lp_X12_tape_69 (nI t) n (nI v + 1) (sG S 117 (vp_updL (S.2.1 117) (60 * nI t + nI v).toNatClampNeg 0)))) = _ ∧ _
    by_cases q : v = 60
    · subst q
      refine ⟨S.2.1 117, ?_, fun _ _ => rfl, fun k h3 h4 => by omega, fun _ _ => rfl⟩
      rw [if_pos (le_l (k := 60) (by omega) (by omega))]
      show some S = some (S.1, uF S.2.1 117 (S.2.1 117), S.2.2)
      rw [uF_self]
    · rw [if_neg (nle_l (k := 60) (by omega) (by omega)), nI_60, gdN (show 60 * t + v < 360 by omega) (by decide), nI_clamp (by omega), nI_1]
      obtain ⟨g, g1, g2, g3, g4⟩ := ih (v + 1) (by omega) (by omega) (sG S 117 (vp_updL (S.2.1 117) (60 * t + v) 0))
      refine ⟨g, ?_, fun k hk => ?_, fun k h3 h4 => ?_, fun k h3 => ?_⟩
      · rw [g1]
        show some (S.1, uF (uF S.2.1 117 _) 117 g, S.2.2) = some (S.1, uF S.2.1 117 g, S.2.2)
        rw [uF_uF]
      · rw [g2 k (by omega), sG_at, updL_ne (by omega)]
      · by_cases w : k = 60 * t + v
        · subst w
          rw [g2 _ (by omega), sG_at, updL_at]
        · exact g3 k (by omega) h4
      · rw [g4 k h3, sG_at, updL_ne (by omega)]
/-- a TAPE made new, on both sides -/
theorem tape_new {S : St} {hs : List Hr} (hI : Inv S hs) {t : Nat} (ht : t < 6) (so : Int32) {sz : Nat} (hsz : sz ≤ 60) (hso : (so = -1 ∧ sz = 0) ∨ ∃ k, k ≤ 4 ∧ so = nI k) : ∃ S1 S2, (∀ x : Int32, (if (0 : Int32) < (if 60 < x then 60 else x) then (if 60 < x then 60 else x) else (0 : Int32)) = nI sz → r_X8_renew S (64 + 2 * t) so x = some (0, S1)) ∧ lp_X12_tape_69 (nI t) 4000 0 (sA (sA S1 115 (upd (S1.1 115) t so)) 116 (upd (S1.1 116) t (nI sz))) = some S2 ∧ Inv S2 hs := by
  obtain ⟨nb, hB, ⟨ns, nh, nd, nf, ne, ⟨⟨c1, c2, c3⟩, ⟨d1, d2, d3⟩, ⟨y1, y2, y3⟩, ⟨f1, f2, f3⟩, ⟨b1, b2, b3⟩, t1, t2⟩, hA, hT, hR, hF, hK, hW⟩, hIm, hTx, hTr, hTp, hHo, hL⟩ := id hI
  obtain ⟨g, g1, -, g3⟩ := lp_renew (S := S) (64 + 2 * t) 4000 0 (by omega) (by omega) (sI (sI S (64 + 2 * t) 1 so) (64 + 2 * t) 2 (nI sz))
  obtain ⟨w, w1, w2, w3, w4⟩ := lp_tape ht 4000 0 (by omega) (by omega) (sA (sA (sG (sI (sI S (64 + 2 * t) 1 so) (64 + 2 * t) 2 (nI sz)) (64 + 2 * t + 1) g) 115 (upd (S.1 115) t so)) 116 (upd (S.1 116) t (nI sz)))
  refine ⟨sG (sI (sI S (64 + 2 * t) 1 so) (64 + 2 * t) 2 (nI sz)) (64 + 2 * t + 1) g, sG (sA (sA (sG (sI (sI S (64 + 2 * t) 1 so) (64 + 2 * t) 2 (nI sz)) (64 + 2 * t + 1) g) 115 (upd (S.1 115) t so)) 116 (upd (S.1 116) t (nI sz))) 117 w, fun x hx => ?_, ?_, ?_⟩
  rotate_left
  · have e1 : (sG (sI (sI S (64 + 2 * t) 1 so) (64 + 2 * t) 2 (nI sz)) (64 + 2 * t + 1) g).1 115 = S.1 115 := by
      show (sI (sI S (64 + 2 * t) 1 so) (64 + 2 * t) 2 (nI sz)).1 115 = _
      rw [sI_ne (by omega), sI_ne (by omega)]
    have e2 : (sG (sI (sI S (64 + 2 * t) 1 so) (64 + 2 * t) 2 (nI sz)) (64 + 2 * t + 1) g).1 116 = S.1 116 := by
      show (sI (sI S (64 + 2 * t) 1 so) (64 + 2 * t) 2 (nI sz)).1 116 = _
      rw [sI_ne (by omega), sI_ne (by omega)]
    rw [e1, e2]
    exact w1
  · have fr : ∀ o, o ≠ 115 → o ≠ 116 → o ≠ 64 + 2 * t → (sG (sA (sA (sG (sI (sI S (64 + 2 * t) 1 so) (64 + 2 * t) 2 (nI sz)) (64 + 2 * t + 1) g) 115 (upd (S.1 115) t so)) 116 (upd (S.1 116) t (nI sz))) 117 w).1 o = S.1 o := by
      intro o h1 h2 h3
      show (sA (sA (sG (sI (sI S (64 + 2 * t) 1 so) (64 + 2 * t) 2 (nI sz)) (64 + 2 * t + 1) g) 115 (upd (S.1 115) t so)) 116 (upd (S.1 116) t (nI sz))).1 o = S.1 o
      rw [sA_ne h2, sA_ne h1]
      show (sI (sI S (64 + 2 * t) 1 so) (64 + 2 * t) 2 (nI sz)).1 o = S.1 o
      rw [sI_ne h3, sI_ne h3]
    refine hI.of (fun o h1 h2 => fr o (fun z => h2 (by rw [z]; decide)) (fun z => h2 (by rw [z]; decide)) (ne_scr (S := S) ht o h2)) (fun j _ => by rw [fr 76 (by decide) (by decide) (by omega)]) rfl ?_ (Tps_iff.mpr fun t' ht' => ?_)
    · rw [fr 30 (by decide) (by decide) (by omega), fr 31 (by decide) (by decide) (by omega), fr 76 (by decide) (by decide) (by omega), fr 114 (by decide) (by decide) (by omega)]
      exact hTr
    · have o := Tps_iff.mp hTp t' ht'
      by_cases e : t' = t
      · subst e
        refine ⟨sz, hsz, ?_, ?_, ?_, ?_, ?_⟩
        · show (sA (sA (sG (sI (sI S (64 + 2 * t') 1 so) (64 + 2 * t') 2 (nI sz)) (64 + 2 * t' + 1) g) 115 (upd (S.1 115) t' so)) 116 (upd (S.1 116) t' (nI sz))).1 (64 + 2 * t') 1 = upd (S.1 115) t' so t'
          rw [sA_ne (by omega), sA_ne (by omega), upd_at]
          show (sI (sI S (64 + 2 * t') 1 so) (64 + 2 * t') 2 (nI sz)).1 (64 + 2 * t') 1 = so
          rw [sI_sl (by decide), sI_at]
        · show (sA (sA (sG (sI (sI S (64 + 2 * t') 1 so) (64 + 2 * t') 2 (nI sz)) (64 + 2 * t' + 1) g) 115 (upd (S.1 115) t' so)) 116 (upd (S.1 116) t' (nI sz))).1 (64 + 2 * t') 2 = nI sz
          rw [sA_ne (by omega), sA_ne (by omega)]
          show (sI (sI S (64 + 2 * t') 1 so) (64 + 2 * t') 2 (nI sz)).1 (64 + 2 * t') 2 = nI sz
          rw [sI_at]
        · exact upd_at _ _ _
        · show (upd (S.1 115) t' so t' = -1 ∧ sz = 0) ∨ ∃ k, k ≤ 4 ∧ upd (S.1 115) t' so t' = nI k
          rw [upd_at]
          exact hso
        · intro k hk
          rw [sG_ne (show 64 + 2 * t' + 1 ≠ 117 by omega), sG_at]
          show (sG (sI (sI S (64 + 2 * t') 1 so) (64 + 2 * t') 2 (nI sz)) (64 + 2 * t' + 1) g).2.1 (64 + 2 * t' + 1) k = w (60 * t' + k)
          rw [sG_at, g3 k (Nat.zero_le _) hk, w3 _ (by omega) (by omega)]
      · refine o.cong (fr _ (by omega) (by omega) (by omega)) ?_ ?_ ?_ ?_
        · rw [sG_ne (by omega)]
          show (sG (sI (sI S (64 + 2 * t) 1 so) (64 + 2 * t) 2 (nI sz)) (64 + 2 * t + 1) g).2.1 (64 + 2 * t' + 1) = _
          rw [sG_ne (by omega)]
          rfl
        · exact upd_ne e
        · exact upd_ne e
        · intro k hk
          rw [sG_at]
          have z : (sA (sA (sG (sI (sI S (64 + 2 * t) 1 so) (64 + 2 * t) 2 (nI sz)) (64 + 2 * t + 1) g) 115 (upd (S.1 115) t so)) 116 (upd (S.1 116) t (nI sz))).2.1 117 = S.2.1 117 := by
            show (sG (sI (sI S (64 + 2 * t) 1 so) (64 + 2 * t) 2 (nI sz)) (64 + 2 * t + 1) g).2.1 117 = _
            rw [sG_ne (by omega)]
            rfl
          rcases Nat.lt_or_ge t' t with h | h
          · rw [w2 _ (by omega), z]
          · rw [w4 _ (by omega), z]
  · unfold r_X8_renew
    rw [hx]
    have z := g1
    rw [show nI 0 = (0 : Int32) from rfl] at z
    rw [z]
    rfl
