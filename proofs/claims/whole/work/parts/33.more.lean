/-! MORE: frames; tapes; faces; acts -/
def scrL : List Nat := [30, 31, 33, 34, 35, 36, 37, 38, 39, 64, 66, 68, 70, 72, 74, 91, 93, 94, 95, 96, 97, 98, 99, 100, 114, 115, 116]
def scr76 : List Nat := [13, 14, 23, 24, 25, 30, 59]
theorem Inv.of {S S' : St} {hs : List Hr} (hI : Inv S hs) (e : ∀ o, o ≠ 76 → o ∉ scrL → S'.1 o = S.1 o) (e6 : ∀ j, j ∉ scr76 → S'.1 76 j = S.1 76 j) (e2 : S'.2.2 = S.2.2) (hTr : Trc (S'.1 30 1) (S'.1 76 59) (S'.1 31) (S'.1 114)) (hTp : Tps S') : Inv S' hs := by
  obtain ⟨nb, hB, hN, hIm, hTx, -, -, hHo, hL⟩ := hI
  have g : ∀ o, o ≠ 76 → scrL.elem o = false → S'.1 o = S.1 o := fun o h1 h2 => e o h1 (fun z => by rw [List.elem_eq_true_of_mem z] at h2; cases h2)
  have g6 : ∀ j, scr76.elem j = false → S'.1 76 j = S.1 76 j := fun o h2 => e6 o (fun z => by rw [List.elem_eq_true_of_mem z] at h2; cases h2)
  refine ⟨nb, ?_, ?_, ?_, ?_, hTr, hTp, ?_, ?_⟩
  · unfold Blt at hB ⊢
    rw [g 7 (by decide) rfl, g6 10 rfl]
    exact hB
  · show Core (S'.1 8) (S'.1 9) (S'.1 10) (S'.1 12) (S'.1 13) (S'.1 14) (S'.1 15) (S'.1 16) (S'.1 17) (S'.2.2 11) (S'.1 76 0) (S'.1 76 1) (S'.1 76 2) (S'.1 76 11) (S'.1 76 37) (S'.1 76 40) (S'.1 77) (S'.1 78) (S'.1 79) (S'.1 80) (S'.1 81) (S'.1 82) (S'.1 83) (S'.1 101) (S'.1 102) (S'.1 103) hs nb
    rw [g 8 (by decide) rfl, g 9 (by decide) rfl, g 10 (by decide) rfl, g 12 (by decide) rfl, g 13 (by decide) rfl, g 14 (by decide) rfl, g 15 (by decide) rfl, g 16 (by decide) rfl, g 17 (by decide) rfl, e2, g6 0 rfl, g6 1 rfl, g6 2 rfl, g6 11 rfl, g6 37 rfl, g6 40 rfl, g 77 (by decide) rfl, g 78 (by decide) rfl, g 79 (by decide) rfl, g 80 (by decide) rfl, g 81 (by decide) rfl, g 82 (by decide) rfl, g 83 (by decide) rfl, g 101 (by decide) rfl, g 102 (by decide) rfl, g 103 (by decide) rfl]
    exact hN
  · unfold Img at hIm ⊢
    show (S'.1 7 2 = 0 ∧ S'.1 76 42 = 0) ∨ (S'.1 7 2 = 1 ∧ S'.1 76 42 = 1 ∧ Core (S'.1 18) (S'.1 19) (S'.1 20) (S'.1 22) (S'.1 23) (S'.1 24) (S'.1 25) (S'.1 26) (S'.1 27) (S'.2.2 21) (S'.1 76 44) (S'.1 76 45) (S'.1 76 46) (S'.1 76 43) (S'.1 76 47) (S'.1 76 48) (S'.1 104) (S'.1 105) (S'.1 106) (S'.1 107) (S'.1 108) (S'.1 109) (S'.1 110) (S'.1 111) (S'.1 112) (S'.1 113) hs nb)
    rw [g 7 (by decide) rfl, g6 42 rfl, g 18 (by decide) rfl, g 19 (by decide) rfl, g 20 (by decide) rfl, g 22 (by decide) rfl, g 23 (by decide) rfl, g 24 (by decide) rfl, g 25 (by decide) rfl, g 26 (by decide) rfl, g 27 (by decide) rfl, e2, g6 44 rfl, g6 45 rfl, g6 46 rfl, g6 43 rfl, g6 47 rfl, g6 48 rfl, g 104 (by decide) rfl, g 105 (by decide) rfl, g 106 (by decide) rfl, g 107 (by decide) rfl, g 108 (by decide) rfl, g 109 (by decide) rfl, g 110 (by decide) rfl, g 111 (by decide) rfl, g 112 (by decide) rfl, g 113 (by decide) rfl]
    exact hIm
  · rw [g 7 (by decide) rfl, g6 12 rfl, g 28 (by decide) rfl, g 84 (by decide) rfl]
    exact hTx
  · unfold Hos at hHo ⊢
    rw [g 40 (by decide) rfl, g 41 (by decide) rfl, g 42 (by decide) rfl, g 44 (by decide) rfl, g 45 (by decide) rfl, g 46 (by decide) rfl, g 48 (by decide) rfl, g 49 (by decide) rfl, g 50 (by decide) rfl, g 52 (by decide) rfl, g 53 (by decide) rfl, g 54 (by decide) rfl, g 56 (by decide) rfl, g 57 (by decide) rfl, g 58 (by decide) rfl, g 60 (by decide) rfl, g 61 (by decide) rfl, g 62 (by decide) rfl, g 85 (by decide) rfl, g 86 (by decide) rfl, g 87 (by decide) rfl, g 88 (by decide) rfl, g 89 (by decide) rfl, g 90 (by decide) rfl]
    exact hHo
  · rw [g 92 (by decide) rfl, g6 28 rfl]
    exact hL
theorem Tps_iff {S : St} : Tps S ↔ ∀ t, t < 6 → Tp1 (S.1 (64 + 2 * t)) (S.2.1 (64 + 2 * t + 1)) (S.1 115) (S.1 116) (S.2.1 117) t := by
  constructor
  · intro h t ht
    obtain ⟨h0, h1, h2, h3, h4, h5⟩ := h
    match t, ht with
    | 0, _ => exact h0
    | 1, _ => exact h1
    | 2, _ => exact h2
    | 3, _ => exact h3
    | 4, _ => exact h4
    | 5, _ => exact h5
    | t + 6, ht => exact absurd ht (by omega)
  · intro h
    exact ⟨h 0 (by decide), h 1 (by decide), h 2 (by decide), h 3 (by decide), h 4 (by decide), h 5 (by decide)⟩
theorem tpF_at : ∀ t, t < 6 → tpF t = some (64 + 2 * t) := by
  intro t ht
  match t, ht with
  | 0, _ => rfl
  | 1, _ => rfl
  | 2, _ => rfl
  | 3, _ => rfl
  | 4, _ => rfl
  | 5, _ => rfl
  | t + 6, ht => exact absurd ht (by omega)
theorem Tp1.cong {cs cs' : Nat → Int32} {it it' : Nat → Int64} {a a' b b' : Nat → Int32} {m m' : Nat → Int64} {t : Nat} (h : Tp1 cs it a b m t) (e1 : cs' = cs) (e2 : it' = it) (e3 : a' t = a t) (e4 : b' t = b t) (e5 : ∀ k, k < 60 → m' (60 * t + k) = m (60 * t + k)) : Tp1 cs' it' a' b' m' t := by
  obtain ⟨sz, h1, h2, h3, h4, h5, h6⟩ := h
  subst e1
  subst e2
  exact ⟨sz, h1, by rw [e3]; exact h2, h3, by rw [e4]; exact h4, by rw [e3]; exact h5, fun k hk => by rw [e5 k hk]; exact h6 k hk⟩
theorem sI_ne {S : St} {k j a : Nat} {v : Int32} (h : a ≠ k) : (sI S k j v).1 a = S.1 a := by
  show u2 S.1 k j v a = S.1 a
  unfold u2
  rw [show Nat.beq a k = false from by cases q : Nat.beq a k with | false => rfl | true => exact absurd (Nat.eq_of_beq_eq_true q) h]
theorem sI_at {S : St} {k j : Nat} {v : Int32} : (sI S k j v).1 k j = v := by
  show u2 S.1 k j v k j = v
  unfold u2
  rw [show Nat.beq k k = true from Nat.beq_refl k]
  show (match Nat.beq j j with | true => v | false => S.1 k j) = v
  rw [show Nat.beq j j = true from Nat.beq_refl j]
theorem sI_sl {S : St} {k j i : Nat} {v : Int32} (h : i ≠ j) : (sI S k j v).1 k i = S.1 k i := by
  show u2 S.1 k j v k i = S.1 k i
  unfold u2
  rw [show Nat.beq k k = true from Nat.beq_refl k]
  show (match Nat.beq i j with | true => v | false => S.1 k i) = S.1 k i
  rw [show Nat.beq i j = false from by cases q : Nat.beq i j with | false => rfl | true => exact absurd (Nat.eq_of_beq_eq_true q) h]
theorem sG_ne {S : St} {k a : Nat} {g : Nat → Int64} (h : a ≠ k) : (sG S k g).2.1 a = S.2.1 a := by
  show uF S.2.1 k g a = S.2.1 a
  unfold uF
  rw [show Nat.beq a k = false from by cases q : Nat.beq a k with | false => rfl | true => exact absurd (Nat.eq_of_beq_eq_true q) h]
theorem sG_at {S : St} {k : Nat} {g : Nat → Int64} : (sG S k g).2.1 k = g := by
  show uF S.2.1 k g k = g
  unfold uF
  rw [show Nat.beq k k = true from Nat.beq_refl k]
theorem sA_ne {S : St} {k a : Nat} {g : Nat → Int32} (h : a ≠ k) : (sA S k g).1 a = S.1 a := by
  show uF S.1 k g a = S.1 a
  unfold uF
  rw [show Nat.beq a k = false from by cases q : Nat.beq a k with | false => rfl | true => exact absurd (Nat.eq_of_beq_eq_true q) h]
theorem sA_at {S : St} {k : Nat} {g : Nat → Int32} : (sA S k g).1 k = g := by
  show uF S.1 k g k = g
  unfold uF
  rw [show Nat.beq k k = true from Nat.beq_refl k]
theorem tp_no {S : St} {a : Int32} (q : r_X12_in a 0 5 = 0) : r_X11_tapeAt S a = some none := by
  unfold r_X11_tapeAt
  rw [within_in, if_pos q]
theorem tp_yes {S : St} {t : Nat} (ht : t < 6) : r_X11_tapeAt S (nI t) = some (some (64 + 2 * t)) := by
  unfold r_X11_tapeAt
  rw [within_in, if_neg (show ¬ r_X12_in (nI t) 0 5 = 0 from ii_of (nI_pos' (by omega)) (nI_le (b := 5) (by omega) (by decide))), gdN ht (by decide), nI_clamp (by omega), tpF_at t ht]
theorem ii_5 {a : Int32} (q : ¬ r_X12_in a 0 5 = 0) : ∃ t, t < 6 ∧ a = nI t := by
  obtain ⟨t, -, h2, h3⟩ := ii_nat (l := 0) (h := 5) (by decide) (by decide) q
  exact ⟨t, by omega, h3⟩
theorem nI_60 (a b : Nat) : (60 : Int32) * nI a + nI b = nI (60 * a + b) := by
  rw [show (60 : Int32) = nI 60 from rfl, nI_mul, nI_add]
theorem ii_gt {a l h : Int32} (q : h < a) : r_X12_in a l h = 0 := by
  unfold r_X12_in
  by_cases z : a < l
  · rw [if_pos z]
  · rw [if_neg z, if_pos q]
theorem ii_lo {a l h : Int32} (q : a < l) : r_X12_in a l h = 0 := by
  unfold r_X12_in
  rw [if_pos q]
theorem k_read : K38 Inv := by
  intro S hs a1 a2 hI
  obtain ⟨nb, hB, ⟨ns, nh, nd, nf, ne, ⟨⟨c1, c2, c3⟩, ⟨d1, d2, d3⟩, ⟨y1, y2, y3⟩, ⟨f1, f2, f3⟩, ⟨b1, b2, b3⟩, t1, t2⟩, hA, hT, hR, hF, hK, hW⟩, hIm, hTx, hTr, hTp, hHo, hL⟩ := id hI
  by_cases q : r_X12_in a1 0 5 = 0
  · refine ⟨-9223372036854775808, ?_, ?_⟩
    · unfold r_X11_read
      rw [tp_no q]
      rfl
    · unfold r_X12_read r_X12_isTape
      rw [if_pos q]
  obtain ⟨t, ht, rfl⟩ := ii_5 q
  obtain ⟨sz, s1, s2, s3, s4, s5, s6⟩ := Tps_iff.mp hTp t ht
  have e11 : r_X11_read S (nI t) a2 = if r_X12_in a2 0 (nI sz - 1) = 0 then some (-9223372036854775808) else gd (¬ (a2 < 0 ∨ 60 ≤ a2.toNatClampNeg)) (some (S.2.1 (64 + 2 * t + 1) a2.toNatClampNeg)) := by
    unfold r_X11_read
    rw [tp_yes ht, within_in]
    show (if r_X12_in a2 0 (S.1 (64 + 2 * t) 2 - 1) = 0 then _ else _) = _
    rw [s3]
  have e12 : r_X12_read S (nI t) a2 = if S.1 115 t < 0 then some (-9223372036854775808) else if r_X12_in a2 0 (nI sz - 1) = 0 then some (-9223372036854775808) else gd (¬ ((((60 : Int32) * nI t) + a2) < 0 ∨ 360 ≤ (((60 : Int32) * nI t) + a2).toNatClampNeg)) (some (S.2.1 117 (((60 : Int32) * nI t) + a2).toNatClampNeg)) := by
    unfold r_X12_read r_X12_isTape
    rw [if_neg q, gdN ht (by decide), gdN ht (by decide), nI_clamp (by omega), s4]
  rw [e11, e12]
  by_cases q2 : r_X12_in a2 0 (nI sz - 1) = 0
  · refine ⟨_, if_pos q2, ?_⟩
    by_cases z : S.1 115 t < 0
    · rw [if_pos z]
    · rw [if_neg z, if_pos q2]
  · obtain ⟨i, hi, rfl⟩ := ii_lt (by omega) q2
    have z : ¬ S.1 115 t < 0 := by
      rcases s5 with ⟨-, h0⟩ | ⟨k, hk4, h1⟩
      · omega
      · rw [h1]
        exact nI_pos (by omega)
    rw [if_neg q2, if_neg z, if_neg q2, gdN (show i < 60 by omega) (by decide), nI_60, gdN (by omega) (by decide), nI_clamp (by omega), nI_clamp (by omega)]
    exact ⟨_, rfl, by rw [s6 i (by omega)]⟩
theorem k_trace : K33 Inv := by
  intro S hs a1 hI
  obtain ⟨nb, hB, ⟨ns, nh, nd, nf, ne, ⟨⟨c1, c2, c3⟩, ⟨d1, d2, d3⟩, ⟨y1, y2, y3⟩, ⟨f1, f2, f3⟩, ⟨b1, b2, b3⟩, t1, t2⟩, hA, hT, hR, hF, hK, hW⟩, hIm, hTx, hTr, hTp, hHo, hL⟩ := id hI
  obtain ⟨n, x1, x2, x3, x4⟩ := hTr
  have e11 : r_X11_trace S a1 = if r_X12_in a1 0 (nI (if n < 20 then n else 20) - 1) = 0 then some (-1) else gd (¬ (a1 < 0 ∨ 20 ≤ a1.toNatClampNeg)) (some (S.1 31 a1.toNatClampNeg)) := by
    unfold r_X11_trace r_X10_keptBodies_30
    rw [within_in, x2]
    have m : (if (20 : Int32) < nI n then 20 else nI n) = nI (if n < 20 then n else 20) := by
      by_cases z : n < 20
      · rw [if_neg (show ¬ (20 : Int32) < nI n from fun h => by have := (nI_ltI (a := 20) (by decide) (by omega)).mp h; omega), if_pos z]
      · rw [if_neg z]
        by_cases z2 : n = 20
        · rw [z2]
          rfl
        · rw [if_pos (show (20 : Int32) < nI n from nI_lt (a := 20) (by omega) (by omega))]
          rfl
    rw [m]
  rw [e11]
  unfold r_X12_trace
  rw [x3]
  by_cases q : r_X12_in a1 0 19 = 0
  · refine ⟨-1, ?_, by rw [if_pos q]⟩
    rw [if_pos]
    rcases ii_no q with h | h
    · exact ii_lo h
    · have h2 : nI (if n < 20 then n else 20) - 1 < a1 := by
        rw [Int32.lt_iff_toInt_lt] at h ⊢
        have e19 : (19 : Int32).toInt = 19 := by decide
        rw [e19] at h
        cases hm : (if n < 20 then n else 20) with
        | zero => 
          have : (nI 0 - 1).toInt = -1 := by decide
          omega
        | succ m =>
          rw [nI_pred, nI_toInt (by split at hm <;> omega)]
          split at hm <;> omega
      exact ii_gt h2
  · obtain ⟨i, -, hi, rfl⟩ := ii_nat (l := 0) (h := 19) (by decide) (by decide) q
    rw [if_neg q]
    by_cases z : n ≤ i
    · refine ⟨-1, ?_, by rw [if_pos (nI_le z (by omega))]⟩
      rw [if_pos]
      by_cases w : r_X12_in (nI i) 0 (nI (if n < 20 then n else 20) - 1) = 0
      · exact w
      · obtain ⟨s, h1, h2⟩ := ii_lt (by split <;> omega) w
        have h3 := (nI_eq (by omega) (by split at h1 <;> omega)).mp h2
        split at h1 <;> omega
    · rw [if_neg (ii_is (by split <;> omega) (by split <;> omega)), if_neg (nI_ge (by omega) (by omega)), gdN (show i < 20 by omega) (by decide), gdN (show i < 20 by omega) (by decide), nI_clamp (by omega)]
      exact ⟨_, rfl, by rw [x4 i (by omega)]⟩
theorem k_see : K23 Inv := by
  intro S hs a1 a2 hI
  obtain ⟨nb, hB, ⟨ns, nh, nd, nf, ne, ⟨⟨c1, c2, c3⟩, ⟨d1, d2, d3⟩, ⟨y1, y2, y3⟩, ⟨f1, f2, f3⟩, ⟨b1, b2, b3⟩, t1, t2⟩, hA, hT, hR, hF, hK, hW⟩, hIm, hTx, hTr, hTp, hHo, hL⟩ := id hI
  by_cases z : a1 = -1
  · refine ⟨0, sI S 8 4 0, sI (sI S 8 4 0) 76 37 0, ?_, ?_, ⟨nb, hB, ⟨ns, nh, nd, 0, ne, ⟨⟨c1, c2, c3⟩, ⟨d1, d2, d3⟩, ⟨y1, y2, y3⟩, ⟨Nat.zero_le _, rfl, rfl⟩, ⟨b1, b2, b3⟩, t1, t2⟩, hA, hT, hR, ⟨hF.1, hF.2.1, fun k h => absurd h (Nat.not_lt_zero k)⟩, hK, hW⟩, hIm, hTx, hTr, hTp, hHo, hL⟩⟩
    · unfold r_X11_see
      rw [if_pos z]
    · unfold r_X12_see
      rw [if_pos z]
  by_cases q : r_X12_in a1 0 (nI ns - 1) = 0
  · refine ⟨-1, S, S, ?_, ?_, hI⟩
    · unfold r_X11_see r_X11_isStory
      rw [within_in, c2, if_neg z, if_pos q]
    · unfold r_X12_see r_X12_isStory
      rw [c3, if_neg z, if_pos q]
  obtain ⟨s, h1, rfl⟩ := ii_lt (by omega) q
  by_cases q1 : r_X12_in a2 0 (((1 : Int32) <<< (nI nh &&& 31)) - 1) = 0
  · refine ⟨-2, S, S, ?_, ?_, hI⟩
    · unfold r_X11_see r_X11_isStory r_X11_isTable r_X11_everybody
      rw [within_in, c2, d2, if_neg z, if_neg q, if_pos q1]
    · unfold r_X12_see r_X12_isStory r_X12_isTable
      rw [c3, d3, if_neg z, if_neg q, if_pos q1]
  by_cases q2 : nf = 6
  · subst q2
    refine ⟨-4, S, S, ?_, ?_, hI⟩
    · unfold r_X11_see r_X11_isStory r_X11_isTable r_X11_everybody
      rw [within_in, c2, d2, if_neg z, if_neg q, if_neg q1, f2, if_neg (by decide)]
    · unfold r_X12_see r_X12_isStory r_X12_isTable
      rw [c3, d3, if_neg z, if_neg q, if_neg q1, f3, if_pos (by decide)]
  have e6 : nf < 6 := by omega
  refine ⟨nI nf + 1, sI (sA (sA S 15 (upd (S.1 15) nf (nI s))) 16 (upd (S.1 16) nf a2)) 8 4 (nI nf + 1), sI (sA (sA (sI (sA (sA S 15 (upd (S.1 15) nf (nI s))) 16 (upd (S.1 16) nf a2)) 8 4 (nI nf + 1)) 101 (upd (S.1 101) nf (nI s))) 102 (upd (S.1 102) nf a2)) 76 37 (nI nf + 1), ?_, ?_, ⟨nb, hB, ⟨ns, nh, nd, nf + 1, ne, ⟨⟨c1, c2, c3⟩, ⟨d1, d2, d3⟩, ⟨y1, y2, y3⟩, ⟨by omega, (nI_succ nf).symm, (nI_succ nf).symm⟩, ⟨b1, b2, b3⟩, t1, t2⟩, hA, hT, hR, ⟨hF.1.upd nf (nI s), hF.2.1.upd nf a2, fun k hk => ?_⟩, hK, hW⟩, hIm, hTx, hTr, hTp, hHo, hL⟩⟩
  · unfold r_X11_see r_X11_isStory r_X11_isTable r_X11_everybody
    rw [within_in, c2, d2, if_neg z, if_neg q, if_neg q1, f2, if_pos (lt_l e6 (by decide)), gdN e6 (by decide), gdN e6 (by decide), nI_clamp (by omega)]
  · unfold r_X12_see r_X12_isStory r_X12_isTable
    show (if nI s = -1 then _ else if r_X12_in (nI s) 0 (S.1 76 0 - 1) = 0 then _ else if r_X12_in a2 0 (((1 : Int32) <<< ((S.1 76 1) &&& 31)) - 1) = 0 then _ else if S.1 76 37 = 6 then _ else gd (¬ (S.1 76 37 < 0 ∨ 6 ≤ (S.1 76 37).toNatClampNeg)) (gd (¬ (S.1 76 37 < 0 ∨ 6 ≤ (S.1 76 37).toNatClampNeg)) (some (S.1 76 37 + 1, sI (sA (sA _ 101 (upd (S.1 101) (S.1 76 37).toNatClampNeg (nI s))) 102 (upd (S.1 102) (S.1 76 37).toNatClampNeg a2)) 76 37 (S.1 76 37 + 1))))) = _
    rw [c3, d3, if_neg z, if_neg q, if_neg q1, f3, if_neg (ne_l q2 (by omega) (by decide)), gdN e6 (by decide), gdN e6 (by decide), nI_clamp (by omega)]
  · show ∃ z, z < ns ∧ upd (S.1 101) nf (nI s) k = nI z
    by_cases e : k = nf
    · subst e
      exact ⟨s, h1, upd_at _ _ _⟩
    · rw [upd_ne e]
      exact hF.2.2 k (by omega)
theorem taken_k : ∀ k, k ≤ 6 → ∀ j, j ≤ 6 → (r_X11_isOfKind (kC (nI k), nI k, 0, 0) (nI j) = 0 ↔ ¬ (j = 0 ∨ k = j ∨ (j = 1 ∧ k = 4) ∨ (j = 2 ∧ k = 5) ∨ (j = 3 ∧ k = 6))) := by decide +kernel
theorem taken_m (S : St) (h : Nat) (hh : h < 6) : ∀ k, k ≤ 6 → ∀ j, j ≤ 6 → S.1 79 h = nI k → ¬ r_X12_isHearer S (nI h) = 0 → r_X12_taken S (nI h) (nI j) = if (j = 0 ∨ k = j ∨ (j = 1 ∧ k = 4) ∨ (j = 2 ∧ k = 5) ∨ (j = 3 ∧ k = 6)) then some (nI k) else some (-12) := by
  intro k hk j hj ek hq
  unfold r_X12_taken
  rw [if_neg (fun z => by have := ii_of (l := 0) (h := 6) (a := nI j) (nI_pos' (by omega)) (nI_le (b := 6) (by omega) (by decide)); exact this z), if_neg hq, gdN hh (by decide), nI_clamp (by omega), ek]
  clear ek hq
  revert k j
  decide +kernel
theorem k_taken : K34 Inv := by
  intro S hs a1 a2 hI
  obtain ⟨nb, hB, ⟨ns, nh, nd, nf, ne, ⟨⟨c1, c2, c3⟩, ⟨d1, d2, d3⟩, ⟨y1, y2, y3⟩, ⟨f1, f2, f3⟩, ⟨b1, b2, b3⟩, t1, t2⟩, hA, hT, hR, hF, hK, hW⟩, hIm, hTx, hTr, hTp, hHo, hL⟩ := id hI
  by_cases q0 : r_X12_in a2 0 6 = 0
  · refine ⟨-2, ?_, ?_⟩
    · unfold r_X11_taken
      rw [within_in, if_pos q0]
    · unfold r_X12_taken
      rw [if_pos q0]
  obtain ⟨j, -, hj, rfl⟩ := ii_nat (l := 0) (h := 6) (by decide) (by decide) q0
  by_cases q : r_X12_in a1 0 (nI nh - 1) = 0
  · refine ⟨-11, ?_, ?_⟩
    · unfold r_X11_taken
      rw [within_in, if_neg q0, at_no d2 q]
    · unfold r_X12_taken r_X12_isHearer
      rw [if_neg q0, d3, if_pos q]
  obtain ⟨h, hh, rfl⟩ := ii_lt (by omega) q
  obtain ⟨k, v, k6, v9, ek, ev, hat⟩ := at_yes d1 d2 hW hh
  have hq : ¬ r_X12_isHearer S (nI h) = 0 := by unfold r_X12_isHearer; rw [d3]; exact q
  have e11 : r_X11_taken S hs (nI h) (nI j) = if (j = 0 ∨ k = j ∨ (j = 1 ∧ k = 4) ∨ (j = 2 ∧ k = 5) ∨ (j = 3 ∧ k = 6)) then some (nI k) else some (-12) := by
    unfold r_X11_taken
    rw [within_in, if_neg q0, hat]
    have h1 := taken_k k k6 j hj
    have h2 : r_X11_isOfKind (kC (nI k), nI k, nI h, nI v) (nI j) = r_X11_isOfKind (kC (nI k), nI k, 0, 0) (nI j) := rfl
    rw [h2]
    by_cases z : (j = 0 ∨ k = j ∨ (j = 1 ∧ k = 4) ∨ (j = 2 ∧ k = 5) ∨ (j = 3 ∧ k = 6))
    · rw [if_neg (fun w => h1.mp w z), if_pos z]
    · rw [if_pos (h1.mpr z), if_neg z]
  rw [e11, taken_m S h (by omega) k k6 j hj ek hq]
  split
  · exact ⟨_, rfl, rfl⟩
  · exact ⟨_, rfl, rfl⟩
