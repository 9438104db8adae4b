/-! SEATS: both searches -/
theorem Back.rf (S : St) : Back S S := ⟨Mind.rf S, rfl, rfl, rfl, rfl⟩
theorem Back.a38 {S T : St} (h : Back S T) (g : Nat → Int32) : Back S (sA T 38 g) := ⟨h.1.a rfl g, h.2.1, h.2.2.1, h.2.2.2.1, h.2.2.2.2⟩
theorem Back.a39 {S T : St} (h : Back S T) (g : Nat → Int32) : Back S (sA T 39 g) := ⟨h.1.a rfl g, h.2.1, h.2.2.1, h.2.2.2.1, h.2.2.2.2⟩
theorem Back.a99 {S T : St} (h : Back S T) (g : Nat → Int32) : Back S (sA T 99 g) := ⟨h.1.a rfl g, h.2.1, h.2.2.1, h.2.2.2.1, h.2.2.2.2⟩
theorem Back.a100 {S T : St} (h : Back S T) (g : Nat → Int32) : Back S (sA T 100 g) := ⟨h.1.a rfl g, h.2.1, h.2.2.1, h.2.2.2.1, h.2.2.2.2⟩
theorem os_F_le {nh : Nat} (h0 : 0 < nh) (h6 : nh ≤ 6) : 1 ≤ os_F nh ∧ os_F nh ≤ 120 := by
  rcases (show nh = 1 ∨ nh = 2 ∨ nh = 3 ∨ nh = 4 ∨ nh = 5 ∨ nh = 6 by omega) with rfl | rfl | rfl | rfl | rfl | rfl <;> decide
theorem lp_seats {S : St} {nh : Nat} {q f2 : Int32} (h0 : 0 < nh) (h6 : nh ≤ 6) (d2 : S.1 8 3 = nI nh) (d3 : S.1 76 1 = nI nh) : ∀ n m k (v v3 : Int32) (S1 T1 : St), Back S S1 → Back S T1 → k ≤ os_F nh → os_F nh < n + k → os_F nh < m + k → v3 = (if k < os_F nh then 1 else 0) → (k < os_F nh → os_A (S1.1 38) (os_P nh k)) → ((k = 0 ∧ v = -1) ∨ EqB nh (S1.1 39) (T1.1 100)) → ∃ w S2 T2, lp_X11_findSeats_33 q n v v3 (nI k) S1 = some (w, S2) ∧ lp_X12_seats_51 f2 q m v (nI k) T1 = some (w, T2) ∧ Back S S2 ∧ Back S T2 ∧ EqB nh (S2.1 39) (T2.1 100) := by
  obtain ⟨F1, F2⟩ := os_F_le h0 h6
  intro n
  induction n with
  | zero => intro m k v v3 S1 T1 _ _ h1 h2; omega
  | succ n ih =>
    intro m k v v3 S1 T1 hS hT h1 h2 h3 hv hA hE
    obtain ⟨m, rfl⟩ : ∃ m', m = m' + 1 := ⟨m - 1, by omega⟩
    have dT : T1.1 76 1 = nI nh := by rw [hT.1.2.1 1 rfl]; exact d3
    rw [lp_X11_findSeats_33, lp_X12_seats_51, dT, if_neg (nI_nle h0 (by omega))]
    by_cases w : k = os_F nh
    · have hv0 : v3 = 0 := by rw [hv, if_neg (by omega)]
      refine ⟨v, S1, T1, ?_, ?_, hS, hT, ?_⟩
      · by_cases z : (120 : Int32) ≤ nI k
        · rw [if_pos z]
        · rw [if_neg z, if_pos hv0]
      · rw [os_laN h0 h6 dT w]
        rfl
      · rcases hE with ⟨z, -⟩ | z
        · omega
        · exact z
    have hk : k < os_F nh := by omega
    have hv1 : v3 = 1 := by rw [hv, if_pos hk]
    obtain ⟨a1, a2, a3, a4, a5⟩ := os_all h0 h6 hk
    have h38 := hA hk
    have dS : S1.1 8 3 = nI (os_P nh k).length := by rw [hS.1.1 8 (by decide) rfl, a2]; exact d2
    have hsv := served_c (q := q) dS (by omega) h38
    obtain ⟨g, hg, hgA⟩ := os_laY h0 h6 dT hk
    have hse := seated_m (S := sA T1 99 g) (q := q) (l := os_P nh k) (by rw [a2]; exact dT) (by omega) hgA
    rw [if_neg (nle_l (k := 120) (by omega) (by decide)), hv1, if_neg (by decide), hsv]
    have ex : (if (os_x (os_P nh k)).1 = true then (1 : Int32) else 0) = (if k + 1 < os_F nh then 1 else 0) := by
      rw [a4]
      by_cases z : k + 1 < os_F nh
      · rw [if_pos z, if_pos (decide_eq_true z)]
      · rw [if_neg z, if_neg (fun y => z (of_decide_eq_true y))]
    by_cases c : nI (os_n q (os_P nh k) (os_P nh k).length) ≤ v
    · obtain ⟨f, hf, hfA⟩ := next_c dS (by omega) (by omega) a3 h38
      have hE' : EqB nh (S1.1 39) (T1.1 100) := by
        rcases hE with ⟨-, z⟩ | z
        · rw [z] at c
          exact absurd c (by
            have := os_n_le q (os_P nh k) (os_P nh k).length
            intro y
            have := Int32.le_trans (nI_pos' (n := os_n q (os_P nh k) (os_P nh k).length) (by omega)) y
            exact absurd this (by decide))
        · exact z
      obtain ⟨u, S2, T2, u1, u2, u3⟩ := ih m (k + 1) v _ (sA S1 38 f) (sA T1 99 g) (hS.a38 f) (hT.a99 g) (by omega) (by omega) (by omega) rfl (fun z => by
        rw [← a5 z]
        exact hfA) (Or.inr hE')
      refine ⟨u, S2, T2, ?_, ?_, u3⟩
      · show (if nI (os_n q (os_P nh k) (os_P nh k).length) ≤ v then _ else _) = _
        rw [if_pos c]
        refine ob_step hf ?_
        rw [nI_1, ← u1, ← ex]
      · refine ob_step hg ?_
        show (if (1 : Int32) = 0 then _ else _) = _
        rw [if_neg (by decide)]
        refine ob_step hse ?_
        rw [if_neg (Int32.not_lt.mpr c), nI_1]
        exact u2
    · obtain ⟨f, hf, hfA⟩ := next_c (S := sA S1 39 (cp 6 (S1.1 39) (S1.1 38))) (l := os_P nh k) dS (by omega) (by omega) a3 h38
      obtain ⟨u, S2, T2, u1, u2, u3⟩ := ih m (k + 1) (nI (os_n q (os_P nh k) (os_P nh k).length)) _ (sA (sA S1 39 (cp 6 (S1.1 39) (S1.1 38))) 38 f) (sA (sA T1 99 g) 100 (cp 6 (T1.1 100) g)) ((hS.a39 _).a38 f) ((hT.a99 g).a100 _) (by omega) (by omega) (by omega) rfl (fun z => by
        rw [← a5 z]
        exact hfA) (Or.inr (fun i hi => by
        show (cp 6 (S1.1 39) (S1.1 38)) i = (cp 6 (T1.1 100) g) i
        rw [cp_eq 6 _ _ i (by omega), cp_eq 6 _ _ i (by omega), h38 i (by omega), hgA i (by omega)]))
      refine ⟨u, S2, T2, ?_, ?_, u3⟩
      · show (if nI (os_n q (os_P nh k) (os_P nh k).length) ≤ v then _ else _) = _
        rw [if_neg c]
        refine ob_step (co_38_39 S1) (ob_step hf ?_)
        rw [nI_1, ← u1, ← ex]
      · refine ob_step hg ?_
        show (if (1 : Int32) = 0 then _ else _) = _
        rw [if_neg (by decide)]
        refine ob_step hse ?_
        rw [if_pos (Int32.not_le.mp c)]
        refine ob_step (cc_lp_X12_seats_91 (sA T1 99 g)) ?_
        rw [nI_1]
        exact u2
theorem k_seats : K21 Inv := by
  intro S hs a1 a2 hI
  obtain ⟨nb, hB, ⟨ns, nh, nd, nf, ne, ⟨⟨c1, c2, c3⟩, ⟨d1, d2, d3⟩, ⟨y1, y2, y3⟩, ⟨f1, f2, f3⟩, ⟨b1, b2, b3⟩, t1, t2⟩, hA, hT, hR, hF, hK, hW⟩, hIm, hTx, hTr, hTp, hHo, hL⟩ := id hI
  by_cases q1 : r_X12_in a1 0 (nI ns - 1) = 0
  · refine ⟨-1, S, S, ?_, ?_, hI⟩
    · unfold r_X11_seats r_X11_isStory
      rw [within_in, c2, if_pos q1]
    · unfold r_X12_seats r_X12_isStory
      rw [c3, if_pos q1]
  by_cases q2 : r_X12_in a2 (-1) 5 = 0
  · refine ⟨-1, S, S, ?_, ?_, hI⟩
    · unfold r_X11_seats r_X11_isStory
      rw [within_in, c2, if_neg q1, if_pos q2]
    · unfold r_X12_seats r_X12_isStory
      rw [c3, if_neg q1, if_pos q2]
  obtain ⟨s, hsn, rfl⟩ := ii_lt (by omega) q1
  obtain ⟨KV, LV, hL⟩ := lg_of hI c3 d3 c1 d1
  have hs8 : s < 8 := by omega
  have hTm := TmOk.of hT.2.2.2 d1 hs8
  have hkc := knowers_c hL d1 hT.2.2.2 hT.1 hT.2.1 d2 (((1 : Int32) <<< (nI nh &&& 31)) - 1) hs8 (show nd < 20000 by omega) (Mind.rf S)
  have hkm : ∀ T, Back S T → r_X12_knowing T (nI s) (((1 : Int32) <<< (nI nh &&& 31)) - 1) = some (KN S KV nh s (((1 : Int32) <<< (nI nh &&& 31)) - 1) nd) := by
    intro T hB
    have := knowing_m hL d1 (d := nd) (((1 : Int32) <<< (nI nh &&& 31)) - 1) hs8 (by omega) hB.1.m (by rw [hB.1.2.1 1 rfl]; exact d3) (by rw [hB.2.2.2.1]; exact y3) (by rw [hB.2.1]; exact hTm)
    rw [this]
    unfold KN
    rw [hB.2.1, hB.2.2.1]
  have hst : ∀ T, Back S T → r_X12_isStory T (nI s) = r_X12_in (nI s) 0 (nI ns - 1) := by
    intro T hB
    unfold r_X12_isStory
    rw [hB.1.2.1 0 rfl, c3]
  generalize KN S KV nh s (((1 : Int32) <<< (nI nh &&& 31)) - 1) nd = q at hkc hkm
  by_cases h0 : nh = 0
  · subst h0
    by_cases w : 0 ≤ a2
    · refine ⟨-5, S, S, ?_, ?_, hI⟩
      · unfold r_X11_seats r_X11_isStory
        rw [within_in, c2, if_neg q1, if_neg q2, d2, if_neg (show ¬ a2 < nI 0 from Int32.not_lt.mpr w)]
      · unfold r_X12_seats
        rw [hst S (Back.rf S), if_neg q1, if_neg q2, d3]
        refine ob_step (hkm S (Back.rf S)) ?_
        rw [if_pos (show nI 0 = 0 by decide)]
        refine ob_step (a := (0, S)) ?_ ?_
        · rw [lp_X12_seats_51, d3]
          exact if_pos (by decide)
        · rw [if_pos w, d3]
          exact if_pos w
    · have hc : ∃ S1, r_X11_findSeats S q = some (0, S1) ∧ Back S S1 := by
        refine ⟨sA S 39 (cp 6 (S.1 39) (S.1 38)), ?_, (Back.rf S).a39 _⟩
        unfold r_X11_findSeats
        refine ob_step (a := S) ?_ ?_
        · rw [lp_X11_findSeats_2, d2]
          exact if_pos (by decide)
        refine ob_step (a := (0, sA S 39 (cp 6 (S.1 39) (S.1 38)))) ?_ rfl
        rw [lp_X11_findSeats_33, if_neg (by decide), if_neg (by decide)]
        refine ob_step (a := 0) ?_ ?_
        · unfold r_X11_servedBy
          rw [d2]
          refine ob_step (a := 0) ?_ rfl
          rw [lp_X11_servedBy_13]
          exact if_pos (by decide)
        rw [if_neg (by decide)]
        refine ob_step (co_38_39 S) ?_
        refine ob_step (a := (0, sA S 39 (cp 6 (S.1 39) (S.1 38)))) ?_ ?_
        · unfold r_X11_nextOrder
          refine ob_step (a := -2) ?_ ?_
          · show lp_X11_nextOrder_10 (sA S 39 (cp 6 (S.1 39) (S.1 38))) 4000 (S.1 8 3 - 2) = _
            rw [d2, lp_X11_nextOrder_10]
            exact if_pos (by decide)
          · exact if_neg (by decide)
        · rw [lp_X11_findSeats_33, if_neg (by decide)]
          exact if_pos rfl
      obtain ⟨S1, e1, hB⟩ := hc
      refine ⟨0, S1, S1, ?_, ?_, hI.mind hB.1 hB.2.1 hB.2.2.1 hB.2.2.2.1 hB.2.2.2.2⟩
      · unfold r_X11_seats r_X11_isStory r_X11_everybody
        rw [within_in, c2, if_neg q1, if_neg q2, d2, if_pos (show a2 < nI 0 from Int32.not_le.mp w), y2]
        refine ob_step hkc (ob_step e1 ?_)
        exact if_neg w
      · have dB : S1.1 76 1 = nI 0 := by rw [hB.1.2.1 1 rfl]; exact d3
        unfold r_X12_seats
        rw [hst S1 hB, if_neg q1, if_neg q2, dB]
        refine ob_step (hkm S1 hB) ?_
        rw [if_pos (show nI 0 = 0 by decide)]
        refine ob_step (a := (0, S1)) ?_ ?_
        · rw [lp_X12_seats_51, dB]
          exact if_pos (by decide)
        · rw [if_neg w]
  have hn0 : 0 < nh := by omega
  obtain ⟨F1, F2⟩ := os_F_le hn0 d1
  obtain ⟨g, g1, g2⟩ := lp_first (f1 := q) d1 4000 0 S (by omega) (by omega) d2 (fun i hi => by omega)
  obtain ⟨-, a2', -, -, -⟩ := os_all hn0 d1 (show 0 < os_F nh by omega)
  have hA0 : os_A (sA S 38 g |>.1 38) (os_P nh 0) := by
    intro i hi
    show g i = _
    rw [os_id hn0 d1 i (by omega)]
    exact g2 i (by omega)
  have run : ∀ T, Back S T → ∃ w S2 T2, lp_X11_findSeats_33 q 4000 (-1) 1 (nI 0) (sA S 38 g) = some (w, S2) ∧ lp_X12_seats_51 a2 q 4000 (-1) (nI 0) T = some (w, T2) ∧ Back S S2 ∧ Back S T2 ∧ EqB nh (S2.1 39) (T2.1 100) := fun T hT => lp_seats hn0 d1 d2 d3 4000 4000 0 (-1) 1 (sA S 38 g) T ((Back.rf S).a38 g) hT (by omega) (by omega) (by omega) (by rw [if_pos (show 0 < os_F nh by omega)]) (fun _ => hA0) (Or.inl ⟨rfl, rfl⟩)
  have mod : ∀ (T T2 : St) (w : Int32), Back S T → Back S T2 → lp_X12_seats_51 a2 q 4000 (-1) (nI 0) T = some (w, T2) → ∀ y, (if 0 ≤ a2 then (if nI nh ≤ a2 then some ((-5 : Int32), T2) else gd (¬ (a2 < 0 ∨ 6 ≤ a2.toNatClampNeg)) (some ((T2.1 100) a2.toNatClampNeg, T2))) else some (w, T2)) = y → r_X12_seats T (nI s) a2 = y := by
    intro T T2 w hT hT2 hw y hy
    have dT : T.1 76 1 = nI nh := by rw [hT.1.2.1 1 rfl]; exact d3
    have dT2 : T2.1 76 1 = nI nh := by rw [hT2.1.2.1 1 rfl]; exact d3
    unfold r_X12_seats
    rw [hst T hT, if_neg q1, if_neg q2, dT]
    refine ob_step (hkm T hT) ?_
    rw [if_neg (nI_ne0 hn0 (by omega))]
    refine ob_step hw ?_
    rw [← hy]
    show (if 0 ≤ a2 then (if T2.1 76 1 ≤ a2 then some ((-5 : Int32), T2) else gd (¬ (a2 < 0 ∨ 6 ≤ a2.toNatClampNeg)) (some ((T2.1 100) a2.toNatClampNeg, T2))) else some (w, T2)) = _
    rw [dT2]
  by_cases w : a2 < nI nh
  · obtain ⟨u, S2, -, u1, -, u3, -⟩ := run S (Back.rf S)
    obtain ⟨u', S2', T2, v1, v2, v3, v4, v5⟩ := run S2 u3
    have e := Option.some.inj (u1.symm.trans v1)
    have e1 : u = u' := congrArg Prod.fst e
    have e2 : S2 = S2' := congrArg Prod.snd e
    subst e1
    subst e2
    refine ⟨if 0 ≤ a2 then T2.1 100 a2.toNatClampNeg else u, S2, T2, ?_, ?_, hI.mind v4.1 v4.2.1 v4.2.2.1 v4.2.2.2.1 v4.2.2.2.2⟩
    · unfold r_X11_seats r_X11_isStory r_X11_everybody
      rw [within_in, c2, if_neg q1, if_neg q2, d2, if_pos w, y2]
      have hfs : r_X11_findSeats S q = some (u, S2) := by
        unfold r_X11_findSeats
        exact ob_step g1 (ob_step u1 rfl)
      refine ob_step hkc (ob_step hfs ?_)
      by_cases y : 0 ≤ a2
      · obtain ⟨-, h2⟩ := ii_yes q2
        obtain ⟨k, -, k2, rfl⟩ := ii_nat (a := a2) (l := 0) (h := 5) (by decide) (by decide) (ii_of y h2)
        have kn : k < nh := (nI_ltI (by omega) (by omega)).mp w
        rw [if_pos y, if_pos y, gdN (show k < 6 by omega) (by decide), nI_clamp (by omega)]
        show some (S2.1 39 k, S2) = _
        rw [v5 k kn]
      · rw [if_neg y, if_neg y]
    · refine mod S2 T2 u u3 v4 v2 _ ?_
      by_cases y : 0 ≤ a2
      · obtain ⟨-, h2⟩ := ii_yes q2
        obtain ⟨k, -, k2, rfl⟩ := ii_nat (a := a2) (l := 0) (h := 5) (by decide) (by decide) (ii_of y h2)
        rw [if_pos y, if_pos y, if_neg (Int32.not_le.mpr w), gdN (show k < 6 by omega) (by decide)]
      · rw [if_neg y, if_neg y]
  · obtain ⟨u, S2, T2, u1, u2, u3, u4, -⟩ := run S (Back.rf S)
    refine ⟨-5, S, T2, ?_, ?_, hI.mind u4.1 u4.2.1 u4.2.2.1 u4.2.2.2.1 u4.2.2.2.2⟩
    · unfold r_X11_seats r_X11_isStory
      rw [within_in, c2, if_neg q1, if_neg q2, d2, if_neg w]
    · refine mod S T2 u (Back.rf S) u4 u2 _ ?_
      have hw : nI nh ≤ a2 := Int32.not_lt.mp w
      rw [if_pos (Int32.le_trans (nI_pos' (n := nh) (by omega)) hw), if_pos hw]
