/-! HOUSE: the call itself -/
def hf_E (S E : St) : Prop := (∀ j, (j ≠ 7 ∧ j ≠ 8 ∧ j ≠ 76) ∧ (j < 40 ∨ 63 < j) ∧ (j < 85 ∨ 91 < j) → E.1 j = S.1 j) ∧ (∀ j, j ≠ 4 → j ≠ 6 → E.1 7 j = S.1 7 j) ∧ (∀ j, j ≠ 1 → E.1 8 j = S.1 8 j) ∧ (∀ j, j ≠ 10 → j ≠ 11 → j ≠ 12 → j ≠ 13 → j ≠ 14 → j ≠ 23 → j ≠ 24 → j ≠ 25 → E.1 76 j = S.1 76 j) ∧ E.2.1 = S.2.1 ∧ ∀ j, j < 40 → E.2.2 j = S.2.2 j
theorem Cor1.up {cs cs' : Nat → Int32} {m0 m1 m2 m11 m37 m40 m11' : Int32} {nb nb' ns nh nd nf ne : Nat} (h : Cor1 cs m0 m1 m2 m11 m37 m40 nb ns nh nd nf ne) (e : ∀ j, j ≠ 1 → cs' j = cs j) (e1 : cs' 1 = m11') (e2 : m11' = -1 ∨ ∃ t, t < nb' ∧ m11' = nI t) : Cor1 cs' m0 m1 m2 m11' m37 m40 nb' ns nh nd nf ne := by
  obtain ⟨⟨c1, c2, c3⟩, ⟨d1, d2, d3⟩, ⟨y1, y2, y3⟩, ⟨f1, f2, f3⟩, ⟨b1, b2, b3⟩, t1, t2⟩ := h
  exact ⟨⟨c1, (e 2 (by decide)).trans c2, c3⟩, ⟨d1, (e 3 (by decide)).trans d2, d3⟩, ⟨y1, (e 0 (by decide)).trans y2, y3⟩, ⟨f1, (e 4 (by decide)).trans f2, f3⟩, ⟨b1, (e 5 (by decide)).trans b2, b3⟩, e1, e2⟩
theorem inv_house {S E : St} {hs : List Hr} {nb nb' : Nat} (hB : Blt S nb) (hN : Now S hs nb) (hIm : Img S hs nb) (hTr : Trc (S.1 30 1) (S.1 76 59) (S.1 31) (S.1 114)) (hTp : Tps S) (hL : Let (S.1 92) (S.1 76 28)) (hE : hf_E S E) (e1 : E.1 7 4 = 0) (e2 : E.1 76 12 = 0) (e3 : nb ≤ nb' ∧ nb' ≤ 6) (e4 : E.1 7 6 = nI nb') (e5 : E.1 76 10 = nI nb') (e6 : E.1 8 1 = E.1 76 11) (e7 : E.1 76 11 = -1 ∨ ∃ t, t < nb' ∧ E.1 76 11 = nI t) (e8 : Hos E nb') : Inv E hs := by
  obtain ⟨f1, f2, f3, f4, f5, f6⟩ := hE
  obtain ⟨ns, nh, nd, nf, ne, hC, hA, hT, hR, hF, hK, hW⟩ := hN
  refine ⟨nb', ⟨e3.2, e4, e5⟩, ⟨ns, nh, nd, nf, ne, ?_, ?_, ?_, ?_, ?_, ?_, ?_⟩, ?_, ⟨0, by decide, e1, e2, fun i hi => absurd hi (Nat.not_lt_zero i)⟩, ?_, ?_, e8, ?_⟩
  · rw [f4 0 (by decide) (by decide) (by decide) (by decide) (by decide) (by decide) (by decide) (by decide), f4 1 (by decide) (by decide) (by decide) (by decide) (by decide) (by decide) (by decide) (by decide), f4 2 (by decide) (by decide) (by decide) (by decide) (by decide) (by decide) (by decide) (by decide), f4 37 (by decide) (by decide) (by decide) (by decide) (by decide) (by decide) (by decide) (by decide), f4 40 (by decide) (by decide) (by decide) (by decide) (by decide) (by decide) (by decide) (by decide)]
    exact hC.up f3 e6 e7
  · rw [f1 9 (by decide), f1 10 (by decide), f1 77 (by decide), f1 78 (by decide)]
    exact hA
  · rw [f1 12 (by decide), f1 13 (by decide), f1 82 (by decide), f1 83 (by decide)]
    exact hT
  · rw [f1 14 (by decide), f1 81 (by decide)]
    exact hR
  · rw [f1 15 (by decide), f1 16 (by decide), f1 101 (by decide), f1 102 (by decide)]
    exact hF
  · rw [f1 17 (by decide), f1 103 (by decide)]
    exact hK
  · rw [f6 11 (by decide), f1 79 (by decide), f1 80 (by decide)]
    exact hW
  · rcases hIm with ⟨i1, i2⟩ | ⟨i1, i2, i3⟩
    · refine Or.inl ⟨?_, ?_⟩
      · rw [f2 2 (by decide) (by decide)]
        exact i1
      · rw [f4 42 (by decide) (by decide) (by decide) (by decide) (by decide) (by decide) (by decide) (by decide)]
        exact i2
    · refine Or.inr ⟨?_, ?_, ?_⟩
      · rw [f2 2 (by decide) (by decide)]
        exact i1
      · rw [f4 42 (by decide) (by decide) (by decide) (by decide) (by decide) (by decide) (by decide) (by decide)]
        exact i2
      · obtain ⟨ns, nh, nd, nf, ne, hC, hA, hT, hR, hF, hK, hW⟩ := i3
        refine ⟨ns, nh, nd, nf, ne, ?_, ?_, ?_, ?_, ?_, ?_, ?_⟩
        · rw [f4 44 (by decide) (by decide) (by decide) (by decide) (by decide) (by decide) (by decide) (by decide), f4 45 (by decide) (by decide) (by decide) (by decide) (by decide) (by decide) (by decide) (by decide), f4 46 (by decide) (by decide) (by decide) (by decide) (by decide) (by decide) (by decide) (by decide), f4 43 (by decide) (by decide) (by decide) (by decide) (by decide) (by decide) (by decide) (by decide), f4 47 (by decide) (by decide) (by decide) (by decide) (by decide) (by decide) (by decide) (by decide), f4 48 (by decide) (by decide) (by decide) (by decide) (by decide) (by decide) (by decide) (by decide), f1 18 (by decide)]
          refine hC.up (fun _ _ => rfl) hC.2.2.2.2.2.1 ?_
          rcases hC.2.2.2.2.2.2 with z | ⟨t, z1, z2⟩
          · exact Or.inl z
          · exact Or.inr ⟨t, by omega, z2⟩
        · rw [f1 19 (by decide), f1 20 (by decide), f1 104 (by decide), f1 105 (by decide)]
          exact hA
        · rw [f1 22 (by decide), f1 23 (by decide), f1 109 (by decide), f1 110 (by decide)]
          exact hT
        · rw [f1 24 (by decide), f1 108 (by decide)]
          exact hR
        · rw [f1 25 (by decide), f1 26 (by decide), f1 111 (by decide), f1 112 (by decide)]
          exact hF
        · rw [f1 27 (by decide), f1 113 (by decide)]
          exact hK
        · rw [f6 21 (by decide), f1 106 (by decide), f1 107 (by decide)]
          exact hW
  · rw [f1 30 (by decide), f1 31 (by decide), f1 114 (by decide), f4 59 (by decide) (by decide) (by decide) (by decide) (by decide) (by decide) (by decide) (by decide)]
    exact hTr
  · unfold Tps
    rw [f5, f1 64 (by decide), f1 66 (by decide), f1 68 (by decide), f1 70 (by decide), f1 72 (by decide), f1 74 (by decide), f1 115 (by decide), f1 116 (by decide)]
    exact hTp
  · rw [f1 92 (by decide), f4 28 (by decide) (by decide) (by decide) (by decide) (by decide) (by decide) (by decide) (by decide)]
    exact hL
theorem Hos_mk {S : St} {nb : Nat} (H : ∀ t, t < 6 → t < nb → ∃ nc cl, HouseOk (S.1 (40 + 4 * t)) (S.1 (40 + 4 * t + 1)) (S.1 (40 + 4 * t + 2)) (S.1 85) (S.1 86) (S.1 87) (S.1 88) (S.1 89) (S.1 90) t nc cl) : Hos S nb := ⟨fun h => H 0 (by decide) h, fun h => H 1 (by decide) h, fun h => H 2 (by decide) h, fun h => H 3 (by decide) h, fun h => H 4 (by decide) h, fun h => H 5 (by decide) h⟩
theorem seg_cong {f g : Nat → Int32} {a b : Nat} (h : ∀ i, i < b → f i = g i) : seg f a b = seg g a b := by
  unfold seg
  apply List.map_congr_left
  intro i hi
  rw [List.mem_range] at hi
  exact h _ (by omega)
theorem seg_of {g : Nat → Int32} {a b : Nat} {E : List Int32} (hb : b = a + E.length) (h : ∀ i x, E[i]? = some x → g (a + i) = x) : seg g a b = E := by
  apply List.ext_getElem?
  intro i
  unfold seg
  rw [List.getElem?_map, hb, Nat.add_sub_cancel_left]
  by_cases w : i < E.length
  · rw [List.getElem?_range w, List.getElem?_eq_getElem w]
    show some (g (a + i)) = _
    rw [h i _ (List.getElem?_eq_getElem w)]
  · rw [List.getElem?_eq_none (by rw [List.length_range]; omega), List.getElem?_eq_none (by omega)]
    rfl
/-- a HOUSE of before is as it was -/
theorem house_old {S E : St} {nb t nc : Nat} {cl : Nat → PC} (ht : t < nb) (h : HouseOk (S.1 (40 + 4 * t)) (S.1 (40 + 4 * t + 1)) (S.1 (40 + 4 * t + 2)) (S.1 85) (S.1 86) (S.1 87) (S.1 88) (S.1 89) (S.1 90) t nc cl) (e0 : ∀ i, i < 3 → E.1 (40 + 4 * t + i) = S.1 (40 + 4 * t + i)) (e85 : E.1 85 t = S.1 85 t) (eI : ∀ i, i < 10 * nb → E.1 86 i = S.1 86 i ∧ E.1 87 i = S.1 87 i ∧ E.1 88 i = S.1 88 i ∧ E.1 89 i = S.1 89 i) (e90 : ∀ i, i < 100 * nb → E.1 90 i = S.1 90 i) : HouseOk (E.1 (40 + 4 * t)) (E.1 (40 + 4 * t + 1)) (E.1 (40 + 4 * t + 2)) (E.1 85) (E.1 86) (E.1 87) (E.1 88) (E.1 89) (E.1 90) t nc cl := by
  obtain ⟨⟨h1, h2⟩, h3, h4, h5, h6⟩ := h
  rw [show E.1 (40 + 4 * t) = S.1 (40 + 4 * t) from e0 0 (by decide), e0 1 (by decide), e0 2 (by decide)]
  refine ⟨⟨h1, e85.trans h2⟩, fun c hc => ?_, h4, h5, h6⟩
  obtain ⟨a1, a2, a3, a4, a5⟩ := h3 c hc
  obtain ⟨u1, u2, u3, u4⟩ := eI (10 * t + c) (by omega)
  refine ⟨a1, a2, u1.trans a3, u2.trans a4, fun z => ?_⟩
  obtain ⟨a, b, b1, b2, b3, b4, b5, b6⟩ := a5 z
  refine ⟨a, b, b1, b2, u3.trans b3, u4.trans b4, ?_, b6⟩
  rw [seg_cong (g := S.1 90) (fun i hi => e90 i (by omega))]
  exact b5
/-- the new one -/
theorem house_new {S0 S1 D E : St} {t N : Nat} {acc : List PC} {M : List Int32} (hl : acc.length ≤ 10) (hC : hs_C S0 (40 + 4 * t) N (nI (lastW (fcl acc) 2 20 acc.length)) (nI (lastW (fcl acc) 3 5 acc.length)) S1 N (allSteps (fcl acc) acc.length)) (hs : (allSteps (fcl acc) acc.length).length ≤ N) (hN : N ≤ 100) (e0 : ∀ i, i < 3 → E.1 (40 + 4 * t + i) = S1.1 (40 + 4 * t + i)) (e85 : E.1 85 t = nI acc.length) (hM : M.length ≤ N) (h90 : ∀ i x, M[i]? = some x → D.1 90 (100 * t + i) = x) (hD : mt_D t D M acc) (e6 : E.1 86 = D.1 86) (e7 : E.1 87 = D.1 87) (e8 : E.1 88 = D.1 88) (e9 : E.1 89 = D.1 89) (e90 : E.1 90 = D.1 90) : HouseOk (E.1 (40 + 4 * t)) (E.1 (40 + 4 * t + 1)) (E.1 (40 + 4 * t + 2)) (E.1 85) (E.1 86) (E.1 87) (E.1 88) (E.1 89) (E.1 90) t acc.length (fcl acc) := by
  obtain ⟨h1, h2, h3, h4, h5, h6, h7, -, -, -⟩ := hC
  rw [show E.1 (40 + 4 * t) = S1.1 (40 + 4 * t) from e0 0 (by decide), e0 1 (by decide), e0 2 (by decide), e6, e7, e8, e9, e90]
  refine ⟨⟨hl, e85⟩, fun c hc => ?_, ⟨by omega, h4, h5⟩, h6, h7⟩
  obtain ⟨a1, a2, a3, a4, a5⟩ := hD c hc
  refine ⟨a3, a4, a1, a2, fun z => ?_⟩
  obtain ⟨A, B, b1, b2, b3, b4⟩ := a5 z
  have hlen : M.length = A.length + ((fcl acc c).2.2.length + B.length) := by rw [b1, List.length_append, List.length_append]
  have hlen2 : (A ++ (fcl acc c).2.2).length = A.length + (fcl acc c).2.2.length := List.length_append
  refine ⟨_, _, by omega, by omega, b2, b3, seg_of (by omega) (fun i x hx => ?_), b4⟩
  have hi : i < (fcl acc c).2.2.length := by
    refine Nat.lt_of_not_le fun y => ?_
    rw [List.getElem?_eq_none y] at hx
    cases hx
  have := h90 (A.length + i) x (by
    rw [b1, List.getElem?_append_right (by omega), Nat.add_sub_cancel_left, List.getElem?_append_left hi]
    exact hx)
  rw [Nat.add_assoc]
  exact this
theorem k_house : K8 Inv := by
  intro S hs hI
  obtain ⟨nb, hB, hNow, hIm, hTx, hTr, hTp, hHo, hL⟩ := id hI
  obtain ⟨n1, n2, n3⟩ := id hB
  by_cases w : nb = 6
  · refine ⟨-4, S, S, ?_, ?_, hI⟩
    · unfold r_X11_house
      rw [n2, w]
      exact if_neg (by decide)
    · unfold r_X12_house
      rw [n3, w]
      exact if_pos rfl
  have ht : nb < 6 := by omega
  obtain ⟨N, N1, N2, N3, N4⟩ := id hTx
  have hk : ∀ i, ∃ c : Nat, (i < N → c ≤ 127 ∧ S.1 28 i = nI c ∧ S.1 84 i = nI c) ∧ (N ≤ i → c = 200) := by
    intro i
    by_cases z : i < N
    · obtain ⟨c, c1, c2, c3⟩ := N4 i z
      exact ⟨c, fun _ => ⟨c1, c2, c3⟩, fun y => by omega⟩
    · exact ⟨200, fun y => absurd y z, fun _ => rfl⟩
  obtain ⟨k, hk⟩ := Classical.axiomOfChoice hk
  have hP : PK N k := ⟨fun i hi => (hk i).2 hi, fun i hi => ((hk i).1 hi).1⟩
  have hTc : hs_T S N k := ⟨hP, N1, fun i hi => ((hk i).1 hi).2.1⟩
  obtain ⟨tg, S1, l1, l2⟩ := learn_c (o := 40 + 4 * nb) hTc (by omega)
  have hfr : (∀ j, j ≠ 40 + 4 * nb → j ≠ 40 + 4 * nb + 1 → j ≠ 40 + 4 * nb + 2 → S1.1 j = S.1 j) ∧ S1.2.1 = S.2.1 ∧ ∀ j, j ≠ 40 + 4 * nb → S1.2.2 j = S.2.2 j := by
    rcases l2 with ⟨-, -, -, -, a, -⟩ | ⟨-, -, -, dv, fv, L, a⟩
    · exact a.2.2.2.2.2.2.2
    · exact a.2.2.2.2.2.2.2
  obtain ⟨r1, r2, r3⟩ := hfr
  have s7 : S1.1 7 = S.1 7 := r1 7 (by omega) (by omega) (by omega)
  have pre : ∀ y, (if (if (ps_x k N 10 0 []).1 = true then (-1 : Int32) else nI (ps_x k N 10 0 []).2.1) < 0 then some (S1.1 7 6, sI (sI (sI S1 7 4 0) 8 1 (S1.1 7 6)) 7 6 (S1.1 7 6 + 1)) else some (((-10) : Int32) - (if (ps_x k N 10 0 []).1 = true then (-1 : Int32) else nI (ps_x k N 10 0 []).2.1), sI S1 7 4 0)) = y → r_X11_house S = y := by
    intro y hy
    unfold r_X11_house
    rw [n2, if_pos (show nI nb < 6 from nI_lt (b := 6) ht (by decide)), gdN ht (by decide), nI_clamp (by omega), hsF_at nb ht, N2]
    show (r_X5_learn_28 S (40 + 4 * nb) (nI N)).bind _ = y
    exact ob_step l1 hy
  -- what the model does behind it
  have mod : ∀ C : St, (∀ j, j ≠ 7 → j ≠ 8 → C.1 j = S1.1 j) → ∃ tag D, mt_G nb C D ∧ mx_R nb N D tag (ps_x k N 10 0 []) ∧ r_X12_house C = if (ps_x k N 10 0 []).1 = true then some (nI nb, sI (sI (sI D 76 12 0) 76 11 (nI nb)) 76 10 (nI (nb + 1))) else some (((-10) : Int32) - nI (ps_x k N 10 0 []).2.1, sI D 76 12 0) := by
    intro C hC
    have c76 : C.1 76 = S.1 76 := (hC 76 (by decide) (by decide)).trans (r1 76 (by omega) (by omega) (by omega))
    have c84 : C.1 84 = S.1 84 := (hC 84 (by decide) (by decide)).trans (r1 84 (by omega) (by omega) (by omega))
    have c92 : C.1 92 = S.1 92 := (hC 92 (by decide) (by decide)).trans (r1 92 (by omega) (by omega) (by omega))
    obtain ⟨tag, D, m1, m2, m3, m4⟩ := goes_m (S := C) (N := N) (k := k) ht ⟨hP, N1, fun i hi => by rw [c84]; exact ((hk i).1 hi).2.2⟩ (by rw [c92]; exact hL.1) (by rw [c76]; exact N3)
    refine ⟨tag, D, m2, m4, ?_⟩
    have d10 : D.1 76 10 = nI nb := by
      rw [m2.2.2.2.2.1 10 (by decide) (by decide) (by decide) (by decide) (by decide), c76]
      exact n3
    unfold r_X12_house
    rw [c76, n3, if_neg (ne_l (k := 6) w (by omega) (by decide))]
    refine ob_step m1 ?_
    cases (ps_x k N 10 0 []).1 with
    | true =>
      rw [if_neg nzt, d10, nI_1]
      exact (if_pos rfl).symm
    | false =>
      rw [if_neg (show ¬ false = true by decide), if_neg (show ¬ false = true by decide)]
      refine (if_pos rfl).trans ?_
      show some (((-10) : Int32) - D.1 76 13, sI D 76 12 0) = _
      rw [m3]
  cases hb : (ps_x k N 10 0 []).1 with
  | false =>
    rw [hb] at pre mod
    obtain ⟨tag, D, m2, m4, m5⟩ := mod (sI S1 7 4 0) (fun j a b => sI_ne a)
    rw [if_neg (show ¬ false = true by decide)] at m5
    refine ⟨((-10) : Int32) - nI (ps_x k N 10 0 []).2.1, sI S1 7 4 0, sI D 76 12 0, pre _ ?_, m5, ?_⟩
    · rw [if_neg (show ¬ false = true by decide)]
      refine if_neg (nI_pos ?_)
      rcases l2 with ⟨a, -⟩ | ⟨-, -, a, -⟩
      · rw [hb] at a
        cases a
      · omega
    obtain ⟨q1, q2, q3, q4, q5, q6⟩ := m2
    have x76 : ∀ j, j ≠ 12 → j ≠ 13 → j ≠ 14 → j ≠ 23 → j ≠ 24 → j ≠ 25 → (sI D 76 12 0).1 76 j = S.1 76 j := fun j a0 a b c d e => by
      rw [sI_sl a0, q5 j a b c d e, sI_ne (by decide), r1 76 (by omega) (by omega) (by omega)]
    have xj : ∀ j, j ≠ 7 → j ≠ 76 → (j < 85 ∨ 91 < j) → (sI D 76 12 0).1 j = S1.1 j := fun j a b c => by
      rw [sI_ne b, q1 j c b, sI_ne a]
    refine inv_house (nb := nb) (nb' := nb) hB hNow hIm hTr hTp hL ⟨fun j hj => ?_, fun j a b => ?_, fun j a => ?_, fun j _ _ c d e f g h => x76 j c d e f g h, ?_, fun j hj => ?_⟩ ?_ ?_ ⟨Nat.le_refl _, n1⟩ ?_ ?_ ?_ ?_ (Hos_mk fun t ht6 htn => ?_)
    · rw [xj j hj.1.1 hj.1.2.2 hj.2.2]
      have := hj.2.1
      exact r1 j (by omega) (by omega) (by omega)
    · rw [sI_ne (by decide), q1 7 (by omega) (by decide), sI_sl a, s7]
    · rw [xj 8 (by decide) (by decide) (by omega), r1 8 (by omega) (by omega) (by omega)]
    · show D.2.1 = S.2.1
      rw [q6]
      exact r2
    · show D.2.2 j = S.2.2 j
      rw [q6]
      exact r3 j (by omega)
    · rw [sI_ne (by decide), q1 7 (by omega) (by decide), sI_at]
    · exact sI_at
    · rw [sI_ne (by decide), q1 7 (by omega) (by decide), sI_sl (by decide), s7]
      exact n2
    · rw [x76 10 (by decide) (by decide) (by decide) (by decide) (by decide) (by decide)]
      exact n3
    · rw [xj 8 (by decide) (by decide) (by omega), r1 8 (by omega) (by omega) (by omega), x76 11 (by decide) (by decide) (by decide) (by decide) (by decide) (by decide)]
      obtain ⟨_, _, _, _, _, hC, _⟩ := hNow
      exact hC.2.2.2.2.2.1
    · rw [x76 11 (by decide) (by decide) (by decide) (by decide) (by decide) (by decide)]
      obtain ⟨_, _, _, _, _, hC, _⟩ := hNow
      exact hC.2.2.2.2.2.2
    · obtain ⟨nc, cl, h⟩ := Hos_at hHo htn n1
      refine ⟨nc, cl, house_old htn h (fun i hi => ?_) ?_ (fun i hi => ?_) (fun i hi => ?_)⟩
      · rw [xj _ (by omega) (by omega) (by omega)]
        exact r1 _ (by omega) (by omega) (by omega)
      · show D.1 85 t = _
        rw [q2 t (by omega), sI_ne (by decide), r1 85 (by omega) (by omega) (by omega)]
      · obtain ⟨u1, u2, u3, u4⟩ := q3 i hi
        refine ⟨?_, ?_, ?_, ?_⟩
        · show D.1 86 i = _
          rw [u1, sI_ne (by decide), r1 86 (by omega) (by omega) (by omega)]
        · show D.1 87 i = _
          rw [u2, sI_ne (by decide), r1 87 (by omega) (by omega) (by omega)]
        · show D.1 88 i = _
          rw [u3, sI_ne (by decide), r1 88 (by omega) (by omega) (by omega)]
        · show D.1 89 i = _
          rw [u4, sI_ne (by decide), r1 89 (by omega) (by omega) (by omega)]
      · show D.1 90 i = _
        rw [q4 i hi, sI_ne (by decide), r1 90 (by omega) (by omega) (by omega)]
  | true =>
    rw [hb] at pre mod
    have cj : ∀ j, j ≠ 7 → j ≠ 8 → (sI (sI (sI S1 7 4 0) 8 1 (nI nb)) 7 6 (nI (nb + 1))).1 j = S1.1 j := fun j a b => by
      rw [sI_ne a, sI_ne b, sI_ne a]
    obtain ⟨tag, D, m2, m4, m5⟩ := mod (sI (sI (sI S1 7 4 0) 8 1 (nI nb)) 7 6 (nI (nb + 1))) cj
    rw [if_pos rfl] at m5
    refine ⟨nI nb, sI (sI (sI S1 7 4 0) 8 1 (nI nb)) 7 6 (nI (nb + 1)), sI (sI (sI D 76 12 0) 76 11 (nI nb)) 76 10 (nI (nb + 1)), pre _ ?_, m5, ?_⟩
    · rw [s7, n2, nI_1]
      exact if_pos zm1
    obtain ⟨q1, q2, q3, q4, q5, q6⟩ := m2
    have x76 : ∀ j, j ≠ 10 → j ≠ 11 → j ≠ 12 → j ≠ 13 → j ≠ 14 → j ≠ 23 → j ≠ 24 → j ≠ 25 → (sI (sI (sI D 76 12 0) 76 11 (nI nb)) 76 10 (nI (nb + 1))).1 76 j = S.1 76 j := fun j a1 a2 a0 a b c d e => by
      rw [sI_sl a1, sI_sl a2, sI_sl a0, q5 j a b c d e, cj 76 (by decide) (by decide), r1 76 (by omega) (by omega) (by omega)]
    have xj : ∀ j, j ≠ 7 → j ≠ 8 → j ≠ 76 → (j < 85 ∨ 91 < j) → (sI (sI (sI D 76 12 0) 76 11 (nI nb)) 76 10 (nI (nb + 1))).1 j = S1.1 j := fun j a a' b c => by
      rw [sI_ne b, sI_ne b, sI_ne b, q1 j c b, cj j a a']
    have x7 : ∀ j, (sI (sI (sI D 76 12 0) 76 11 (nI nb)) 76 10 (nI (nb + 1))).1 7 j = (sI (sI (sI S1 7 4 0) 8 1 (nI nb)) 7 6 (nI (nb + 1))).1 7 j := fun j => by
      rw [sI_ne (by decide), sI_ne (by decide), sI_ne (by decide), q1 7 (by omega) (by decide)]
    have x8 : ∀ j, (sI (sI (sI D 76 12 0) 76 11 (nI nb)) 76 10 (nI (nb + 1))).1 8 j = (sI (sI (sI S1 7 4 0) 8 1 (nI nb)) 7 6 (nI (nb + 1))).1 8 j := fun j => by
      rw [sI_ne (by decide), sI_ne (by decide), sI_ne (by decide), q1 8 (by omega) (by decide)]
    have e11 : (sI (sI (sI D 76 12 0) 76 11 (nI nb)) 76 10 (nI (nb + 1))).1 76 11 = nI nb := by
      rw [sI_sl (by decide), sI_at]
    refine inv_house (nb := nb) (nb' := nb + 1) hB hNow hIm hTr hTp hL ⟨fun j hj => ?_, fun j a b => ?_, fun j a => ?_, fun j a b c d e f g h => x76 j a b c d e f g h, ?_, fun j hj => ?_⟩ ?_ ?_ ⟨by omega, by omega⟩ ?_ ?_ ?_ ?_ (Hos_mk fun t ht6 htn => ?_)
    · rw [xj j hj.1.1 hj.1.2.1 hj.1.2.2 hj.2.2]
      have := hj.2.1
      exact r1 j (by omega) (by omega) (by omega)
    · rw [x7, sI_sl b, sI_ne (by decide), sI_sl a, s7]
    · rw [x8, sI_ne (by decide), sI_sl a, sI_ne (by decide), r1 8 (by omega) (by omega) (by omega)]
    · show D.2.1 = S.2.1
      rw [q6]
      exact r2
    · show D.2.2 j = S.2.2 j
      rw [q6]
      exact r3 j (by omega)
    · rw [x7, sI_sl (by decide), sI_ne (by decide), sI_at]
    · rw [sI_sl (by decide), sI_sl (by decide), sI_at]
    · rw [x7, sI_at]
    · exact sI_at
    · rw [x8, sI_ne (by decide), sI_at, e11]
    · exact Or.inr ⟨nb, by omega, e11⟩
    · by_cases htt : t < nb
      · obtain ⟨nc, cl, h⟩ := Hos_at hHo htt n1
        refine ⟨nc, cl, house_old htt h (fun i hi => ?_) ?_ (fun i hi => ?_) (fun i hi => ?_)⟩
        · rw [xj _ (by omega) (by omega) (by omega) (by omega)]
          exact r1 _ (by omega) (by omega) (by omega)
        · show D.1 85 t = _
          rw [q2 t (by omega), cj 85 (by decide) (by decide), r1 85 (by omega) (by omega) (by omega)]
        · obtain ⟨u1, u2, u3, u4⟩ := q3 i hi
          refine ⟨?_, ?_, ?_, ?_⟩
          · show D.1 86 i = _
            rw [u1, cj 86 (by decide) (by decide), r1 86 (by omega) (by omega) (by omega)]
          · show D.1 87 i = _
            rw [u2, cj 87 (by decide) (by decide), r1 87 (by omega) (by omega) (by omega)]
          · show D.1 88 i = _
            rw [u3, cj 88 (by decide) (by decide), r1 88 (by omega) (by omega) (by omega)]
          · show D.1 89 i = _
            rw [u4, cj 89 (by decide) (by decide), r1 89 (by omega) (by omega) (by omega)]
        · show D.1 90 i = _
          rw [q4 i hi, cj 90 (by decide) (by decide), r1 90 (by omega) (by omega) (by omega)]
      · obtain rfl : t = nb := by omega
        rcases l2 with ⟨-, -, -, v4, v5, v6⟩ | ⟨a, -⟩
        rotate_left
        · rw [hb] at a
          cases a
        rcases m4 with ⟨-, -, z1, M, z2, z3, z4⟩ | ⟨a, -⟩
        rotate_left
        · rw [hb] at a
          cases a
        exact ⟨_, _, house_new (S1 := S1) (D := D) v4 v5 v6 N1 (fun i hi => xj _ (by omega) (by omega) (by omega) (by omega)) z1 z2 z3 z4 rfl rfl rfl rfl rfl⟩
