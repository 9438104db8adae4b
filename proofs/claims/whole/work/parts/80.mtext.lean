/-! HOUSE: the model's whole text -/
def mt_G (t : Nat) (S S' : St) : Prop := (∀ j, j < 85 ∨ 91 < j → j ≠ 76 → S'.1 j = S.1 j) ∧ (∀ i, i ≠ t → S'.1 85 i = S.1 85 i) ∧ (∀ i, i < 10 * t → S'.1 86 i = S.1 86 i ∧ S'.1 87 i = S.1 87 i ∧ S'.1 88 i = S.1 88 i ∧ S'.1 89 i = S.1 89 i) ∧ (∀ i, i < 100 * t → S'.1 90 i = S.1 90 i) ∧ (∀ j, j ≠ 13 → j ≠ 14 → j ≠ 23 → j ≠ 24 → j ≠ 25 → S'.1 76 j = S.1 76 j) ∧ S'.2 = S.2
theorem mt_F.g {t cc : Nat} {S S' : St} (h : mt_F t cc S S') : mt_G t S S' := ⟨h.1, fun i _ => by rw [h.2.1], fun i hi => h.2.2.1 i (by omega), h.2.2.2.1, h.2.2.2.2.1, h.2.2.2.2.2⟩
theorem mt_G.tr {t : Nat} {S S' S2 : St} (h : mt_G t S S') (h2 : mt_G t S' S2) : mt_G t S S2 := by
  obtain ⟨a1, a2, a3, a4, a5, a6⟩ := h
  obtain ⟨b1, b2, b3, b4, b5, b6⟩ := h2
  refine ⟨fun j x y => (b1 j x y).trans (a1 j x y), fun i hi => (b2 i hi).trans (a2 i hi), fun i hi => ?_, fun i hi => (b4 i hi).trans (a4 i hi), fun j x1 x2 x3 x4 x5 => (b5 j x1 x2 x3 x4 x5).trans (a5 j x1 x2 x3 x4 x5), b6.trans a6⟩
  obtain ⟨u1, u2, u3, u4⟩ := a3 i hi
  obtain ⟨w1, w2, w3, w4⟩ := b3 i hi
  exact ⟨w1.trans u1, w2.trans u2, w3.trans u3, w4.trans u4⟩
theorem mt_G_85 {t : Nat} {S : St} (v : Int32) : mt_G t S (sA S 85 (upd (S.1 85) t v)) := ⟨fun j x y => sA_ne (by omega), fun i hi => upd_ne hi, fun i hi => ⟨rfl, rfl, rfl, rfl⟩, fun _ _ => rfl, fun _ _ _ _ _ _ => rfl, rfl⟩
/-- the clauses read -/
def mt_D (t : Nat) (S : St) (M : List Int32) (acc : List PC) : Prop := ∀ c, c < acc.length → S.1 86 (10 * t + c) = nI (fcl acc c).1 ∧ S.1 87 (10 * t + c) = nI (fcl acc c).2.1 ∧ (fcl acc c).1 ≤ 3 ∧ (fcl acc c).2.1 ≤ 99 ∧ ((fcl acc c).1 < 2 → ∃ A B, M = A ++ ((fcl acc c).2.2 ++ B) ∧ S.1 88 (10 * t + c) = nI (100 * t + A.length) ∧ S.1 89 (10 * t + c) = nI (100 * t + (A ++ (fcl acc c).2.2).length) ∧ codeOk (fcl acc c).2.2 0)
theorem mt_D.more {t : Nat} {S S' : St} {M : List Int32} {acc : List PC} {x : PC} (h : mt_D t S M acc) (hF : mt_F t acc.length S S') (h86 : S'.1 86 (10 * t + acc.length) = nI x.1) (h87 : S'.1 87 (10 * t + acc.length) = nI x.2.1) (h3 : x.1 ≤ 3) (h9 : x.2.1 ≤ 99) (hx : x.1 < 2 → S'.1 88 (10 * t + acc.length) = nI (100 * t + M.length) ∧ S'.1 89 (10 * t + acc.length) = nI (100 * t + (M ++ x.2.2).length) ∧ codeOk x.2.2 0) : mt_D t S' (M ++ x.2.2) (acc ++ [x]) := by
  intro c hc
  rw [List.length_append] at hc
  have hc' : c < acc.length + 1 := hc
  by_cases w : c = acc.length
  · subst w
    rw [fcl_at]
    refine ⟨h86, h87, h3, h9, fun z => ⟨M, [], ?_, (hx z).1, (hx z).2.1, (hx z).2.2⟩⟩
    rw [List.append_nil]
  · have hlt : c < acc.length := by omega
    rw [fcl_lt hlt]
    obtain ⟨a1, a2, a3, a4, a5⟩ := h c hlt
    obtain ⟨u1, u2, u3, u4⟩ := hF.2.2.1 (10 * t + c) (by omega)
    refine ⟨u1.trans a1, u2.trans a2, a3, a4, fun z => ?_⟩
    obtain ⟨A, B, b1, b2, b3, b4⟩ := a5 z
    refine ⟨A, B ++ x.2.2, ?_, u3.trans b2, u4.trans b3, b4⟩
    rw [b1, List.append_assoc, List.append_assoc]
theorem mt_D.eq {t : Nat} {S S' : St} {M : List Int32} {acc : List PC} (h : mt_D t S M acc) (e6 : S'.1 86 = S.1 86) (e7 : S'.1 87 = S.1 87) (e8 : S'.1 88 = S.1 88) (e9 : S'.1 89 = S.1 89) : mt_D t S' M acc := by
  intro c hc
  rw [e6, e7, e8, e9]
  exact h c hc
def mx_R (t N : Nat) (S' : St) (tag : Nat) (r : Bool × Nat × List PC) : Prop := (r.1 = true ∧ tag = 1 ∧ S'.1 85 t = nI r.2.2.length ∧ ∃ M', M'.length ≤ N ∧ (∀ i x, M'[i]? = some x → S'.1 90 (100 * t + i) = x) ∧ mt_D t S' M' r.2.2) ∨ (r.1 = false ∧ ¬ tag = 1)
theorem text_m {t N : Nat} {k : Nat → Nat} (ht : t < 6) : ∀ m n v p (acc : List PC) (M : List Int32) (S : St), m + v = 10 → m < n → acc.length = v → ms_T S N k → S.1 92 = g_92 → mt_S t N S p M → p ≤ N → M.length ≤ p → mt_D t S M acc → (∃ tag S', lp_X12_goesText_15 (nI t) n (nI v) S = some (tag, S') ∧ mt_G t S S' ∧ S'.1 76 13 = nI (ps_x k N m p acc).2.1 ∧ mx_R t N S' tag (ps_x k N m p acc)) ∨ m = 0 := by
  intro m
  induction m with
  | zero =>
    intro n v p acc M S _ _ _ _ _ _ _ _ _
    exact Or.inr rfl
  | succ m ih =>
    intro n v p acc M S h1 h2 hacc hT hL hS hp hl hD
    have hN := hT.2.1
    obtain ⟨n, rfl⟩ : ∃ n', n = n' + 1 := ⟨n - 1, by omega⟩
    refine Or.inl ?_
    obtain ⟨S1, a1, a2, a3, a4⟩ := clause_m (cc := v) ht (by omega) hT hL hS hp hl
    obtain ⟨g1, g2, g3⟩ := ps_c_ok hT.1 hp
    rw [ps_x_s, lp_X12_goesText_15, show (10 : Int32) = nI 10 from rfl, nI_mul, nI_add]
    cases c : (ps_c k p).1 with
    | false =>
      rw [c] at a1
      rw [if_neg (by decide)]
      exact ⟨0, S1, ob_step a1 (if_pos rfl), a2.g, a3, Or.inr ⟨rfl, by decide⟩⟩
    | true =>
      rw [c] at a1
      obtain ⟨b1, b2, b3, b4, b5⟩ := a4 c
      obtain ⟨g4, g5, g6⟩ := g3 c
      rw [if_pos rfl]
      have hD' : mt_D t S1 (M ++ (ps_c k p).2.2.2.2) (acc ++ [(ps_c k p).2.2]) := hD.more (by rw [hacc]; exact a2) (by rw [hacc]; exact b3) (by rw [hacc]; exact b4) g5 g6 (fun z => by
        rw [hacc]
        exact b5 z)
      have hlen : (acc ++ [(ps_c k p).2.2]).length = v + 1 := by
        rw [List.length_append, hacc]
        rfl
      have hG : mt_G t S (sA S1 85 (upd (S1.1 85) t (nI (v + 1)))) := a2.g.tr (mt_G_85 _)
      have hS2 : mt_S t N (sA S1 85 (upd (S1.1 85) t (nI (v + 1)))) (ps_c k p).2.1 (M ++ (ps_c k p).2.2.2.2) := b1
      have hD2 : mt_D t (sA S1 85 (upd (S1.1 85) t (nI (v + 1)))) (M ++ (ps_c k p).2.2.2.2) (acc ++ [(ps_c k p).2.2]) := hD'.eq rfl rfl rfl rfl
      have e85 : (sA S1 85 (upd (S1.1 85) t (nI (v + 1)))).1 85 t = nI (v + 1) := upd_at _ _ _
      have e12 : S1.1 76 12 = nI N := b1.2.1
      have pre : ∀ y, (if S1.1 76 13 = S1.1 76 12 then some ((1 : Nat), sA S1 85 (upd (S1.1 85) t (nI (v + 1)))) else if nI (v + 1) = nI 10 then some (2, sA S1 85 (upd (S1.1 85) t (nI (v + 1)))) else (r_X12_takes (sA S1 85 (upd (S1.1 85) t (nI (v + 1)))) 59).bind fun q2 => if q2.1 = 0 then some (2, q2.2) else lp_X12_goesText_15 (nI t) n (nI (v + 1)) q2.2) = y → ((r_X12_takesClause S (nI (10 * t + v))).bind fun q1 => if q1.1 = 0 then some (0, q1.2) else gd (¬ (nI t < 0 ∨ 6 ≤ (nI t).toNatClampNeg)) (if (q1.2.1 76 13) = (q1.2.1 76 12) then some (1, sA q1.2 85 (upd (q1.2.1 85) (nI t).toNatClampNeg (nI v + 1))) else if (nI v + 1) = nI 10 then some (2, sA q1.2 85 (upd (q1.2.1 85) (nI t).toNatClampNeg (nI v + 1))) else (r_X12_takes (sA q1.2 85 (upd (q1.2.1 85) (nI t).toNatClampNeg (nI v + 1))) 59).bind fun q2 => if q2.1 = 0 then some (2, q2.2) else lp_X12_goesText_15 (nI t) n (nI v + 1) q2.2)) = y := by
        intro y hy
        refine ob_step a1 ((if_neg nzt).trans ?_)
        rw [gdN ht (by decide), nI_clamp (by omega), nI_1]
        exact hy
      generalize (ps_c k p).2.2 = x at hD2 hlen hS2 b2
      clear hD' b1 b3 b4 b5 a4
      by_cases d : (ps_c k p).2.1 = N
      · rw [if_pos d]
        refine ⟨1, _, pre _ (if_pos (by rw [a3, e12, d])), hG, ?_, Or.inl ⟨rfl, rfl, ?_, M ++ x.2.2, by omega, hS2.2.2.2, hD2⟩⟩
        · show S1.1 76 13 = nI N
          rw [a3, d]
        · show _ = nI (acc ++ [x]).length
          rw [hlen]
          exact e85
      rw [if_neg d]
      have hne : ¬ S1.1 76 13 = S1.1 76 12 := by
        rw [a3, e12]
        exact fun z => d ((nI_eq (by omega) (by omega)).mp z)
      by_cases f : m = 0
      · rw [if_pos f]
        refine ⟨2, _, pre _ ((if_neg hne).trans (if_pos (by rw [show v + 1 = 10 by omega]))), hG, a3, Or.inr ⟨rfl, by decide⟩⟩
      rw [if_neg f]
      have h10 : ¬ nI (v + 1) = nI 10 := fun z => by
        have := (nI_eq (by omega) (by decide)).mp z
        omega
      have hT2 : ms_T (sA S1 85 (upd (S1.1 85) t (nI (v + 1)))) N k := ⟨hT.1, hT.2.1, fun i hi => by
        rw [hG.1 84 (by omega) (by decide)]
        exact hT.2.2 i hi⟩
      have hb := takes_n hT2 (hS2.n 0) g2 (a := 59) (by decide)
      by_cases e : k (ps_c k p).2.1 = 59
      · rw [if_pos e] at hb ⊢
        have hp1 : (ps_c k p).2.1 < N := hT.1.lt e (by decide)
        have g13 : mt_G t S (sI (sA S1 85 (upd (S1.1 85) t (nI (v + 1)))) 76 13 (nI ((ps_c k p).2.1 + 1))) := hG.tr (mt_F_13 (cc := 0) _).g
        rcases ih n (v + 1) ((ps_c k p).2.1 + 1) (acc ++ [x]) (M ++ x.2.2) (sI (sA S1 85 (upd (S1.1 85) t (nI (v + 1)))) 76 13 (nI ((ps_c k p).2.1 + 1))) (by omega) (by omega) hlen ⟨hT.1, hT.2.1, hT2.2.2⟩ (by
          rw [g13.1 92 (by omega) (by decide)]
          exact hL) ((hS2.n 0).mv _).s hp1 (by omega) (hD2.eq rfl rfl rfl rfl) with ⟨tag, S', u1, u2, u3, u4⟩ | u
        · refine ⟨tag, S', pre _ ((if_neg hne).trans ((if_neg h10).trans (ob_step hb ((if_neg nz1).trans u1)))), g13.tr u2, u3, u4⟩
        · exact absurd u f
      · rw [if_neg e] at hb ⊢
        exact ⟨2, _, pre _ ((if_neg hne).trans ((if_neg h10).trans (ob_step hb (if_pos rfl)))), hG, a3, Or.inr ⟨rfl, by decide⟩⟩
/-- the model reads the text -/
theorem goes_m {S : St} {t N : Nat} {k : Nat → Nat} (ht : t < 6) (hT : ms_T S N k) (hL : S.1 92 = g_92) (e12 : S.1 76 12 = nI N) : ∃ tag S', r_X12_goesText S (nI t) = some (if (ps_x k N 10 0 []).1 = true then 1 else 0, S') ∧ mt_G t S S' ∧ S'.1 76 13 = nI (ps_x k N 10 0 []).2.1 ∧ mx_R t N S' tag (ps_x k N 10 0 []) := by
  have g0 : mt_G t S (sI (sI S 76 13 0) 76 23 (nI (100 * t))) := ⟨fun j x y => by rw [sI_ne y, sI_ne y], fun _ _ => rfl, fun _ _ => ⟨rfl, rfl, rfl, rfl⟩, fun _ _ => rfl, fun j a b d e f => by rw [sI_sl d, sI_sl a], rfl⟩
  rcases text_m (k := k) ht 10 4000 0 0 [] [] (sI (sI S 76 13 0) 76 23 (nI (100 * t))) rfl (by decide) rfl ⟨hT.1, hT.2.1, hT.2.2⟩ hL ⟨rfl, e12, rfl, fun i x hx => by cases hx⟩ (Nat.zero_le _) (Nat.le_refl _) (fun c hc => absurd hc (Nat.not_lt_zero c)) with ⟨tag, S', a1, a2, a3, a4⟩ | z
  · refine ⟨tag, S', ?_, g0.tr a2, a3, a4⟩
    unfold r_X12_goesText
    rw [show (100 : Int32) = nI 100 from rfl, nI_mul]
    refine ob_step a1 ?_
    show (if tag = 0 then some ((0 : Int32), S') else if tag = 1 then some (1, S') else some (0, S')) = _
    rcases a4 with ⟨b1, b2, -⟩ | ⟨b1, b2⟩
    · rw [b2, b1]
      rfl
    · rw [b1, if_neg b2]
      split <;> rfl
  · exact absurd z (by decide)
