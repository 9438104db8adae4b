/-! MOOD, the class's side; lastOf; both from the invariant -/
theorem cl_hold {S : St} {o i l q d : Nat} (hi : i < 100) (hl : l ≤ 5) (hq : q ≤ 2) (hd : d ≤ 99) (e1 : S.1 (o + 1) i = nI (3 * l + q)) (e2 : S.1 (o + 2) i = nI d) : r_X5_holds_33 S o (nI i) = some (if tst (S.1 33) (1000 * l + 100 * q + d) then 1 else 0) := by
  obtain ⟨T1, T2, T3⟩ := T_div (l := l) hq hd
  have ts : tst (S.1 33) (1000 * l + 100 * q + d) = (if q = 0 then decide (S.1 33 l < nI d) else if q = 1 then decide (S.1 33 l = nI d) else decide (nI d < S.1 33 l)) := by
    unfold tst
    rw [T1, T2, T3]
  have d1 : nI (3 * l + q) / 3 = nI l := by
    rw [show (3 : Int32) = nI 3 from rfl, nI_div (by omega) (by decide) (by decide)]
    congr 1
    omega
  have d2 : nI (3 * l + q) - nI (3 * l + q) / 3 * 3 = nI q := by
    rw [show (3 : Int32) = nI 3 from rfl, nI_rem (by omega) (by decide) (by decide)]
    congr 1
    omega
  unfold r_X5_holds_33
  simp only [gdN hi (by decide)]
  rw [nI_clamp (show i < 2 ^ 31 by omega), e1, e2, d2, d1, if_neg (nle_l (k := 6) (by omega) (by decide)), gdN (show l < 6 by omega) (by decide), nI_clamp (show l < 2 ^ 31 by omega), ts]
  by_cases q0 : q = 0
  · subst q0
    rw [if_pos nI_0, if_pos rfl]
    by_cases w : nI d ≤ S.1 33 l
    · rw [if_pos w, decide_eq_false (Int32.not_lt.mpr w)]
      rfl
    · rw [if_neg w, decide_eq_true (Int32.not_le.mp w)]
      rfl
  · rw [if_neg (nI_ne0 (by omega) (by omega)), if_neg q0]
    by_cases q1 : q = 1
    · subst q1
      rw [if_pos (show nI 1 = 1 from rfl), if_pos rfl]
      by_cases w : S.1 33 l = nI d
      · rw [if_pos w, decide_eq_true w]
        rfl
      · rw [if_neg w, decide_eq_false w]
        rfl
    · rw [if_neg (ne_l (k := 1) q1 (by omega) (by decide)), if_neg q1]
      by_cases w : S.1 33 l ≤ nI d
      · rw [if_pos w, decide_eq_false (Int32.not_lt.mpr w)]
        rfl
      · rw [if_neg w, decide_eq_true (Int32.not_le.mp w)]
        rfl
theorem stepOf_tok {l q d : Nat} (hq : q ≤ 2) (hd : d ≤ 99) (hl : l ≤ 5) : stepOf (nI (1000 * l + 100 * q + d)) = (nI (3 * l + q), nI d) := by
  obtain ⟨e1, e2, e3, -⟩ := tok_m33 ⟨l, q, d, hl, hq, hd, rfl⟩
  obtain ⟨T1, T2, T3⟩ := T_div (l := l) hq hd
  unfold stepOf
  rw [if_neg e1, if_neg e2, if_neg e3, nI_clamp (by omega), T1, T2, T3]
theorem cls_E {S : St} {o N : Nat} (hN : N ≤ 100) (eN : S.1 o 2 = nI N) : ∀ (E : List Int32) (st : List Bool) (k n pos : Nat) (sum : Int32), codeOk E st.length → st.length ≤ 20 → pos + E.length ≤ N → (∀ i x, E[i]? = some x → S.1 (o + 1) (pos + i) = (stepOf x).1 ∧ S.1 (o + 2) (pos + i) = (stepOf x).2) → n = k + E.length → lp_X5_moodBy_33_7 S o n sum (nI (bv st)) (nI pos) = lp_X5_moodBy_33_7 S o k sum (nI (bv (evE (S.1 33) E st))) (nI (pos + E.length)) := by
  intro E
  induction E with
  | nil =>
    intro st k n pos sum _ _ _ _ hn
    rw [hn]
    rfl
  | cons t r ih =>
    intro st k n pos sum hcode hst hpos hE hn
    rw [List.length_cons] at hpos hn
    have et1 : S.1 (o + 1) pos = (stepOf t).1 := (hE 0 t rfl).1
    have et2 : S.1 (o + 2) pos = (stepOf t).2 := (hE 0 t rfl).2
    have hE' : ∀ i x, r[i]? = some x → S.1 (o + 1) (pos + 1 + i) = (stepOf x).1 ∧ S.1 (o + 2) (pos + 1 + i) = (stepOf x).2 := fun i x hx => by
      have := hE (i + 1) x hx
      rw [show pos + 1 + i = pos + (i + 1) by omega]
      exact this
    obtain ⟨m, rfl⟩ : ∃ m, n = m + 1 := ⟨n - 1, by omega⟩
    have ep : pos + 1 + r.length = pos + (t :: r).length := by rw [List.length_cons]; omega
    have go : ∀ st' : List Bool, codeOk r st'.length → st'.length ≤ 20 → lp_X5_moodBy_33_7 S o m sum (nI (bv st')) (nI (pos + 1)) = lp_X5_moodBy_33_7 S o k sum (nI (bv (evE (S.1 33) r st'))) (nI (pos + (t :: r).length)) := by
      intro st' h1 h2
      rw [ih st' k m (pos + 1) sum h1 h2 (by omega) hE' (by omega), ep]
    show lp_X5_moodBy_33_7 S o (m + 1) sum (nI (bv st)) (nI pos) = lp_X5_moodBy_33_7 S o k sum (nI (bv (evE (S.1 33) r (evS (S.1 33) t st)))) (nI (pos + (t :: r).length))
    rw [lp_X5_moodBy_33_7, eN, if_neg (nI_ge (by omega) (by omega)), gdN (show pos < 100 by omega) (by decide), nI_clamp (show pos < 2 ^ 31 by omega), et1, nI_1]
    rcases hcode with ⟨h1, h2, h3⟩ | ⟨h1, h2, h3⟩ | ⟨h1, h2, h3⟩
    · match st, h2, h3, hst with
      | b :: q, _, h3, hst =>
        have ev : evS (S.1 33) t (b :: q) = (!b) :: q := by unfold evS; rw [if_pos h1]
        have es : (stepOf t).1 = 18 := by unfold stepOf; rw [if_pos h1]
        rw [es, if_pos rfl, ev, bv_not]
        exact go _ h3 hst
    · match st, h2, h3, hst with
      | [b], h2, _, _ => exact absurd h2 (show ¬ 2 ≤ 1 from by decide)
      | b :: a :: q, _, h3, hst =>
        have el : codeOk r (q.length + 1) := h3
        have hs1 : q.length + 1 ≤ 20 := by
          simp only [List.length_cons] at hst
          omega
        rcases h1 with h1 | h1
        · have ev : evS (S.1 33) t (b :: a :: q) = (a && b) :: q := by unfold evS; rw [if_neg (by rw [h1]; decide), if_pos h1]
          have es : (stepOf t).1 = 19 := by unfold stepOf; rw [if_neg (by rw [h1]; decide), if_pos h1]
          rw [es, if_neg (by decide), if_pos rfl, ev, bv_and (by omega)]
          exact go _ el hs1
        · have ev : evS (S.1 33) t (b :: a :: q) = (a || b) :: q := by unfold evS; rw [if_neg (by rw [h1]; decide), if_neg (by rw [h1]; decide), if_pos h1]
          have es : (stepOf t).1 = 20 := by unfold stepOf; rw [if_neg (by rw [h1]; decide), if_neg (by rw [h1]; decide), if_pos h1]
          rw [es, if_neg (by decide), if_neg (by decide), if_pos rfl, ev, bv_or (by omega)]
          exact go _ el hs1
    · obtain ⟨e1, e2, e3, e4⟩ := tok_m33 h1
      obtain ⟨l, q, d, hl, hq, hd, rfl⟩ := h1
      have ev : evS (S.1 33) (nI (1000 * l + 100 * q + d)) st = tst (S.1 33) (1000 * l + 100 * q + d) :: st := by
        unfold evS
        rw [if_neg e1, if_neg e2, if_neg e3, nI_clamp (by omega)]
      rw [stepOf_tok hq hd hl] at et1 et2
      rw [stepOf_tok hq hd hl, ev]
      show (if nI (3 * l + q) = 18 then _ else if nI (3 * l + q) = 19 then _ else if nI (3 * l + q) = 20 then _ else if nI (3 * l + q) = 21 then _ else _) = _
      rw [if_neg (ne_l (k := 18) (by omega) (by omega) (by decide)), if_neg (ne_l (k := 19) (by omega) (by omega) (by decide)), if_neg (ne_l (k := 20) (by omega) (by omega) (by decide)), if_neg (ne_l (k := 21) (by omega) (by omega) (by decide)), cl_hold (show pos < 100 by omega) hl hq hd et1 et2]
      show (if (if tst (S.1 33) (1000 * l + 100 * q + d) = true then (1 : Int32) else 0) = 0 then _ else _) = _
      cases hb : tst (S.1 33) (1000 * l + 100 * q + d)
      · rw [if_pos (bz.mpr rfl), bv_push0]
        exact go (false :: st) h3 (by rw [List.length_cons]; omega)
      · rw [if_neg (by decide), bv_push1]
        exact go (true :: st) h3 (by rw [List.length_cons]; omega)
def ctb (f : Nat → Int32) (x : Nat × Nat × List Int32) : Int32 := if x.1 < 2 then (if (evE f x.2.2 []).headD false then (if x.1 = 0 then nI x.2.1 else -nI x.2.1) else 0) else 0
def moodA (f : Nat → Int32) (cl : Nat → Nat × Nat × List Int32) : Nat → Int32
  | 0 => 0
  | n + 1 => moodA f cl n + ctb f (cl n)
theorem cls_all {S : St} {o N : Nat} (hN : N ≤ 100) (eN : S.1 o 2 = nI N) {cl : Nat → Nat × Nat × List Int32} : ∀ (c : Nat) (k n : Nat), (∀ j, j < c → (cl j).1 < 2 → codeOk (cl j).2.2 0) → (allSteps cl c).length ≤ N → (∀ i x, (allSteps cl c)[i]? = some x → S.1 (o + 1) i = x.1 ∧ S.1 (o + 2) i = x.2) → n = k + (allSteps cl c).length → lp_X5_moodBy_33_7 S o n 0 (nI (bv [])) (nI 0) = lp_X5_moodBy_33_7 S o k (moodA (S.1 33) cl c) (nI (bv [])) (nI (allSteps cl c).length) := by
  intro c
  induction c with
  | zero =>
    intro k n _ _ _ hn
    rw [hn]
    rfl
  | succ c ih =>
    intro k n hc hlen hx hn
    have e0 : allSteps cl (c + 1) = allSteps cl c ++ clSteps (cl c).1 (cl c).2.1 (cl c).2.2 := rfl
    rw [e0, List.length_append] at hlen hn
    rw [e0, List.length_append]
    have hx1 : ∀ i x, (allSteps cl c)[i]? = some x → S.1 (o + 1) i = x.1 ∧ S.1 (o + 2) i = x.2 := by
      intro i x h
      refine hx i x ?_
      rw [e0, List.getElem?_append_left (List.getElem?_eq_some_iff.mp h).1]
      exact h
    have hx2 : ∀ i x, (clSteps (cl c).1 (cl c).2.1 (cl c).2.2)[i]? = some x → S.1 (o + 1) ((allSteps cl c).length + i) = x.1 ∧ S.1 (o + 2) ((allSteps cl c).length + i) = x.2 := by
      intro i x h
      refine hx _ x ?_
      rw [e0, List.getElem?_append_right (by omega), Nat.add_sub_cancel_left]
      exact h
    rw [ih (k + (clSteps (cl c).1 (cl c).2.1 (cl c).2.2).length) n (fun j hj => hc j (by omega)) (by omega) hx1 (by omega)]
    show _ = lp_X5_moodBy_33_7 S o k (moodA (S.1 33) cl c + ctb (S.1 33) (cl c)) _ _
    unfold clSteps at hx2 hlen ⊢
    unfold ctb
    by_cases w : (cl c).1 < 2
    · rw [if_pos w] at hx2 hlen ⊢
      rw [if_pos w]
      have hco := hc c (by omega) w
      rw [List.length_append, List.length_map, List.length_singleton] at hlen ⊢
      have hE : ∀ i x, (cl c).2.2[i]? = some x → S.1 (o + 1) ((allSteps cl c).length + i) = (stepOf x).1 ∧ S.1 (o + 2) ((allSteps cl c).length + i) = (stepOf x).2 := by
        intro i x h
        refine hx2 i (stepOf x) ?_
        rw [List.getElem?_append_left (by rw [List.length_map]; exact (List.getElem?_eq_some_iff.mp h).1), List.getElem?_map, h]
        rfl
      have hW := hx2 (cl c).2.2.length (21, if (cl c).1 = 0 then nI (cl c).2.1 else -nI (cl c).2.1) (by
        rw [List.getElem?_append_right (by rw [List.length_map]; omega), List.length_map, Nat.sub_self]
        rfl)
      rw [cls_E hN eN (cl c).2.2 [] (k + 1) _ (allSteps cl c).length _ hco (by decide) (by omega) hE (by omega)]
      obtain ⟨b, hb⟩ := codeOk_ev (f := S.1 33) (st := []) hco
      rw [hb]
      show lp_X5_moodBy_33_7 S o (k + 1) _ (nI (bv [b])) (nI ((allSteps cl c).length + (cl c).2.2.length)) = lp_X5_moodBy_33_7 S o k (_ + (if b = true then _ else 0)) _ _
      rw [lp_X5_moodBy_33_7, eN, if_neg (nI_ge (by omega) (by omega)), gdN (show (allSteps cl c).length + (cl c).2.2.length < 100 by omega) (by decide), gdN (show (allSteps cl c).length + (cl c).2.2.length < 100 by omega) (by decide), nI_clamp (by omega), hW.1, hW.2, if_neg (show ¬ (21 : Int32) = 18 by decide), if_neg (show ¬ (21 : Int32) = 19 by decide), if_neg (show ¬ (21 : Int32) = 20 by decide), if_pos rfl, bv_and1, bv_pop (by decide), nI_1, Nat.add_assoc]
      cases b
      · show lp_X5_moodBy_33_7 S o k (_ + 0 * _) _ _ = _
        rw [Int32.zero_mul]
        rfl
      · show lp_X5_moodBy_33_7 S o k (_ + 1 * _) _ _ = _
        rw [Int32.one_mul]
        rfl
    · rw [if_neg w] at hx2 hlen ⊢
      rw [if_neg w, Int32.add_zero]
      rfl
theorem cls_mood {S : St} {o nc : Nat} {cl : Nat → Nat × Nat × List Int32} (hc : ∀ j, j < nc → (cl j).1 < 2 → codeOk (cl j).2.2 0) (hlen : (allSteps cl nc).length ≤ 100) (eN : S.1 o 2 = nI (allSteps cl nc).length) (hx : ∀ i x, (allSteps cl nc)[i]? = some x → S.1 (o + 1) i = x.1 ∧ S.1 (o + 2) i = x.2) : r_X5_moodBy_33 S o = some (moodA (S.1 33) cl nc) := by
  unfold r_X5_moodBy_33
  have h1 := cls_all hlen eN nc (4000 - (allSteps cl nc).length) 4000 hc (Nat.le_refl _) hx (by omega)
  have h2 : lp_X5_moodBy_33_7 S o 4000 0 0 0 = _ := h1
  rw [h2]
  obtain ⟨m, hm⟩ : ∃ m, 4000 - (allSteps cl nc).length = m + 1 := ⟨4000 - (allSteps cl nc).length - 1, by omega⟩
  rw [hm, lp_X5_moodBy_33_7, eN, if_pos (nI_le (Nat.le_refl _) (by omega))]
  rfl
theorem evE_cong {f g : Nat → Int32} (h : ∀ l, l ≤ 5 → f l = g l) : ∀ {E : List Int32} {n : Nat} (st : List Bool), codeOk E n → evE f E st = evE g E st
  | [], _, _, _ => rfl
  | t :: r, n, st, hc => by
    show evE f r (evS f t st) = evE g r (evS g t st)
    have e : evS f t st = evS g t st := by
      unfold evS
      rcases hc with ⟨h1, -, -⟩ | ⟨h1 | h1, -, -⟩ | ⟨h1, -, -⟩
      · rw [if_pos h1, if_pos h1]
      · rw [if_neg (by rw [h1]; decide), if_pos h1, if_neg (by rw [h1]; decide), if_pos h1]
      · rw [if_neg (by rw [h1]; decide), if_neg (by rw [h1]; decide), if_pos h1, if_neg (by rw [h1]; decide), if_neg (by rw [h1]; decide), if_pos h1]
      · obtain ⟨e1, e2, e3, -⟩ := tok_m33 h1
        rw [if_neg e1, if_neg e2, if_neg e3, if_neg e1, if_neg e2, if_neg e3]
        obtain ⟨l, q, d, hl, hq, hd, rfl⟩ := h1
        rw [nI_clamp (by omega)]
        congr 1
        unfold tst
        obtain ⟨T1, T2, T3⟩ := T_div (l := l) hq hd
        rw [T1, h l hl]
    rw [e]
    rcases hc with ⟨-, -, h3⟩ | ⟨-, -, h3⟩ | ⟨-, -, h3⟩
    · exact evE_cong h _ h3
    · exact evE_cong h _ h3
    · exact evE_cong h _ h3
theorem moodA_cong {f g : Nat → Int32} (h : ∀ l, l ≤ 5 → f l = g l) {cl : Nat → Nat × Nat × List Int32} : ∀ c, (∀ j, j < c → (cl j).1 < 2 → codeOk (cl j).2.2 0) → moodA f cl c = moodA g cl c
  | 0, _ => rfl
  | c + 1, hc => by
    show moodA f cl c + ctb f (cl c) = moodA g cl c + ctb g (cl c)
    rw [moodA_cong h c (fun j hj => hc j (by omega))]
    congr 1
    unfold ctb
    by_cases w : (cl c).1 < 2
    · rw [if_pos w, if_pos w, evE_cong h [] (hc c (by omega) w)]
    · rw [if_neg w, if_neg w]
/-! the model's mood -/
theorem seg_at {g : Nat → Int32} {a b : Nat} (i : Nat) (x : Int32) (h : (seg g a b)[i]? = some x) : i < b - a ∧ g (a + i) = x := by
  unfold seg at h
  rw [List.getElem?_map] at h
  cases hq : (List.range (b - a))[i]? with
  | none => rw [hq] at h; cases h
  | some j =>
    rw [hq] at h
    obtain ⟨h1, h2⟩ := List.getElem?_eq_some_iff.mp hq
    rw [List.length_range] at h1
    rw [List.getElem_range] at h2
    subst h2
    cases h
    exact ⟨h1, rfl⟩
theorem seg_len (g : Nat → Int32) (a b : Nat) : (seg g a b).length = b - a := by
  unfold seg
  rw [List.length_map, List.length_range]
abbrev MH (S : St) (t nc : Nat) (cl : Nat → Nat × Nat × List Int32) : Prop := (nc ≤ 10 ∧ S.1 85 t = nI nc) ∧ ∀ c, c < nc → (cl c).1 ≤ 3 ∧ (cl c).2.1 ≤ 99 ∧ S.1 86 (10 * t + c) = nI (cl c).1 ∧ S.1 87 (10 * t + c) = nI (cl c).2.1 ∧ ((cl c).1 < 2 → ∃ a b, a ≤ b ∧ b ≤ 100 * t + 100 ∧ S.1 88 (10 * t + c) = nI a ∧ S.1 89 (10 * t + c) = nI b ∧ seg (S.1 90) a b = (cl c).2.2 ∧ codeOk (cl c).2.2 0)
theorem beh_at {S : St} {t nc : Nat} (ht : t < 6) (e : S.1 76 11 = nI t) (h : S.1 85 t = nI nc) : r_X12_behind S = some (nI (10 * t + nc)) := by
  unfold r_X12_behind
  rw [e, if_pos (nI_pos' (by omega)), gdN ht (by decide), nI_clamp (by omega), h, show (10 : Int32) = nI 10 from rfl, nI_mul, nI_add]
theorem beg_at {S : St} {t : Nat} (ht : t < 6) (e : S.1 76 11 = nI t) : r_X12_begin S = nI (10 * t) := by
  unfold r_X12_begin
  rw [e, if_pos (nI_pos' (by omega)), show (10 : Int32) = nI 10 from rfl, nI_mul]
theorem lp_mood {f : Nat → Int32} {t nc h s : Nat} (ht : t < 6) {cl : Nat → Nat × Nat × List Int32} : ∀ (n c : Nat) (S : St), MH S t nc cl → S.1 76 11 = nI t → (∀ l, l ≤ 5 → r_X12_factOf S (nI l) (nI h) (nI s) = some (f l)) → c ≤ nc → nc < n + c → ∃ g, lp_X12_mood_8 (nI h) (nI s) n (moodA f cl c) (nI (10 * t + c)) S = some (moodA f cl nc, sA S 93 g) := by
  intro n
  induction n with
  | zero => intro c S _ _ _ h1 h2; omega
  | succ n ih =>
    intro c S hM e11 hf h1 h2
    obtain ⟨⟨hnc, e85⟩, hcl⟩ := id hM
    unfold lp_X12_mood_8
    rw [beh_at ht e11 e85]
    show ∃ g, (if nI (10 * t + nc) ≤ nI (10 * t + c) then _ else _) = _
    by_cases w : c = nc
    · subst w
      rw [if_pos (nI_le (Nat.le_refl _) (by omega))]
      exact ⟨S.1 93, by rw [sA_self]⟩
    · have hc : c < nc := by omega
      obtain ⟨x1, x2, x3, x4, x5⟩ := hcl c hc
      rw [if_neg (nI_ge (by omega) (by omega)), gdN (show 10 * t + c < 60 by omega) (by decide), nI_clamp (show 10 * t + c < 2 ^ 31 by omega), x3, nI_1]
      by_cases y : (cl c).1 < 2
      · obtain ⟨a, b, k1, k2, k3, k4, k5, k6⟩ := x5 y
        rw [if_neg (show ¬ (2 : Int32) ≤ nI (cl c).1 from nle_l (k := 2) y (by decide))]
        have hlen : (cl c).2.2.length = b - a := by rw [← k5, seg_len]
        obtain ⟨g, g1, g2⟩ := lp_hold (f := f) (c := 10 * t + c) (h := h) (s := s) (b := b) (by omega) (by omega) (cl c).2.2 [] S 4000 a k4 hf k6 (by decide) (by omega) (fun i x hx => (seg_at i x (by rw [k5]; exact hx)).2) True.intro (by omega)
        obtain ⟨bb, hb⟩ := codeOk_ev (f := f) (st := []) k6
        rw [hb] at g2
        have hold : r_X12_holds S (nI (10 * t + c)) (nI h) (nI s) = some (if bb then 1 else 0, sA S 93 g) := by
          unfold r_X12_holds
          rw [gdN (show 10 * t + c < 60 by omega) (by decide), nI_clamp (by omega), k3]
          have g1' : lp_X12_holds_11 (nI (10 * t + c)) (nI h) (nI s) 4000 0 (nI a) S = some (sA S 93 g) := g1
          rw [g1']
          have e0 : (sA S 93 g).1 93 (0 : Int32).toNatClampNeg = if bb then 1 else 0 := by
            rw [show (0 : Int32).toNatClampNeg = 0 from by decide, sA_at]
            exact g2.1
          show gd ((sA S 93 g).1 93 (0 : Int32).toNatClampNeg = 0 ∨ (sA S 93 g).1 93 (0 : Int32).toNatClampNeg = 1) (some ((sA S 93 g).1 93 (0 : Int32).toNatClampNeg, sA S 93 g)) = _
          rw [e0, gd_pos]
          cases bb
          · exact Or.inl rfl
          · exact Or.inr rfl
        rw [hold]
        show ∃ g', (if (if bb = true then (1 : Int32) else 0) = 0 then lp_X12_mood_8 (nI h) (nI s) n (moodA f cl c) (nI (10 * t + c + 1)) (sA S 93 g) else gd (¬ (nI (10 * t + c) < 0 ∨ 60 ≤ 10 * t + c)) (if S.1 86 (10 * t + c) = 0 then gd (¬ (nI (10 * t + c) < 0 ∨ 60 ≤ 10 * t + c)) (lp_X12_mood_8 (nI h) (nI s) n (moodA f cl c + S.1 87 (10 * t + c)) (nI (10 * t + c + 1)) (sA S 93 g)) else gd (¬ (nI (10 * t + c) < 0 ∨ 60 ≤ 10 * t + c)) (lp_X12_mood_8 (nI h) (nI s) n (moodA f cl c + -(S.1 87 (10 * t + c))) (nI (10 * t + c + 1)) (sA S 93 g)))) = _
        have fin : ∃ g', lp_X12_mood_8 (nI h) (nI s) n (moodA f cl (c + 1)) (nI (10 * t + (c + 1))) (sA S 93 g) = some (moodA f cl nc, sA S 93 g') := by
          obtain ⟨g', q⟩ := ih (c + 1) (sA S 93 g) hM e11 hf (by omega) (by omega)
          exact ⟨g', by rw [q, sA_sA]⟩
        have hct : moodA f cl (c + 1) = moodA f cl c + (if bb then (if (cl c).1 = 0 then nI (cl c).2.1 else -nI (cl c).2.1) else 0) := by
          show _ + ctb f (cl c) = _
          unfold ctb
          rw [if_pos y, hb]
          rfl
        rw [x3, x4]
        cases bb
        · rw [if_pos (bz.mpr rfl)]
          rw [hct] at fin
          simp only [Bool.false_eq_true, if_false, Int32.add_zero] at fin
          exact fin
        · rw [if_neg (by decide), gdM (show 10 * t + c < 60 by omega) (by omega), gdM (show 10 * t + c < 60 by omega) (by omega)]
          rw [hct] at fin
          simp only [if_true] at fin
          by_cases z : (cl c).1 = 0
          · rw [if_pos z] at fin
            rw [z, if_pos nI_0]
            exact fin
          · rw [if_neg z] at fin
            rw [if_neg (nI_ne0 (by omega) (by omega)), gdM (show 10 * t + c < 60 by omega) (by omega)]
            exact fin
      · rw [if_pos (show (2 : Int32) ≤ nI (cl c).1 from le_l (k := 2) (by omega) (by omega))]
        have hct : moodA f cl (c + 1) = moodA f cl c := by
          show _ + ctb f (cl c) = _
          unfold ctb
          rw [if_neg y, Int32.add_zero]
        have := ih (c + 1) S hM e11 hf (by omega) (by omega)
        rw [hct] at this
        exact this
theorem lp_last {S : St} {t nc w x : Nat} (ht : t < 6) (hw : w ≤ 3) {cl : Nat → Nat × Nat × List Int32} (hM : MH S t nc cl) (e11 : S.1 76 11 = nI t) : ∀ (n c : Nat), c ≤ nc → nc < n + c → lp_X12_lastOf_8 S (nI w) n (nI (lastW cl w x c)) (nI (10 * t + c)) = some (nI (lastW cl w x nc)) := by
  intro n
  obtain ⟨⟨hnc, e85⟩, hcl⟩ := hM
  induction n with
  | zero => intro c h1 h2; omega
  | succ n ih =>
    intro c h1 h2
    unfold lp_X12_lastOf_8
    rw [beh_at ht e11 e85]
    show (if nI (10 * t + nc) ≤ nI (10 * t + c) then _ else _) = _
    by_cases y : c = nc
    · subst y
      rw [if_pos (nI_le (Nat.le_refl _) (by omega))]
    · obtain ⟨x1, x2, x3, x4, x5⟩ := hcl c (by omega)
      have := ih (c + 1) (by omega) (by omega)
      rw [if_neg (nI_ge (by omega) (by omega)), gdN (show 10 * t + c < 60 by omega) (by decide), gdN (show 10 * t + c < 60 by omega) (by decide), nI_clamp (show 10 * t + c < 2 ^ 31 by omega), x3, x4, nI_1]
      have e : lastW cl w x (c + 1) = if (cl c).1 = w then (cl c).2.1 else lastW cl w x c := rfl
      rw [e] at this
      by_cases z : (cl c).1 = w
      · rw [if_pos z] at this
        rw [if_pos (by rw [z])]
        exact this
      · rw [if_neg z] at this
        rw [if_neg (fun q => z ((nI_eq (by omega) (by omega)).mp q))]
        exact this
