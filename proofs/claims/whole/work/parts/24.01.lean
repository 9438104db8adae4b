set_option maxRecDepth 20000 in
set_option maxHeartbeats 4000000 in
theorem e_lp_X5_moodBy_33_7_56 (d : Nat) (hs : List Hr) (P : Option Value → Hp → Prop) (S : St) : ∀ (n : Nat) (v2 : Int32) (v3 : Int32) (v4 : Int32) (q : Int32), lp_X5_moodBy_33_7 S 56 n v2 v3 v4 = some q → (WM mi_X5_moodBy (d + 1) P 136 [some (.ref 56), some (.ref 33), some (.int q), none, none, none] [] (st S hs)) → WM mi_X5_moodBy (d + 1) P 7 [some (.ref 56), some (.ref 33), some (.int v2), some (.int v3), some (.int v4), none] [] (st S hs) := by
  intro n
  induction n with
  | zero =>
    intro v2 v3 v4 q hl
    cases hl
  | succ n ih =>
    intro v2 v3 v4 q hl ct
    rw [lp_X5_moodBy_33_7] at hl
    refine Wp.stepsG 4 (fun cal X P' hk hX hP => ?_)
    show ((S.1 56 2) ≤ v4 → X (136, [some (.ref 56), some (.ref 33), some (.int v2), some (.int v3), some (.int v4), none], [], st S hs, 0, 0)) ∧ (¬ (S.1 56 2) ≤ v4 → X (16, [some (.ref 56), some (.ref 33), some (.int v2), some (.int v3), some (.int v4), none], [], st S hs, 0, 0))
    refine ⟨fun hc => hX _ ?_, fun hc => hX _ ?_⟩
    · clear hP hX hk P' X cal
      rw [if_pos hc] at hl
      have hl := Option.some.inj hl
      subst hl
      exact Wp.weak (leL.k (leL.k (leL.k (leL.n (leL.n (leL.k leL.z)))))) (ct)
    · clear hP hX hk P' X cal
      rw [if_neg hc] at hl
      refine Wp.stepsG 8 (fun cal X P' hk hX hP => ?_)
      show vp_in v4 100 ∧ X (28, [some (.ref 56), some (.ref 33), some (.int v2), some (.int v3), some (.int v4), some (.int (v3 &&& 1))], [.int ((S.1 57) v4.toNatClampNeg)], st S hs, 0, 0)
      obtain ⟨hg, hl⟩ := gd_some hl
      refine ⟨hg, hX _ ?_⟩
      clear hP hX hk P' X cal
      refine Wp.stepsG 1 (fun cal X P' hk hX hP => ?_)
      show (((S.1 57) v4.toNatClampNeg) = 18 → X (60, [some (.ref 56), some (.ref 33), some (.int v2), some (.int v3), some (.int v4), some (.int (v3 &&& 1))], [], st S hs, 0, 0)) ∧ (¬ ((S.1 57) v4.toNatClampNeg) = 18 → (((S.1 57) v4.toNatClampNeg) = 19 → X (67, [some (.ref 56), some (.ref 33), some (.int v2), some (.int v3), some (.int v4), some (.int (v3 &&& 1))], [], st S hs, 0, 0)) ∧ (¬ ((S.1 57) v4.toNatClampNeg) = 19 → (((S.1 57) v4.toNatClampNeg) = 20 → X (80, [some (.ref 56), some (.ref 33), some (.int v2), some (.int v3), some (.int v4), some (.int (v3 &&& 1))], [], st S hs, 0, 0)) ∧ (¬ ((S.1 57) v4.toNatClampNeg) = 20 → (((S.1 57) v4.toNatClampNeg) = 21 → X (90, [some (.ref 56), some (.ref 33), some (.int v2), some (.int v3), some (.int v4), some (.int (v3 &&& 1))], [], st S hs, 0, 0)) ∧ (¬ ((S.1 57) v4.toNatClampNeg) = 21 → X (110, [some (.ref 56), some (.ref 33), some (.int v2), some (.int v3), some (.int v4), some (.int (v3 &&& 1))], [], st S hs, 0, 0)))))
      refine ⟨fun hc => hX _ ?_, fun hc => ?_⟩
      · clear hP hX hk P' X cal
        rw [if_pos hc] at hl
        refine Wp.stepsG 7 (fun cal X P' hk hX hP => ?_)
        show X (7, [some (.ref 56), some (.ref 33), some (.int v2), some (.int (v3 ^^^ 1)), some (.int (v4 + 1)), some (.int (v3 &&& 1))], [], st S hs, 0, 0)
        refine hX _ ?_
        exact Wp.weak (leL.k (leL.k (leL.k (leL.k (leL.k (leL.n leL.z)))))) (ih v2 (v3 ^^^ 1) (v4 + 1) q hl ct)
      · rw [if_neg hc] at hl
        refine ⟨fun hc => hX _ ?_, fun hc => ?_⟩
        · clear hP hX hk P' X cal
          rw [if_pos hc] at hl
          refine Wp.stepsG 11 (fun cal X P' hk hX hP => ?_)
          show X (7, [some (.ref 56), some (.ref 33), some (.int v2), some (.int ((v3 >>> (1 &&& 31)) &&& ((v3 &&& 1) ||| (-2)))), some (.int (v4 + 1)), some (.int (v3 &&& 1))], [], st S hs, 0, 0)
          refine hX _ ?_
          exact Wp.weak (leL.k (leL.k (leL.k (leL.k (leL.k (leL.n leL.z)))))) (ih v2 ((v3 >>> (1 &&& 31)) &&& ((v3 &&& 1) ||| (-2))) (v4 + 1) q hl ct)
        · rw [if_neg hc] at hl
          refine ⟨fun hc => hX _ ?_, fun hc => ?_⟩
          · clear hP hX hk P' X cal
            rw [if_pos hc] at hl
            refine Wp.stepsG 9 (fun cal X P' hk hX hP => ?_)
            show X (7, [some (.ref 56), some (.ref 33), some (.int v2), some (.int ((v3 >>> (1 &&& 31)) ||| (v3 &&& 1))), some (.int (v4 + 1)), some (.int (v3 &&& 1))], [], st S hs, 0, 0)
            refine hX _ ?_
            exact Wp.weak (leL.k (leL.k (leL.k (leL.k (leL.k (leL.n leL.z)))))) (ih v2 ((v3 >>> (1 &&& 31)) ||| (v3 &&& 1)) (v4 + 1) q hl ct)
          · rw [if_neg hc] at hl
            refine ⟨fun hc => hX _ ?_, fun hc => hX _ ?_⟩
            · clear hP hX hk P' X cal
              rw [if_pos hc] at hl
              refine Wp.stepsG 10 (fun cal X P' hk hX hP => ?_)
              show vp_in v4 100 ∧ X (104, [some (.ref 56), some (.ref 33), some (.int v2), some (.int (v3 >>> (1 &&& 31))), some (.int v4), some (.int (v3 &&& 1))], [.int ((S.1 58) v4.toNatClampNeg), .int (v3 &&& 1), .int v2], st S hs, 0, 0)
              obtain ⟨hg, hl⟩ := gd_some hl
              refine ⟨hg, hX _ ?_⟩
              clear hP hX hk P' X cal
              refine Wp.stepsG 6 (fun cal X P' hk hX hP => ?_)
              show X (7, [some (.ref 56), some (.ref 33), some (.int (v2 + ((v3 &&& 1) * ((S.1 58) v4.toNatClampNeg)))), some (.int (v3 >>> (1 &&& 31))), some (.int (v4 + 1)), some (.int (v3 &&& 1))], [], st S hs, 0, 0)
              refine hX _ ?_
              exact Wp.weak (leL.k (leL.k (leL.k (leL.k (leL.k (leL.n leL.z)))))) (ih (v2 + ((v3 &&& 1) * ((S.1 58) v4.toNatClampNeg))) (v3 >>> (1 &&& 31)) (v4 + 1) q hl ct)
            · rw [if_neg hc] at hl
              clear hP hX hk P' X cal
              refine Wp.stepsG 7 (fun cal X P' hk hX hP => ?_)
              show kcall cal ix_X5_holds [.ref 56, .int v4, .ref 33] (st S hs) [.int (v3 <<< (1 &&& 31))] 0 0 (0, 0) (fun v σ' c' m' => X (120, [some (.ref 56), some (.ref 33), some (.int v2), some (.int v3), some (.int v4), some (.int (v3 &&& 1))], v.toList ++ [.int (v3 <<< (1 &&& 31))], σ', c', m'))
              obtain ⟨q1, hq1, hl⟩ := bd_some hl
              refine kcall0 rfl (hk _ _ _ _ _ _ (e_X5_holds_33_56 (d + 0) S hs v4 q1 hq1 _ ?_))
              show X (120, [some (.ref 56), some (.ref 33), some (.int v2), some (.int v3), some (.int v4), some (.int (v3 &&& 1))], [.int q1, .int (v3 <<< (1 &&& 31))], st S hs, 0, 0)
              refine hX _ ?_
              clear hP hX hk P' X cal
              refine Wp.stepsG 1 (fun cal X P' hk hX hP => ?_)
              show (q1 = 0 → X (127, [some (.ref 56), some (.ref 33), some (.int v2), some (.int v3), some (.int v4), some (.int (v3 &&& 1))], [.int (v3 <<< (1 &&& 31))], st S hs, 0, 0)) ∧ (¬ q1 = 0 → X (123, [some (.ref 56), some (.ref 33), some (.int v2), some (.int v3), some (.int v4), some (.int (v3 &&& 1))], [.int (v3 <<< (1 &&& 31))], st S hs, 0, 0))
              refine ⟨fun hc => hX _ ?_, fun hc => hX _ ?_⟩
              · clear hP hX hk P' X cal
                rw [if_pos hc] at hl
                refine Wp.stepsG 5 (fun cal X P' hk hX hP => ?_)
                show X (7, [some (.ref 56), some (.ref 33), some (.int v2), some (.int ((v3 <<< (1 &&& 31)) ||| 0)), some (.int (v4 + 1)), some (.int (v3 &&& 1))], [], st S hs, 0, 0)
                refine hX _ ?_
                exact Wp.weak (leL.k (leL.k (leL.k (leL.k (leL.k (leL.n leL.z)))))) (ih v2 ((v3 <<< (1 &&& 31)) ||| 0) (v4 + 1) q hl ct)
              · clear hP hX hk P' X cal
                rw [if_neg hc] at hl
                refine Wp.stepsG 6 (fun cal X P' hk hX hP => ?_)
                show X (7, [some (.ref 56), some (.ref 33), some (.int v2), some (.int ((v3 <<< (1 &&& 31)) ||| 1)), some (.int (v4 + 1)), some (.int (v3 &&& 1))], [], st S hs, 0, 0)
                refine hX _ ?_
                exact Wp.weak (leL.k (leL.k (leL.k (leL.k (leL.k (leL.n leL.z)))))) (ih v2 ((v3 <<< (1 &&& 31)) ||| 1) (v4 + 1) q hl ct)
set_option maxRecDepth 20000 in
set_option maxHeartbeats 4000000 in
theorem e_X5_moodBy_33_56 (d : Nat) (S : St) (hs : List Hr) (v : Int32) (hr : r_X5_moodBy_33 S 56 = some v) (P : Option Value → Hp → Prop) (h : P (some (.int v)) (st S hs)) : Ev (d + 2) ix_X5_moodBy 0 0 [.ref 56, .ref 33] (st S hs) P := by
  refine Ev.intro (M := mi_X5_moodBy) rfl (Nat.le_of_ble_eq_true rfl) ?_
  unfold r_X5_moodBy_33 at hr
  refine Wp.stepsG 6 (fun cal X P' hk hX hP => ?_)
  show X (7, [some (.ref 56), some (.ref 33), some (.int 0), some (.int 0), some (.int 0), none], [], st S hs, 0, 0)
  refine hX _ ?_
  clear hP hX hk P' X cal
  obtain ⟨q2, hq2, hr⟩ := bd_some hr
  refine (e_lp_X5_moodBy_33_7_56 d hs P S _ 0 0 0 q2 hq2 ?_)
  have hr := Option.some.inj hr
  subst hr
  refine Wp.stepsG 2 (fun cal X P' hk hX hP => ?_)
  exact hP _ _ h
set_option maxRecDepth 20000 in
set_option maxHeartbeats 4000000 in
theorem e_X5_holds_33_60 (d : Nat) (S : St) (hs : List Hr) (a1 : Int32) (v : Int32) (hr : r_X5_holds_33 S 60 a1 = some v) (P : Option Value → Hp → Prop) (h : P (some (.int v)) (st S hs)) : Ev (d + 1) ix_X5_holds 0 0 [.ref 60, .int a1, .ref 33] (st S hs) P := by
  refine Ev.intro (M := mi_X5_holds) rfl (Nat.le_of_ble_eq_true rfl) ?_
  unfold r_X5_holds_33 at hr
  refine Wp.stepsG 4 (fun cal X P' hk hX hP => ?_)
  show vp_in a1 100 ∧ X (6, [some (.ref 60), some (.int a1), some (.ref 33), none, none], [.int ((S.1 61) a1.toNatClampNeg)], st S hs, 0, 0)
  obtain ⟨hg, hr⟩ := gd_some hr
  refine ⟨hg, hX _ ?_⟩
  clear hP hX hk P' X cal
  refine Wp.stepsG 2 (fun cal X P' hk hX hP => ?_)
  show ¬ (3 : Int32) = 0 ∧ X (8, [some (.ref 60), some (.int a1), some (.ref 33), none, none], [.int (((S.1 61) a1.toNatClampNeg) / 3)], st S hs, 0, 0)
  refine ⟨(show ¬ (3 : Int32) = 0 from by decide), hX _ ?_⟩
  clear hP hX hk P' X cal
  refine Wp.stepsG 5 (fun cal X P' hk hX hP => ?_)
  show (6 ≤ (((S.1 61) a1.toNatClampNeg) / 3) → X (21, [some (.ref 60), some (.int a1), some (.ref 33), some (.int (((S.1 61) a1.toNatClampNeg) / 3)), none], [], st S hs, 0, 0)) ∧ (¬ 6 ≤ (((S.1 61) a1.toNatClampNeg) / 3) → X (15, [some (.ref 60), some (.int a1), some (.ref 33), some (.int (((S.1 61) a1.toNatClampNeg) / 3)), none], [], st S hs, 0, 0))
  refine ⟨fun hc => hX _ ?_, fun hc => hX _ ?_⟩
  · clear hP hX hk P' X cal
    rw [if_pos hc] at hr
    refine Wp.stepsG 6 (fun cal X P' hk hX hP => ?_)
    show vp_in a1 100 ∧ X (30, [some (.ref 60), some (.int a1), some (.ref 33), some (.int (((S.1 61) a1.toNatClampNeg) / 3)), some (.int 0)], [.int ((S.1 61) a1.toNatClampNeg)], st S hs, 0, 0)
    obtain ⟨hg, hr⟩ := gd_some hr
    refine ⟨hg, hX _ ?_⟩
    clear hP hX hk P' X cal
    refine Wp.stepsG 2 (fun cal X P' hk hX hP => ?_)
    show ¬ (3 : Int32) = 0 ∧ X (32, [some (.ref 60), some (.int a1), some (.ref 33), some (.int (((S.1 61) a1.toNatClampNeg) / 3)), some (.int 0)], [.int (((S.1 61) a1.toNatClampNeg) - ((S.1 61) a1.toNatClampNeg) / 3 * 3)], st S hs, 0, 0)
    refine ⟨(show ¬ (3 : Int32) = 0 from by decide), hX _ ?_⟩
    clear hP hX hk P' X cal
    refine Wp.stepsG 1 (fun cal X P' hk hX hP => ?_)
    show ((((S.1 61) a1.toNatClampNeg) - ((S.1 61) a1.toNatClampNeg) / 3 * 3) = 0 → X (60, [some (.ref 60), some (.int a1), some (.ref 33), some (.int (((S.1 61) a1.toNatClampNeg) / 3)), some (.int 0)], [], st S hs, 0, 0)) ∧ (¬ (((S.1 61) a1.toNatClampNeg) - ((S.1 61) a1.toNatClampNeg) / 3 * 3) = 0 → ((((S.1 61) a1.toNatClampNeg) - ((S.1 61) a1.toNatClampNeg) / 3 * 3) = 1 → X (77, [some (.ref 60), some (.int a1), some (.ref 33), some (.int (((S.1 61) a1.toNatClampNeg) / 3)), some (.int 0)], [], st S hs, 0, 0)) ∧ (¬ (((S.1 61) a1.toNatClampNeg) - ((S.1 61) a1.toNatClampNeg) / 3 * 3) = 1 → X (94, [some (.ref 60), some (.int a1), some (.ref 33), some (.int (((S.1 61) a1.toNatClampNeg) / 3)), some (.int 0)], [], st S hs, 0, 0)))
    refine ⟨fun hc => hX _ ?_, fun hc => ?_⟩
    · clear hP hX hk P' X cal
      rw [if_pos hc] at hr
      refine Wp.stepsG 5 (fun cal X P' hk hX hP => ?_)
      show vp_in a1 100 ∧ X (68, [some (.ref 60), some (.int a1), some (.ref 33), some (.int (((S.1 61) a1.toNatClampNeg) / 3)), some (.int 0)], [.int ((S.1 62) a1.toNatClampNeg), .int 0], st S hs, 0, 0)
      obtain ⟨hg, hr⟩ := gd_some hr
      refine ⟨hg, hX _ ?_⟩
      clear hP hX hk P' X cal
      refine Wp.stepsG 1 (fun cal X P' hk hX hP => ?_)
      show (((S.1 62) a1.toNatClampNeg) ≤ (0 : Int32) → X (75, [some (.ref 60), some (.int a1), some (.ref 33), some (.int (((S.1 61) a1.toNatClampNeg) / 3)), some (.int 0)], [], st S hs, 0, 0)) ∧ (¬ ((S.1 62) a1.toNatClampNeg) ≤ (0 : Int32) → X (71, [some (.ref 60), some (.int a1), some (.ref 33), some (.int (((S.1 61) a1.toNatClampNeg) / 3)), some (.int 0)], [], st S hs, 0, 0))
      refine ⟨fun hc => hX _ ?_, fun hc => hX _ ?_⟩
      · clear hP hX hk P' X cal
        rw [if_pos hc] at hr
        have hr := Option.some.inj hr
        subst hr
        refine Wp.stepsG 2 (fun cal X P' hk hX hP => ?_)
        exact ⟨Or.inl rfl, hP _ _ h⟩
      · clear hP hX hk P' X cal
        rw [if_neg hc] at hr
        have hr := Option.some.inj hr
        subst hr
        refine Wp.stepsG 3 (fun cal X P' hk hX hP => ?_)
        exact ⟨Or.inr rfl, hP _ _ h⟩
    · rw [if_neg hc] at hr
      refine ⟨fun hc => hX _ ?_, fun hc => hX _ ?_⟩
      · clear hP hX hk P' X cal
        rw [if_pos hc] at hr
        refine Wp.stepsG 5 (fun cal X P' hk hX hP => ?_)
        show vp_in a1 100 ∧ X (85, [some (.ref 60), some (.int a1), some (.ref 33), some (.int (((S.1 61) a1.toNatClampNeg) / 3)), some (.int 0)], [.int ((S.1 62) a1.toNatClampNeg), .int 0], st S hs, 0, 0)
        obtain ⟨hg, hr⟩ := gd_some hr
        refine ⟨hg, hX _ ?_⟩
        clear hP hX hk P' X cal
        refine Wp.stepsG 1 (fun cal X P' hk hX hP => ?_)
        show (¬ (0 : Int32) = ((S.1 62) a1.toNatClampNeg) → X (92, [some (.ref 60), some (.int a1), some (.ref 33), some (.int (((S.1 61) a1.toNatClampNeg) / 3)), some (.int 0)], [], st S hs, 0, 0)) ∧ ((0 : Int32) = ((S.1 62) a1.toNatClampNeg) → X (88, [some (.ref 60), some (.int a1), some (.ref 33), some (.int (((S.1 61) a1.toNatClampNeg) / 3)), some (.int 0)], [], st S hs, 0, 0))
        refine ⟨fun hc => hX _ ?_, fun hc => hX _ ?_⟩
        · clear hP hX hk P' X cal
          rw [if_neg hc] at hr
          have hr := Option.some.inj hr
          subst hr
          refine Wp.stepsG 2 (fun cal X P' hk hX hP => ?_)
          exact ⟨Or.inl rfl, hP _ _ h⟩
        · clear hP hX hk P' X cal
          rw [if_pos hc] at hr
          have hr := Option.some.inj hr
          subst hr
          refine Wp.stepsG 3 (fun cal X P' hk hX hP => ?_)
          exact ⟨Or.inr rfl, hP _ _ h⟩
      · rw [if_neg hc] at hr
        clear hP hX hk P' X cal
        refine Wp.stepsG 5 (fun cal X P' hk hX hP => ?_)
        show vp_in a1 100 ∧ X (102, [some (.ref 60), some (.int a1), some (.ref 33), some (.int (((S.1 61) a1.toNatClampNeg) / 3)), some (.int 0)], [.int ((S.1 62) a1.toNatClampNeg), .int 0], st S hs, 0, 0)
        obtain ⟨hg, hr⟩ := gd_some hr
        refine ⟨hg, hX _ ?_⟩
        clear hP hX hk P' X cal
        refine Wp.stepsG 1 (fun cal X P' hk hX hP => ?_)
        show ((0 : Int32) ≤ ((S.1 62) a1.toNatClampNeg) → X (109, [some (.ref 60), some (.int a1), some (.ref 33), some (.int (((S.1 61) a1.toNatClampNeg) / 3)), some (.int 0)], [], st S hs, 0, 0)) ∧ (¬ (0 : Int32) ≤ ((S.1 62) a1.toNatClampNeg) → X (105, [some (.ref 60), some (.int a1), some (.ref 33), some (.int (((S.1 61) a1.toNatClampNeg) / 3)), some (.int 0)], [], st S hs, 0, 0))
        refine ⟨fun hc => hX _ ?_, fun hc => hX _ ?_⟩
        · clear hP hX hk P' X cal
          rw [if_pos hc] at hr
          have hr := Option.some.inj hr
          subst hr
          refine Wp.stepsG 2 (fun cal X P' hk hX hP => ?_)
          exact ⟨Or.inl rfl, hP _ _ h⟩
        · clear hP hX hk P' X cal
          rw [if_neg hc] at hr
          have hr := Option.some.inj hr
          subst hr
          refine Wp.stepsG 3 (fun cal X P' hk hX hP => ?_)
          exact ⟨Or.inr rfl, hP _ _ h⟩
  · clear hP hX hk P' X cal
    rw [if_neg hc] at hr
    refine Wp.stepsG 3 (fun cal X P' hk hX hP => ?_)
    show vp_in (((S.1 61) a1.toNatClampNeg) / 3) 6 ∧ X (18, [some (.ref 60), some (.int a1), some (.ref 33), some (.int (((S.1 61) a1.toNatClampNeg) / 3)), none], [.int ((S.1 33) (((S.1 61) a1.toNatClampNeg) / 3).toNatClampNeg)], st S hs, 0, 0)
    obtain ⟨hg, hr⟩ := gd_some hr
    refine ⟨hg, hX _ ?_⟩
    clear hP hX hk P' X cal
    refine Wp.stepsG 6 (fun cal X P' hk hX hP => ?_)
    show vp_in a1 100 ∧ X (30, [some (.ref 60), some (.int a1), some (.ref 33), some (.int (((S.1 61) a1.toNatClampNeg) / 3)), some (.int ((S.1 33) (((S.1 61) a1.toNatClampNeg) / 3).toNatClampNeg))], [.int ((S.1 61) a1.toNatClampNeg)], st S hs, 0, 0)
    obtain ⟨hg, hr⟩ := gd_some hr
    refine ⟨hg, hX _ ?_⟩
    clear hP hX hk P' X cal
    refine Wp.stepsG 2 (fun cal X P' hk hX hP => ?_)
    show ¬ (3 : Int32) = 0 ∧ X (32, [some (.ref 60), some (.int a1), some (.ref 33), some (.int (((S.1 61) a1.toNatClampNeg) / 3)), some (.int ((S.1 33) (((S.1 61) a1.toNatClampNeg) / 3).toNatClampNeg))], [.int (((S.1 61) a1.toNatClampNeg) - ((S.1 61) a1.toNatClampNeg) / 3 * 3)], st S hs, 0, 0)
    refine ⟨(show ¬ (3 : Int32) = 0 from by decide), hX _ ?_⟩
    clear hP hX hk P' X cal
    refine Wp.stepsG 1 (fun cal X P' hk hX hP => ?_)
    show ((((S.1 61) a1.toNatClampNeg) - ((S.1 61) a1.toNatClampNeg) / 3 * 3) = 0 → X (60, [some (.ref 60), some (.int a1), some (.ref 33), some (.int (((S.1 61) a1.toNatClampNeg) / 3)), some (.int ((S.1 33) (((S.1 61) a1.toNatClampNeg) / 3).toNatClampNeg))], [], st S hs, 0, 0)) ∧ (¬ (((S.1 61) a1.toNatClampNeg) - ((S.1 61) a1.toNatClampNeg) / 3 * 3) = 0 → ((((S.1 61) a1.toNatClampNeg) - ((S.1 61) a1.toNatClampNeg) / 3 * 3) = 1 → X (77, [some (.ref 60), some (.int a1), some (.ref 33), some (.int (((S.1 61) a1.toNatClampNeg) / 3)), some (.int ((S.1 33) (((S.1 61) a1.toNatClampNeg) / 3).toNatClampNeg))], [], st S hs, 0, 0)) ∧ (¬ (((S.1 61) a1.toNatClampNeg) - ((S.1 61) a1.toNatClampNeg) / 3 * 3) = 1 → X (94, [some (.ref 60), some (.int a1), some (.ref 33), some (.int (((S.1 61) a1.toNatClampNeg) / 3)), some (.int ((S.1 33) (((S.1 61) a1.toNatClampNeg) / 3).toNatClampNeg))], [], st S hs, 0, 0)))
    refine ⟨fun hc => hX _ ?_, fun hc => ?_⟩
    · clear hP hX hk P' X cal
      rw [if_pos hc] at hr
      refine Wp.stepsG 5 (fun cal X P' hk hX hP => ?_)
      show vp_in a1 100 ∧ X (68, [some (.ref 60), some (.int a1), some (.ref 33), some (.int (((S.1 61) a1.toNatClampNeg) / 3)), some (.int ((S.1 33) (((S.1 61) a1.toNatClampNeg) / 3).toNatClampNeg))], [.int ((S.1 62) a1.toNatClampNeg), .int ((S.1 33) (((S.1 61) a1.toNatClampNeg) / 3).toNatClampNeg)], st S hs, 0, 0)
      obtain ⟨hg, hr⟩ := gd_some hr
      refine ⟨hg, hX _ ?_⟩
      clear hP hX hk P' X cal
      refine Wp.stepsG 1 (fun cal X P' hk hX hP => ?_)
      show (((S.1 62) a1.toNatClampNeg) ≤ ((S.1 33) (((S.1 61) a1.toNatClampNeg) / 3).toNatClampNeg) → X (75, [some (.ref 60), some (.int a1), some (.ref 33), some (.int (((S.1 61) a1.toNatClampNeg) / 3)), some (.int ((S.1 33) (((S.1 61) a1.toNatClampNeg) / 3).toNatClampNeg))], [], st S hs, 0, 0)) ∧ (¬ ((S.1 62) a1.toNatClampNeg) ≤ ((S.1 33) (((S.1 61) a1.toNatClampNeg) / 3).toNatClampNeg) → X (71, [some (.ref 60), some (.int a1), some (.ref 33), some (.int (((S.1 61) a1.toNatClampNeg) / 3)), some (.int ((S.1 33) (((S.1 61) a1.toNatClampNeg) / 3).toNatClampNeg))], [], st S hs, 0, 0))
      refine ⟨fun hc => hX _ ?_, fun hc => hX _ ?_⟩
      · clear hP hX hk P' X cal
        rw [if_pos hc] at hr
        have hr := Option.some.inj hr
        subst hr
        refine Wp.stepsG 2 (fun cal X P' hk hX hP => ?_)
        exact ⟨Or.inl rfl, hP _ _ h⟩
      · clear hP hX hk P' X cal
        rw [if_neg hc] at hr
        have hr := Option.some.inj hr
        subst hr
        refine Wp.stepsG 3 (fun cal X P' hk hX hP => ?_)
        exact ⟨Or.inr rfl, hP _ _ h⟩
    · rw [if_neg hc] at hr
      refine ⟨fun hc => hX _ ?_, fun hc => hX _ ?_⟩
      · clear hP hX hk P' X cal
        rw [if_pos hc] at hr
        refine Wp.stepsG 5 (fun cal X P' hk hX hP => ?_)
        show vp_in a1 100 ∧ X (85, [some (.ref 60), some (.int a1), some (.ref 33), some (.int (((S.1 61) a1.toNatClampNeg) / 3)), some (.int ((S.1 33) (((S.1 61) a1.toNatClampNeg) / 3).toNatClampNeg))], [.int ((S.1 62) a1.toNatClampNeg), .int ((S.1 33) (((S.1 61) a1.toNatClampNeg) / 3).toNatClampNeg)], st S hs, 0, 0)
        obtain ⟨hg, hr⟩ := gd_some hr
        refine ⟨hg, hX _ ?_⟩
        clear hP hX hk P' X cal
        refine Wp.stepsG 1 (fun cal X P' hk hX hP => ?_)
        show (¬ ((S.1 33) (((S.1 61) a1.toNatClampNeg) / 3).toNatClampNeg) = ((S.1 62) a1.toNatClampNeg) → X (92, [some (.ref 60), some (.int a1), some (.ref 33), some (.int (((S.1 61) a1.toNatClampNeg) / 3)), some (.int ((S.1 33) (((S.1 61) a1.toNatClampNeg) / 3).toNatClampNeg))], [], st S hs, 0, 0)) ∧ (((S.1 33) (((S.1 61) a1.toNatClampNeg) / 3).toNatClampNeg) = ((S.1 62) a1.toNatClampNeg) → X (88, [some (.ref 60), some (.int a1), some (.ref 33), some (.int (((S.1 61) a1.toNatClampNeg) / 3)), some (.int ((S.1 33) (((S.1 61) a1.toNatClampNeg) / 3).toNatClampNeg))], [], st S hs, 0, 0))
        refine ⟨fun hc => hX _ ?_, fun hc => hX _ ?_⟩
        · clear hP hX hk P' X cal
          rw [if_neg hc] at hr
          have hr := Option.some.inj hr
          subst hr
          refine Wp.stepsG 2 (fun cal X P' hk hX hP => ?_)
          exact ⟨Or.inl rfl, hP _ _ h⟩
        · clear hP hX hk P' X cal
          rw [if_pos hc] at hr
          have hr := Option.some.inj hr
          subst hr
          refine Wp.stepsG 3 (fun cal X P' hk hX hP => ?_)
          exact ⟨Or.inr rfl, hP _ _ h⟩
      · rw [if_neg hc] at hr
        clear hP hX hk P' X cal
        refine Wp.stepsG 5 (fun cal X P' hk hX hP => ?_)
        show vp_in a1 100 ∧ X (102, [some (.ref 60), some (.int a1), some (.ref 33), some (.int (((S.1 61) a1.toNatClampNeg) / 3)), some (.int ((S.1 33) (((S.1 61) a1.toNatClampNeg) / 3).toNatClampNeg))], [.int ((S.1 62) a1.toNatClampNeg), .int ((S.1 33) (((S.1 61) a1.toNatClampNeg) / 3).toNatClampNeg)], st S hs, 0, 0)
        obtain ⟨hg, hr⟩ := gd_some hr
        refine ⟨hg, hX _ ?_⟩
        clear hP hX hk P' X cal
        refine Wp.stepsG 1 (fun cal X P' hk hX hP => ?_)
        show (((S.1 33) (((S.1 61) a1.toNatClampNeg) / 3).toNatClampNeg) ≤ ((S.1 62) a1.toNatClampNeg) → X (109, [some (.ref 60), some (.int a1), some (.ref 33), some (.int (((S.1 61) a1.toNatClampNeg) / 3)), some (.int ((S.1 33) (((S.1 61) a1.toNatClampNeg) / 3).toNatClampNeg))], [], st S hs, 0, 0)) ∧ (¬ ((S.1 33) (((S.1 61) a1.toNatClampNeg) / 3).toNatClampNeg) ≤ ((S.1 62) a1.toNatClampNeg) → X (105, [some (.ref 60), some (.int a1), some (.ref 33), some (.int (((S.1 61) a1.toNatClampNeg) / 3)), some (.int ((S.1 33) (((S.1 61) a1.toNatClampNeg) / 3).toNatClampNeg))], [], st S hs, 0, 0))
        refine ⟨fun hc => hX _ ?_, fun hc => hX _ ?_⟩
        · clear hP hX hk P' X cal
          rw [if_pos hc] at hr
          have hr := Option.some.inj hr
          subst hr
          refine Wp.stepsG 2 (fun cal X P' hk hX hP => ?_)
          exact ⟨Or.inl rfl, hP _ _ h⟩
        · clear hP hX hk P' X cal
          rw [if_neg hc] at hr
          have hr := Option.some.inj hr
          subst hr
          refine Wp.stepsG 3 (fun cal X P' hk hX hP => ?_)
          exact ⟨Or.inr rfl, hP _ _ h⟩
set_option maxRecDepth 20000 in
set_option maxHeartbeats 4000000 in
theorem e_lp_X5_moodBy_33_7_60 (d : Nat) (hs : List Hr) (P : Option Value → Hp → Prop) (S : St) : ∀ (n : Nat) (v2 : Int32) (v3 : Int32) (v4 : Int32) (q : Int32), lp_X5_moodBy_33_7 S 60 n v2 v3 v4 = some q → (WM mi_X5_moodBy (d + 1) P 136 [some (.ref 60), some (.ref 33), some (.int q), none, none, none] [] (st S hs)) → WM mi_X5_moodBy (d + 1) P 7 [some (.ref 60), some (.ref 33), some (.int v2), some (.int v3), some (.int v4), none] [] (st S hs) := by
  intro n
  induction n with
  | zero =>
    intro v2 v3 v4 q hl
    cases hl
  | succ n ih =>
    intro v2 v3 v4 q hl ct
    rw [lp_X5_moodBy_33_7] at hl
    refine Wp.stepsG 4 (fun cal X P' hk hX hP => ?_)
    show ((S.1 60 2) ≤ v4 → X (136, [some (.ref 60), some (.ref 33), some (.int v2), some (.int v3), some (.int v4), none], [], st S hs, 0, 0)) ∧ (¬ (S.1 60 2) ≤ v4 → X (16, [some (.ref 60), some (.ref 33), some (.int v2), some (.int v3), some (.int v4), none], [], st S hs, 0, 0))
    refine ⟨fun hc => hX _ ?_, fun hc => hX _ ?_⟩
    · clear hP hX hk P' X cal
      rw [if_pos hc] at hl
      have hl := Option.some.inj hl
      subst hl
      exact Wp.weak (leL.k (leL.k (leL.k (leL.n (leL.n (leL.k leL.z)))))) (ct)
    · clear hP hX hk P' X cal
      rw [if_neg hc] at hl
      refine Wp.stepsG 8 (fun cal X P' hk hX hP => ?_)
      show vp_in v4 100 ∧ X (28, [some (.ref 60), some (.ref 33), some (.int v2), some (.int v3), some (.int v4), some (.int (v3 &&& 1))], [.int ((S.1 61) v4.toNatClampNeg)], st S hs, 0, 0)
      obtain ⟨hg, hl⟩ := gd_some hl
      refine ⟨hg, hX _ ?_⟩
      clear hP hX hk P' X cal
      refine Wp.stepsG 1 (fun cal X P' hk hX hP => ?_)
      show (((S.1 61) v4.toNatClampNeg) = 18 → X (60, [some (.ref 60), some (.ref 33), some (.int v2), some (.int v3), some (.int v4), some (.int (v3 &&& 1))], [], st S hs, 0, 0)) ∧ (¬ ((S.1 61) v4.toNatClampNeg) = 18 → (((S.1 61) v4.toNatClampNeg) = 19 → X (67, [some (.ref 60), some (.ref 33), some (.int v2), some (.int v3), some (.int v4), some (.int (v3 &&& 1))], [], st S hs, 0, 0)) ∧ (¬ ((S.1 61) v4.toNatClampNeg) = 19 → (((S.1 61) v4.toNatClampNeg) = 20 → X (80, [some (.ref 60), some (.ref 33), some (.int v2), some (.int v3), some (.int v4), some (.int (v3 &&& 1))], [], st S hs, 0, 0)) ∧ (¬ ((S.1 61) v4.toNatClampNeg) = 20 → (((S.1 61) v4.toNatClampNeg) = 21 → X (90, [some (.ref 60), some (.ref 33), some (.int v2), some (.int v3), some (.int v4), some (.int (v3 &&& 1))], [], st S hs, 0, 0)) ∧ (¬ ((S.1 61) v4.toNatClampNeg) = 21 → X (110, [some (.ref 60), some (.ref 33), some (.int v2), some (.int v3), some (.int v4), some (.int (v3 &&& 1))], [], st S hs, 0, 0)))))
      refine ⟨fun hc => hX _ ?_, fun hc => ?_⟩
      · clear hP hX hk P' X cal
        rw [if_pos hc] at hl
        refine Wp.stepsG 7 (fun cal X P' hk hX hP => ?_)
        show X (7, [some (.ref 60), some (.ref 33), some (.int v2), some (.int (v3 ^^^ 1)), some (.int (v4 + 1)), some (.int (v3 &&& 1))], [], st S hs, 0, 0)
        refine hX _ ?_
        exact Wp.weak (leL.k (leL.k (leL.k (leL.k (leL.k (leL.n leL.z)))))) (ih v2 (v3 ^^^ 1) (v4 + 1) q hl ct)
      · rw [if_neg hc] at hl
        refine ⟨fun hc => hX _ ?_, fun hc => ?_⟩
        · clear hP hX hk P' X cal
          rw [if_pos hc] at hl
          refine Wp.stepsG 11 (fun cal X P' hk hX hP => ?_)
          show X (7, [some (.ref 60), some (.ref 33), some (.int v2), some (.int ((v3 >>> (1 &&& 31)) &&& ((v3 &&& 1) ||| (-2)))), some (.int (v4 + 1)), some (.int (v3 &&& 1))], [], st S hs, 0, 0)
          refine hX _ ?_
          exact Wp.weak (leL.k (leL.k (leL.k (leL.k (leL.k (leL.n leL.z)))))) (ih v2 ((v3 >>> (1 &&& 31)) &&& ((v3 &&& 1) ||| (-2))) (v4 + 1) q hl ct)
        · rw [if_neg hc] at hl
          refine ⟨fun hc => hX _ ?_, fun hc => ?_⟩
          · clear hP hX hk P' X cal
            rw [if_pos hc] at hl
            refine Wp.stepsG 9 (fun cal X P' hk hX hP => ?_)
            show X (7, [some (.ref 60), some (.ref 33), some (.int v2), some (.int ((v3 >>> (1 &&& 31)) ||| (v3 &&& 1))), some (.int (v4 + 1)), some (.int (v3 &&& 1))], [], st S hs, 0, 0)
            refine hX _ ?_
            exact Wp.weak (leL.k (leL.k (leL.k (leL.k (leL.k (leL.n leL.z)))))) (ih v2 ((v3 >>> (1 &&& 31)) ||| (v3 &&& 1)) (v4 + 1) q hl ct)
          · rw [if_neg hc] at hl
            refine ⟨fun hc => hX _ ?_, fun hc => hX _ ?_⟩
            · clear hP hX hk P' X cal
              rw [if_pos hc] at hl
              refine Wp.stepsG 10 (fun cal X P' hk hX hP => ?_)
              show vp_in v4 100 ∧ X (104, [some (.ref 60), some (.ref 33), some (.int v2), some (.int (v3 >>> (1 &&& 31))), some (.int v4), some (.int (v3 &&& 1))], [.int ((S.1 62) v4.toNatClampNeg), .int (v3 &&& 1), .int v2], st S hs, 0, 0)
              obtain ⟨hg, hl⟩ := gd_some hl
              refine ⟨hg, hX _ ?_⟩
              clear hP hX hk P' X cal
              refine Wp.stepsG 6 (fun cal X P' hk hX hP => ?_)
              show X (7, [some (.ref 60), some (.ref 33), some (.int (v2 + ((v3 &&& 1) * ((S.1 62) v4.toNatClampNeg)))), some (.int (v3 >>> (1 &&& 31))), some (.int (v4 + 1)), some (.int (v3 &&& 1))], [], st S hs, 0, 0)
              refine hX _ ?_
              exact Wp.weak (leL.k (leL.k (leL.k (leL.k (leL.k (leL.n leL.z)))))) (ih (v2 + ((v3 &&& 1) * ((S.1 62) v4.toNatClampNeg))) (v3 >>> (1 &&& 31)) (v4 + 1) q hl ct)
            · rw [if_neg hc] at hl
              clear hP hX hk P' X cal
              refine Wp.stepsG 7 (fun cal X P' hk hX hP => ?_)
              show kcall cal ix_X5_holds [.ref 60, .int v4, .ref 33] (st S hs) [.int (v3 <<< (1 &&& 31))] 0 0 (0, 0) (fun v σ' c' m' => X (120, [some (.ref 60), some (.ref 33), some (.int v2), some (.int v3), some (.int v4), some (.int (v3 &&& 1))], v.toList ++ [.int (v3 <<< (1 &&& 31))], σ', c', m'))
              obtain ⟨q1, hq1, hl⟩ := bd_some hl
              refine kcall0 rfl (hk _ _ _ _ _ _ (e_X5_holds_33_60 (d + 0) S hs v4 q1 hq1 _ ?_))
              show X (120, [some (.ref 60), some (.ref 33), some (.int v2), some (.int v3), some (.int v4), some (.int (v3 &&& 1))], [.int q1, .int (v3 <<< (1 &&& 31))], st S hs, 0, 0)
              refine hX _ ?_
              clear hP hX hk P' X cal
              refine Wp.stepsG 1 (fun cal X P' hk hX hP => ?_)
              show (q1 = 0 → X (127, [some (.ref 60), some (.ref 33), some (.int v2), some (.int v3), some (.int v4), some (.int (v3 &&& 1))], [.int (v3 <<< (1 &&& 31))], st S hs, 0, 0)) ∧ (¬ q1 = 0 → X (123, [some (.ref 60), some (.ref 33), some (.int v2), some (.int v3), some (.int v4), some (.int (v3 &&& 1))], [.int (v3 <<< (1 &&& 31))], st S hs, 0, 0))
              refine ⟨fun hc => hX _ ?_, fun hc => hX _ ?_⟩
              · clear hP hX hk P' X cal
                rw [if_pos hc] at hl
                refine Wp.stepsG 5 (fun cal X P' hk hX hP => ?_)
                show X (7, [some (.ref 60), some (.ref 33), some (.int v2), some (.int ((v3 <<< (1 &&& 31)) ||| 0)), some (.int (v4 + 1)), some (.int (v3 &&& 1))], [], st S hs, 0, 0)
                refine hX _ ?_
                exact Wp.weak (leL.k (leL.k (leL.k (leL.k (leL.k (leL.n leL.z)))))) (ih v2 ((v3 <<< (1 &&& 31)) ||| 0) (v4 + 1) q hl ct)
              · clear hP hX hk P' X cal
                rw [if_neg hc] at hl
                refine Wp.stepsG 6 (fun cal X P' hk hX hP => ?_)
                show X (7, [some (.ref 60), some (.ref 33), some (.int v2), some (.int ((v3 <<< (1 &&& 31)) ||| 1)), some (.int (v4 + 1)), some (.int (v3 &&& 1))], [], st S hs, 0, 0)
                refine hX _ ?_
                exact Wp.weak (leL.k (leL.k (leL.k (leL.k (leL.k (leL.n leL.z)))))) (ih v2 ((v3 <<< (1 &&& 31)) ||| 1) (v4 + 1) q hl ct)
set_option maxRecDepth 20000 in
set_option maxHeartbeats 4000000 in
theorem e_X5_moodBy_33_60 (d : Nat) (S : St) (hs : List Hr) (v : Int32) (hr : r_X5_moodBy_33 S 60 = some v) (P : Option Value → Hp → Prop) (h : P (some (.int v)) (st S hs)) : Ev (d + 2) ix_X5_moodBy 0 0 [.ref 60, .ref 33] (st S hs) P := by
  refine Ev.intro (M := mi_X5_moodBy) rfl (Nat.le_of_ble_eq_true rfl) ?_
  unfold r_X5_moodBy_33 at hr
  refine Wp.stepsG 6 (fun cal X P' hk hX hP => ?_)
  show X (7, [some (.ref 60), some (.ref 33), some (.int 0), some (.int 0), some (.int 0), none], [], st S hs, 0, 0)
  refine hX _ ?_
  clear hP hX hk P' X cal
  obtain ⟨q2, hq2, hr⟩ := bd_some hr
  refine (e_lp_X5_moodBy_33_7_60 d hs P S _ 0 0 0 q2 hq2 ?_)
  have hr := Option.some.inj hr
  subst hr
  refine Wp.stepsG 2 (fun cal X P' hk hX hP => ?_)
  exact hP _ _ h
def r_X11_moodThen (S : St) (q : Hr) (a2 : Int32) (a3 : Int32) (a4 : Int32) : Option (Int32 × St) :=
  (r_X11_holding S).bind fun q1 =>
  oN (q1) (
    some (0, S)) (fun o =>
    wS (sA S 33 (upd (S.1 33) (0 : Int32).toNatClampNeg q.2.2.1)) fun S2 =>
    wS (sA S2 33 (upd (S2.1 33) (1 : Int32).toNatClampNeg q.2.1)) fun S3 =>
    gd (¬ (a2 < 0 ∨ 8 ≤ a2.toNatClampNeg)) (
      wS (sA S3 33 (upd (S3.1 33) (2 : Int32).toNatClampNeg a2)) fun S4 =>
      wS (sA S4 33 (upd (S4.1 33) (3 : Int32).toNatClampNeg ((S3.1 9) a2.toNatClampNeg))) fun S5 =>
      wS (sA S5 33 (upd (S5.1 33) (4 : Int32).toNatClampNeg (if 99 < a3 then 99 else a3))) fun S6 =>
      (r_X5_moodBy_33 (sA S6 33 (upd (S6.1 33) (5 : Int32).toNatClampNeg (a4 - a4 / 7 * 7))) o).bind fun q7 =>
      some (q7, sA S6 33 (upd (S6.1 33) (5 : Int32).toNatClampNeg (a4 - a4 / 7 * 7)))))
set_option maxRecDepth 20000 in
set_option maxHeartbeats 4000000 in
theorem e_X11_moodThen (d : Nat) (S : St) (hs : List Hr) (a : Nat) (q : Hr) (ha : ∀ S, gH (st S hs) a = some (hrC q)) (fa : isFam q.1 = true) (a2 : Int32) (a3 : Int32) (a4 : Int32) (v : Int32 × St) (hr : r_X11_moodThen S q a2 a3 a4 = some v) (P : Option Value → Hp → Prop) (h : P (some (.int v.1)) (st v.2 hs)) : Ev (d + 3) ix_X11_moodThen 0 0 [.ref 7, .ref a, .int a2, .int a3, .int a4] (st S hs) P := by
  refine Ev.intro (M := mi_X11_moodThen) rfl (Nat.le_of_ble_eq_true rfl) ?_
  unfold r_X11_moodThen at hr
  refine Wp.stepsG 2 (fun cal X P' hk hX hP => ?_)
  show kcall cal ix_X11_holding [.ref 7] (st S hs) [] 0 0 (0, 0) (fun v σ' c' m' => X (4, [some (.ref 7), some (.ref a), some (.int a2), some (.int a3), some (.int a4), none], v.toList ++ [], σ', c', m'))
  obtain ⟨q1, hq1, hr⟩ := bd_some hr
  refine kcall0 rfl (hk _ _ _ _ _ _ (e_X11_holding (d + 0) S hs q1 hq1 _ ?_))
  show X (4, [some (.ref 7), some (.ref a), some (.int a2), some (.int a3), some (.int a4), none], [va_rf q1], st S hs, 0, 0)
  refine hX _ ?_
  clear hP hX hk P' X cal
  rcases c_X11_holding hq1 with hz44 | hz44 | hz44 | hz44 | hz44 | hz44 | hz44
  · rw [hz44]
    rw [oN_no hz44] at hr
    have hr := Option.some.inj hr
    subst hr
    refine Wp.stepsG 5 (fun cal X P' hk hX hP => ?_)
    exact hP _ _ h
  · rw [hz44]
    rw [oN_is hz44] at hr
    refine Wp.stepsG 8 (fun cal X P' hk hX hP => ?_)
    refine kObj_at (ha _) (kB_at (fam3 fa) ?_)
    show X (22, [some (.ref 7), some (.ref a), some (.int a2), some (.int a3), some (.int a4), some (.ref 40)], [.int q.2.2.1, .int 0, .ref 33], st S hs, 0, 0)
    refine hX _ ?_
    clear hP hX hk P' X cal
    refine Wp.stepsG 1 (fun cal X P' hk hX hP => ?_)
    show vp_in (0 : Int32) 6 ∧ X (23, [some (.ref 7), some (.ref a), some (.int a2), some (.int a3), some (.int a4), some (.ref 40)], [], st (sA S 33 (upd (S.1 33) (0 : Int32).toNatClampNeg q.2.2.1)) hs, 0, 0)
    refine ⟨(show ¬ ((0 : Int32) < 0 ∨ 6 ≤ (0 : Int32).toNatClampNeg) from by decide), hX _ ?_⟩
    clear hP hX hk P' X cal
    refine Wp.stepsG 5 (fun cal X P' hk hX hP => ?_)
    refine kObj_at (ha _) (kB_at (fam3 fa) ?_)
    show X (32, [some (.ref 7), some (.ref a), some (.int a2), some (.int a3), some (.int a4), some (.ref 40)], [.int q.2.1, .int 1, .ref 33], st (sA S 33 (upd (S.1 33) (0 : Int32).toNatClampNeg q.2.2.1)) hs, 0, 0)
    refine hX _ ?_
    clear hP hX hk P' X cal
    obtain ⟨S8, hS8, hr⟩ := wS_some hr
    rw [hS8]
    refine Wp.stepsG 1 (fun cal X P' hk hX hP => ?_)
    show vp_in (1 : Int32) 6 ∧ X (33, [some (.ref 7), some (.ref a), some (.int a2), some (.int a3), some (.int a4), some (.ref 40)], [], st (sA S8 33 (upd (S8.1 33) (1 : Int32).toNatClampNeg q.2.1)) hs, 0, 0)
    refine ⟨(show ¬ ((1 : Int32) < 0 ∨ 6 ≤ (1 : Int32).toNatClampNeg) from by decide), hX _ ?_⟩
    clear hP hX hk P' X cal
    refine Wp.stepsG 4 (fun cal X P' hk hX hP => ?_)
    show X (39, [some (.ref 7), some (.ref a), some (.int a2), some (.int a3), some (.int a4), some (.ref 40)], [.int a2, .int 2, .ref 33], st (sA S8 33 (upd (S8.1 33) (1 : Int32).toNatClampNeg q.2.1)) hs, 0, 0)
    refine hX _ ?_
    clear hP hX hk P' X cal
    obtain ⟨S9, hS9, hr⟩ := wS_some hr
    rw [hS9]
    refine Wp.stepsG 1 (fun cal X P' hk hX hP => ?_)
    show vp_in (2 : Int32) 6 ∧ X (40, [some (.ref 7), some (.ref a), some (.int a2), some (.int a3), some (.int a4), some (.ref 40)], [], st (sA S9 33 (upd (S9.1 33) (2 : Int32).toNatClampNeg a2)) hs, 0, 0)
    refine ⟨(show ¬ ((2 : Int32) < 0 ∨ 6 ≤ (2 : Int32).toNatClampNeg) from by decide), hX _ ?_⟩
    clear hP hX hk P' X cal
    refine Wp.stepsG 8 (fun cal X P' hk hX hP => ?_)
    show vp_in a2 8 ∧ X (54, [some (.ref 7), some (.ref a), some (.int a2), some (.int a3), some (.int a4), some (.ref 40)], [.int ((S9.1 9) a2.toNatClampNeg), .int 3, .ref 33], st (sA S9 33 (upd (S9.1 33) (2 : Int32).toNatClampNeg a2)) hs, 0, 0)
    obtain ⟨hg, hr⟩ := gd_some hr
    refine ⟨hg, hX _ ?_⟩
    clear hP hX hk P' X cal
    obtain ⟨S10, hS10, hr⟩ := wS_some hr
    rw [hS10]
    refine Wp.stepsG 1 (fun cal X P' hk hX hP => ?_)
    show vp_in (3 : Int32) 6 ∧ X (55, [some (.ref 7), some (.ref a), some (.int a2), some (.int a3), some (.int a4), some (.ref 40)], [], st (sA S10 33 (upd (S10.1 33) (3 : Int32).toNatClampNeg ((S9.1 9) a2.toNatClampNeg))) hs, 0, 0)
    refine ⟨(show ¬ ((3 : Int32) < 0 ∨ 6 ≤ (3 : Int32).toNatClampNeg) from by decide), hX _ ?_⟩
    clear hP hX hk P' X cal
    refine Wp.stepsG 6 (fun cal X P' hk hX hP => ?_)
    show X (66, [some (.ref 7), some (.ref a), some (.int a2), some (.int a3), some (.int a4), some (.ref 40)], [.int (if 99 < a3 then 99 else a3), .int 4, .ref 33], st (sA S10 33 (upd (S10.1 33) (3 : Int32).toNatClampNeg ((S9.1 9) a2.toNatClampNeg))) hs, 0, 0)
    refine hX _ ?_
    clear hP hX hk P' X cal
    obtain ⟨S11, hS11, hr⟩ := wS_some hr
    rw [hS11]
    refine Wp.stepsG 1 (fun cal X P' hk hX hP => ?_)
    show vp_in (4 : Int32) 6 ∧ X (67, [some (.ref 7), some (.ref a), some (.int a2), some (.int a3), some (.int a4), some (.ref 40)], [], st (sA S11 33 (upd (S11.1 33) (4 : Int32).toNatClampNeg (if 99 < a3 then 99 else a3))) hs, 0, 0)
    refine ⟨(show ¬ ((4 : Int32) < 0 ∨ 6 ≤ (4 : Int32).toNatClampNeg) from by decide), hX _ ?_⟩
    clear hP hX hk P' X cal
    refine Wp.stepsG 6 (fun cal X P' hk hX hP => ?_)
    show ¬ (7 : Int32) = 0 ∧ X (77, [some (.ref 7), some (.ref a), some (.int a2), some (.int a3), some (.int a4), some (.ref 40)], [.int (a4 - a4 / 7 * 7), .int 5, .ref 33], st (sA S11 33 (upd (S11.1 33) (4 : Int32).toNatClampNeg (if 99 < a3 then 99 else a3))) hs, 0, 0)
    refine ⟨(show ¬ (7 : Int32) = 0 from by decide), hX _ ?_⟩
    clear hP hX hk P' X cal
    obtain ⟨S12, hS12, hr⟩ := wS_some hr
    rw [hS12]
    refine Wp.stepsG 1 (fun cal X P' hk hX hP => ?_)
    show vp_in (5 : Int32) 6 ∧ X (78, [some (.ref 7), some (.ref a), some (.int a2), some (.int a3), some (.int a4), some (.ref 40)], [], st (sA S12 33 (upd (S12.1 33) (5 : Int32).toNatClampNeg (a4 - a4 / 7 * 7))) hs, 0, 0)
    refine ⟨(show ¬ ((5 : Int32) < 0 ∨ 6 ≤ (5 : Int32).toNatClampNeg) from by decide), hX _ ?_⟩
    clear hP hX hk P' X cal
    refine Wp.stepsG 4 (fun cal X P' hk hX hP => ?_)
    show kcall cal ix_X5_moodBy [.ref 40, .ref 33] (st (sA S12 33 (upd (S12.1 33) (5 : Int32).toNatClampNeg (a4 - a4 / 7 * 7))) hs) [] 0 0 (0, 0) (fun v σ' c' m' => X (87, [some (.ref 7), some (.ref a), some (.int a2), some (.int a3), some (.int a4), some (.ref 40)], v.toList ++ [], σ', c', m'))
    obtain ⟨q13, hq13, hr⟩ := bd_some hr
    refine kcall0 rfl (hk _ _ _ _ _ _ (e_X5_moodBy_33_40 (d + 0) (sA S12 33 (upd (S12.1 33) (5 : Int32).toNatClampNeg (a4 - a4 / 7 * 7))) hs q13 hq13 _ ?_))
    show X (87, [some (.ref 7), some (.ref a), some (.int a2), some (.int a3), some (.int a4), some (.ref 40)], [.int q13], st (sA S12 33 (upd (S12.1 33) (5 : Int32).toNatClampNeg (a4 - a4 / 7 * 7))) hs, 0, 0)
    refine hX _ ?_
    clear hP hX hk P' X cal
    have hr := Option.some.inj hr
    subst hr
    refine Wp.stepsG 1 (fun cal X P' hk hX hP => ?_)
    exact hP _ _ h
  · rw [hz44]
    rw [oN_is hz44] at hr
    refine Wp.stepsG 8 (fun cal X P' hk hX hP => ?_)
    refine kObj_at (ha _) (kB_at (fam3 fa) ?_)
    show X (22, [some (.ref 7), some (.ref a), some (.int a2), some (.int a3), some (.int a4), some (.ref 44)], [.int q.2.2.1, .int 0, .ref 33], st S hs, 0, 0)
    refine hX _ ?_
    clear hP hX hk P' X cal
    refine Wp.stepsG 1 (fun cal X P' hk hX hP => ?_)
    show vp_in (0 : Int32) 6 ∧ X (23, [some (.ref 7), some (.ref a), some (.int a2), some (.int a3), some (.int a4), some (.ref 44)], [], st (sA S 33 (upd (S.1 33) (0 : Int32).toNatClampNeg q.2.2.1)) hs, 0, 0)
    refine ⟨(show ¬ ((0 : Int32) < 0 ∨ 6 ≤ (0 : Int32).toNatClampNeg) from by decide), hX _ ?_⟩
    clear hP hX hk P' X cal
    refine Wp.stepsG 5 (fun cal X P' hk hX hP => ?_)
    refine kObj_at (ha _) (kB_at (fam3 fa) ?_)
    show X (32, [some (.ref 7), some (.ref a), some (.int a2), some (.int a3), some (.int a4), some (.ref 44)], [.int q.2.1, .int 1, .ref 33], st (sA S 33 (upd (S.1 33) (0 : Int32).toNatClampNeg q.2.2.1)) hs, 0, 0)
    refine hX _ ?_
    clear hP hX hk P' X cal
    obtain ⟨S14, hS14, hr⟩ := wS_some hr
    rw [hS14]
    refine Wp.stepsG 1 (fun cal X P' hk hX hP => ?_)
    show vp_in (1 : Int32) 6 ∧ X (33, [some (.ref 7), some (.ref a), some (.int a2), some (.int a3), some (.int a4), some (.ref 44)], [], st (sA S14 33 (upd (S14.1 33) (1 : Int32).toNatClampNeg q.2.1)) hs, 0, 0)
    refine ⟨(show ¬ ((1 : Int32) < 0 ∨ 6 ≤ (1 : Int32).toNatClampNeg) from by decide), hX _ ?_⟩
    clear hP hX hk P' X cal
    refine Wp.stepsG 4 (fun cal X P' hk hX hP => ?_)
    show X (39, [some (.ref 7), some (.ref a), some (.int a2), some (.int a3), some (.int a4), some (.ref 44)], [.int a2, .int 2, .ref 33], st (sA S14 33 (upd (S14.1 33) (1 : Int32).toNatClampNeg q.2.1)) hs, 0, 0)
    refine hX _ ?_
    clear hP hX hk P' X cal
    obtain ⟨S15, hS15, hr⟩ := wS_some hr
    rw [hS15]
    refine Wp.stepsG 1 (fun cal X P' hk hX hP => ?_)
    show vp_in (2 : Int32) 6 ∧ X (40, [some (.ref 7), some (.ref a), some (.int a2), some (.int a3), some (.int a4), some (.ref 44)], [], st (sA S15 33 (upd (S15.1 33) (2 : Int32).toNatClampNeg a2)) hs, 0, 0)
    refine ⟨(show ¬ ((2 : Int32) < 0 ∨ 6 ≤ (2 : Int32).toNatClampNeg) from by decide), hX _ ?_⟩
    clear hP hX hk P' X cal
    refine Wp.stepsG 8 (fun cal X P' hk hX hP => ?_)
    show vp_in a2 8 ∧ X (54, [some (.ref 7), some (.ref a), some (.int a2), some (.int a3), some (.int a4), some (.ref 44)], [.int ((S15.1 9) a2.toNatClampNeg), .int 3, .ref 33], st (sA S15 33 (upd (S15.1 33) (2 : Int32).toNatClampNeg a2)) hs, 0, 0)
    obtain ⟨hg, hr⟩ := gd_some hr
    refine ⟨hg, hX _ ?_⟩
    clear hP hX hk P' X cal
    obtain ⟨S16, hS16, hr⟩ := wS_some hr
    rw [hS16]
    refine Wp.stepsG 1 (fun cal X P' hk hX hP => ?_)
    show vp_in (3 : Int32) 6 ∧ X (55, [some (.ref 7), some (.ref a), some (.int a2), some (.int a3), some (.int a4), some (.ref 44)], [], st (sA S16 33 (upd (S16.1 33) (3 : Int32).toNatClampNeg ((S15.1 9) a2.toNatClampNeg))) hs, 0, 0)
    refine ⟨(show ¬ ((3 : Int32) < 0 ∨ 6 ≤ (3 : Int32).toNatClampNeg) from by decide), hX _ ?_⟩
    clear hP hX hk P' X cal
    refine Wp.stepsG 6 (fun cal X P' hk hX hP => ?_)
    show X (66, [some (.ref 7), some (.ref a), some (.int a2), some (.int a3), some (.int a4), some (.ref 44)], [.int (if 99 < a3 then 99 else a3), .int 4, .ref 33], st (sA S16 33 (upd (S16.1 33) (3 : Int32).toNatClampNeg ((S15.1 9) a2.toNatClampNeg))) hs, 0, 0)
    refine hX _ ?_
    clear hP hX hk P' X cal
    obtain ⟨S17, hS17, hr⟩ := wS_some hr
    rw [hS17]
    refine Wp.stepsG 1 (fun cal X P' hk hX hP => ?_)
    show vp_in (4 : Int32) 6 ∧ X (67, [some (.ref 7), some (.ref a), some (.int a2), some (.int a3), some (.int a4), some (.ref 44)], [], st (sA S17 33 (upd (S17.1 33) (4 : Int32).toNatClampNeg (if 99 < a3 then 99 else a3))) hs, 0, 0)
    refine ⟨(show ¬ ((4 : Int32) < 0 ∨ 6 ≤ (4 : Int32).toNatClampNeg) from by decide), hX _ ?_⟩
    clear hP hX hk P' X cal
    refine Wp.stepsG 6 (fun cal X P' hk hX hP => ?_)
    show ¬ (7 : Int32) = 0 ∧ X (77, [some (.ref 7), some (.ref a), some (.int a2), some (.int a3), some (.int a4), some (.ref 44)], [.int (a4 - a4 / 7 * 7), .int 5, .ref 33], st (sA S17 33 (upd (S17.1 33) (4 : Int32).toNatClampNeg (if 99 < a3 then 99 else a3))) hs, 0, 0)
    refine ⟨(show ¬ (7 : Int32) = 0 from by decide), hX _ ?_⟩
    clear hP hX hk P' X cal
    obtain ⟨S18, hS18, hr⟩ := wS_some hr
    rw [hS18]
    refine Wp.stepsG 1 (fun cal X P' hk hX hP => ?_)
    show vp_in (5 : Int32) 6 ∧ X (78, [some (.ref 7), some (.ref a), some (.int a2), some (.int a3), some (.int a4), some (.ref 44)], [], st (sA S18 33 (upd (S18.1 33) (5 : Int32).toNatClampNeg (a4 - a4 / 7 * 7))) hs, 0, 0)
    refine ⟨(show ¬ ((5 : Int32) < 0 ∨ 6 ≤ (5 : Int32).toNatClampNeg) from by decide), hX _ ?_⟩
    clear hP hX hk P' X cal
    refine Wp.stepsG 4 (fun cal X P' hk hX hP => ?_)
    show kcall cal ix_X5_moodBy [.ref 44, .ref 33] (st (sA S18 33 (upd (S18.1 33) (5 : Int32).toNatClampNeg (a4 - a4 / 7 * 7))) hs) [] 0 0 (0, 0) (fun v σ' c' m' => X (87, [some (.ref 7), some (.ref a), some (.int a2), some (.int a3), some (.int a4), some (.ref 44)], v.toList ++ [], σ', c', m'))
    obtain ⟨q19, hq19, hr⟩ := bd_some hr
    refine kcall0 rfl (hk _ _ _ _ _ _ (e_X5_moodBy_33_44 (d + 0) (sA S18 33 (upd (S18.1 33) (5 : Int32).toNatClampNeg (a4 - a4 / 7 * 7))) hs q19 hq19 _ ?_))
    show X (87, [some (.ref 7), some (.ref a), some (.int a2), some (.int a3), some (.int a4), some (.ref 44)], [.int q19], st (sA S18 33 (upd (S18.1 33) (5 : Int32).toNatClampNeg (a4 - a4 / 7 * 7))) hs, 0, 0)
    refine hX _ ?_
    clear hP hX hk P' X cal
    have hr := Option.some.inj hr
    subst hr
    refine Wp.stepsG 1 (fun cal X P' hk hX hP => ?_)
    exact hP _ _ h
  · rw [hz44]
    rw [oN_is hz44] at hr
    refine Wp.stepsG 8 (fun cal X P' hk hX hP => ?_)
    refine kObj_at (ha _) (kB_at (fam3 fa) ?_)
    show X (22, [some (.ref 7), some (.ref a), some (.int a2), some (.int a3), some (.int a4), some (.ref 48)], [.int q.2.2.1, .int 0, .ref 33], st S hs, 0, 0)
    refine hX _ ?_
    clear hP hX hk P' X cal
    refine Wp.stepsG 1 (fun cal X P' hk hX hP => ?_)
    show vp_in (0 : Int32) 6 ∧ X (23, [some (.ref 7), some (.ref a), some (.int a2), some (.int a3), some (.int a4), some (.ref 48)], [], st (sA S 33 (upd (S.1 33) (0 : Int32).toNatClampNeg q.2.2.1)) hs, 0, 0)
    refine ⟨(show ¬ ((0 : Int32) < 0 ∨ 6 ≤ (0 : Int32).toNatClampNeg) from by decide), hX _ ?_⟩
    clear hP hX hk P' X cal
    refine Wp.stepsG 5 (fun cal X P' hk hX hP => ?_)
    refine kObj_at (ha _) (kB_at (fam3 fa) ?_)
    show X (32, [some (.ref 7), some (.ref a), some (.int a2), some (.int a3), some (.int a4), some (.ref 48)], [.int q.2.1, .int 1, .ref 33], st (sA S 33 (upd (S.1 33) (0 : Int32).toNatClampNeg q.2.2.1)) hs, 0, 0)
    refine hX _ ?_
    clear hP hX hk P' X cal
    obtain ⟨S20, hS20, hr⟩ := wS_some hr
    rw [hS20]
    refine Wp.stepsG 1 (fun cal X P' hk hX hP => ?_)
    show vp_in (1 : Int32) 6 ∧ X (33, [some (.ref 7), some (.ref a), some (.int a2), some (.int a3), some (.int a4), some (.ref 48)], [], st (sA S20 33 (upd (S20.1 33) (1 : Int32).toNatClampNeg q.2.1)) hs, 0, 0)
    refine ⟨(show ¬ ((1 : Int32) < 0 ∨ 6 ≤ (1 : Int32).toNatClampNeg) from by decide), hX _ ?_⟩
    clear hP hX hk P' X cal
    refine Wp.stepsG 4 (fun cal X P' hk hX hP => ?_)
    show X (39, [some (.ref 7), some (.ref a), some (.int a2), some (.int a3), some (.int a4), some (.ref 48)], [.int a2, .int 2, .ref 33], st (sA S20 33 (upd (S20.1 33) (1 : Int32).toNatClampNeg q.2.1)) hs, 0, 0)
    refine hX _ ?_
    clear hP hX hk P' X cal
    obtain ⟨S21, hS21, hr⟩ := wS_some hr
    rw [hS21]
    refine Wp.stepsG 1 (fun cal X P' hk hX hP => ?_)
    show vp_in (2 : Int32) 6 ∧ X (40, [some (.ref 7), some (.ref a), some (.int a2), some (.int a3), some (.int a4), some (.ref 48)], [], st (sA S21 33 (upd (S21.1 33) (2 : Int32).toNatClampNeg a2)) hs, 0, 0)
    refine ⟨(show ¬ ((2 : Int32) < 0 ∨ 6 ≤ (2 : Int32).toNatClampNeg) from by decide), hX _ ?_⟩
    clear hP hX hk P' X cal
    refine Wp.stepsG 8 (fun cal X P' hk hX hP => ?_)
    show vp_in a2 8 ∧ X (54, [some (.ref 7), some (.ref a), some (.int a2), some (.int a3), some (.int a4), some (.ref 48)], [.int ((S21.1 9) a2.toNatClampNeg), .int 3, .ref 33], st (sA S21 33 (upd (S21.1 33) (2 : Int32).toNatClampNeg a2)) hs, 0, 0)
    obtain ⟨hg, hr⟩ := gd_some hr
    refine ⟨hg, hX _ ?_⟩
    clear hP hX hk P' X cal
    obtain ⟨S22, hS22, hr⟩ := wS_some hr
    rw [hS22]
    refine Wp.stepsG 1 (fun cal X P' hk hX hP => ?_)
    show vp_in (3 : Int32) 6 ∧ X (55, [some (.ref 7), some (.ref a), some (.int a2), some (.int a3), some (.int a4), some (.ref 48)], [], st (sA S22 33 (upd (S22.1 33) (3 : Int32).toNatClampNeg ((S21.1 9) a2.toNatClampNeg))) hs, 0, 0)
    refine ⟨(show ¬ ((3 : Int32) < 0 ∨ 6 ≤ (3 : Int32).toNatClampNeg) from by decide), hX _ ?_⟩
    clear hP hX hk P' X cal
    refine Wp.stepsG 6 (fun cal X P' hk hX hP => ?_)
    show X (66, [some (.ref 7), some (.ref a), some (.int a2), some (.int a3), some (.int a4), some (.ref 48)], [.int (if 99 < a3 then 99 else a3), .int 4, .ref 33], st (sA S22 33 (upd (S22.1 33) (3 : Int32).toNatClampNeg ((S21.1 9) a2.toNatClampNeg))) hs, 0, 0)
    refine hX _ ?_
    clear hP hX hk P' X cal
    obtain ⟨S23, hS23, hr⟩ := wS_some hr
    rw [hS23]
    refine Wp.stepsG 1 (fun cal X P' hk hX hP => ?_)
    show vp_in (4 : Int32) 6 ∧ X (67, [some (.ref 7), some (.ref a), some (.int a2), some (.int a3), some (.int a4), some (.ref 48)], [], st (sA S23 33 (upd (S23.1 33) (4 : Int32).toNatClampNeg (if 99 < a3 then 99 else a3))) hs, 0, 0)
    refine ⟨(show ¬ ((4 : Int32) < 0 ∨ 6 ≤ (4 : Int32).toNatClampNeg) from by decide), hX _ ?_⟩
    clear hP hX hk P' X cal
    refine Wp.stepsG 6 (fun cal X P' hk hX hP => ?_)
    show ¬ (7 : Int32) = 0 ∧ X (77, [some (.ref 7), some (.ref a), some (.int a2), some (.int a3), some (.int a4), some (.ref 48)], [.int (a4 - a4 / 7 * 7), .int 5, .ref 33], st (sA S23 33 (upd (S23.1 33) (4 : Int32).toNatClampNeg (if 99 < a3 then 99 else a3))) hs, 0, 0)
    refine ⟨(show ¬ (7 : Int32) = 0 from by decide), hX _ ?_⟩
    clear hP hX hk P' X cal
    obtain ⟨S24, hS24, hr⟩ := wS_some hr
    rw [hS24]
    refine Wp.stepsG 1 (fun cal X P' hk hX hP => ?_)
    show vp_in (5 : Int32) 6 ∧ X (78, [some (.ref 7), some (.ref a), some (.int a2), some (.int a3), some (.int a4), some (.ref 48)], [], st (sA S24 33 (upd (S24.1 33) (5 : Int32).toNatClampNeg (a4 - a4 / 7 * 7))) hs, 0, 0)
    refine ⟨(show ¬ ((5 : Int32) < 0 ∨ 6 ≤ (5 : Int32).toNatClampNeg) from by decide), hX _ ?_⟩
    clear hP hX hk P' X cal
    refine Wp.stepsG 4 (fun cal X P' hk hX hP => ?_)
    show kcall cal ix_X5_moodBy [.ref 48, .ref 33] (st (sA S24 33 (upd (S24.1 33) (5 : Int32).toNatClampNeg (a4 - a4 / 7 * 7))) hs) [] 0 0 (0, 0) (fun v σ' c' m' => X (87, [some (.ref 7), some (.ref a), some (.int a2), some (.int a3), some (.int a4), some (.ref 48)], v.toList ++ [], σ', c', m'))
    obtain ⟨q25, hq25, hr⟩ := bd_some hr
    refine kcall0 rfl (hk _ _ _ _ _ _ (e_X5_moodBy_33_48 (d + 0) (sA S24 33 (upd (S24.1 33) (5 : Int32).toNatClampNeg (a4 - a4 / 7 * 7))) hs q25 hq25 _ ?_))
    show X (87, [some (.ref 7), some (.ref a), some (.int a2), some (.int a3), some (.int a4), some (.ref 48)], [.int q25], st (sA S24 33 (upd (S24.1 33) (5 : Int32).toNatClampNeg (a4 - a4 / 7 * 7))) hs, 0, 0)
    refine hX _ ?_
    clear hP hX hk P' X cal
    have hr := Option.some.inj hr
    subst hr
    refine Wp.stepsG 1 (fun cal X P' hk hX hP => ?_)
    exact hP _ _ h
  · rw [hz44]
    rw [oN_is hz44] at hr
    refine Wp.stepsG 8 (fun cal X P' hk hX hP => ?_)
    refine kObj_at (ha _) (kB_at (fam3 fa) ?_)
    show X (22, [some (.ref 7), some (.ref a), some (.int a2), some (.int a3), some (.int a4), some (.ref 52)], [.int q.2.2.1, .int 0, .ref 33], st S hs, 0, 0)
    refine hX _ ?_
    clear hP hX hk P' X cal
    refine Wp.stepsG 1 (fun cal X P' hk hX hP => ?_)
    show vp_in (0 : Int32) 6 ∧ X (23, [some (.ref 7), some (.ref a), some (.int a2), some (.int a3), some (.int a4), some (.ref 52)], [], st (sA S 33 (upd (S.1 33) (0 : Int32).toNatClampNeg q.2.2.1)) hs, 0, 0)
    refine ⟨(show ¬ ((0 : Int32) < 0 ∨ 6 ≤ (0 : Int32).toNatClampNeg) from by decide), hX _ ?_⟩
    clear hP hX hk P' X cal
    refine Wp.stepsG 5 (fun cal X P' hk hX hP => ?_)
    refine kObj_at (ha _) (kB_at (fam3 fa) ?_)
    show X (32, [some (.ref 7), some (.ref a), some (.int a2), some (.int a3), some (.int a4), some (.ref 52)], [.int q.2.1, .int 1, .ref 33], st (sA S 33 (upd (S.1 33) (0 : Int32).toNatClampNeg q.2.2.1)) hs, 0, 0)
    refine hX _ ?_
    clear hP hX hk P' X cal
    obtain ⟨S26, hS26, hr⟩ := wS_some hr
    rw [hS26]
    refine Wp.stepsG 1 (fun cal X P' hk hX hP => ?_)
    show vp_in (1 : Int32) 6 ∧ X (33, [some (.ref 7), some (.ref a), some (.int a2), some (.int a3), some (.int a4), some (.ref 52)], [], st (sA S26 33 (upd (S26.1 33) (1 : Int32).toNatClampNeg q.2.1)) hs, 0, 0)
    refine ⟨(show ¬ ((1 : Int32) < 0 ∨ 6 ≤ (1 : Int32).toNatClampNeg) from by decide), hX _ ?_⟩
    clear hP hX hk P' X cal
    refine Wp.stepsG 4 (fun cal X P' hk hX hP => ?_)
    show X (39, [some (.ref 7), some (.ref a), some (.int a2), some (.int a3), some (.int a4), some (.ref 52)], [.int a2, .int 2, .ref 33], st (sA S26 33 (upd (S26.1 33) (1 : Int32).toNatClampNeg q.2.1)) hs, 0, 0)
    refine hX _ ?_
    clear hP hX hk P' X cal
    obtain ⟨S27, hS27, hr⟩ := wS_some hr
    rw [hS27]
    refine Wp.stepsG 1 (fun cal X P' hk hX hP => ?_)
    show vp_in (2 : Int32) 6 ∧ X (40, [some (.ref 7), some (.ref a), some (.int a2), some (.int a3), some (.int a4), some (.ref 52)], [], st (sA S27 33 (upd (S27.1 33) (2 : Int32).toNatClampNeg a2)) hs, 0, 0)
    refine ⟨(show ¬ ((2 : Int32) < 0 ∨ 6 ≤ (2 : Int32).toNatClampNeg) from by decide), hX _ ?_⟩
    clear hP hX hk P' X cal
    refine Wp.stepsG 8 (fun cal X P' hk hX hP => ?_)
    show vp_in a2 8 ∧ X (54, [some (.ref 7), some (.ref a), some (.int a2), some (.int a3), some (.int a4), some (.ref 52)], [.int ((S27.1 9) a2.toNatClampNeg), .int 3, .ref 33], st (sA S27 33 (upd (S27.1 33) (2 : Int32).toNatClampNeg a2)) hs, 0, 0)
    obtain ⟨hg, hr⟩ := gd_some hr
    refine ⟨hg, hX _ ?_⟩
    clear hP hX hk P' X cal
    obtain ⟨S28, hS28, hr⟩ := wS_some hr
    rw [hS28]
    refine Wp.stepsG 1 (fun cal X P' hk hX hP => ?_)
    show vp_in (3 : Int32) 6 ∧ X (55, [some (.ref 7), some (.ref a), some (.int a2), some (.int a3), some (.int a4), some (.ref 52)], [], st (sA S28 33 (upd (S28.1 33) (3 : Int32).toNatClampNeg ((S27.1 9) a2.toNatClampNeg))) hs, 0, 0)
    refine ⟨(show ¬ ((3 : Int32) < 0 ∨ 6 ≤ (3 : Int32).toNatClampNeg) from by decide), hX _ ?_⟩
    clear hP hX hk P' X cal
    refine Wp.stepsG 6 (fun cal X P' hk hX hP => ?_)
    show X (66, [some (.ref 7), some (.ref a), some (.int a2), some (.int a3), some (.int a4), some (.ref 52)], [.int (if 99 < a3 then 99 else a3), .int 4, .ref 33], st (sA S28 33 (upd (S28.1 33) (3 : Int32).toNatClampNeg ((S27.1 9) a2.toNatClampNeg))) hs, 0, 0)
    refine hX _ ?_
    clear hP hX hk P' X cal
    obtain ⟨S29, hS29, hr⟩ := wS_some hr
    rw [hS29]
    refine Wp.stepsG 1 (fun cal X P' hk hX hP => ?_)
    show vp_in (4 : Int32) 6 ∧ X (67, [some (.ref 7), some (.ref a), some (.int a2), some (.int a3), some (.int a4), some (.ref 52)], [], st (sA S29 33 (upd (S29.1 33) (4 : Int32).toNatClampNeg (if 99 < a3 then 99 else a3))) hs, 0, 0)
    refine ⟨(show ¬ ((4 : Int32) < 0 ∨ 6 ≤ (4 : Int32).toNatClampNeg) from by decide), hX _ ?_⟩
    clear hP hX hk P' X cal
    refine Wp.stepsG 6 (fun cal X P' hk hX hP => ?_)
    show ¬ (7 : Int32) = 0 ∧ X (77, [some (.ref 7), some (.ref a), some (.int a2), some (.int a3), some (.int a4), some (.ref 52)], [.int (a4 - a4 / 7 * 7), .int 5, .ref 33], st (sA S29 33 (upd (S29.1 33) (4 : Int32).toNatClampNeg (if 99 < a3 then 99 else a3))) hs, 0, 0)
    refine ⟨(show ¬ (7 : Int32) = 0 from by decide), hX _ ?_⟩
    clear hP hX hk P' X cal
    obtain ⟨S30, hS30, hr⟩ := wS_some hr
    rw [hS30]
    refine Wp.stepsG 1 (fun cal X P' hk hX hP => ?_)
    show vp_in (5 : Int32) 6 ∧ X (78, [some (.ref 7), some (.ref a), some (.int a2), some (.int a3), some (.int a4), some (.ref 52)], [], st (sA S30 33 (upd (S30.1 33) (5 : Int32).toNatClampNeg (a4 - a4 / 7 * 7))) hs, 0, 0)
    refine ⟨(show ¬ ((5 : Int32) < 0 ∨ 6 ≤ (5 : Int32).toNatClampNeg) from by decide), hX _ ?_⟩
    clear hP hX hk P' X cal
    refine Wp.stepsG 4 (fun cal X P' hk hX hP => ?_)
    show kcall cal ix_X5_moodBy [.ref 52, .ref 33] (st (sA S30 33 (upd (S30.1 33) (5 : Int32).toNatClampNeg (a4 - a4 / 7 * 7))) hs) [] 0 0 (0, 0) (fun v σ' c' m' => X (87, [some (.ref 7), some (.ref a), some (.int a2), some (.int a3), some (.int a4), some (.ref 52)], v.toList ++ [], σ', c', m'))
    obtain ⟨q31, hq31, hr⟩ := bd_some hr
    refine kcall0 rfl (hk _ _ _ _ _ _ (e_X5_moodBy_33_52 (d + 0) (sA S30 33 (upd (S30.1 33) (5 : Int32).toNatClampNeg (a4 - a4 / 7 * 7))) hs q31 hq31 _ ?_))
    show X (87, [some (.ref 7), some (.ref a), some (.int a2), some (.int a3), some (.int a4), some (.ref 52)], [.int q31], st (sA S30 33 (upd (S30.1 33) (5 : Int32).toNatClampNeg (a4 - a4 / 7 * 7))) hs, 0, 0)
    refine hX _ ?_
    clear hP hX hk P' X cal
    have hr := Option.some.inj hr
    subst hr
    refine Wp.stepsG 1 (fun cal X P' hk hX hP => ?_)
    exact hP _ _ h
  · rw [hz44]
    rw [oN_is hz44] at hr
    refine Wp.stepsG 8 (fun cal X P' hk hX hP => ?_)
    refine kObj_at (ha _) (kB_at (fam3 fa) ?_)
    show X (22, [some (.ref 7), some (.ref a), some (.int a2), some (.int a3), some (.int a4), some (.ref 56)], [.int q.2.2.1, .int 0, .ref 33], st S hs, 0, 0)
    refine hX _ ?_
    clear hP hX hk P' X cal
    refine Wp.stepsG 1 (fun cal X P' hk hX hP => ?_)
    show vp_in (0 : Int32) 6 ∧ X (23, [some (.ref 7), some (.ref a), some (.int a2), some (.int a3), some (.int a4), some (.ref 56)], [], st (sA S 33 (upd (S.1 33) (0 : Int32).toNatClampNeg q.2.2.1)) hs, 0, 0)
    refine ⟨(show ¬ ((0 : Int32) < 0 ∨ 6 ≤ (0 : Int32).toNatClampNeg) from by decide), hX _ ?_⟩
    clear hP hX hk P' X cal
    refine Wp.stepsG 5 (fun cal X P' hk hX hP => ?_)
    refine kObj_at (ha _) (kB_at (fam3 fa) ?_)
    show X (32, [some (.ref 7), some (.ref a), some (.int a2), some (.int a3), some (.int a4), some (.ref 56)], [.int q.2.1, .int 1, .ref 33], st (sA S 33 (upd (S.1 33) (0 : Int32).toNatClampNeg q.2.2.1)) hs, 0, 0)
    refine hX _ ?_
    clear hP hX hk P' X cal
    obtain ⟨S32, hS32, hr⟩ := wS_some hr
    rw [hS32]
    refine Wp.stepsG 1 (fun cal X P' hk hX hP => ?_)
    show vp_in (1 : Int32) 6 ∧ X (33, [some (.ref 7), some (.ref a), some (.int a2), some (.int a3), some (.int a4), some (.ref 56)], [], st (sA S32 33 (upd (S32.1 33) (1 : Int32).toNatClampNeg q.2.1)) hs, 0, 0)
    refine ⟨(show ¬ ((1 : Int32) < 0 ∨ 6 ≤ (1 : Int32).toNatClampNeg) from by decide), hX _ ?_⟩
    clear hP hX hk P' X cal
    refine Wp.stepsG 4 (fun cal X P' hk hX hP => ?_)
    show X (39, [some (.ref 7), some (.ref a), some (.int a2), some (.int a3), some (.int a4), some (.ref 56)], [.int a2, .int 2, .ref 33], st (sA S32 33 (upd (S32.1 33) (1 : Int32).toNatClampNeg q.2.1)) hs, 0, 0)
    refine hX _ ?_
    clear hP hX hk P' X cal
    obtain ⟨S33, hS33, hr⟩ := wS_some hr
    rw [hS33]
    refine Wp.stepsG 1 (fun cal X P' hk hX hP => ?_)
    show vp_in (2 : Int32) 6 ∧ X (40, [some (.ref 7), some (.ref a), some (.int a2), some (.int a3), some (.int a4), some (.ref 56)], [], st (sA S33 33 (upd (S33.1 33) (2 : Int32).toNatClampNeg a2)) hs, 0, 0)
    refine ⟨(show ¬ ((2 : Int32) < 0 ∨ 6 ≤ (2 : Int32).toNatClampNeg) from by decide), hX _ ?_⟩
    clear hP hX hk P' X cal
    refine Wp.stepsG 8 (fun cal X P' hk hX hP => ?_)
    show vp_in a2 8 ∧ X (54, [some (.ref 7), some (.ref a), some (.int a2), some (.int a3), some (.int a4), some (.ref 56)], [.int ((S33.1 9) a2.toNatClampNeg), .int 3, .ref 33], st (sA S33 33 (upd (S33.1 33) (2 : Int32).toNatClampNeg a2)) hs, 0, 0)
    obtain ⟨hg, hr⟩ := gd_some hr
    refine ⟨hg, hX _ ?_⟩
    clear hP hX hk P' X cal
    obtain ⟨S34, hS34, hr⟩ := wS_some hr
    rw [hS34]
    refine Wp.stepsG 1 (fun cal X P' hk hX hP => ?_)
    show vp_in (3 : Int32) 6 ∧ X (55, [some (.ref 7), some (.ref a), some (.int a2), some (.int a3), some (.int a4), some (.ref 56)], [], st (sA S34 33 (upd (S34.1 33) (3 : Int32).toNatClampNeg ((S33.1 9) a2.toNatClampNeg))) hs, 0, 0)
    refine ⟨(show ¬ ((3 : Int32) < 0 ∨ 6 ≤ (3 : Int32).toNatClampNeg) from by decide), hX _ ?_⟩
    clear hP hX hk P' X cal
    refine Wp.stepsG 6 (fun cal X P' hk hX hP => ?_)
    show X (66, [some (.ref 7), some (.ref a), some (.int a2), some (.int a3), some (.int a4), some (.ref 56)], [.int (if 99 < a3 then 99 else a3), .int 4, .ref 33], st (sA S34 33 (upd (S34.1 33) (3 : Int32).toNatClampNeg ((S33.1 9) a2.toNatClampNeg))) hs, 0, 0)
    refine hX _ ?_
    clear hP hX hk P' X cal
    obtain ⟨S35, hS35, hr⟩ := wS_some hr
    rw [hS35]
    refine Wp.stepsG 1 (fun cal X P' hk hX hP => ?_)
    show vp_in (4 : Int32) 6 ∧ X (67, [some (.ref 7), some (.ref a), some (.int a2), some (.int a3), some (.int a4), some (.ref 56)], [], st (sA S35 33 (upd (S35.1 33) (4 : Int32).toNatClampNeg (if 99 < a3 then 99 else a3))) hs, 0, 0)
    refine ⟨(show ¬ ((4 : Int32) < 0 ∨ 6 ≤ (4 : Int32).toNatClampNeg) from by decide), hX _ ?_⟩
    clear hP hX hk P' X cal
    refine Wp.stepsG 6 (fun cal X P' hk hX hP => ?_)
    show ¬ (7 : Int32) = 0 ∧ X (77, [some (.ref 7), some (.ref a), some (.int a2), some (.int a3), some (.int a4), some (.ref 56)], [.int (a4 - a4 / 7 * 7), .int 5, .ref 33], st (sA S35 33 (upd (S35.1 33) (4 : Int32).toNatClampNeg (if 99 < a3 then 99 else a3))) hs, 0, 0)
    refine ⟨(show ¬ (7 : Int32) = 0 from by decide), hX _ ?_⟩
    clear hP hX hk P' X cal
    obtain ⟨S36, hS36, hr⟩ := wS_some hr
    rw [hS36]
    refine Wp.stepsG 1 (fun cal X P' hk hX hP => ?_)
    show vp_in (5 : Int32) 6 ∧ X (78, [some (.ref 7), some (.ref a), some (.int a2), some (.int a3), some (.int a4), some (.ref 56)], [], st (sA S36 33 (upd (S36.1 33) (5 : Int32).toNatClampNeg (a4 - a4 / 7 * 7))) hs, 0, 0)
    refine ⟨(show ¬ ((5 : Int32) < 0 ∨ 6 ≤ (5 : Int32).toNatClampNeg) from by decide), hX _ ?_⟩
    clear hP hX hk P' X cal
    refine Wp.stepsG 4 (fun cal X P' hk hX hP => ?_)
    show kcall cal ix_X5_moodBy [.ref 56, .ref 33] (st (sA S36 33 (upd (S36.1 33) (5 : Int32).toNatClampNeg (a4 - a4 / 7 * 7))) hs) [] 0 0 (0, 0) (fun v σ' c' m' => X (87, [some (.ref 7), some (.ref a), some (.int a2), some (.int a3), some (.int a4), some (.ref 56)], v.toList ++ [], σ', c', m'))
    obtain ⟨q37, hq37, hr⟩ := bd_some hr
    refine kcall0 rfl (hk _ _ _ _ _ _ (e_X5_moodBy_33_56 (d + 0) (sA S36 33 (upd (S36.1 33) (5 : Int32).toNatClampNeg (a4 - a4 / 7 * 7))) hs q37 hq37 _ ?_))
    show X (87, [some (.ref 7), some (.ref a), some (.int a2), some (.int a3), some (.int a4), some (.ref 56)], [.int q37], st (sA S36 33 (upd (S36.1 33) (5 : Int32).toNatClampNeg (a4 - a4 / 7 * 7))) hs, 0, 0)
    refine hX _ ?_
    clear hP hX hk P' X cal
    have hr := Option.some.inj hr
    subst hr
    refine Wp.stepsG 1 (fun cal X P' hk hX hP => ?_)
    exact hP _ _ h
  · rw [hz44]
    rw [oN_is hz44] at hr
    refine Wp.stepsG 8 (fun cal X P' hk hX hP => ?_)
    refine kObj_at (ha _) (kB_at (fam3 fa) ?_)
    show X (22, [some (.ref 7), some (.ref a), some (.int a2), some (.int a3), some (.int a4), some (.ref 60)], [.int q.2.2.1, .int 0, .ref 33], st S hs, 0, 0)
    refine hX _ ?_
    clear hP hX hk P' X cal
    refine Wp.stepsG 1 (fun cal X P' hk hX hP => ?_)
    show vp_in (0 : Int32) 6 ∧ X (23, [some (.ref 7), some (.ref a), some (.int a2), some (.int a3), some (.int a4), some (.ref 60)], [], st (sA S 33 (upd (S.1 33) (0 : Int32).toNatClampNeg q.2.2.1)) hs, 0, 0)
    refine ⟨(show ¬ ((0 : Int32) < 0 ∨ 6 ≤ (0 : Int32).toNatClampNeg) from by decide), hX _ ?_⟩
    clear hP hX hk P' X cal
    refine Wp.stepsG 5 (fun cal X P' hk hX hP => ?_)
    refine kObj_at (ha _) (kB_at (fam3 fa) ?_)
    show X (32, [some (.ref 7), some (.ref a), some (.int a2), some (.int a3), some (.int a4), some (.ref 60)], [.int q.2.1, .int 1, .ref 33], st (sA S 33 (upd (S.1 33) (0 : Int32).toNatClampNeg q.2.2.1)) hs, 0, 0)
    refine hX _ ?_
    clear hP hX hk P' X cal
    obtain ⟨S38, hS38, hr⟩ := wS_some hr
    rw [hS38]
    refine Wp.stepsG 1 (fun cal X P' hk hX hP => ?_)
    show vp_in (1 : Int32) 6 ∧ X (33, [some (.ref 7), some (.ref a), some (.int a2), some (.int a3), some (.int a4), some (.ref 60)], [], st (sA S38 33 (upd (S38.1 33) (1 : Int32).toNatClampNeg q.2.1)) hs, 0, 0)
    refine ⟨(show ¬ ((1 : Int32) < 0 ∨ 6 ≤ (1 : Int32).toNatClampNeg) from by decide), hX _ ?_⟩
    clear hP hX hk P' X cal
    refine Wp.stepsG 4 (fun cal X P' hk hX hP => ?_)
    show X (39, [some (.ref 7), some (.ref a), some (.int a2), some (.int a3), some (.int a4), some (.ref 60)], [.int a2, .int 2, .ref 33], st (sA S38 33 (upd (S38.1 33) (1 : Int32).toNatClampNeg q.2.1)) hs, 0, 0)
    refine hX _ ?_
    clear hP hX hk P' X cal
    obtain ⟨S39, hS39, hr⟩ := wS_some hr
    rw [hS39]
    refine Wp.stepsG 1 (fun cal X P' hk hX hP => ?_)
    show vp_in (2 : Int32) 6 ∧ X (40, [some (.ref 7), some (.ref a), some (.int a2), some (.int a3), some (.int a4), some (.ref 60)], [], st (sA S39 33 (upd (S39.1 33) (2 : Int32).toNatClampNeg a2)) hs, 0, 0)
    refine ⟨(show ¬ ((2 : Int32) < 0 ∨ 6 ≤ (2 : Int32).toNatClampNeg) from by decide), hX _ ?_⟩
    clear hP hX hk P' X cal
    refine Wp.stepsG 8 (fun cal X P' hk hX hP => ?_)
    show vp_in a2 8 ∧ X (54, [some (.ref 7), some (.ref a), some (.int a2), some (.int a3), some (.int a4), some (.ref 60)], [.int ((S39.1 9) a2.toNatClampNeg), .int 3, .ref 33], st (sA S39 33 (upd (S39.1 33) (2 : Int32).toNatClampNeg a2)) hs, 0, 0)
    obtain ⟨hg, hr⟩ := gd_some hr
    refine ⟨hg, hX _ ?_⟩
    clear hP hX hk P' X cal
    obtain ⟨S40, hS40, hr⟩ := wS_some hr
    rw [hS40]
    refine Wp.stepsG 1 (fun cal X P' hk hX hP => ?_)
    show vp_in (3 : Int32) 6 ∧ X (55, [some (.ref 7), some (.ref a), some (.int a2), some (.int a3), some (.int a4), some (.ref 60)], [], st (sA S40 33 (upd (S40.1 33) (3 : Int32).toNatClampNeg ((S39.1 9) a2.toNatClampNeg))) hs, 0, 0)
    refine ⟨(show ¬ ((3 : Int32) < 0 ∨ 6 ≤ (3 : Int32).toNatClampNeg) from by decide), hX _ ?_⟩
    clear hP hX hk P' X cal
    refine Wp.stepsG 6 (fun cal X P' hk hX hP => ?_)
    show X (66, [some (.ref 7), some (.ref a), some (.int a2), some (.int a3), some (.int a4), some (.ref 60)], [.int (if 99 < a3 then 99 else a3), .int 4, .ref 33], st (sA S40 33 (upd (S40.1 33) (3 : Int32).toNatClampNeg ((S39.1 9) a2.toNatClampNeg))) hs, 0, 0)
    refine hX _ ?_
    clear hP hX hk P' X cal
    obtain ⟨S41, hS41, hr⟩ := wS_some hr
    rw [hS41]
    refine Wp.stepsG 1 (fun cal X P' hk hX hP => ?_)
    show vp_in (4 : Int32) 6 ∧ X (67, [some (.ref 7), some (.ref a), some (.int a2), some (.int a3), some (.int a4), some (.ref 60)], [], st (sA S41 33 (upd (S41.1 33) (4 : Int32).toNatClampNeg (if 99 < a3 then 99 else a3))) hs, 0, 0)
    refine ⟨(show ¬ ((4 : Int32) < 0 ∨ 6 ≤ (4 : Int32).toNatClampNeg) from by decide), hX _ ?_⟩
    clear hP hX hk P' X cal
    refine Wp.stepsG 6 (fun cal X P' hk hX hP => ?_)
    show ¬ (7 : Int32) = 0 ∧ X (77, [some (.ref 7), some (.ref a), some (.int a2), some (.int a3), some (.int a4), some (.ref 60)], [.int (a4 - a4 / 7 * 7), .int 5, .ref 33], st (sA S41 33 (upd (S41.1 33) (4 : Int32).toNatClampNeg (if 99 < a3 then 99 else a3))) hs, 0, 0)
    refine ⟨(show ¬ (7 : Int32) = 0 from by decide), hX _ ?_⟩
    clear hP hX hk P' X cal
    obtain ⟨S42, hS42, hr⟩ := wS_some hr
    rw [hS42]
    refine Wp.stepsG 1 (fun cal X P' hk hX hP => ?_)
    show vp_in (5 : Int32) 6 ∧ X (78, [some (.ref 7), some (.ref a), some (.int a2), some (.int a3), some (.int a4), some (.ref 60)], [], st (sA S42 33 (upd (S42.1 33) (5 : Int32).toNatClampNeg (a4 - a4 / 7 * 7))) hs, 0, 0)
    refine ⟨(show ¬ ((5 : Int32) < 0 ∨ 6 ≤ (5 : Int32).toNatClampNeg) from by decide), hX _ ?_⟩
    clear hP hX hk P' X cal
    refine Wp.stepsG 4 (fun cal X P' hk hX hP => ?_)
    show kcall cal ix_X5_moodBy [.ref 60, .ref 33] (st (sA S42 33 (upd (S42.1 33) (5 : Int32).toNatClampNeg (a4 - a4 / 7 * 7))) hs) [] 0 0 (0, 0) (fun v σ' c' m' => X (87, [some (.ref 7), some (.ref a), some (.int a2), some (.int a3), some (.int a4), some (.ref 60)], v.toList ++ [], σ', c', m'))
    obtain ⟨q43, hq43, hr⟩ := bd_some hr
    refine kcall0 rfl (hk _ _ _ _ _ _ (e_X5_moodBy_33_60 (d + 0) (sA S42 33 (upd (S42.1 33) (5 : Int32).toNatClampNeg (a4 - a4 / 7 * 7))) hs q43 hq43 _ ?_))
    show X (87, [some (.ref 7), some (.ref a), some (.int a2), some (.int a3), some (.int a4), some (.ref 60)], [.int q43], st (sA S42 33 (upd (S42.1 33) (5 : Int32).toNatClampNeg (a4 - a4 / 7 * 7))) hs, 0, 0)
    refine hX _ ?_
    clear hP hX hk P' X cal
    have hr := Option.some.inj hr
    subst hr
    refine Wp.stepsG 1 (fun cal X P' hk hX hP => ?_)
    exact hP _ _ h
def r_X11_of (S : St) (hs : List Hr) (a1 : Int32) (a2 : Int32) : Option (Int32 × St) :=
  (r_X11_hearerAt S a1).bind fun q1 =>
  oH hs (q1) (
    some ((-1), S)) (fun zb2 =>
    if a2 = 0 then
      some (zb2.2.1, S)
    else
      if a2 = 1 then
        some (zb2.2.2.2, S)
      else
        if (r_X11_within a2 10 39) = 0 then
          some ((-1), S)
        else
          if (r_X11_isStory S (a2 - a2 / 10 * 10)) = 0 then
            some ((-1), S)
          else
            if (a2 / 10) = 1 then
              (r_X11_timesOf S a1 (a2 - a2 / 10 * 10)).bind fun q3 =>
              some (q3, S)
            else
            if (a2 / 10) = 2 then
              (r_X11_knowersThen S hs (a2 - a2 / 10 * 10) ((1 : Int32) <<< (a1 &&& 31)) (S.1 8 0)).bind fun q4 =>
              if q4 = 0 then
                some (0, S)
              else
                some (1, S)
            else
              (r_X11_timesOf S a1 (a2 - a2 / 10 * 10)).bind fun q5 =>
              (r_X11_moodThen S zb2 (a2 - a2 / 10 * 10) q5 (S.1 8 0)).bind fun q6 =>
              some ((1000 : Int32) + q6.1, q6.2))
set_option maxRecDepth 20000 in
set_option maxHeartbeats 4000000 in
theorem e_X11_of (d : Nat) (S : St) (hs : List Hr) (a1 : Int32) (a2 : Int32) (v : Int32 × St) (hr : r_X11_of S hs a1 a2 = some v) (P : Option Value → Hp → Prop) (h : P (some (.int v.1)) (st v.2 hs)) : Ev (d + 6) ix_X11_of 0 0 [.ref 7, .int a1, .int a2] (st S hs) P := by
  refine Ev.intro (M := mi_X11_of) rfl (Nat.le_of_ble_eq_true rfl) ?_
  unfold r_X11_of at hr
  refine Wp.stepsG 3 (fun cal X P' hk hX hP => ?_)
  show kcall cal ix_X11_hearerAt [.ref 7, .int a1] (st S hs) [] 0 0 (0, 0) (fun v σ' c' m' => X (5, [some (.ref 7), some (.int a1), some (.int a2), none, none], v.toList ++ [], σ', c', m'))
  obtain ⟨q1, hq1, hr⟩ := bd_some hr
  refine kcall0 rfl (hk _ _ _ _ _ _ (e_X11_hearerAt (d + 3) S hs a1 q1 hq1 _ ?_))
  show X (5, [some (.ref 7), some (.int a1), some (.int a2), none, none], [va_rf q1], st S hs, 0, 0)
  refine hX _ ?_
  clear hP hX hk P' X cal
  rcases oH_some hr with ⟨hz, hr⟩ | ⟨b2, zb2, hz, hb2, fb2, hr⟩
  · rw [hz]
    have hr := Option.some.inj hr
    subst hr
    refine Wp.stepsG 5 (fun cal X P' hk hX hP => ?_)
    exact hP _ _ h
  · rw [hz]
    refine Wp.stepsG 5 (fun cal X P' hk hX hP => ?_)
    show (¬ a2 = 0 → X (21, [some (.ref 7), some (.int a1), some (.int a2), some (.ref b2), none], [], st S hs, 0, 0)) ∧ (a2 = 0 → X (16, [some (.ref 7), some (.int a1), some (.int a2), some (.ref b2), none], [], st S hs, 0, 0))
    refine ⟨fun hc => hX _ ?_, fun hc => hX _ ?_⟩
    · clear hP hX hk P' X cal
      rw [if_neg hc] at hr
      refine Wp.stepsG 3 (fun cal X P' hk hX hP => ?_)
      show (¬ a2 = 1 → X (31, [some (.ref 7), some (.int a1), some (.int a2), some (.ref b2), none], [], st S hs, 0, 0)) ∧ (a2 = 1 → X (26, [some (.ref 7), some (.int a1), some (.int a2), some (.ref b2), none], [], st S hs, 0, 0))
      refine ⟨fun hc => hX _ ?_, fun hc => hX _ ?_⟩
      · clear hP hX hk P' X cal
        rw [if_neg hc] at hr
        refine Wp.stepsG 4 (fun cal X P' hk hX hP => ?_)
        show kcall cal ix_X11_within [.int a2, .int 10, .int 39] (st S hs) [] 0 0 (0, 0) (fun v σ' c' m' => X (39, [some (.ref 7), some (.int a1), some (.int a2), some (.ref b2), none], v.toList ++ [], σ', c', m'))
        refine kcall0 rfl (hk _ _ _ _ _ _ (e_X11_within (d + 4) S hs a2 10 39 _ ?_))
        show X (39, [some (.ref 7), some (.int a1), some (.int a2), some (.ref b2), none], [.int (r_X11_within a2 10 39)], st S hs, 0, 0)
        refine hX _ ?_
        clear hP hX hk P' X cal
        refine Wp.stepsG 1 (fun cal X P' hk hX hP => ?_)
        show ((r_X11_within a2 10 39) = 0 → X (53, [some (.ref 7), some (.int a1), some (.int a2), some (.ref b2), none], [], st S hs, 0, 0)) ∧ (¬ (r_X11_within a2 10 39) = 0 → X (42, [some (.ref 7), some (.int a1), some (.int a2), some (.ref b2), none], [], st S hs, 0, 0))
        refine ⟨fun hc => hX _ ?_, fun hc => hX _ ?_⟩
        · clear hP hX hk P' X cal
          rw [if_pos hc] at hr
          have hr := Option.some.inj hr
          subst hr
          refine Wp.stepsG 2 (fun cal X P' hk hX hP => ?_)
          exact hP _ _ h
        · clear hP hX hk P' X cal
          rw [if_neg hc] at hr
          refine Wp.stepsG 4 (fun cal X P' hk hX hP => ?_)
          show ¬ (10 : Int32) = 0 ∧ X (47, [some (.ref 7), some (.int a1), some (.int a2), some (.ref b2), none], [.int (a2 - a2 / 10 * 10), .ref 7], st S hs, 0, 0)
          refine ⟨(show ¬ (10 : Int32) = 0 from by decide), hX _ ?_⟩
          clear hP hX hk P' X cal
          refine Wp.stepsG 1 (fun cal X P' hk hX hP => ?_)
          show kcall cal ix_X11_isStory [.ref 7, .int (a2 - a2 / 10 * 10)] (st S hs) [] 0 0 (0, 0) (fun v σ' c' m' => X (50, [some (.ref 7), some (.int a1), some (.int a2), some (.ref b2), none], v.toList ++ [], σ', c', m'))
          refine kcall0 rfl (hk _ _ _ _ _ _ (e_X11_isStory (d + 3) S hs (a2 - a2 / 10 * 10) _ ?_))
          show X (50, [some (.ref 7), some (.int a1), some (.int a2), some (.ref b2), none], [.int (r_X11_isStory S (a2 - a2 / 10 * 10))], st S hs, 0, 0)
          refine hX _ ?_
          clear hP hX hk P' X cal
          refine Wp.stepsG 1 (fun cal X P' hk hX hP => ?_)
          show (¬ (r_X11_isStory S (a2 - a2 / 10 * 10)) = 0 → X (55, [some (.ref 7), some (.int a1), some (.int a2), some (.ref b2), none], [], st S hs, 0, 0)) ∧ ((r_X11_isStory S (a2 - a2 / 10 * 10)) = 0 → X (53, [some (.ref 7), some (.int a1), some (.int a2), some (.ref b2), none], [], st S hs, 0, 0))
          refine ⟨fun hc => hX _ ?_, fun hc => hX _ ?_⟩
          · clear hP hX hk P' X cal
            rw [if_neg hc] at hr
            refine Wp.stepsG 3 (fun cal X P' hk hX hP => ?_)
            show ¬ (10 : Int32) = 0 ∧ X (59, [some (.ref 7), some (.int a1), some (.int a2), some (.ref b2), none], [.int (a2 - a2 / 10 * 10)], st S hs, 0, 0)
            refine ⟨(show ¬ (10 : Int32) = 0 from by decide), hX _ ?_⟩
            clear hP hX hk P' X cal
            refine Wp.stepsG 4 (fun cal X P' hk hX hP => ?_)
            show ¬ (10 : Int32) = 0 ∧ X (65, [some (.ref 7), some (.int a1), some (.int a2), some (.ref b2), some (.int (a2 - a2 / 10 * 10))], [.int (a2 / 10)], st S hs, 0, 0)
            refine ⟨(show ¬ (10 : Int32) = 0 from by decide), hX _ ?_⟩
            clear hP hX hk P' X cal
            refine Wp.stepsG 1 (fun cal X P' hk hX hP => ?_)
            show ((a2 / 10) = 1 → X (92, [some (.ref 7), some (.int a1), some (.int a2), some (.ref b2), some (.int (a2 - a2 / 10 * 10))], [], st S hs, 0, 0)) ∧ (¬ (a2 / 10) = 1 → ((a2 / 10) = 2 → X (100, [some (.ref 7), some (.int a1), some (.int a2), some (.ref b2), some (.int (a2 - a2 / 10 * 10))], [], st S hs, 0, 0)) ∧ (¬ (a2 / 10) = 2 → X (125, [some (.ref 7), some (.int a1), some (.int a2), some (.ref b2), some (.int (a2 - a2 / 10 * 10))], [], st S hs, 0, 0)))
            refine ⟨fun hc => hX _ ?_, fun hc => ?_⟩
            · clear hP hX hk P' X cal
              rw [if_pos hc] at hr
              refine Wp.stepsG 4 (fun cal X P' hk hX hP => ?_)
              show kcall cal ix_X11_timesOf [.ref 7, .int a1, .int (a2 - a2 / 10 * 10)] (st S hs) [] 0 0 (0, 0) (fun v σ' c' m' => X (99, [some (.ref 7), some (.int a1), some (.int a2), some (.ref b2), some (.int (a2 - a2 / 10 * 10))], v.toList ++ [], σ', c', m'))
              obtain ⟨q3, hq3, hr⟩ := bd_some hr
              refine kcall0 rfl (hk _ _ _ _ _ _ (e_X11_timesOf (d + 4) S hs a1 (a2 - a2 / 10 * 10) q3 hq3 _ ?_))
              show X (99, [some (.ref 7), some (.int a1), some (.int a2), some (.ref b2), some (.int (a2 - a2 / 10 * 10))], [.int q3], st S hs, 0, 0)
              refine hX _ ?_
              clear hP hX hk P' X cal
              have hr := Option.some.inj hr
              subst hr
              refine Wp.stepsG 1 (fun cal X P' hk hX hP => ?_)
              exact hP _ _ h
            · rw [if_neg hc] at hr
              refine ⟨fun hc => hX _ ?_, fun hc => hX _ ?_⟩
              · clear hP hX hk P' X cal
                rw [if_pos hc] at hr
                refine Wp.stepsG 9 (fun cal X P' hk hX hP => ?_)
                show kcall cal ix_X11_knowersThen [.ref 7, .int (a2 - a2 / 10 * 10), .int ((1 : Int32) <<< (a1 &&& 31)), .int (S.1 8 0)] (st S hs) [] 0 0 (0, 0) (fun v σ' c' m' => X (116, [some (.ref 7), some (.int a1), some (.int a2), some (.ref b2), some (.int (a2 - a2 / 10 * 10))], v.toList ++ [], σ', c', m'))
                obtain ⟨q4, hq4, hr⟩ := bd_some hr
                refine kcall0 rfl (hk _ _ _ _ _ _ (e_X11_knowersThen (d + 0) S hs (a2 - a2 / 10 * 10) ((1 : Int32) <<< (a1 &&& 31)) (S.1 8 0) q4 hq4 _ ?_))
                show X (116, [some (.ref 7), some (.int a1), some (.int a2), some (.ref b2), some (.int (a2 - a2 / 10 * 10))], [.int q4], st S hs, 0, 0)
                refine hX _ ?_
                clear hP hX hk P' X cal
                refine Wp.stepsG 1 (fun cal X P' hk hX hP => ?_)
                show (¬ q4 = 0 → X (123, [some (.ref 7), some (.int a1), some (.int a2), some (.ref b2), some (.int (a2 - a2 / 10 * 10))], [], st S hs, 0, 0)) ∧ (q4 = 0 → X (119, [some (.ref 7), some (.int a1), some (.int a2), some (.ref b2), some (.int (a2 - a2 / 10 * 10))], [], st S hs, 0, 0))
                refine ⟨fun hc => hX _ ?_, fun hc => hX _ ?_⟩
                · clear hP hX hk P' X cal
                  rw [if_neg hc] at hr
                  have hr := Option.some.inj hr
                  subst hr
                  refine Wp.stepsG 2 (fun cal X P' hk hX hP => ?_)
                  exact hP _ _ h
                · clear hP hX hk P' X cal
                  rw [if_pos hc] at hr
                  have hr := Option.some.inj hr
                  subst hr
                  refine Wp.stepsG 3 (fun cal X P' hk hX hP => ?_)
                  exact hP _ _ h
              · rw [if_neg hc] at hr
                clear hP hX hk P' X cal
                refine Wp.stepsG 8 (fun cal X P' hk hX hP => ?_)
                show kcall cal ix_X11_timesOf [.ref 7, .int a1, .int (a2 - a2 / 10 * 10)] (st S hs) [.int (a2 - a2 / 10 * 10), .ref b2, .ref 7, .int 1000] 0 0 (0, 0) (fun v σ' c' m' => X (139, [some (.ref 7), some (.int a1), some (.int a2), some (.ref b2), some (.int (a2 - a2 / 10 * 10))], v.toList ++ [.int (a2 - a2 / 10 * 10), .ref b2, .ref 7, .int 1000], σ', c', m'))
                obtain ⟨q5, hq5, hr⟩ := bd_some hr
                refine kcall0 rfl (hk _ _ _ _ _ _ (e_X11_timesOf (d + 4) S hs a1 (a2 - a2 / 10 * 10) q5 hq5 _ ?_))
                show X (139, [some (.ref 7), some (.int a1), some (.int a2), some (.ref b2), some (.int (a2 - a2 / 10 * 10))], [.int q5, .int (a2 - a2 / 10 * 10), .ref b2, .ref 7, .int 1000], st S hs, 0, 0)
                refine hX _ ?_
                clear hP hX hk P' X cal
                refine Wp.stepsG 4 (fun cal X P' hk hX hP => ?_)
                show kcall cal ix_X11_moodThen [.ref 7, .ref b2, .int (a2 - a2 / 10 * 10), .int q5, .int (S.1 8 0)] (st S hs) [.int 1000] 0 0 (0, 0) (fun v σ' c' m' => X (149, [some (.ref 7), some (.int a1), some (.int a2), some (.ref b2), some (.int (a2 - a2 / 10 * 10))], v.toList ++ [.int 1000], σ', c', m'))
                obtain ⟨q6, hq6, hr⟩ := bd_some hr
                refine kcall0 rfl (hk _ _ _ _ _ _ (e_X11_moodThen (d + 2) S hs b2 zb2 hb2 fb2 (a2 - a2 / 10 * 10) q5 (S.1 8 0) q6 hq6 _ ?_))
                show X (149, [some (.ref 7), some (.int a1), some (.int a2), some (.ref b2), some (.int (a2 - a2 / 10 * 10))], [.int q6.1, .int 1000], st q6.2 hs, 0, 0)
                refine hX _ ?_
                clear hP hX hk P' X cal
                have hr := Option.some.inj hr
                subst hr
                refine Wp.stepsG 2 (fun cal X P' hk hX hP => ?_)
                exact hP _ _ h
          · clear hP hX hk P' X cal
            rw [if_pos hc] at hr
            have hr := Option.some.inj hr
            subst hr
            refine Wp.stepsG 2 (fun cal X P' hk hX hP => ?_)
            exact hP _ _ h
      · clear hP hX hk P' X cal
        rw [if_pos hc] at hr
        refine Wp.stepsG 2 (fun cal X P' hk hX hP => ?_)
        refine kObj_at (hb2 _) (kB_at (fam3 fb2) ?_)
        show X (30, [some (.ref 7), some (.int a1), some (.int a2), some (.ref b2), none], [.int zb2.2.2.2], st S hs, 0, 0)
        refine hX _ ?_
        clear hP hX hk P' X cal
        have hr := Option.some.inj hr
        subst hr
        refine Wp.stepsG 1 (fun cal X P' hk hX hP => ?_)
        exact hP _ _ h
    · clear hP hX hk P' X cal
      rw [if_pos hc] at hr
      refine Wp.stepsG 2 (fun cal X P' hk hX hP => ?_)
      refine kObj_at (hb2 _) (kB_at (fam3 fb2) ?_)
      show X (20, [some (.ref 7), some (.int a1), some (.int a2), some (.ref b2), none], [.int zb2.2.1], st S hs, 0, 0)
      refine hX _ ?_
      clear hP hX hk P' X cal
      have hr := Option.some.inj hr
      subst hr
      refine Wp.stepsG 1 (fun cal X P' hk hX hP => ?_)
      exact hP _ _ h
def r_X11_had (S : St) (hs : List Hr) (a1 : Int32) (a2 : Int32) (a3 : Int32) : Option (Int32 × St) :=
  (r_X11_hearerAt S a1).bind fun q1 =>
  oH hs (q1) (
    some ((-1), S)) (fun zb2 =>
    if (r_X11_isStory S a2) = 0 then
      some ((-1), S)
    else
      if (r_X11_within a3 0 99) = 0 then
        some ((-2), S)
      else
        (r_X11_timesOf S a1 a2).bind fun q3 =>
        (r_X11_setHad S a1 a2 a3).bind fun q4 =>
        some (q3, q4.2))
set_option maxRecDepth 20000 in
set_option maxHeartbeats 4000000 in
theorem e_X11_had (d : Nat) (S : St) (hs : List Hr) (a1 : Int32) (a2 : Int32) (a3 : Int32) (v : Int32 × St) (hr : r_X11_had S hs a1 a2 a3 = some v) (P : Option Value → Hp → Prop) (h : P (some (.int v.1)) (st v.2 hs)) : Ev (d + 3) ix_X11_had 0 0 [.ref 7, .int a1, .int a2, .int a3] (st S hs) P := by
  refine Ev.intro (M := mi_X11_had) rfl (Nat.le_of_ble_eq_true rfl) ?_
  unfold r_X11_had at hr
  refine Wp.stepsG 3 (fun cal X P' hk hX hP => ?_)
  show kcall cal ix_X11_hearerAt [.ref 7, .int a1] (st S hs) [] 0 0 (0, 0) (fun v σ' c' m' => X (5, [some (.ref 7), some (.int a1), some (.int a2), some (.int a3), none], v.toList ++ [], σ', c', m'))
  obtain ⟨q1, hq1, hr⟩ := bd_some hr
  refine kcall0 rfl (hk _ _ _ _ _ _ (e_X11_hearerAt (d + 0) S hs a1 q1 hq1 _ ?_))
  show X (5, [some (.ref 7), some (.int a1), some (.int a2), some (.int a3), none], [va_rf q1], st S hs, 0, 0)
  refine hX _ ?_
  clear hP hX hk P' X cal
  rcases oH_some hr with ⟨hz, hr⟩ | ⟨b2, zb2, hz, hb2, fb2, hr⟩
  · rw [hz]
    have hr := Option.some.inj hr
    subst hr
    refine Wp.stepsG 3 (fun cal X P' hk hX hP => ?_)
    exact hP _ _ h
  · rw [hz]
    refine Wp.stepsG 4 (fun cal X P' hk hX hP => ?_)
    show kcall cal ix_X11_isStory [.ref 7, .int a2] (st S hs) [] 0 0 (0, 0) (fun v σ' c' m' => X (13, [some (.ref 7), some (.int a1), some (.int a2), some (.int a3), none], v.toList ++ [], σ', c', m'))
    refine kcall0 rfl (hk _ _ _ _ _ _ (e_X11_isStory (d + 0) S hs a2 _ ?_))
    show X (13, [some (.ref 7), some (.int a1), some (.int a2), some (.int a3), none], [.int (r_X11_isStory S a2)], st S hs, 0, 0)
    refine hX _ ?_
    clear hP hX hk P' X cal
    refine Wp.stepsG 1 (fun cal X P' hk hX hP => ?_)
    show (¬ (r_X11_isStory S a2) = 0 → X (18, [some (.ref 7), some (.int a1), some (.int a2), some (.int a3), none], [], st S hs, 0, 0)) ∧ ((r_X11_isStory S a2) = 0 → X (16, [some (.ref 7), some (.int a1), some (.int a2), some (.int a3), none], [], st S hs, 0, 0))
    refine ⟨fun hc => hX _ ?_, fun hc => hX _ ?_⟩
    · clear hP hX hk P' X cal
      rw [if_neg hc] at hr
      refine Wp.stepsG 4 (fun cal X P' hk hX hP => ?_)
      show kcall cal ix_X11_within [.int a3, .int 0, .int 99] (st S hs) [] 0 0 (0, 0) (fun v σ' c' m' => X (25, [some (.ref 7), some (.int a1), some (.int a2), some (.int a3), none], v.toList ++ [], σ', c', m'))
      refine kcall0 rfl (hk _ _ _ _ _ _ (e_X11_within (d + 1) S hs a3 0 99 _ ?_))
      show X (25, [some (.ref 7), some (.int a1), some (.int a2), some (.int a3), none], [.int (r_X11_within a3 0 99)], st S hs, 0, 0)
      refine hX _ ?_
      clear hP hX hk P' X cal
      refine Wp.stepsG 1 (fun cal X P' hk hX hP => ?_)
      show (¬ (r_X11_within a3 0 99) = 0 → X (31, [some (.ref 7), some (.int a1), some (.int a2), some (.int a3), none], [], st S hs, 0, 0)) ∧ ((r_X11_within a3 0 99) = 0 → X (28, [some (.ref 7), some (.int a1), some (.int a2), some (.int a3), none], [], st S hs, 0, 0))
      refine ⟨fun hc => hX _ ?_, fun hc => hX _ ?_⟩
      · clear hP hX hk P' X cal
        rw [if_neg hc] at hr
        refine Wp.stepsG 4 (fun cal X P' hk hX hP => ?_)
        show kcall cal ix_X11_timesOf [.ref 7, .int a1, .int a2] (st S hs) [] 0 0 (0, 0) (fun v σ' c' m' => X (37, [some (.ref 7), some (.int a1), some (.int a2), some (.int a3), none], v.toList ++ [], σ', c', m'))
        obtain ⟨q3, hq3, hr⟩ := bd_some hr
        refine kcall0 rfl (hk _ _ _ _ _ _ (e_X11_timesOf (d + 1) S hs a1 a2 q3 hq3 _ ?_))
        show X (37, [some (.ref 7), some (.int a1), some (.int a2), some (.int a3), none], [.int q3], st S hs, 0, 0)
        refine hX _ ?_
        clear hP hX hk P' X cal
        refine Wp.stepsG 6 (fun cal X P' hk hX hP => ?_)
        show kcall cal ix_X11_setHad [.ref 7, .int a1, .int a2, .int a3] (st S hs) [] 0 0 (0, 0) (fun v σ' c' m' => X (46, [some (.ref 7), some (.int a1), some (.int a2), some (.int a3), some (.int q3)], v.toList ++ [], σ', c', m'))
        obtain ⟨q4, hq4, hr⟩ := bd_some hr
        refine kcall0 rfl (hk _ _ _ _ _ _ (e_X11_setHad (d + 1) S hs a1 a2 a3 q4 hq4 _ ?_))
        show X (46, [some (.ref 7), some (.int a1), some (.int a2), some (.int a3), some (.int q3)], [], st q4.2 hs, 0, 0)
        refine hX _ ?_
        clear hP hX hk P' X cal
        have hr := Option.some.inj hr
        subst hr
        refine Wp.stepsG 2 (fun cal X P' hk hX hP => ?_)
        exact hP _ _ h
      · clear hP hX hk P' X cal
        rw [if_pos hc] at hr
        have hr := Option.some.inj hr
        subst hr
        refine Wp.stepsG 2 (fun cal X P' hk hX hP => ?_)
        exact hP _ _ h
    · clear hP hX hk P' X cal
      rw [if_pos hc] at hr
      have hr := Option.some.inj hr
      subst hr
      refine Wp.stepsG 2 (fun cal X P' hk hX hP => ?_)
      exact hP _ _ h
def r_X11_row (S : St) (hs : List Hr) (a1 : Int32) (a2 : Int32) (a3 : Int32) : Option (Int32 × St) :=
  (r_X11_hearerAt S a1).bind fun q1 =>
  oH hs (q1) (
    some ((-1), S)) (fun zb2 =>
    if (r_X11_within a2 0 3) = 0 then
      some ((-1), S)
    else
      if (r_X11_within a3 1 9) = 0 then
        some ((-2), S)
      else
        if (bif instB 9 zb2.1 then (1 : Int32) else 0) = 0 then
          some ((-3), S)
        else
          gd (¬ (((a1 * 4) + a2) < 0 ∨ 24 ≤ ((a1 * 4) + a2).toNatClampNeg)) (
            gd (¬ (((a1 * 4) + a2) < 0 ∨ 24 ≤ ((a1 * 4) + a2).toNatClampNeg)) (
              some ((S.1 14) ((a1 * 4) + a2).toNatClampNeg, sA S 14 (upd (S.1 14) ((a1 * 4) + a2).toNatClampNeg a3)))))
set_option maxRecDepth 20000 in
set_option maxHeartbeats 4000000 in
theorem e_X11_row (d : Nat) (S : St) (hs : List Hr) (a1 : Int32) (a2 : Int32) (a3 : Int32) (v : Int32 × St) (hr : r_X11_row S hs a1 a2 a3 = some v) (P : Option Value → Hp → Prop) (h : P (some (.int v.1)) (st v.2 hs)) : Ev (d + 3) ix_X11_row 0 0 [.ref 7, .int a1, .int a2, .int a3] (st S hs) P := by
  refine Ev.intro (M := mi_X11_row) rfl (Nat.le_of_ble_eq_true rfl) ?_
  unfold r_X11_row at hr
  refine Wp.stepsG 3 (fun cal X P' hk hX hP => ?_)
  show kcall cal ix_X11_hearerAt [.ref 7, .int a1] (st S hs) [] 0 0 (0, 0) (fun v σ' c' m' => X (5, [some (.ref 7), some (.int a1), some (.int a2), some (.int a3), none, none, none], v.toList ++ [], σ', c', m'))
  obtain ⟨q1, hq1, hr⟩ := bd_some hr
  refine kcall0 rfl (hk _ _ _ _ _ _ (e_X11_hearerAt (d + 0) S hs a1 q1 hq1 _ ?_))
  show X (5, [some (.ref 7), some (.int a1), some (.int a2), some (.int a3), none, none, none], [va_rf q1], st S hs, 0, 0)
  refine hX _ ?_
  clear hP hX hk P' X cal
  rcases oH_some hr with ⟨hz, hr⟩ | ⟨b2, zb2, hz, hb2, fb2, hr⟩
  · rw [hz]
    have hr := Option.some.inj hr
    subst hr
    refine Wp.stepsG 5 (fun cal X P' hk hX hP => ?_)
    exact hP _ _ h
  · rw [hz]
    refine Wp.stepsG 7 (fun cal X P' hk hX hP => ?_)
    show kcall cal ix_X11_within [.int a2, .int 0, .int 3] (st S hs) [] 0 0 (0, 0) (fun v σ' c' m' => X (18, [some (.ref 7), some (.int a1), some (.int a2), some (.int a3), some (.ref b2), none, none], v.toList ++ [], σ', c', m'))
    refine kcall0 rfl (hk _ _ _ _ _ _ (e_X11_within (d + 1) S hs a2 0 3 _ ?_))
    show X (18, [some (.ref 7), some (.int a1), some (.int a2), some (.int a3), some (.ref b2), none, none], [.int (r_X11_within a2 0 3)], st S hs, 0, 0)
    refine hX _ ?_
    clear hP hX hk P' X cal
    refine Wp.stepsG 1 (fun cal X P' hk hX hP => ?_)
    show (¬ (r_X11_within a2 0 3) = 0 → X (23, [some (.ref 7), some (.int a1), some (.int a2), some (.int a3), some (.ref b2), none, none], [], st S hs, 0, 0)) ∧ ((r_X11_within a2 0 3) = 0 → X (21, [some (.ref 7), some (.int a1), some (.int a2), some (.int a3), some (.ref b2), none, none], [], st S hs, 0, 0))
    refine ⟨fun hc => hX _ ?_, fun hc => hX _ ?_⟩
    · clear hP hX hk P' X cal
      rw [if_neg hc] at hr
      refine Wp.stepsG 4 (fun cal X P' hk hX hP => ?_)
      show kcall cal ix_X11_within [.int a3, .int 1, .int 9] (st S hs) [] 0 0 (0, 0) (fun v σ' c' m' => X (30, [some (.ref 7), some (.int a1), some (.int a2), some (.int a3), some (.ref b2), none, none], v.toList ++ [], σ', c', m'))
      refine kcall0 rfl (hk _ _ _ _ _ _ (e_X11_within (d + 1) S hs a3 1 9 _ ?_))
      show X (30, [some (.ref 7), some (.int a1), some (.int a2), some (.int a3), some (.ref b2), none, none], [.int (r_X11_within a3 1 9)], st S hs, 0, 0)
      refine hX _ ?_
      clear hP hX hk P' X cal
      refine Wp.stepsG 1 (fun cal X P' hk hX hP => ?_)
      show (¬ (r_X11_within a3 1 9) = 0 → X (36, [some (.ref 7), some (.int a1), some (.int a2), some (.int a3), some (.ref b2), none, none], [], st S hs, 0, 0)) ∧ ((r_X11_within a3 1 9) = 0 → X (33, [some (.ref 7), some (.int a1), some (.int a2), some (.int a3), some (.ref b2), none, none], [], st S hs, 0, 0))
      refine ⟨fun hc => hX _ ?_, fun hc => hX _ ?_⟩
      · clear hP hX hk P' X cal
        rw [if_neg hc] at hr
        refine Wp.stepsG 2 (fun cal X P' hk hX hP => ?_)
        refine kObj_at (hb2 _) (kB_at fb2 ?_)
        show X (41, [some (.ref 7), some (.int a1), some (.int a2), some (.int a3), some (.ref b2), none, none], [.int (bif instB 9 zb2.1 then (1 : Int32) else 0)], st S hs, 0, 0)
        refine hX _ ?_
        clear hP hX hk P' X cal
        refine Wp.stepsG 1 (fun cal X P' hk hX hP => ?_)
        show (¬ (bif instB 9 zb2.1 then (1 : Int32) else 0) = 0 → X (47, [some (.ref 7), some (.int a1), some (.int a2), some (.int a3), some (.ref b2), none, none], [], st S hs, 0, 0)) ∧ ((bif instB 9 zb2.1 then (1 : Int32) else 0) = 0 → X (44, [some (.ref 7), some (.int a1), some (.int a2), some (.int a3), some (.ref b2), none, none], [], st S hs, 0, 0))
        refine ⟨fun hc => hX _ ?_, fun hc => hX _ ?_⟩
        · clear hP hX hk P' X cal
          rw [if_neg hc] at hr
          refine Wp.stepsG 11 (fun cal X P' hk hX hP => ?_)
          show vp_in ((a1 * 4) + a2) 24 ∧ X (64, [some (.ref 7), some (.int a1), some (.int a2), some (.int a3), some (.ref b2), some (.int ((a1 * 4) + a2)), none], [.int ((S.1 14) ((a1 * 4) + a2).toNatClampNeg)], st S hs, 0, 0)
          obtain ⟨hg, hr⟩ := gd_some hr
          refine ⟨hg, hX _ ?_⟩
          clear hP hX hk P' X cal
          refine Wp.stepsG 7 (fun cal X P' hk hX hP => ?_)
          show vp_in ((a1 * 4) + a2) 24 ∧ X (77, [some (.ref 7), some (.int a1), some (.int a2), some (.int a3), some (.ref b2), some (.int ((a1 * 4) + a2)), some (.int ((S.1 14) ((a1 * 4) + a2).toNatClampNeg))], [], st (sA S 14 (upd (S.1 14) ((a1 * 4) + a2).toNatClampNeg a3)) hs, 0, 0)
          obtain ⟨hg, hr⟩ := gd_some hr
          refine ⟨hg, hX _ ?_⟩
          clear hP hX hk P' X cal
          have hr := Option.some.inj hr
          subst hr
          refine Wp.stepsG 2 (fun cal X P' hk hX hP => ?_)
          exact hP _ _ h
        · clear hP hX hk P' X cal
          rw [if_pos hc] at hr
          have hr := Option.some.inj hr
          subst hr
          refine Wp.stepsG 2 (fun cal X P' hk hX hP => ?_)
          exact hP _ _ h
      · clear hP hX hk P' X cal
        rw [if_pos hc] at hr
        have hr := Option.some.inj hr
        subst hr
        refine Wp.stepsG 2 (fun cal X P' hk hX hP => ?_)
        exact hP _ _ h
    · clear hP hX hk P' X cal
      rw [if_pos hc] at hr
      have hr := Option.some.inj hr
      subst hr
      refine Wp.stepsG 2 (fun cal X P' hk hX hP => ?_)
      exact hP _ _ h
